/-- how far a property holds from k on, for at most f steps -/
def fNa (p : Nat → Bool) : Nat → Nat → Nat
  | k, 0 => k
  | k, f + 1 => if p k = true then fNa p (k + 1) f else k
theorem fNa_spec (p : Nat → Bool) : ∀ f k, k ≤ fNa p k f ∧ fNa p k f ≤ k + f ∧ (∀ j, k ≤ j → j < fNa p k f → p j = true) ∧ (fNa p k f = k + f ∨ p (fNa p k f) = false) := by
  intro f
  induction f with
  | zero => intro k; exact ⟨Nat.le_refl _, Nat.le_refl _, fun j h1 h2 => absurd h2 (by unfold fNa; omega), Or.inl rfl⟩
  | succ f ih =>
    intro k
    unfold fNa
    by_cases h : p k = true
    · rw [if_pos h]
      obtain ⟨a, b, c, d⟩ := ih (k + 1)
      refine ⟨by omega, by omega, fun j h1 h2 => ?_, ?_⟩
      · by_cases hj : j = k
        · rw [hj]; exact h
        · exact c j (by omega) h2
      · rcases d with d | d
        · exact Or.inl (by omega)
        · exact Or.inr d
    · rw [if_neg h]
      exact ⟨Nat.le_refl _, by omega, fun j h1 h2 => absurd h1 (by omega), Or.inr (by simpa using h)⟩
def fN (p : Nat → Bool) (n : Nat) : Nat := fNa p 0 n
theorem fN_le (p : Nat → Bool) (n : Nat) : fN p n ≤ n := by have := (fNa_spec p n 0).2.1; unfold fN; omega
theorem fN_all {p : Nat → Bool} {n j : Nat} (h : j < fN p n) : p j = true := (fNa_spec p n 0).2.2.1 j (Nat.zero_le _) h
theorem fN_end {p : Nat → Bool} {n : Nat} (h : fN p n < n) : p (fN p n) = false := by
  rcases (fNa_spec p n 0).2.2.2 with d | d
  · unfold fN at h; omega
  · exact d
theorem fN_eq {p : Nat → Bool} {n k : Nat} (h1 : k ≤ n) (h2 : ∀ j, j < k → p j = true) (h3 : k = n ∨ p k = false) : fN p n = k := by
  rcases Nat.lt_trichotomy (fN p n) k with h | h | h
  · have := fN_end (p := p) (n := n) (by omega)
    rw [h2 _ h] at this
    cases this
  · exact h
  · rcases h3 with h3 | h3
    · have := fN_le p n; omega
    · have := fN_all h
      rw [h3] at this
      cases this
theorem fN_ge {p : Nat → Bool} {n k : Nat} (h1 : k ≤ n) (h2 : ∀ j, j < k → p j = true) : k ≤ fN p n := by
  rcases Nat.lt_or_ge (fN p n) k with h | h
  · have := fN_end (p := p) (n := n) (by omega)
    rw [h2 _ h] at this
    cases this
  · exact h
theorem fN_congr {p q : Nat → Bool} {n : Nat} (h : ∀ j, j < n → p j = q j) : fN p n = fN q n := by
  refine fN_eq (fN_le q n) (fun j hj => ?_) ?_
  · rw [h j (Nat.lt_of_lt_of_le hj (fN_le q n))]; exact fN_all hj
  · rcases Nat.lt_or_ge (fN q n) n with g | g
    · exact Or.inr (by rw [h _ g]; exact fN_end g)
    · exact Or.inl (Nat.le_antisymm (fN_le q n) g)
/-- how many bytes two names have alike at their beginnings -/
def lcp (a b : List Nat) : Nat := fN (fun i => a.getD i 0 == b.getD i 0) (min a.length b.length)
theorem lcp_le1 (a b : List Nat) : lcp a b ≤ a.length := Nat.le_trans (fN_le _ _) (Nat.min_le_left _ _)
theorem lcp_le2 (a b : List Nat) : lcp a b ≤ b.length := Nat.le_trans (fN_le _ _) (Nat.min_le_right _ _)
theorem lcp_comm (a b : List Nat) : lcp a b = lcp b a := by
  unfold lcp
  rw [Nat.min_comm]
  exact fN_congr fun j _ => by rw [Bool.eq_iff_iff, beq_iff_eq, beq_iff_eq]; exact ⟨Eq.symm, Eq.symm⟩
theorem lcp_all {a b : List Nat} {j : Nat} (h : j < lcp a b) : a.getD j 0 = b.getD j 0 := by
  have := fN_all h
  simpa using this
theorem lcp_end {a b : List Nat} (h1 : lcp a b < a.length) (h2 : lcp a b < b.length) : a.getD (lcp a b) 0 ≠ b.getD (lcp a b) 0 := by
  have : (fun i => a.getD i 0 == b.getD i 0) (lcp a b) = false := fN_end (Nat.lt_min.mpr ⟨h1, h2⟩)
  simpa using this
theorem lcp_eq {a b : List Nat} {k : Nat} (h1 : k ≤ a.length) (h2 : k ≤ b.length) (h : ∀ j, j < k → a.getD j 0 = b.getD j 0) (h3 : k = a.length ∨ k = b.length ∨ a.getD k 0 ≠ b.getD k 0) : lcp a b = k := by
  refine fN_eq (Nat.le_min.mpr ⟨h1, h2⟩) (fun j hj => by simpa using h j hj) ?_
  rcases h3 with h3 | h3 | h3
  · exact Or.inl (by omega)
  · exact Or.inl (by omega)
  · exact Or.inr (by simpa using h3)
theorem lcp_ge {a b : List Nat} {k : Nat} (h1 : k ≤ a.length) (h2 : k ≤ b.length) (h : ∀ j, j < k → a.getD j 0 = b.getD j 0) : k ≤ lcp a b := fN_ge (Nat.le_min.mpr ⟨h1, h2⟩) (fun j hj => by simpa using h j hj)
theorem list_ext0 {a b : List Nat} (h1 : a.length = b.length) (h : ∀ j, j < a.length → a.getD j 0 = b.getD j 0) : a = b := by
  apply List.ext_getElem h1
  intro j hj hj2
  have := h j hj
  rwa [List.getD_eq_getElem?_getD, List.getD_eq_getElem?_getD, List.getElem?_eq_getElem hj, List.getElem?_eq_getElem hj2] at this
theorem lcp_self (a : List Nat) : lcp a a = a.length := lcp_eq (Nat.le_refl _) (Nat.le_refl _) (fun _ _ => rfl) (Or.inl rfl)
theorem lcp_full {a b : List Nat} (h1 : lcp a b = a.length) (h2 : lcp a b = b.length) : a = b := list_ext0 (h1.symm.trans h2) (fun j hj => lcp_all (by omega))
/-- the names' order: a comes ahead of b -/
def less (a b : List Nat) : Bool := if lcp a b < b.length then (if lcp a b < a.length then decide (a.getD (lcp a b) 0 < b.getD (lcp a b) 0) else true) else false
theorem less_irrefl (a : List Nat) : less a a = false := by unfold less; rw [lcp_self]; simp
/-- what a comparison of two names finds: below 0, 0, above 0 -/
theorem less_tri (a b : List Nat) : a = b ∨ less a b = true ∨ less b a = true := by
  by_cases h1 : lcp a b < a.length <;> by_cases h2 : lcp a b < b.length
  · have := lcp_end h1 h2
    unfold less
    rw [lcp_comm b a]
    simp only [h1, h2, if_true, decide_eq_true_eq]
    omega
  · right; right
    unfold less
    rw [lcp_comm b a]
    simp [h1, h2]
  · right; left
    unfold less
    simp [h1, h2]
  · left
    have := lcp_le1 a b
    have := lcp_le2 a b
    exact lcp_full (by omega) (by omega)
theorem less_asymm {a b : List Nat} (h : less a b = true) : less b a = false := by
  unfold less at h ⊢
  rw [lcp_comm b a]
  have := lcp_le1 a b
  have := lcp_le2 a b
  by_cases h1 : lcp a b < a.length <;> by_cases h2 : lcp a b < b.length <;> simp only [h1, h2, if_true, if_false, decide_eq_true_eq, Bool.false_eq_true] at h ⊢
  simp only [decide_eq_false_iff_not]
  omega
theorem less_lt {a b : List Nat} {k : Nat} (e : lcp a b = k) (h1 : k < b.length) (h2 : k < a.length) (h3 : a.getD k 0 < b.getD k 0) : less a b = true := by
  subst e
  unfold less
  rw [if_pos h1, if_pos h2]
  exact decide_eq_true h3
theorem less_pre {a b : List Nat} {k : Nat} (e : lcp a b = k) (h1 : k < b.length) (h2 : ¬ k < a.length) : less a b = true := by
  subst e
  unfold less
  rw [if_pos h1, if_neg h2]
theorem less_trans {a b c : List Nat} (h1 : less a b = true) (h2 : less b c = true) : less a c = true := by
  have a1 := lcp_le1 a b
  have a2 := lcp_le2 a b
  have b1 := lcp_le1 b c
  have b2 := lcp_le2 b c
  have key : ∀ k, k = min (lcp a b) (lcp b c) → ∀ j, j < k → a.getD j 0 = c.getD j 0 := fun k hk j hj => (lcp_all (a := a) (b := b) (by omega)).trans (lcp_all (a := b) (b := c) (by omega))
  have e1 : lcp a b < b.length := by
    unfold less at h1
    by_cases h : lcp a b < b.length
    · exact h
    · simp [h] at h1
  have e2 : lcp b c < c.length := by
    unfold less at h2
    by_cases h : lcp b c < c.length
    · exact h
    · simp [h] at h2
  have f1 : lcp a b < a.length → a.getD (lcp a b) 0 < b.getD (lcp a b) 0 := by
    intro h
    unfold less at h1
    simpa [h, e1] using h1
  have f2 : lcp b c < b.length → b.getD (lcp b c) 0 < c.getD (lcp b c) 0 := by
    intro h
    unfold less at h2
    simpa [h, e2] using h2
  rcases Nat.lt_trichotomy (lcp a b) (lcp b c) with h | h | h
  · have hb : b.getD (lcp a b) 0 = c.getD (lcp a b) 0 := lcp_all h
    have e : lcp a c = lcp a b := by
      refine lcp_eq a1 (by omega) (key _ (by omega)) ?_
      by_cases g : lcp a b < a.length
      · have := f1 g
        right; right; omega
      · left; omega
    by_cases g : lcp a b < a.length
    · have := f1 g
      exact less_lt e (by omega) g (by omega)
    · exact less_pre e (by omega) g
  · by_cases g : lcp a b < a.length
    · have q1 := f1 g
      have q2 := f2 (by omega)
      rw [← h] at q2
      have e : lcp a c = lcp a b := lcp_eq a1 (by omega) (key _ (by omega)) (by right; right; omega)
      exact less_lt e (by omega) g (by omega)
    · have e : lcp a c = lcp a b := lcp_eq a1 (by omega) (key _ (by omega)) (by left; omega)
      exact less_pre e (by omega) g
  · have q2 := f2 (by omega)
    have hb : a.getD (lcp b c) 0 = b.getD (lcp b c) 0 := lcp_all h
    have e : lcp a c = lcp b c := lcp_eq (by omega) b2 (key _ (by omega)) (by right; right; omega)
    exact less_lt e e2 (by omega) (by omega)
/-- the order as the reference tells it: of name cur against bs -/
def ordV (cur bs : List Nat) : Int32 := if lcp cur bs < cur.length ∧ lcp cur bs < bs.length then nI (cur.getD (lcp cur bs) 0) - nI (bs.getD (lcp cur bs) 0) else nI cur.length - nI bs.length
def okN (bs : List Nat) : Prop := 1 ≤ bs.length ∧ bs.length ≤ 24 ∧ ∀ i, i < bs.length → 1 ≤ bs.getD i 0 ∧ bs.getD i 0 ≤ 255
theorem sub_toInt {a b : Nat} (ha : a < 1000) (hb : b < 1000) : (nI a - nI b).toInt = (a : Int) - b := pk_sub_toInt (by omega) (by omega)
theorem ordV_toInt {cur bs : List Nat} (h1 : okN cur) (h2 : okN bs) : (ordV cur bs).toInt = if lcp cur bs < cur.length ∧ lcp cur bs < bs.length then (cur.getD (lcp cur bs) 0 : Int) - bs.getD (lcp cur bs) 0 else (cur.length : Int) - bs.length := by
  unfold ordV
  split
  · rename_i h
    have := h1.2.2 _ h.1
    have := h2.2.2 _ h.2
    exact sub_toInt (by omega) (by omega)
  · have := h1.2.1
    have := h2.2.1
    exact sub_toInt (by omega) (by omega)
theorem ordV_pos {cur bs : List Nat} (h1 : okN cur) (h2 : okN bs) : 0 < ordV cur bs ↔ less bs cur = true := by
  rw [Int32.lt_iff_toInt_lt, ordV_toInt h1 h2, Int32.toInt_zero]
  have a1 := lcp_le1 cur bs
  have a2 := lcp_le2 cur bs
  unfold less
  rw [lcp_comm bs cur]
  by_cases g1 : lcp cur bs < cur.length <;> by_cases g2 : lcp cur bs < bs.length <;> simp [g1, g2] <;> omega
theorem ordV_zero {cur bs : List Nat} (h1 : okN cur) (h2 : okN bs) : ordV cur bs = 0 ↔ bs = cur := by
  rw [← Int32.toInt_inj, ordV_toInt h1 h2, Int32.toInt_zero]
  have a1 := lcp_le1 cur bs
  have a2 := lcp_le2 cur bs
  constructor
  · intro h
    by_cases g : lcp cur bs < cur.length ∧ lcp cur bs < bs.length
    · rw [if_pos g] at h
      have := lcp_end g.1 g.2
      omega
    · rw [if_neg g] at h
      exact (lcp_full (by omega) (by omega)).symm
  · rintro rfl
    rw [lcp_self]
    simp
