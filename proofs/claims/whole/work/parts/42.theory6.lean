theorem ahead_all {l : List Ent} {cur : List Nat} {k : Nat} (h : k < aheadN l cur) : less (nm l k) cur = true := fN_all (p := fun k => less (nm l k) cur) h
theorem ahead_end {l : List Ent} {cur : List Nat} (h : aheadN l cur < l.length) : less (nm l (aheadN l cur)) cur = false := fN_end (p := fun k => less (nm l k) cur) h
theorem ahead_le (l : List Ent) (cur : List Nat) : aheadN l cur ≤ l.length := fN_le _ _
theorem has_of {l : List Ent} {cur : List Nat} {j : Nat} (hs : sortedL l) (hj : j < l.length) (e : nm l j = cur) : aheadN l cur = j ∧ hasN l cur = true := by
  have h : aheadN l cur = j := by
    unfold aheadN
    refine fN_eq (by omega) (fun q hq => ?_) (Or.inr ?_)
    · rw [← e]; exact hs q j hq hj
    · rw [e]; exact less_irrefl _
  refine ⟨h, ?_⟩
  unfold hasN isAtN
  rw [h, Bool.and_eq_true]
  exact ⟨decide_eq_true hj, decide_eq_true e⟩
theorem has_iff {l : List Ent} {cur : List Nat} (hs : sortedL l) : hasN l cur = true ↔ ∃ j, j < l.length ∧ nm l j = cur := by
  constructor
  · intro h
    unfold hasN isAtN at h
    rw [Bool.and_eq_true] at h
    exact ⟨_, of_decide_eq_true h.1, of_decide_eq_true h.2⟩
  · rintro ⟨j, h1, h2⟩; exact (has_of hs h1 h2).2
theorem has_no {l : List Ent} {cur : List Nat} (h : hasN l cur = false) (h2 : aheadN l cur < l.length) : less cur (nm l (aheadN l cur)) = true := by
  rcases less_tri (nm l (aheadN l cur)) cur with e | e | e
  · unfold hasN isAtN at h
    rw [decide_eq_true h2, decide_eq_true e] at h; cases h
  · rw [ahead_end h2] at e; cases e
  · exact e
theorem nm_ins {l : List Ent} {k : Nat} {e : Ent} (hk : k ≤ l.length) (q : Nat) : nm (insL l k e) q = if q < k then nm l q else if q = k then e.1 else nm l (q - 1) := by
  rw [show nm (insL l k e) q = (ent (insL l k e) q).1 from rfl, ent_ins hk]
  split
  · rfl
  · split <;> rfl
theorem ok_ins {l : List Ent} {cur : List Nat} {v : Int64} (hl : okL l) (h1 : l.length < 100) (hc : okN cur) (hn : hasN l cur = false) : okL (insL l (aheadN l cur) (cur, v)) := by
  have hle := ahead_le l cur
  have hs := hl.2.2
  refine ⟨by rw [insL_len]; omega, fun k hk => ?_, fun i j hij hj => ?_⟩
  · rw [insL_len] at hk
    rw [nm_ins hle]
    split
    · exact hl.2.1 k (by omega)
    · split
      · exact hc
      · exact hl.2.1 (k - 1) (by omega)
  · rw [insL_len] at hj
    rw [nm_ins hle, nm_ins hle]
    by_cases a1 : i < aheadN l cur
    · rw [if_pos a1]
      by_cases a2 : j < aheadN l cur
      · rw [if_pos a2]; exact hs i j hij (by omega)
      · rw [if_neg a2]
        by_cases a3 : j = aheadN l cur
        · rw [if_pos a3]; exact ahead_all a1
        · rw [if_neg a3]; exact hs i (j - 1) (by omega) (by omega)
    · rw [if_neg a1, if_neg (show ¬ j < aheadN l cur by omega), if_neg (show ¬ j = aheadN l cur by omega)]
      by_cases a3 : i = aheadN l cur
      · rw [if_pos a3]
        have h3 := has_no hn (by omega)
        by_cases a4 : j - 1 = aheadN l cur
        · rw [a4]; exact h3
        · exact less_trans h3 (hs _ _ (by omega) (by omega))
      · rw [if_neg a3]; exact hs _ _ (by omega) (by omega)
/-- the names of a that go, put in order; then those of b -/
def mgA (la lb : List Ent) (w : Nat) : Nat → List Ent
  | 0 => []
  | k + 1 => if goN la lb k w then insL (mgA la lb w k) (aheadN (mgA la lb w k) (nm la k)) (ent la k) else mgA la lb w k
def mgB (la lb : List Ent) (w : Nat) : Nat → List Ent
  | 0 => mgA la lb w la.length
  | k + 1 => if w = 0 ∧ hasN la (nm lb k) = false then insL (mgB la lb w k) (aheadN (mgB la lb w k) (nm lb k)) (ent lb k) else mgB la lb w k
def mergeL (la lb : List Ent) (w : Nat) : List Ent := mgB la lb w lb.length
theorem mgA_len (la lb : List Ent) (w k : Nat) : (mgA la lb w (k + 1)).length = (mgA la lb w k).length + (if goN la lb k w then 1 else 0) := by
  show (if _ then _ else _ : List Ent).length = _
  split
  · exact insL_len _ _ _
  · rfl
theorem mgB_len (la lb : List Ent) (w k : Nat) : (mgB la lb w (k + 1)).length = (mgB la lb w k).length + (if w = 0 ∧ hasN la (nm lb k) = false then 1 else 0) := by
  show (if _ then _ else _ : List Ent).length = _
  split
  · exact insL_len _ _ _
  · rfl
theorem mgB_ne {la lb : List Ent} {w : Nat} (h : w ≠ 0) : ∀ k, mgB la lb w k = mgB la lb w 0 := by
  intro k
  induction k with
  | zero => rfl
  | succ k ih =>
    show (if _ then _ else _ : List Ent) = _
    rw [if_neg (fun z => h z.1), ih]
theorem mgA_mono (la lb : List Ent) (w k : Nat) : ∀ d, (mgA la lb w k).length ≤ (mgA la lb w (k + d)).length := by
  intro d
  induction d with
  | zero => exact Nat.le_refl _
  | succ d ih => have := mgA_len la lb w (k + d); rw [show k + (d + 1) = k + d + 1 by omega]; omega
theorem mgB_mono (la lb : List Ent) (w k : Nat) : ∀ d, (mgB la lb w k).length ≤ (mgB la lb w (k + d)).length := by
  intro d
  induction d with
  | zero => exact Nat.le_refl _
  | succ d ih => have := mgB_len la lb w (k + d); rw [show k + (d + 1) = k + d + 1 by omega]; omega
theorem mgA_le {la lb : List Ent} {w k : Nat} (hk : k ≤ la.length) : (mgA la lb w k).length ≤ (mgB la lb w 0).length := by
  have := mgA_mono la lb w k (la.length - k)
  rw [show k + (la.length - k) = la.length by omega] at this
  exact this
theorem mgB_le {la lb : List Ent} {w k : Nat} (hk : k ≤ lb.length) : (mgB la lb w k).length ≤ (mergeL la lb w).length := by
  have := mgB_mono la lb w k (lb.length - k)
  rw [show k + (lb.length - k) = lb.length by omega] at this
  exact this
theorem mgA_all {la lb : List Ent} {w k : Nat} (h1 : k ≤ la.length) : (mgA la lb w k).length ≤ (mergeL la lb w).length := Nat.le_trans (mgA_le h1) (mgB_le (Nat.zero_le _))
theorem nm_ne {l : List Ent} (hs : sortedL l) {i j : Nat} (hij : i < j) (hj : j < l.length) : nm l i ≠ nm l j := fun e => by
  have := hs i j hij hj
  rw [e, less_irrefl] at this; cases this
theorem mgA_ok {la lb : List Ent} (ha : okL la) {w : Nat} : ∀ k, k ≤ la.length → (mgA la lb w k).length ≤ 100 → okL (mgA la lb w k) ∧ ∀ q, q < (mgA la lb w k).length → ∃ j, j < k ∧ nm (mgA la lb w k) q = nm la j := by
  intro k
  induction k with
  | zero => intro _ _; exact ⟨⟨Nat.zero_le _, fun k hk => absurd hk (Nat.not_lt_zero _), fun i j _ hj => absurd hj (Nat.not_lt_zero _)⟩, fun q hq => absurd hq (Nat.not_lt_zero _)⟩
  | succ k ih =>
    intro h1 h2
    have h3 := mgA_len la lb w k
    obtain ⟨i1, i2⟩ := ih (by omega) (by omega)
    by_cases g : goN la lb k w = true
    · rw [if_pos g] at h3
      have e : mgA la lb w (k + 1) = insL (mgA la lb w k) (aheadN (mgA la lb w k) (nm la k)) (ent la k) := by
        show (if _ then _ else _ : List Ent) = _
        rw [if_pos g]
      have hn : hasN (mgA la lb w k) (nm la k) = false := by
        rw [Bool.eq_false_iff]
        intro h
        obtain ⟨q, q1, q2⟩ := (has_iff i1.2.2).mp h
        obtain ⟨j, j1, j2⟩ := i2 q q1
        exact nm_ne ha.2.2 j1 (by omega) (j2.symm.trans q2)
      refine ⟨by rw [e]; exact ok_ins (v := vl la k) i1 (by omega) (ha.2.1 k (by omega)) hn, fun q hq => ?_⟩
      rw [h3] at hq
      rw [e, nm_ins (ahead_le _ _)]
      split
      · obtain ⟨j, j1, j2⟩ := i2 q (by have := ahead_le (mgA la lb w k) (nm la k); omega)
        exact ⟨j, by omega, j2⟩
      · split
        · exact ⟨k, by omega, rfl⟩
        · obtain ⟨j, j1, j2⟩ := i2 (q - 1) (by omega)
          exact ⟨j, by omega, j2⟩
    · have e : mgA la lb w (k + 1) = mgA la lb w k := by
        show (if _ then _ else _ : List Ent) = _
        rw [if_neg g]
      rw [e]
      exact ⟨i1, fun q hq => by obtain ⟨j, j1, j2⟩ := i2 q hq; exact ⟨j, by omega, j2⟩⟩
theorem mgB_ok {la lb : List Ent} (ha : okL la) (hb : okL lb) {w : Nat} : ∀ k, k ≤ lb.length → (mgB la lb w k).length ≤ 100 → okL (mgB la lb w k) ∧ ∀ q, q < (mgB la lb w k).length → (∃ j, j < la.length ∧ nm (mgB la lb w k) q = nm la j) ∨ ∃ j, j < k ∧ nm (mgB la lb w k) q = nm lb j := by
  intro k
  induction k with
  | zero =>
    intro _ h
    obtain ⟨h1, h2⟩ := mgA_ok (lb := lb) ha (w := w) la.length (Nat.le_refl _) h
    exact ⟨h1, fun q hq => Or.inl (h2 q hq)⟩
  | succ k ih =>
    intro h1 h2
    have h3 := mgB_len la lb w k
    obtain ⟨i1, i2⟩ := ih (by omega) (by omega)
    by_cases g : w = 0 ∧ hasN la (nm lb k) = false
    · rw [if_pos g] at h3
      have e : mgB la lb w (k + 1) = insL (mgB la lb w k) (aheadN (mgB la lb w k) (nm lb k)) (ent lb k) := by
        show (if _ then _ else _ : List Ent) = _
        rw [if_pos g]
      have hn : hasN (mgB la lb w k) (nm lb k) = false := by
        rw [Bool.eq_false_iff]
        intro h
        obtain ⟨q, q1, q2⟩ := (has_iff i1.2.2).mp h
        rcases i2 q q1 with ⟨j, j1, j2⟩ | ⟨j, j1, j2⟩
        · have := (has_of ha.2.2 j1 (j2.symm.trans q2)).2
          rw [g.2] at this; cases this
        · exact nm_ne hb.2.2 j1 (by omega) (j2.symm.trans q2)
      refine ⟨by rw [e]; exact ok_ins (v := vl lb k) i1 (by omega) (hb.2.1 k (by omega)) hn, fun q hq => ?_⟩
      rw [h3] at hq
      rw [e, nm_ins (ahead_le _ _)]
      split
      · rcases i2 q (by have := ahead_le (mgB la lb w k) (nm lb k); omega) with h | ⟨j, j1, j2⟩
        · exact Or.inl h
        · exact Or.inr ⟨j, by omega, j2⟩
      · split
        · exact Or.inr ⟨k, by omega, rfl⟩
        · rcases i2 (q - 1) (by omega) with h | ⟨j, j1, j2⟩
          · exact Or.inl h
          · exact Or.inr ⟨j, by omega, j2⟩
    · have e : mgB la lb w (k + 1) = mgB la lb w k := by
        show (if _ then _ else _ : List Ent) = _
        rw [if_neg g]
      rw [e]
      exact ⟨i1, fun q hq => by
        rcases i2 q hq with h | ⟨j, j1, j2⟩
        · exact Or.inl h
        · exact Or.inr ⟨j, by omega, j2⟩⟩
theorem merge_ok {la lb : List Ent} (ha : okL la) (hb : okL lb) {w : Nat} (h : (mergeL la lb w).length ≤ 100) : okL (mergeL la lb w) := (mgB_ok ha hb lb.length (Nat.le_refl _) h).1
theorem mgA_t {la lb : List Ent} {w k : Nat} (h : goN la lb k w = true) : mgA la lb w (k + 1) = insL (mgA la lb w k) (aheadN (mgA la lb w k) (nm la k)) (ent la k) := by show (if _ then _ else _ : List Ent) = _; rw [if_pos h]
theorem mgA_f {la lb : List Ent} {w k : Nat} (h : goN la lb k w = false) : mgA la lb w (k + 1) = mgA la lb w k := by show (if _ then _ else _ : List Ent) = _; rw [h]; rfl
theorem mgB_t {la lb : List Ent} {w k : Nat} (h : w = 0) (h2 : hasN la (nm lb k) = false) : mgB la lb w (k + 1) = insL (mgB la lb w k) (aheadN (mgB la lb w k) (nm lb k)) (ent lb k) := by show (if _ then _ else _ : List Ent) = _; rw [if_pos ⟨h, h2⟩]
theorem mgB_f {la lb : List Ent} {w k : Nat} (h2 : hasN la (nm lb k) = true) : mgB la lb w (k + 1) = mgB la lb w k := by show (if _ then _ else _ : List Ent) = _; rw [if_neg (fun z => by rw [h2] at z; exact absurd z.2 (by decide))]
/-- the names of thing t change, and the scratch name -/
def NF (t : Nat) (M M' : MoT) : Prop := ∃ (fn : Nat → Int32) (v : Int32), LF t (m_length_ (m_name_ M fn) v) M'
theorem NF.lf {t : Nat} {M M' : MoT} (h : LF t M M') : NF t M M' := ⟨m_name M, m_length M, h⟩
theorem NF.nm {t : Nat} {M : MoT} {fn : Nat → Int32} {v : Int32} : NF t M (m_length_ (m_name_ M fn) v) := ⟨fn, v, LF.refl t _⟩
theorem NF.trans {t : Nat} {M M1 M2 : MoT} (h1 : NF t M M1) (h2 : NF t M1 M2) : NF t M M2 := by
  obtain ⟨fn, v, f1, f2, f3, f4, rfl, b1, c1⟩ := h1
  obtain ⟨fn', v', g1, g2, g3, g4, rfl, b2, c2⟩ := h2
  exact ⟨fn', v', g1, g2, g3, g4, rfl, fun p e hp h => b2 p e hp (b1 p e hp h), fun q hq => (c2 q hq).trans (c1 q hq)⟩
theorem NF.mo_r {t : Nat} {M M' : MoT} (h : NF t M M') : mo_r M' = mo_r M := by obtain ⟨fn, v, h⟩ := h; exact h.mo_r
theorem NF.names {t q : Nat} {M M' : MoT} {l : List Ent} (h : NF t M M') (hq : q ≠ t) (hn : namesM M q l) : namesM M' q l := by obtain ⟨fn, v, h⟩ := h; exact h.names hq hn
theorem NF.mk {t w : Nat} {M M' : MoT} (h : NF t (mkM M t w) M') : ∃ (fn : Nat → Int32) (v : Int32), LF t (mkM (m_length_ (m_name_ M fn) v) t w) M' := h
theorem NF.tape {t : Nat} {M M' : MoT} (h : NF t M M') : m_tape M' = m_tape M ∧ m_place M' = m_place M := by obtain ⟨fn, v, _, _, _, _, rfl, -, -⟩ := h; exact ⟨rfl, rfl⟩
