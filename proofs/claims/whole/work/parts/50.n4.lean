theorem mem_ent {l : List Ent} {e : Ent} : e ∈ l ↔ ∃ k, k < l.length ∧ e = ent l k := by
  constructor
  · intro h
    obtain ⟨i, hi, rfl⟩ := List.getElem_of_mem h
    exact ⟨i, hi, by unfold ent; rw [List.getD_eq_getElem?_getD, List.getElem?_eq_getElem hi]; rfl⟩
  · rintro ⟨k, hk, rfl⟩
    unfold ent
    rw [List.getD_eq_getElem?_getD, List.getElem?_eq_getElem hk]
    exact List.getElem_mem hk
theorem sorted_cons {e : Ent} {t : List Ent} (h : sortedL (e :: t)) : (∀ x ∈ t, less e.1 x.1 = true) ∧ sortedL t := by
  refine ⟨fun x hx => ?_, fun i j hij hj => h (i + 1) (j + 1) (by omega) (by rw [List.length_cons]; omega)⟩
  obtain ⟨k, hk, rfl⟩ := mem_ent.mp hx
  exact h 0 (k + 1) (by omega) (by rw [List.length_cons]; omega)
theorem sorted_ext : ∀ {l1 l2 : List Ent}, sortedL l1 → sortedL l2 → (∀ e, e ∈ l1 ↔ e ∈ l2) → l1 = l2 := by
  intro l1
  induction l1 with
  | nil =>
    intro l2 _ _ h
    cases l2 with
    | nil => rfl
    | cons e t => exact absurd ((h e).mpr List.mem_cons_self) List.not_mem_nil
  | cons e t ih =>
    intro l2 h1 h2 h
    cases l2 with
    | nil => exact absurd ((h e).mp List.mem_cons_self) List.not_mem_nil
    | cons e2 t2 =>
      obtain ⟨a1, a2⟩ := sorted_cons h1
      obtain ⟨b1, b2⟩ := sorted_cons h2
      have he : e = e2 := by
        rcases List.mem_cons.mp ((h e).mp List.mem_cons_self) with g | g
        · exact g
        · rcases List.mem_cons.mp ((h e2).mpr List.mem_cons_self) with g2 | g2
          · exact g2.symm
          · have := less_asymm (a1 e2 g2)
            rw [b1 e g] at this; cases this
      subst he
      refine congrArg (e :: ·) (ih a2 b2 (fun x => ?_))
      constructor
      · intro hx
        rcases List.mem_cons.mp ((h x).mp (List.mem_cons_of_mem _ hx)) with g | g
        · have := a1 x hx; rw [g, less_irrefl] at this; cases this
        · exact g
      · intro hx
        rcases List.mem_cons.mp ((h x).mpr (List.mem_cons_of_mem _ hx)) with g | g
        · have := b1 x hx; rw [g, less_irrefl] at this; cases this
        · exact g
theorem mem_ins {l : List Ent} {k : Nat} {e x : Ent} : x ∈ insL l k e ↔ x = e ∨ x ∈ l := by
  unfold insL
  rw [List.mem_append, List.mem_cons]
  conv => rhs; rw [← List.take_append_drop k l, List.mem_append]
  constructor
  · rintro (h | h | h)
    · exact Or.inr (Or.inl h)
    · exact Or.inl h
    · exact Or.inr (Or.inr h)
  · rintro (h | h | h)
    · exact Or.inr (Or.inl h)
    · exact Or.inl h
    · exact Or.inr (Or.inr h)
theorem mem_mgA {la lb : List Ent} {w : Nat} {e : Ent} : ∀ k, e ∈ mgA la lb w k ↔ ∃ j, j < k ∧ goN la lb j w = true ∧ e = ent la j := by
  intro k
  induction k with
  | zero => exact ⟨fun h => absurd h List.not_mem_nil, fun ⟨j, hj, _⟩ => absurd hj (Nat.not_lt_zero _)⟩
  | succ k ih =>
    by_cases g : goN la lb k w = true
    · rw [mgA_t g, mem_ins, ih]
      constructor
      · rintro (h | ⟨j, h1, h2⟩)
        · exact ⟨k, by omega, g, h⟩
        · exact ⟨j, by omega, h2⟩
      · rintro ⟨j, h1, h2, h3⟩
        by_cases e : j = k
        · rw [e] at h3; exact Or.inl h3
        · exact Or.inr ⟨j, by omega, h2, h3⟩
    · rw [mgA_f (Bool.eq_false_iff.mpr g), ih]
      constructor
      · rintro ⟨j, h1, h2⟩; exact ⟨j, by omega, h2⟩
      · rintro ⟨j, h1, h2, h3⟩
        exact ⟨j, by have : j ≠ k := fun e => g (e ▸ h2)
                     omega, h2, h3⟩
theorem mem_mgB {la lb : List Ent} {w : Nat} {e : Ent} : ∀ k, e ∈ mgB la lb w k ↔ (∃ j, j < la.length ∧ goN la lb j w = true ∧ e = ent la j) ∨ (w = 0 ∧ ∃ j, j < k ∧ hasN la (nm lb j) = false ∧ e = ent lb j) := by
  intro k
  induction k with
  | zero =>
    rw [show mgB la lb w 0 = mgA la lb w la.length from rfl, mem_mgA]
    exact ⟨Or.inl, fun h => h.elim id (fun ⟨_, j, hj, _⟩ => absurd hj (Nat.not_lt_zero _))⟩
  | succ k ih =>
    by_cases g : w = 0 ∧ hasN la (nm lb k) = false
    · rw [mgB_t g.1 g.2, mem_ins, ih]
      constructor
      · rintro (h | h | ⟨h0, j, h1, h2⟩)
        · exact Or.inr ⟨g.1, k, by omega, g.2, h⟩
        · exact Or.inl h
        · exact Or.inr ⟨h0, j, by omega, h2⟩
      · rintro (h | ⟨h0, j, h1, h2, h3⟩)
        · exact Or.inr (Or.inl h)
        · by_cases e : j = k
          · rw [e] at h3; exact Or.inl h3
          · exact Or.inr (Or.inr ⟨h0, j, by omega, h2, h3⟩)
    · have e0 : mgB la lb w (k + 1) = mgB la lb w k := by
        show (if _ then _ else _ : List Ent) = _
        rw [if_neg g]
      rw [e0, ih]
      constructor
      · rintro (h | ⟨h0, j, h1, h2⟩)
        · exact Or.inl h
        · exact Or.inr ⟨h0, j, by omega, h2⟩
      · rintro (h | ⟨h0, j, h1, h2, h3⟩)
        · exact Or.inl h
        · exact Or.inr ⟨h0, j, by have : j ≠ k := fun e => g ⟨h0, e ▸ h2⟩
                                  omega, h2, h3⟩
/-- two pointers: what is merged so far -/
def MI (la lb : List Ent) (w i j : Nat) (pl : List Ent) : Prop := (i ≤ la.length ∧ j ≤ lb.length) ∧ sortedL pl ∧ (∀ e, e ∈ pl ↔ (∃ k, k < i ∧ goN la lb k w = true ∧ e = ent la k) ∨ (w = 0 ∧ ∃ k, k < j ∧ hasN la (nm lb k) = false ∧ e = ent lb k)) ∧ pl.length = (mgA la lb w i).length + ((mgB la lb w j).length - (mgB la lb w 0).length) ∧ (∀ k, k < i → j < lb.length → less (nm la k) (nm lb j) = true) ∧ (∀ k, k < j → i < la.length → less (nm lb k) (nm la i) = true)
theorem MI.zero (la lb : List Ent) (w : Nat) : MI la lb w 0 0 [] := ⟨⟨Nat.zero_le _, Nat.zero_le _⟩, fun i j _ hj => absurd hj (Nat.not_lt_zero _), fun e => ⟨fun h => absurd h List.not_mem_nil, fun h => h.elim (fun ⟨k, hk, _⟩ => absurd hk (Nat.not_lt_zero _)) (fun ⟨_, k, hk, _⟩ => absurd hk (Nat.not_lt_zero _))⟩, by show 0 = 0 + (_ - _); omega, fun k hk => absurd hk (Nat.not_lt_zero _), fun k hk => absurd hk (Nat.not_lt_zero _)⟩
theorem sorted_app {l : List Ent} {e : Ent} (h : sortedL l) (h2 : ∀ x ∈ l, less x.1 e.1 = true) : sortedL (l ++ [e]) := by
  intro i j hij hj
  rw [List.length_append] at hj
  have hj' : j < l.length + 1 := hj
  show less (ent (l ++ [e]) i).1 (ent (l ++ [e]) j).1 = true
  rw [ent_app, ent_app, if_pos (show i < l.length by omega)]
  by_cases g : j < l.length
  · rw [if_pos g]; exact h i j hij g
  · rw [if_neg g, if_pos (by omega)]
    exact h2 _ (mem_ent.mpr ⟨i, by omega, rfl⟩)
theorem sorted_le {l : List Ent} (h : sortedL l) {i j : Nat} (hij : i ≤ j) (hj : j < l.length) : i = j ∨ less (nm l i) (nm l j) = true := by
  by_cases e : i = j
  · exact Or.inl e
  · exact Or.inr (h i j (by omega) hj)
theorem less_ne {a b : List Nat} (h : less a b = true) : a ≠ b := fun e => by rw [e, less_irrefl] at h; cases h
/-- the next of a is not in b -/
theorem MI.lt {la lb : List Ent} {w i j : Nat} {pl : List Ent} (h : MI la lb w i j pl) (sa : sortedL la) (sb : sortedL lb) (hi : i < la.length) (hj : j < lb.length → less (nm la i) (nm lb j) = true) : hasN lb (nm la i) = false ∧ (∀ x ∈ pl, less x.1 (nm la i) = true) := by
  obtain ⟨h1, h2, h3, h4, h5, h6⟩ := h
  constructor
  · rw [Bool.eq_false_iff]
    intro g
    obtain ⟨k, hk, e⟩ := (has_iff sb).mp g
    by_cases q : k < j
    · exact less_ne (h6 k q hi) e
    · rcases sorted_le sb (show j ≤ k by omega) hk with r | r
      · rw [← r] at e; exact less_ne (hj (by omega)) e.symm
      · exact less_ne (less_trans (hj (by omega)) r) e.symm
  · intro x hx
    rcases (h3 x).mp hx with ⟨k, k1, k2, rfl⟩ | ⟨_, k, k1, k2, rfl⟩
    · exact sa k i k1 hi
    · exact h6 k k1 hi
theorem MI.gt {la lb : List Ent} {w i j : Nat} {pl : List Ent} (h : MI la lb w i j pl) (sa : sortedL la) (sb : sortedL lb) (hj : j < lb.length) (hi : i < la.length → less (nm lb j) (nm la i) = true) : hasN la (nm lb j) = false ∧ (∀ x ∈ pl, less x.1 (nm lb j) = true) := by
  obtain ⟨h1, h2, h3, h4, h5, h6⟩ := h
  constructor
  · rw [Bool.eq_false_iff]
    intro g
    obtain ⟨k, hk, e⟩ := (has_iff sa).mp g
    by_cases q : k < i
    · exact less_ne (h5 k q hj) e
    · rcases sorted_le sa (show i ≤ k by omega) hk with r | r
      · rw [← r] at e; exact less_ne (hi (by omega)) e.symm
      · exact less_ne (less_trans (hi (by omega)) r) e.symm
  · intro x hx
    rcases (h3 x).mp hx with ⟨k, k1, k2, rfl⟩ | ⟨_, k, k1, k2, rfl⟩
    · exact h5 k k1 hj
    · exact sb k j k1 hj
theorem mgB_ge (la lb : List Ent) (w k : Nat) : (mgB la lb w 0).length ≤ (mgB la lb w k).length := by have := mgB_mono la lb w 0 k; rwa [Nat.zero_add] at this
theorem MI.stepA {la lb : List Ent} {w i j : Nat} {pl : List Ent} (h : MI la lb w i j pl) (sa : sortedL la) (sb : sortedL lb) (hi : i < la.length) (hj : j < lb.length → less (nm la i) (nm lb j) = true) : MI la lb w (i + 1) j (if goN la lb i w = true then pl ++ [ent la i] else pl) := by
  obtain ⟨g1, g2⟩ := h.lt sa sb hi hj
  obtain ⟨h1, h2, h3, h4, h5, h6⟩ := h
  have k5 : ∀ k, k < i + 1 → j < lb.length → less (nm la k) (nm lb j) = true := fun k hk hj' => by
    by_cases e : k = i
    · rw [e]; exact hj hj'
    · exact h5 k (by omega) hj'
  have k6 : ∀ k, k < j → i + 1 < la.length → less (nm lb k) (nm la (i + 1)) = true := fun k hk hi' => less_trans (h6 k hk hi) (sa i (i + 1) (by omega) hi')
  have h7 := mgA_len la lb w i
  by_cases g : goN la lb i w = true
  · rw [if_pos g] at h7 ⊢
    refine ⟨⟨by omega, h1.2⟩, sorted_app h2 g2, fun e => ?_, by rw [List.length_append, h4, h7]; show _ + 1 = _; omega, k5, k6⟩
    rw [List.mem_append, List.mem_singleton, h3]
    constructor
    · rintro ((⟨k, k1, k2⟩ | ⟨k0, k, k1, k2⟩) | k3)
      · exact Or.inl ⟨k, by omega, k2⟩
      · exact Or.inr ⟨k0, k, k1, k2⟩
      · exact Or.inl ⟨i, by omega, g, k3⟩
    · rintro (⟨k, k1, k2, k3⟩ | k4)
      · by_cases e' : k = i
        · rw [e'] at k3; exact Or.inr k3
        · exact Or.inl (Or.inl ⟨k, by omega, k2, k3⟩)
      · exact Or.inl (Or.inr k4)
  · rw [if_neg g] at h7 ⊢
    refine ⟨⟨by omega, h1.2⟩, h2, fun e => ?_, by omega, k5, k6⟩
    rw [h3]
    constructor
    · rintro (⟨k, k1, k2⟩ | k4)
      · exact Or.inl ⟨k, by omega, k2⟩
      · exact Or.inr k4
    · rintro (⟨k, k1, k2, k3⟩ | k4)
      · exact Or.inl ⟨k, by have : k ≠ i := fun e' => g (e' ▸ k2)
                            omega, k2, k3⟩
      · exact Or.inr k4
theorem MI.stepB {la lb : List Ent} {w i j : Nat} {pl : List Ent} (h : MI la lb w i j pl) (sa : sortedL la) (sb : sortedL lb) (hj : j < lb.length) (hi : i < la.length → less (nm lb j) (nm la i) = true) : MI la lb w i (j + 1) (if w = 0 then pl ++ [ent lb j] else pl) := by
  obtain ⟨g1, g2⟩ := h.gt sa sb hj hi
  obtain ⟨h1, h2, h3, h4, h5, h6⟩ := h
  have k5 : ∀ k, k < i → j + 1 < lb.length → less (nm la k) (nm lb (j + 1)) = true := fun k hk hj' => less_trans (h5 k hk hj) (sb j (j + 1) (by omega) hj')
  have k6 : ∀ k, k < j + 1 → i < la.length → less (nm lb k) (nm la i) = true := fun k hk hi' => by
    by_cases e : k = j
    · rw [e]; exact hi hi'
    · exact h6 k (by omega) hi'
  have h7 := mgB_len la lb w j
  have h8 := mgB_ge la lb w j
  by_cases g : w = 0
  · rw [if_pos ⟨g, g1⟩] at h7
    rw [if_pos g]
    refine ⟨⟨h1.1, by omega⟩, sorted_app h2 g2, fun e => ?_, by rw [List.length_append, h4, h7]; show _ + 1 = _; omega, k5, k6⟩
    rw [List.mem_append, List.mem_singleton, h3]
    constructor
    · rintro ((k4 | ⟨k0, k, k1, k2⟩) | k3)
      · exact Or.inl k4
      · exact Or.inr ⟨k0, k, by omega, k2⟩
      · exact Or.inr ⟨g, j, by omega, g1, k3⟩
    · rintro (k4 | ⟨k0, k, k1, k2, k3⟩)
      · exact Or.inl (Or.inl k4)
      · by_cases e' : k = j
        · rw [e'] at k3; exact Or.inr k3
        · exact Or.inl (Or.inr ⟨k0, k, by omega, k2, k3⟩)
  · rw [if_neg (fun z => g z.1)] at h7
    rw [if_neg g]
    refine ⟨⟨h1.1, by omega⟩, h2, fun e => ?_, by omega, k5, k6⟩
    rw [h3]
    exact ⟨fun k => k.elim Or.inl (fun z => absurd z.1 g), fun k => k.elim Or.inl (fun z => absurd z.1 g)⟩
theorem MI.stepE {la lb : List Ent} {w i j : Nat} {pl : List Ent} (h : MI la lb w i j pl) (sa : sortedL la) (sb : sortedL lb) (hi : i < la.length) (hj : j < lb.length) (he : nm la i = nm lb j) : MI la lb w (i + 1) (j + 1) (if goN la lb i w = true then pl ++ [ent la i] else pl) ∧ (∀ x ∈ pl, less x.1 (nm la i) = true) ∧ hasN lb (nm la i) = true := by
  have hb : hasN lb (nm la i) = true := (has_of sb hj he.symm).2
  have ha : hasN la (nm lb j) = true := (has_of sa hi he).2
  obtain ⟨h1, h2, h3, h4, h5, h6⟩ := h
  have g2 : ∀ x ∈ pl, less x.1 (nm la i) = true := fun x hx => by
    rcases (h3 x).mp hx with ⟨k, k1, k2, rfl⟩ | ⟨_, k, k1, k2, rfl⟩
    · exact sa k i k1 hi
    · exact h6 k k1 hi
  refine ⟨?_, g2, hb⟩
  have k5 : ∀ k, k < i + 1 → j + 1 < lb.length → less (nm la k) (nm lb (j + 1)) = true := fun k hk hj' => by
    have q := sb j (j + 1) (by omega) hj'
    by_cases e : k = i
    · rw [e, he]; exact q
    · exact less_trans (h5 k (by omega) hj) q
  have k6 : ∀ k, k < j + 1 → i + 1 < la.length → less (nm lb k) (nm la (i + 1)) = true := fun k hk hi' => by
    have q := sa i (i + 1) (by omega) hi'
    by_cases e : k = j
    · rw [e, ← he]; exact q
    · exact less_trans (h6 k (by omega) hi) q
  have h7 := mgA_len la lb w i
  have h8 : (mgB la lb w (j + 1)).length = (mgB la lb w j).length := by rw [mgB_f ha]
  have hm : ∀ e, (w = 0 ∧ ∃ k, k < j + 1 ∧ hasN la (nm lb k) = false ∧ e = ent lb k) ↔ (w = 0 ∧ ∃ k, k < j ∧ hasN la (nm lb k) = false ∧ e = ent lb k) := fun e => by
    constructor
    · rintro ⟨k0, k, k1, k2, k3⟩
      exact ⟨k0, k, by have : k ≠ j := fun e' => by rw [e', ha] at k2; cases k2
                       omega, k2, k3⟩
    · rintro ⟨k0, k, k1, k2⟩; exact ⟨k0, k, by omega, k2⟩
  by_cases g : goN la lb i w = true
  · rw [if_pos g] at h7 ⊢
    refine ⟨⟨by omega, by omega⟩, sorted_app h2 g2, fun e => ?_, by rw [List.length_append, h4, h7, h8]; show _ + 1 = _; omega, k5, k6⟩
    rw [List.mem_append, List.mem_singleton, h3, hm]
    constructor
    · rintro ((⟨k, k1, k2⟩ | k4) | k3)
      · exact Or.inl ⟨k, by omega, k2⟩
      · exact Or.inr k4
      · exact Or.inl ⟨i, by omega, g, k3⟩
    · rintro (⟨k, k1, k2, k3⟩ | k4)
      · by_cases e' : k = i
        · rw [e'] at k3; exact Or.inr k3
        · exact Or.inl (Or.inl ⟨k, by omega, k2, k3⟩)
      · exact Or.inl (Or.inr k4)
  · rw [if_neg g] at h7 ⊢
    refine ⟨⟨by omega, by omega⟩, h2, fun e => ?_, by rw [h4, h7, h8]; rfl, k5, k6⟩
    rw [h3, hm]
    constructor
    · rintro (⟨k, k1, k2⟩ | k4)
      · exact Or.inl ⟨k, by omega, k2⟩
      · exact Or.inr k4
    · rintro (⟨k, k1, k2, k3⟩ | k4)
      · exact Or.inl ⟨k, by have : k ≠ i := fun e' => g (e' ▸ k2)
                            omega, k2, k3⟩
      · exact Or.inr k4
theorem MI.done {la lb : List Ent} {w : Nat} {pl : List Ent} (ha : okL la) (hb : okL lb) (h : MI la lb w la.length lb.length pl) (h100 : pl.length ≤ 100) : pl = mergeL la lb w := by
  obtain ⟨h1, h2, h3, h4, h5, h6⟩ := h
  have h8 := mgB_ge la lb w lb.length
  have hl : (mergeL la lb w).length ≤ 100 := by
    have e : (mgA la lb w la.length).length = (mgB la lb w 0).length := rfl
    unfold mergeL
    omega
  exact sorted_ext h2 (merge_ok ha hb hl).2.2 (fun e => by rw [h3]; exact (mem_mgB lb.length).symm)
theorem MI.len {la lb : List Ent} {w i j : Nat} {pl : List Ent} (h : MI la lb w i j pl) : pl.length ≤ (mergeL la lb w).length := by
  obtain ⟨h1, h2, h3, h4, h5, h6⟩ := h
  have e1 := mgA_le (la := la) (lb := lb) (w := w) h1.1
  have e2 := mgB_le (la := la) (lb := lb) (w := w) h1.2
  have e3 := mgB_ge la lb w j
  omega
theorem app_ok {pl : List Ent} {cur : List Nat} (h : ∀ x ∈ pl, less x.1 cur = true) : appB pl 100 cur = decide (pl.length < 100) := by
  unfold appB
  by_cases e : pl.length = 0
  · rw [decide_eq_true e, Bool.true_or, Bool.and_true]
  · rw [show less (nm pl (pl.length - 1)) cur = true from h (ent pl (pl.length - 1)) (mem_ent.mpr ⟨pl.length - 1, by omega, rfl⟩), Bool.or_true, Bool.and_true]
theorem ord_3 (la : List Ent) (i : Nat) (lb : List Ent) (j : Nat) (h : i < la.length ∨ j < lb.length) : (ordL la i lb j = -1 ∧ i < la.length ∧ (j < lb.length → less (nm la i) (nm lb j) = true)) ∨ (ordL la i lb j = nI 0 ∧ i < la.length ∧ j < lb.length ∧ nm la i = nm lb j) ∨ (ordL la i lb j = nI 1 ∧ j < lb.length ∧ (i < la.length → less (nm lb j) (nm la i) = true)) := by
  unfold ordL
  by_cases g1 : i < la.length
  · rw [if_pos g1]
    by_cases g2 : j < lb.length
    · rw [if_pos g2]
      unfold cmpV
      rcases less_tri (nm la i) (nm lb j) with e | e | e
      · rw [e, less_irrefl, if_neg (by decide), if_pos rfl]; exact Or.inr (Or.inl ⟨rfl, g1, g2, rfl⟩)
      · rw [if_pos e]; exact Or.inl ⟨rfl, g1, fun _ => e⟩
      · have e2 := less_asymm e
        rw [e2, if_neg (by decide), if_neg (fun z => less_ne e z.symm)]
        exact Or.inr (Or.inr ⟨rfl, g2, fun _ => e⟩)
    · rw [if_neg g2]; exact Or.inl ⟨rfl, g1, fun z => absurd z g2⟩
  · rw [if_neg g1]; exact Or.inr (Or.inr ⟨rfl, h.elim (fun z => absurd z g1) id, fun z => absurd z g1⟩)
theorem go_lt {la lb : List Ent} {i w : Nat} (h : hasN lb (nm la i) = false) : goN la lb i w = true ↔ w ≠ 1 := by
  unfold goN
  rw [h, Bool.or_eq_true, decide_eq_true_iff]
  constructor
  · rintro (g | g) e
    · omega
    · rw [decide_eq_true e] at g; cases g
  · intro g; exact Or.inr (by rw [decide_eq_false g]; rfl)
theorem go_eq {la lb : List Ent} {i w : Nat} (h : hasN lb (nm la i) = true) (hw : w ≤ 2) : goN la lb i w = true ↔ w ≠ 2 := by
  unfold goN
  rw [h, Bool.or_eq_true, decide_eq_true_iff]
  constructor
  · rintro (g | g) e
    · omega
    · rw [decide_eq_false (by omega)] at g; cases g
  · intro g
    by_cases e : w = 0
    · exact Or.inl e
    · exact Or.inr (by rw [decide_eq_true (show w = 1 by omega)]; rfl)
set_option maxRecDepth 100000 in
set_option maxHeartbeats 4000000 in
theorem c_L_merged {lX : Launch} {G : Gx} {S : PS} {p np vp : Nat} {l0 : List Ent} (hp : listC S p np vp 100 l0) {a na va ra : Nat} {la : List Ent} (ha : listC S a na va ra la) {b nb vb rb : Nat} {lb : List Ent} (hb : listC S b nb vb rb lb) (oa : okL la) (ob : okL lb) (da : ¬ A3 p np vp a ∧ ¬ A3 p np vp na ∧ ¬ A3 p np vp va) (db : ¬ A3 p np vp b ∧ ¬ A3 p np vp nb ∧ ¬ A3 p np vp vb) {w0 : Nat} (hw : w0 ≤ 2) : Ct lX yX4_takeMerged cX4_takeMerged 11 (Option.some Jvm.ClassFile.FieldType.boolean) rm_X4_takeMerged G [.ref p, .ref a, .ref b, .int (nI w0)] S (fun r S' => ∃ pl, r = some (.int (bI (decide ((mergeL la lb w0).length ≤ 100)))) ∧ Fr S S' (A3 p np vp) ∧ mu S' = mu S ∧ listC S' p np vp 100 pl ∧ ((mergeL la lb w0).length ≤ 100 → pl = mergeL la lb w0)) := by
  have h00 : listC (ls_size_ S (va_up (ls_size S) p (nI 0))) p np vp 100 [] := by
    have := hp.up (l' := []) (fn := nr_a S np) (fv := vl_a S vp) (Nat.zero_le _) (fun k hk => absurd hk (Nat.not_lt_zero _))
    rwa [show szS S p np vp (nr_a S np) (vl_a S vp) (nI ([] : List Ent).length) = ls_size_ S (va_up (ls_size S) p (nI 0)) from by show ls_size_ (lsS S np vp (nr_a S np) (vl_a S vp)) _ = _; rw [lsS_0]; rfl] at this
  refine Ct.mk RX4 "takeMerged" hy_X4_takeMerged (Nat.le_of_ble_eq_true rfl) (fun X hX C => ?_)
  change Go X G _ 11 0 0 S 0 [(0, .ref p), (1, .ref a), (2, .ref b), (3, .int (nI w0))] []
  refine g_aload_n 0 0 C dX4_takeMerged_0 rfl rfl ?_
  refine g_iconst (v := nI 0) C dX4_takeMerged_1 (by decide) ?_
  refine pp_ls_size C dX4_takeMerged_2 hp.1.1 wF_X4_9 (Or.inl rfl) ?_
  refine g_iconst (v := nI 0) C dX4_takeMerged_5 (by decide) ?_
  refine g_istore (lv' := [(4, .int (nI 0)), (0, .ref p), (1, .ref a), (2, .ref b), (3, .int (nI w0))]) C dX4_takeMerged_6 (by decide) rfl ?_
  refine g_iconst (v := nI 0) C dX4_takeMerged_8 (by decide) ?_
  refine g_istore (lv' := [(5, .int (nI 0)), (4, .int (nI 0)), (0, .ref p), (1, .ref a), (2, .ref b), (3, .int (nI w0))]) C dX4_takeMerged_9 (by decide) rfl ?_
  refine g_iconst (v := nI 0) C dX4_takeMerged_11 (by decide) ?_
  refine g_istore (lv' := [(6, .int (nI 0)), (5, .int (nI 0)), (4, .int (nI 0)), (0, .ref p), (1, .ref a), (2, .ref b), (3, .int (nI w0))]) C dX4_takeMerged_12 (by decide) rfl ?_
  have lp : ∀ (n_ : Nat) (s i j : Nat) (pl : List Ent) (S2 : PS), 200 - s < n_ → (s ≤ i + j ∧ s ≤ 200 ∧ MI la lb w0 i j pl ∧ Fr S S2 (A3 p np vp) ∧ mu S2 = mu S ∧ listC S2 p np vp 100 pl) → Go X G (Qe X G (fun r S' => ∃ pl, r = some (.int (bI (decide ((mergeL la lb w0).length ≤ 100)))) ∧ Fr S S' (A3 p np vp) ∧ mu S' = mu S ∧ listC S' p np vp 100 pl ∧ ((mergeL la lb w0).length ≤ 100 → pl = mergeL la lb w0)) rm_X4_takeMerged.cells rm_X4_takeMerged.slots) 11 0 0 S2 14 [(6, .int (nI s)), (5, .int (nI j)), (4, .int (nI i)), (0, .ref p), (1, .ref a), (2, .ref b), (3, .int (nI w0))] [] := by
    intro n_
    induction n_ with
    | zero => intro s i j pl S2 hm_; exact absurd hm_ (Nat.not_lt_zero _)
    | succ n_ ih_ =>
      intro s i j pl S2 hm_ hh
      obtain ⟨hs1, hs2, hM, hf, hmu, hp2⟩ := hh
      have ha2 := ha.fr hf da.1 da.2.1 da.2.2
      have hb2 := hb.fr hf db.1 db.2.1 db.2.2
      have hij := hM.1
      have hla := oa.1
      have hlb := ob.1
      obtain ⟨⟨k_a, ra_a, rb_a⟩, ⟨kn_a, ln_a⟩, ⟨kv_a, lv_a⟩, sz_a, le_a, rm_a, en_a⟩ := id ha2
      obtain ⟨⟨k_b, ra_b, rb_b⟩, ⟨kn_b, ln_b⟩, ⟨kv_b, lv_b⟩, sz_b, le_b, rm_b, en_b⟩ := id hb2
      refine g_iload 0 C dX4_takeMerged_14 rfl ?_
      refine g_sipush (v := nI 200) C dX4_takeMerged_16 (by decide) ?_
      refine g_ncmp_ge 190 (by omega) (by omega) C dX4_takeMerged_19 (by decide) (fun c19 => ?_) (fun c19 => ?_)
      · have hend : i = la.length ∧ j = lb.length := by omega
        refine g_iconst (v := nI 1) C dX4_takeMerged_190 (by decide) ?_
        obtain ⟨rfl, rfl⟩ := hend
        have hd := MI.done oa ob hM hp2.2.2.2.2.1
        have hle : (mergeL la lb w0).length ≤ 100 := by rw [← hd]; exact hp2.2.2.2.2.1
        exact g_zret C dX4_takeMerged_191 (by decide) (by decide) (Or.inr rfl) ⟨pl, by rw [decide_eq_true hle]; rfl, hf, hmu, hp2, fun _ => hd⟩
      · refine g_aload_n 4 1 C dX4_takeMerged_22 rfl rfl ?_
        refine g_iload 2 C dX4_takeMerged_23 rfl ?_
        refine g_callV (As := [.int (nI i)]) (rest := []) C dX4_takeMerged_25 (c_L_hasNumber ha2) wC_X4_hasNumber wM_X4_29 wI_X4_hasNumber wS_X4_hasNumber wN_X4 (kne k_a) (pf_5 k_a) rfl hd_X4_hasNumber ⟨by decide, by decide, by decide, by decide⟩ (Nat.le_of_ble_eq_true rfl) (fun r_ S_ h_ => ?_)
        obtain ⟨rfl, rfl⟩ := h_
        change Go X G _ 11 _ _ S2 28 [(6, .int (nI s)), (5, .int (nI j)), (4, .int (nI i)), (0, .ref p), (1, .ref a), (2, .ref b), (3, .int (nI w0))] [.int (bI (inR (nI i) la.length))]
        refine g_topi (show bI (inR (nI i) la.length) = bI (decide (i < la.length)) by rw [inR_nI (by omega)]) ?_
        refine g_if_ne 40 C dX4_takeMerged_28 (by decide) (fun c28 => ?_) (fun c28 => ?_)
        · have hor : i < la.length ∨ j < lb.length := Or.inl (of_decide_eq_true (bI_t c28))
          refine g_aload_n 4 1 C dX4_takeMerged_40 rfl rfl ?_
          refine g_iload 2 C dX4_takeMerged_41 rfl ?_
          refine g_aload_n 5 2 C dX4_takeMerged_43 rfl rfl ?_
          refine g_iload 1 C dX4_takeMerged_44 rfl ?_
          refine g_callV (As := [.int (nI i), .ref b, .int (nI j)]) (rest := []) C dX4_takeMerged_46 (c_L_orderOf ha2 hb2 (by omega) (by omega)) wC_X4_orderOf wM_X4_53 wI_X4_orderOf wS_X4_orderOf wN_X4 (kne k_a) (pf_5 k_a) rfl hd_X4_orderOf ⟨by decide, by decide, by decide, by decide⟩ (Nat.le_of_ble_eq_true rfl) (fun r_ S_ h_ => ?_)
          obtain ⟨rfl, rfl⟩ := h_
          change Go X G _ 11 _ _ S2 49 [(6, .int (nI s)), (5, .int (nI j)), (4, .int (nI i)), (0, .ref p), (1, .ref a), (2, .ref b), (3, .int (nI w0))] [.int (ordL la i lb j)]
          rcases ord_3 la i lb j hor with ⟨o1, o2, o3⟩ | ⟨o1, o2, o3, o4⟩ | ⟨o1, o2, o3⟩
          · refine g_topi o1 ?_
            obtain ⟨g1, g2⟩ := hM.lt oa.2.2 ob.2.2 o2 o3
            have hS := hM.stepA oa.2.2 ob.2.2 o2 o3
            refine g_istore (lv' := [(7, .int (-1)), (6, .int (nI s)), (5, .int (nI j)), (4, .int (nI i)), (0, .ref p), (1, .ref a), (2, .ref b), (3, .int (nI w0))]) C dX4_takeMerged_49 (by decide) rfl ?_
            refine g_iload 0 C dX4_takeMerged_51 rfl ?_
            refine g_if_ne 69 C dX4_takeMerged_53 (by decide) (fun _ => ?_) (fun c => absurd c (by decide))
            refine g_iload 0 C dX4_takeMerged_69 rfl ?_
            refine g_if_ge 87 C dX4_takeMerged_71 (by decide) (fun c => absurd c (by decide)) (fun _ => ?_)
            refine g_iload_n 7 3 C dX4_takeMerged_74 rfl rfl ?_
            refine g_iconst (v := nI 1) C dX4_takeMerged_75 (by decide) ?_
            refine g_ncmp_eq 83 (by omega) (by omega) C dX4_takeMerged_76 (by decide) (fun c76 => ?_) (fun c76 => ?_)
            · have hw1 : ¬ w0 ≠ 1 := fun z => z c76
              refine g_iconst (v := nI 0) C dX4_takeMerged_83 (by decide) ?_
              refine g_goto 96 C dX4_takeMerged_84 (by decide) ?_
              refine g_istore (lv' := [(8, .int (nI 0)), (7, .int (-1)), (6, .int (nI s)), (5, .int (nI j)), (4, .int (nI i)), (0, .ref p), (1, .ref a), (2, .ref b), (3, .int (nI w0))]) C dX4_takeMerged_96 (by decide) rfl ?_
              refine g_iload 1 C dX4_takeMerged_98 rfl ?_
              refine g_if_gt 107 C dX4_takeMerged_100 (by decide) (fun c => absurd c (by decide)) (fun _ => ?_)
              refine g_aload_n 6 1 C dX4_takeMerged_103 rfl rfl ?_
              refine g_goto 108 C dX4_takeMerged_104 (by decide) ?_
              refine g_astore (lv' := [(9, .ref a), (8, .int (nI 0)), (7, .int (-1)), (6, .int (nI s)), (5, .int (nI j)), (4, .int (nI i)), (0, .ref p), (1, .ref a), (2, .ref b), (3, .int (nI w0))]) C dX4_takeMerged_108 (by decide) rfl ?_
              refine g_iload 2 C dX4_takeMerged_110 rfl ?_
              refine g_if_gt 120 C dX4_takeMerged_112 (by decide) (fun c => absurd c (by decide)) (fun _ => ?_)
              refine g_iload 5 C dX4_takeMerged_115 rfl ?_
              refine g_goto 122 C dX4_takeMerged_117 (by decide) ?_
              refine g_istore (lv' := [(10, .int (nI i)), (9, .ref a), (8, .int (nI 0)), (7, .int (-1)), (6, .int (nI s)), (5, .int (nI j)), (4, .int (nI i)), (0, .ref p), (1, .ref a), (2, .ref b), (3, .int (nI w0))]) C dX4_takeMerged_122 (by decide) rfl ?_
              refine g_iload 2 C dX4_takeMerged_124 rfl ?_
              refine g_nif_eq 154 (by decide) C dX4_takeMerged_126 (by decide) (fun _ => ?_) (fun c => absurd c (by decide))
              refine g_iload 6 C dX4_takeMerged_154 rfl ?_
              refine g_iload 3 C dX4_takeMerged_156 rfl ?_
              refine g_if_gt 165 C dX4_takeMerged_158 (by decide) (fun c => absurd c (by decide)) (fun _ => ?_)
              refine g_iconst (v := nI 1) C dX4_takeMerged_161 (by decide) ?_
              refine g_goto 166 C dX4_takeMerged_162 (by decide) ?_
              refine g_iadd C dX4_takeMerged_166 ?_
              refine g_topi (nI_add _ _ : _ = nI (i + 1)) ?_
              refine g_istore (lv' := [(4, .int (nI (i + 1))), (10, .int (nI i)), (9, .ref a), (8, .int (nI 0)), (7, .int (-1)), (6, .int (nI s)), (5, .int (nI j)), (0, .ref p), (1, .ref a), (2, .ref b), (3, .int (nI w0))]) C dX4_takeMerged_167 (by decide) rfl ?_
              refine g_iload 6 C dX4_takeMerged_169 rfl ?_
              refine g_iload 4 C dX4_takeMerged_171 rfl ?_
              refine g_if_lt 180 C dX4_takeMerged_173 (by decide) (fun _ => ?_) (fun c => absurd c (by decide))
              refine g_iconst (v := nI 0) C dX4_takeMerged_180 (by decide) ?_
              refine g_iadd C dX4_takeMerged_181 ?_
              refine g_topi (nI_add _ _ : _ = nI (j + 0)) ?_
              refine g_istore (lv' := [(5, .int (nI (j + 0))), (4, .int (nI (i + 1))), (10, .int (nI i)), (9, .ref a), (8, .int (nI 0)), (7, .int (-1)), (6, .int (nI s)), (0, .ref p), (1, .ref a), (2, .ref b), (3, .int (nI w0))]) C dX4_takeMerged_182 (by decide) rfl ?_
              refine g_iinc (v := nI (s + 1)) (lv' := [(6, .int (nI (s + 1))), (5, .int (nI (j + 0))), (4, .int (nI (i + 1))), (10, .int (nI i)), (9, .ref a), (8, .int (nI 0)), (7, .int (-1)), (0, .ref p), (1, .ref a), (2, .ref b), (3, .int (nI w0))]) 6 C dX4_takeMerged_184 rfl (nI_add _ 1) (by decide) rfl ?_
              refine g_goto 14 C dX4_takeMerged_187 (by decide) ?_
              refine Go.pick (lv' := [(6, .int (nI (s + 1))), (5, .int (nI (j + 0))), (4, .int (nI (i + 1))), (0, .ref p), (1, .ref a), (2, .ref b), (3, .int (nI w0))]) [0, 1, 2, 7, 8, 9, 10] rfl ?_
              rw [if_neg (fun z => hw1 ((go_lt g1).mp z))] at hS
              exact ih_ (s + 1) (i + 1) (j) pl S2 (by omega) ⟨by omega, by omega, hS, hf, hmu, hp2⟩
            · have hw1 : w0 ≠ 1 := c76
              refine g_iconst (v := nI 1) C dX4_takeMerged_79 (by decide) ?_
              refine g_goto 96 C dX4_takeMerged_80 (by decide) ?_
              refine g_istore (lv' := [(8, .int (nI 1)), (7, .int (-1)), (6, .int (nI s)), (5, .int (nI j)), (4, .int (nI i)), (0, .ref p), (1, .ref a), (2, .ref b), (3, .int (nI w0))]) C dX4_takeMerged_96 (by decide) rfl ?_
              refine g_iload 1 C dX4_takeMerged_98 rfl ?_
              refine g_if_gt 107 C dX4_takeMerged_100 (by decide) (fun c => absurd c (by decide)) (fun _ => ?_)
              refine g_aload_n 6 1 C dX4_takeMerged_103 rfl rfl ?_
              refine g_goto 108 C dX4_takeMerged_104 (by decide) ?_
              refine g_astore (lv' := [(9, .ref a), (8, .int (nI 1)), (7, .int (-1)), (6, .int (nI s)), (5, .int (nI j)), (4, .int (nI i)), (0, .ref p), (1, .ref a), (2, .ref b), (3, .int (nI w0))]) C dX4_takeMerged_108 (by decide) rfl ?_
              refine g_iload 2 C dX4_takeMerged_110 rfl ?_
              refine g_if_gt 120 C dX4_takeMerged_112 (by decide) (fun c => absurd c (by decide)) (fun _ => ?_)
              refine g_iload 5 C dX4_takeMerged_115 rfl ?_
              refine g_goto 122 C dX4_takeMerged_117 (by decide) ?_
              refine g_istore (lv' := [(10, .int (nI i)), (9, .ref a), (8, .int (nI 1)), (7, .int (-1)), (6, .int (nI s)), (5, .int (nI j)), (4, .int (nI i)), (0, .ref p), (1, .ref a), (2, .ref b), (3, .int (nI w0))]) C dX4_takeMerged_122 (by decide) rfl ?_
              refine g_iload 2 C dX4_takeMerged_124 rfl ?_
              refine g_nif_eq 154 (by decide) C dX4_takeMerged_126 (by decide) (fun c => absurd c (by decide)) (fun _ => ?_)
              obtain ⟨m_, m1, m2, m3, m4⟩ := ha2.2.2.2.2.2.2 i o2
              refine g_aload_n 7 0 C dX4_takeMerged_129 rfl rfl ?_
              refine g_aload 1 C dX4_takeMerged_130 rfl ?_
              refine gr_ls_names C dX4_takeMerged_132 k_a wF_X4_17 ra_a ?_
              refine g_iload 0 C dX4_takeMerged_135 rfl ?_
              refine gar_nr_a C dX4_takeMerged_137 kn_a (by omega) (by omega) m1 ?_
              refine g_aload 1 C dX4_takeMerged_138 rfl ?_
              refine gr_ls_values C dX4_takeMerged_140 k_a wF_X4_21 rb_a ?_
              refine g_iload 0 C dX4_takeMerged_143 rfl ?_
              refine ga_vl_a C dX4_takeMerged_145 kv_a (by omega) (by omega) ?_
              refine g_topl (m4) ?_
              refine g_callV (As := [.ref m_, .long ((ent la i).2)]) (rest := []) C dX4_takeMerged_146 (c_L_append (v := (ent la i).2) hp2 m2 m3) wC_X4_append wM_X4_57 wI_X4_append wS_X4_append wN_X4 (kne hp2.1.1) (pf_5 hp2.1.1) rfl hd_X4_append ⟨by decide, by decide, by decide, by decide⟩ (Nat.le_of_ble_eq_true rfl) (fun r_ S3 h_ => ?_)
              obtain ⟨rfl, hf3, hmu3, hp3⟩ := h_
              change Go X G _ 11 _ _ S3 149 [(10, .int (nI i)), (9, .ref a), (8, .int (nI 1)), (7, .int (-1)), (6, .int (nI s)), (5, .int (nI j)), (4, .int (nI i)), (0, .ref p), (1, .ref a), (2, .ref b), (3, .int (nI w0))] [.int (bI (appB pl 100 (nm la i)))]
              rw [show appB pl 100 (ent la i).1 = decide (pl.length < 100) from app_ok g2] at hp3
              refine g_topi (show bI (appB pl 100 (nm la i)) = bI (decide (pl.length < 100)) by rw [app_ok g2]) ?_
              refine g_if_ne 154 C dX4_takeMerged_149 (by decide) (fun c149 => ?_) (fun c149 => ?_)
              · have hlt := of_decide_eq_true (bI_t c149)
                rw [decide_eq_true hlt, if_pos rfl] at hp3
                refine g_iload 6 C dX4_takeMerged_154 rfl ?_
                refine g_iload 3 C dX4_takeMerged_156 rfl ?_
                refine g_if_gt 165 C dX4_takeMerged_158 (by decide) (fun c => absurd c (by decide)) (fun _ => ?_)
                refine g_iconst (v := nI 1) C dX4_takeMerged_161 (by decide) ?_
                refine g_goto 166 C dX4_takeMerged_162 (by decide) ?_
                refine g_iadd C dX4_takeMerged_166 ?_
                refine g_topi (nI_add _ _ : _ = nI (i + 1)) ?_
                refine g_istore (lv' := [(4, .int (nI (i + 1))), (10, .int (nI i)), (9, .ref a), (8, .int (nI 1)), (7, .int (-1)), (6, .int (nI s)), (5, .int (nI j)), (0, .ref p), (1, .ref a), (2, .ref b), (3, .int (nI w0))]) C dX4_takeMerged_167 (by decide) rfl ?_
                refine g_iload 6 C dX4_takeMerged_169 rfl ?_
                refine g_iload 4 C dX4_takeMerged_171 rfl ?_
                refine g_if_lt 180 C dX4_takeMerged_173 (by decide) (fun _ => ?_) (fun c => absurd c (by decide))
                refine g_iconst (v := nI 0) C dX4_takeMerged_180 (by decide) ?_
                refine g_iadd C dX4_takeMerged_181 ?_
                refine g_topi (nI_add _ _ : _ = nI (j + 0)) ?_
                refine g_istore (lv' := [(5, .int (nI (j + 0))), (4, .int (nI (i + 1))), (10, .int (nI i)), (9, .ref a), (8, .int (nI 1)), (7, .int (-1)), (6, .int (nI s)), (0, .ref p), (1, .ref a), (2, .ref b), (3, .int (nI w0))]) C dX4_takeMerged_182 (by decide) rfl ?_
                refine g_iinc (v := nI (s + 1)) (lv' := [(6, .int (nI (s + 1))), (5, .int (nI (j + 0))), (4, .int (nI (i + 1))), (10, .int (nI i)), (9, .ref a), (8, .int (nI 1)), (7, .int (-1)), (0, .ref p), (1, .ref a), (2, .ref b), (3, .int (nI w0))]) 6 C dX4_takeMerged_184 rfl (nI_add _ 1) (by decide) rfl ?_
                refine g_goto 14 C dX4_takeMerged_187 (by decide) ?_
                refine Go.pick (lv' := [(6, .int (nI (s + 1))), (5, .int (nI (j + 0))), (4, .int (nI (i + 1))), (0, .ref p), (1, .ref a), (2, .ref b), (3, .int (nI w0))]) [0, 1, 2, 7, 8, 9, 10] rfl ?_
                rw [if_pos ((go_lt g1).mpr hw1)] at hS
                exact ih_ (s + 1) (i + 1) (j) _ S3 (by omega) ⟨by omega, by omega, hS, hf.trans hf3 (fun _ _ h => h), hmu3.trans hmu, hp3⟩
              · have hge : ¬ pl.length < 100 := of_decide_eq_false (bI_f c149)
                have hlen : pl.length ≤ 100 := hp2.2.2.2.2.1
                rw [decide_eq_false hge, if_neg (by decide)] at hp3
                rw [if_pos ((go_lt g1).mpr hw1)] at hS
                have hbig := hS.len
                rw [List.length_append] at hbig
                have hbig2 : pl.length + 1 ≤ (mergeL la lb w0).length := hbig
                refine g_iconst (v := nI 0) C dX4_takeMerged_152 (by decide) ?_
                exact g_zret C dX4_takeMerged_153 (by decide) (by decide) (Or.inl rfl) ⟨pl, by rw [decide_eq_false (by omega)]; rfl, hf.trans hf3 (fun _ _ h => h), hmu3.trans hmu, hp3, fun z => by omega⟩
          · refine g_topi o1 ?_
            obtain ⟨hS, g2, g1⟩ := hM.stepE oa.2.2 ob.2.2 o2 o3 o4
            refine g_istore (lv' := [(7, .int (nI 0)), (6, .int (nI s)), (5, .int (nI j)), (4, .int (nI i)), (0, .ref p), (1, .ref a), (2, .ref b), (3, .int (nI w0))]) C dX4_takeMerged_49 (by decide) rfl ?_
            refine g_iload 0 C dX4_takeMerged_51 rfl ?_
            refine g_nif_ne 69 (by decide) C dX4_takeMerged_53 (by decide) (fun c => absurd c (by decide)) (fun _ => ?_)
            refine g_iload_n 7 3 C dX4_takeMerged_56 rfl rfl ?_
            refine g_iconst (v := nI 2) C dX4_takeMerged_57 (by decide) ?_
            refine g_ncmp_eq 65 (by omega) (by omega) C dX4_takeMerged_58 (by decide) (fun c58 => ?_) (fun c58 => ?_)
            · have hw1 : ¬ w0 ≠ 2 := fun z => z c58
              refine g_iconst (v := nI 0) C dX4_takeMerged_65 (by decide) ?_
              refine g_goto 96 C dX4_takeMerged_66 (by decide) ?_
              refine g_istore (lv' := [(8, .int (nI 0)), (7, .int (nI 0)), (6, .int (nI s)), (5, .int (nI j)), (4, .int (nI i)), (0, .ref p), (1, .ref a), (2, .ref b), (3, .int (nI w0))]) C dX4_takeMerged_96 (by decide) rfl ?_
              refine g_iload 1 C dX4_takeMerged_98 rfl ?_
              refine g_nif_gt 107 (by decide) C dX4_takeMerged_100 (by decide) (fun c => absurd c (by decide)) (fun _ => ?_)
              refine g_aload_n 6 1 C dX4_takeMerged_103 rfl rfl ?_
              refine g_goto 108 C dX4_takeMerged_104 (by decide) ?_
              refine g_astore (lv' := [(9, .ref a), (8, .int (nI 0)), (7, .int (nI 0)), (6, .int (nI s)), (5, .int (nI j)), (4, .int (nI i)), (0, .ref p), (1, .ref a), (2, .ref b), (3, .int (nI w0))]) C dX4_takeMerged_108 (by decide) rfl ?_
              refine g_iload 2 C dX4_takeMerged_110 rfl ?_
              refine g_nif_gt 120 (by decide) C dX4_takeMerged_112 (by decide) (fun c => absurd c (by decide)) (fun _ => ?_)
              refine g_iload 5 C dX4_takeMerged_115 rfl ?_
              refine g_goto 122 C dX4_takeMerged_117 (by decide) ?_
              refine g_istore (lv' := [(10, .int (nI i)), (9, .ref a), (8, .int (nI 0)), (7, .int (nI 0)), (6, .int (nI s)), (5, .int (nI j)), (4, .int (nI i)), (0, .ref p), (1, .ref a), (2, .ref b), (3, .int (nI w0))]) C dX4_takeMerged_122 (by decide) rfl ?_
              refine g_iload 2 C dX4_takeMerged_124 rfl ?_
              refine g_nif_eq 154 (by decide) C dX4_takeMerged_126 (by decide) (fun _ => ?_) (fun c => absurd c (by decide))
              refine g_iload 6 C dX4_takeMerged_154 rfl ?_
              refine g_iload 3 C dX4_takeMerged_156 rfl ?_
              refine g_nif_gt 165 (by decide) C dX4_takeMerged_158 (by decide) (fun c => absurd c (by decide)) (fun _ => ?_)
              refine g_iconst (v := nI 1) C dX4_takeMerged_161 (by decide) ?_
              refine g_goto 166 C dX4_takeMerged_162 (by decide) ?_
              refine g_iadd C dX4_takeMerged_166 ?_
              refine g_topi (nI_add _ _ : _ = nI (i + 1)) ?_
              refine g_istore (lv' := [(4, .int (nI (i + 1))), (10, .int (nI i)), (9, .ref a), (8, .int (nI 0)), (7, .int (nI 0)), (6, .int (nI s)), (5, .int (nI j)), (0, .ref p), (1, .ref a), (2, .ref b), (3, .int (nI w0))]) C dX4_takeMerged_167 (by decide) rfl ?_
              refine g_iload 6 C dX4_takeMerged_169 rfl ?_
              refine g_iload 4 C dX4_takeMerged_171 rfl ?_
              refine g_nif_lt 180 (by omega) C dX4_takeMerged_173 (by decide) ?_
              refine g_iconst (v := nI 1) C dX4_takeMerged_176 (by decide) ?_
              refine g_goto 181 C dX4_takeMerged_177 (by decide) ?_
              refine g_iadd C dX4_takeMerged_181 ?_
              refine g_topi (nI_add _ _ : _ = nI (j + 1)) ?_
              refine g_istore (lv' := [(5, .int (nI (j + 1))), (4, .int (nI (i + 1))), (10, .int (nI i)), (9, .ref a), (8, .int (nI 0)), (7, .int (nI 0)), (6, .int (nI s)), (0, .ref p), (1, .ref a), (2, .ref b), (3, .int (nI w0))]) C dX4_takeMerged_182 (by decide) rfl ?_
              refine g_iinc (v := nI (s + 1)) (lv' := [(6, .int (nI (s + 1))), (5, .int (nI (j + 1))), (4, .int (nI (i + 1))), (10, .int (nI i)), (9, .ref a), (8, .int (nI 0)), (7, .int (nI 0)), (0, .ref p), (1, .ref a), (2, .ref b), (3, .int (nI w0))]) 6 C dX4_takeMerged_184 rfl (nI_add _ 1) (by decide) rfl ?_
              refine g_goto 14 C dX4_takeMerged_187 (by decide) ?_
              refine Go.pick (lv' := [(6, .int (nI (s + 1))), (5, .int (nI (j + 1))), (4, .int (nI (i + 1))), (0, .ref p), (1, .ref a), (2, .ref b), (3, .int (nI w0))]) [0, 1, 2, 7, 8, 9, 10] rfl ?_
              rw [if_neg (fun z => hw1 ((go_eq g1 hw).mp z))] at hS
              exact ih_ (s + 1) (i + 1) (j + 1) pl S2 (by omega) ⟨by omega, by omega, hS, hf, hmu, hp2⟩
            · have hw1 : w0 ≠ 2 := c58
              refine g_iconst (v := nI 1) C dX4_takeMerged_61 (by decide) ?_
              refine g_goto 96 C dX4_takeMerged_62 (by decide) ?_
              refine g_istore (lv' := [(8, .int (nI 1)), (7, .int (nI 0)), (6, .int (nI s)), (5, .int (nI j)), (4, .int (nI i)), (0, .ref p), (1, .ref a), (2, .ref b), (3, .int (nI w0))]) C dX4_takeMerged_96 (by decide) rfl ?_
              refine g_iload 1 C dX4_takeMerged_98 rfl ?_
              refine g_nif_gt 107 (by decide) C dX4_takeMerged_100 (by decide) (fun c => absurd c (by decide)) (fun _ => ?_)
              refine g_aload_n 6 1 C dX4_takeMerged_103 rfl rfl ?_
              refine g_goto 108 C dX4_takeMerged_104 (by decide) ?_
              refine g_astore (lv' := [(9, .ref a), (8, .int (nI 1)), (7, .int (nI 0)), (6, .int (nI s)), (5, .int (nI j)), (4, .int (nI i)), (0, .ref p), (1, .ref a), (2, .ref b), (3, .int (nI w0))]) C dX4_takeMerged_108 (by decide) rfl ?_
              refine g_iload 2 C dX4_takeMerged_110 rfl ?_
              refine g_nif_gt 120 (by decide) C dX4_takeMerged_112 (by decide) (fun c => absurd c (by decide)) (fun _ => ?_)
              refine g_iload 5 C dX4_takeMerged_115 rfl ?_
              refine g_goto 122 C dX4_takeMerged_117 (by decide) ?_
              refine g_istore (lv' := [(10, .int (nI i)), (9, .ref a), (8, .int (nI 1)), (7, .int (nI 0)), (6, .int (nI s)), (5, .int (nI j)), (4, .int (nI i)), (0, .ref p), (1, .ref a), (2, .ref b), (3, .int (nI w0))]) C dX4_takeMerged_122 (by decide) rfl ?_
              refine g_iload 2 C dX4_takeMerged_124 rfl ?_
              refine g_nif_eq 154 (by decide) C dX4_takeMerged_126 (by decide) (fun c => absurd c (by decide)) (fun _ => ?_)
              obtain ⟨m_, m1, m2, m3, m4⟩ := ha2.2.2.2.2.2.2 i o2
              refine g_aload_n 7 0 C dX4_takeMerged_129 rfl rfl ?_
              refine g_aload 1 C dX4_takeMerged_130 rfl ?_
              refine gr_ls_names C dX4_takeMerged_132 k_a wF_X4_17 ra_a ?_
              refine g_iload 0 C dX4_takeMerged_135 rfl ?_
              refine gar_nr_a C dX4_takeMerged_137 kn_a (by omega) (by omega) m1 ?_
              refine g_aload 1 C dX4_takeMerged_138 rfl ?_
              refine gr_ls_values C dX4_takeMerged_140 k_a wF_X4_21 rb_a ?_
              refine g_iload 0 C dX4_takeMerged_143 rfl ?_
              refine ga_vl_a C dX4_takeMerged_145 kv_a (by omega) (by omega) ?_
              refine g_topl (m4) ?_
              refine g_callV (As := [.ref m_, .long ((ent la i).2)]) (rest := []) C dX4_takeMerged_146 (c_L_append (v := (ent la i).2) hp2 m2 m3) wC_X4_append wM_X4_57 wI_X4_append wS_X4_append wN_X4 (kne hp2.1.1) (pf_5 hp2.1.1) rfl hd_X4_append ⟨by decide, by decide, by decide, by decide⟩ (Nat.le_of_ble_eq_true rfl) (fun r_ S3 h_ => ?_)
              obtain ⟨rfl, hf3, hmu3, hp3⟩ := h_
              change Go X G _ 11 _ _ S3 149 [(10, .int (nI i)), (9, .ref a), (8, .int (nI 1)), (7, .int (nI 0)), (6, .int (nI s)), (5, .int (nI j)), (4, .int (nI i)), (0, .ref p), (1, .ref a), (2, .ref b), (3, .int (nI w0))] [.int (bI (appB pl 100 (nm la i)))]
              rw [show appB pl 100 (ent la i).1 = decide (pl.length < 100) from app_ok g2] at hp3
              refine g_topi (show bI (appB pl 100 (nm la i)) = bI (decide (pl.length < 100)) by rw [app_ok g2]) ?_
              refine g_if_ne 154 C dX4_takeMerged_149 (by decide) (fun c149 => ?_) (fun c149 => ?_)
              · have hlt := of_decide_eq_true (bI_t c149)
                rw [decide_eq_true hlt, if_pos rfl] at hp3
                refine g_iload 6 C dX4_takeMerged_154 rfl ?_
                refine g_iload 3 C dX4_takeMerged_156 rfl ?_
                refine g_nif_gt 165 (by decide) C dX4_takeMerged_158 (by decide) (fun c => absurd c (by decide)) (fun _ => ?_)
                refine g_iconst (v := nI 1) C dX4_takeMerged_161 (by decide) ?_
                refine g_goto 166 C dX4_takeMerged_162 (by decide) ?_
                refine g_iadd C dX4_takeMerged_166 ?_
                refine g_topi (nI_add _ _ : _ = nI (i + 1)) ?_
                refine g_istore (lv' := [(4, .int (nI (i + 1))), (10, .int (nI i)), (9, .ref a), (8, .int (nI 1)), (7, .int (nI 0)), (6, .int (nI s)), (5, .int (nI j)), (0, .ref p), (1, .ref a), (2, .ref b), (3, .int (nI w0))]) C dX4_takeMerged_167 (by decide) rfl ?_
                refine g_iload 6 C dX4_takeMerged_169 rfl ?_
                refine g_iload 4 C dX4_takeMerged_171 rfl ?_
                refine g_nif_lt 180 (by omega) C dX4_takeMerged_173 (by decide) ?_
                refine g_iconst (v := nI 1) C dX4_takeMerged_176 (by decide) ?_
                refine g_goto 181 C dX4_takeMerged_177 (by decide) ?_
                refine g_iadd C dX4_takeMerged_181 ?_
                refine g_topi (nI_add _ _ : _ = nI (j + 1)) ?_
                refine g_istore (lv' := [(5, .int (nI (j + 1))), (4, .int (nI (i + 1))), (10, .int (nI i)), (9, .ref a), (8, .int (nI 1)), (7, .int (nI 0)), (6, .int (nI s)), (0, .ref p), (1, .ref a), (2, .ref b), (3, .int (nI w0))]) C dX4_takeMerged_182 (by decide) rfl ?_
                refine g_iinc (v := nI (s + 1)) (lv' := [(6, .int (nI (s + 1))), (5, .int (nI (j + 1))), (4, .int (nI (i + 1))), (10, .int (nI i)), (9, .ref a), (8, .int (nI 1)), (7, .int (nI 0)), (0, .ref p), (1, .ref a), (2, .ref b), (3, .int (nI w0))]) 6 C dX4_takeMerged_184 rfl (nI_add _ 1) (by decide) rfl ?_
                refine g_goto 14 C dX4_takeMerged_187 (by decide) ?_
                refine Go.pick (lv' := [(6, .int (nI (s + 1))), (5, .int (nI (j + 1))), (4, .int (nI (i + 1))), (0, .ref p), (1, .ref a), (2, .ref b), (3, .int (nI w0))]) [0, 1, 2, 7, 8, 9, 10] rfl ?_
                rw [if_pos ((go_eq g1 hw).mpr hw1)] at hS
                exact ih_ (s + 1) (i + 1) (j + 1) _ S3 (by omega) ⟨by omega, by omega, hS, hf.trans hf3 (fun _ _ h => h), hmu3.trans hmu, hp3⟩
              · have hge : ¬ pl.length < 100 := of_decide_eq_false (bI_f c149)
                have hlen : pl.length ≤ 100 := hp2.2.2.2.2.1
                rw [decide_eq_false hge, if_neg (by decide)] at hp3
                rw [if_pos ((go_eq g1 hw).mpr hw1)] at hS
                have hbig := hS.len
                rw [List.length_append] at hbig
                have hbig2 : pl.length + 1 ≤ (mergeL la lb w0).length := hbig
                refine g_iconst (v := nI 0) C dX4_takeMerged_152 (by decide) ?_
                exact g_zret C dX4_takeMerged_153 (by decide) (by decide) (Or.inl rfl) ⟨pl, by rw [decide_eq_false (by omega)]; rfl, hf.trans hf3 (fun _ _ h => h), hmu3.trans hmu, hp3, fun z => by omega⟩
          · refine g_topi o1 ?_
            obtain ⟨g1, g2⟩ := hM.gt oa.2.2 ob.2.2 o2 o3
            have hS := hM.stepB oa.2.2 ob.2.2 o2 o3
            refine g_istore (lv' := [(7, .int (nI 1)), (6, .int (nI s)), (5, .int (nI j)), (4, .int (nI i)), (0, .ref p), (1, .ref a), (2, .ref b), (3, .int (nI w0))]) C dX4_takeMerged_49 (by decide) rfl ?_
            refine g_iload 0 C dX4_takeMerged_51 rfl ?_
            refine g_nif_ne 69 (by decide) C dX4_takeMerged_53 (by decide) (fun _ => ?_) (fun c => absurd c (by decide))
            refine g_iload 0 C dX4_takeMerged_69 rfl ?_
            refine g_nif_ge 87 (by omega) C dX4_takeMerged_71 (by decide) ?_
            refine g_iload_n 7 3 C dX4_takeMerged_87 rfl rfl ?_
            refine g_nif_ne 95 (by omega) C dX4_takeMerged_88 (by decide) (fun c88 => ?_) (fun c88 => ?_)
            · have hw1 : ¬ w0 = 0 := c88
              refine g_iconst (v := nI 0) C dX4_takeMerged_95 (by decide) ?_
              refine g_istore (lv' := [(8, .int (nI 0)), (7, .int (nI 1)), (6, .int (nI s)), (5, .int (nI j)), (4, .int (nI i)), (0, .ref p), (1, .ref a), (2, .ref b), (3, .int (nI w0))]) C dX4_takeMerged_96 (by decide) rfl ?_
              refine g_iload 1 C dX4_takeMerged_98 rfl ?_
              refine g_nif_gt 107 (by decide) C dX4_takeMerged_100 (by decide) (fun _ => ?_) (fun c => absurd c (by decide))
              refine g_aload_n 7 2 C dX4_takeMerged_107 rfl rfl ?_
              refine g_astore (lv' := [(9, .ref b), (8, .int (nI 0)), (7, .int (nI 1)), (6, .int (nI s)), (5, .int (nI j)), (4, .int (nI i)), (0, .ref p), (1, .ref a), (2, .ref b), (3, .int (nI w0))]) C dX4_takeMerged_108 (by decide) rfl ?_
              refine g_iload 2 C dX4_takeMerged_110 rfl ?_
              refine g_nif_gt 120 (by decide) C dX4_takeMerged_112 (by decide) (fun _ => ?_) (fun c => absurd c (by decide))
              refine g_iload 4 C dX4_takeMerged_120 rfl ?_
              refine g_istore (lv' := [(10, .int (nI j)), (9, .ref b), (8, .int (nI 0)), (7, .int (nI 1)), (6, .int (nI s)), (5, .int (nI j)), (4, .int (nI i)), (0, .ref p), (1, .ref a), (2, .ref b), (3, .int (nI w0))]) C dX4_takeMerged_122 (by decide) rfl ?_
              refine g_iload 2 C dX4_takeMerged_124 rfl ?_
              refine g_nif_eq 154 (by decide) C dX4_takeMerged_126 (by decide) (fun _ => ?_) (fun c => absurd c (by decide))
              refine g_iload 6 C dX4_takeMerged_154 rfl ?_
              refine g_iload 3 C dX4_takeMerged_156 rfl ?_
              refine g_nif_gt 165 (by decide) C dX4_takeMerged_158 (by decide) (fun _ => ?_) (fun c => absurd c (by decide))
              refine g_iconst (v := nI 0) C dX4_takeMerged_165 (by decide) ?_
              refine g_iadd C dX4_takeMerged_166 ?_
              refine g_topi (nI_add _ _ : _ = nI (i + 0)) ?_
              refine g_istore (lv' := [(4, .int (nI (i + 0))), (10, .int (nI j)), (9, .ref b), (8, .int (nI 0)), (7, .int (nI 1)), (6, .int (nI s)), (5, .int (nI j)), (0, .ref p), (1, .ref a), (2, .ref b), (3, .int (nI w0))]) C dX4_takeMerged_167 (by decide) rfl ?_
              refine g_iload 6 C dX4_takeMerged_169 rfl ?_
              refine g_iload 4 C dX4_takeMerged_171 rfl ?_
              refine g_nif_lt 180 (by omega) C dX4_takeMerged_173 (by decide) ?_
              refine g_iconst (v := nI 1) C dX4_takeMerged_176 (by decide) ?_
              refine g_goto 181 C dX4_takeMerged_177 (by decide) ?_
              refine g_iadd C dX4_takeMerged_181 ?_
              refine g_topi (nI_add _ _ : _ = nI (j + 1)) ?_
              refine g_istore (lv' := [(5, .int (nI (j + 1))), (4, .int (nI (i + 0))), (10, .int (nI j)), (9, .ref b), (8, .int (nI 0)), (7, .int (nI 1)), (6, .int (nI s)), (0, .ref p), (1, .ref a), (2, .ref b), (3, .int (nI w0))]) C dX4_takeMerged_182 (by decide) rfl ?_
              refine g_iinc (v := nI (s + 1)) (lv' := [(6, .int (nI (s + 1))), (5, .int (nI (j + 1))), (4, .int (nI (i + 0))), (10, .int (nI j)), (9, .ref b), (8, .int (nI 0)), (7, .int (nI 1)), (0, .ref p), (1, .ref a), (2, .ref b), (3, .int (nI w0))]) 6 C dX4_takeMerged_184 rfl (nI_add _ 1) (by decide) rfl ?_
              refine g_goto 14 C dX4_takeMerged_187 (by decide) ?_
              refine Go.pick (lv' := [(6, .int (nI (s + 1))), (5, .int (nI (j + 1))), (4, .int (nI (i + 0))), (0, .ref p), (1, .ref a), (2, .ref b), (3, .int (nI w0))]) [0, 1, 2, 7, 8, 9, 10] rfl ?_
              rw [if_neg hw1] at hS
              exact ih_ (s + 1) (i) (j + 1) pl S2 (by omega) ⟨by omega, by omega, hS, hf, hmu, hp2⟩
            · have hw1 : w0 = 0 := c88
              refine g_iconst (v := nI 1) C dX4_takeMerged_91 (by decide) ?_
              refine g_goto 96 C dX4_takeMerged_92 (by decide) ?_
              refine g_istore (lv' := [(8, .int (nI 1)), (7, .int (nI 1)), (6, .int (nI s)), (5, .int (nI j)), (4, .int (nI i)), (0, .ref p), (1, .ref a), (2, .ref b), (3, .int (nI w0))]) C dX4_takeMerged_96 (by decide) rfl ?_
              refine g_iload 1 C dX4_takeMerged_98 rfl ?_
              refine g_nif_gt 107 (by decide) C dX4_takeMerged_100 (by decide) (fun _ => ?_) (fun c => absurd c (by decide))
              refine g_aload_n 7 2 C dX4_takeMerged_107 rfl rfl ?_
              refine g_astore (lv' := [(9, .ref b), (8, .int (nI 1)), (7, .int (nI 1)), (6, .int (nI s)), (5, .int (nI j)), (4, .int (nI i)), (0, .ref p), (1, .ref a), (2, .ref b), (3, .int (nI w0))]) C dX4_takeMerged_108 (by decide) rfl ?_
              refine g_iload 2 C dX4_takeMerged_110 rfl ?_
              refine g_nif_gt 120 (by decide) C dX4_takeMerged_112 (by decide) (fun _ => ?_) (fun c => absurd c (by decide))
              refine g_iload 4 C dX4_takeMerged_120 rfl ?_
              refine g_istore (lv' := [(10, .int (nI j)), (9, .ref b), (8, .int (nI 1)), (7, .int (nI 1)), (6, .int (nI s)), (5, .int (nI j)), (4, .int (nI i)), (0, .ref p), (1, .ref a), (2, .ref b), (3, .int (nI w0))]) C dX4_takeMerged_122 (by decide) rfl ?_
              refine g_iload 2 C dX4_takeMerged_124 rfl ?_
              refine g_nif_eq 154 (by decide) C dX4_takeMerged_126 (by decide) (fun c => absurd c (by decide)) (fun _ => ?_)
              obtain ⟨m_, m1, m2, m3, m4⟩ := hb2.2.2.2.2.2.2 j o2
              refine g_aload_n 7 0 C dX4_takeMerged_129 rfl rfl ?_
              refine g_aload 1 C dX4_takeMerged_130 rfl ?_
              refine gr_ls_names C dX4_takeMerged_132 k_b wF_X4_17 ra_b ?_
              refine g_iload 0 C dX4_takeMerged_135 rfl ?_
              refine gar_nr_a C dX4_takeMerged_137 kn_b (by omega) (by omega) m1 ?_
              refine g_aload 1 C dX4_takeMerged_138 rfl ?_
              refine gr_ls_values C dX4_takeMerged_140 k_b wF_X4_21 rb_b ?_
              refine g_iload 0 C dX4_takeMerged_143 rfl ?_
              refine ga_vl_a C dX4_takeMerged_145 kv_b (by omega) (by omega) ?_
              refine g_topl (m4) ?_
              refine g_callV (As := [.ref m_, .long ((ent lb j).2)]) (rest := []) C dX4_takeMerged_146 (c_L_append (v := (ent lb j).2) hp2 m2 m3) wC_X4_append wM_X4_57 wI_X4_append wS_X4_append wN_X4 (kne hp2.1.1) (pf_5 hp2.1.1) rfl hd_X4_append ⟨by decide, by decide, by decide, by decide⟩ (Nat.le_of_ble_eq_true rfl) (fun r_ S3 h_ => ?_)
              obtain ⟨rfl, hf3, hmu3, hp3⟩ := h_
              change Go X G _ 11 _ _ S3 149 [(10, .int (nI j)), (9, .ref b), (8, .int (nI 1)), (7, .int (nI 1)), (6, .int (nI s)), (5, .int (nI j)), (4, .int (nI i)), (0, .ref p), (1, .ref a), (2, .ref b), (3, .int (nI w0))] [.int (bI (appB pl 100 (nm lb j)))]
              rw [show appB pl 100 (ent lb j).1 = decide (pl.length < 100) from app_ok g2] at hp3
              refine g_topi (show bI (appB pl 100 (nm lb j)) = bI (decide (pl.length < 100)) by rw [app_ok g2]) ?_
              refine g_if_ne 154 C dX4_takeMerged_149 (by decide) (fun c149 => ?_) (fun c149 => ?_)
              · have hlt := of_decide_eq_true (bI_t c149)
                rw [decide_eq_true hlt, if_pos rfl] at hp3
                refine g_iload 6 C dX4_takeMerged_154 rfl ?_
                refine g_iload 3 C dX4_takeMerged_156 rfl ?_
                refine g_nif_gt 165 (by decide) C dX4_takeMerged_158 (by decide) (fun _ => ?_) (fun c => absurd c (by decide))
                refine g_iconst (v := nI 0) C dX4_takeMerged_165 (by decide) ?_
                refine g_iadd C dX4_takeMerged_166 ?_
                refine g_topi (nI_add _ _ : _ = nI (i + 0)) ?_
                refine g_istore (lv' := [(4, .int (nI (i + 0))), (10, .int (nI j)), (9, .ref b), (8, .int (nI 1)), (7, .int (nI 1)), (6, .int (nI s)), (5, .int (nI j)), (0, .ref p), (1, .ref a), (2, .ref b), (3, .int (nI w0))]) C dX4_takeMerged_167 (by decide) rfl ?_
                refine g_iload 6 C dX4_takeMerged_169 rfl ?_
                refine g_iload 4 C dX4_takeMerged_171 rfl ?_
                refine g_nif_lt 180 (by omega) C dX4_takeMerged_173 (by decide) ?_
                refine g_iconst (v := nI 1) C dX4_takeMerged_176 (by decide) ?_
                refine g_goto 181 C dX4_takeMerged_177 (by decide) ?_
                refine g_iadd C dX4_takeMerged_181 ?_
                refine g_topi (nI_add _ _ : _ = nI (j + 1)) ?_
                refine g_istore (lv' := [(5, .int (nI (j + 1))), (4, .int (nI (i + 0))), (10, .int (nI j)), (9, .ref b), (8, .int (nI 1)), (7, .int (nI 1)), (6, .int (nI s)), (0, .ref p), (1, .ref a), (2, .ref b), (3, .int (nI w0))]) C dX4_takeMerged_182 (by decide) rfl ?_
                refine g_iinc (v := nI (s + 1)) (lv' := [(6, .int (nI (s + 1))), (5, .int (nI (j + 1))), (4, .int (nI (i + 0))), (10, .int (nI j)), (9, .ref b), (8, .int (nI 1)), (7, .int (nI 1)), (0, .ref p), (1, .ref a), (2, .ref b), (3, .int (nI w0))]) 6 C dX4_takeMerged_184 rfl (nI_add _ 1) (by decide) rfl ?_
                refine g_goto 14 C dX4_takeMerged_187 (by decide) ?_
                refine Go.pick (lv' := [(6, .int (nI (s + 1))), (5, .int (nI (j + 1))), (4, .int (nI (i + 0))), (0, .ref p), (1, .ref a), (2, .ref b), (3, .int (nI w0))]) [0, 1, 2, 7, 8, 9, 10] rfl ?_
                rw [if_pos hw1] at hS
                exact ih_ (s + 1) (i) (j + 1) _ S3 (by omega) ⟨by omega, by omega, hS, hf.trans hf3 (fun _ _ h => h), hmu3.trans hmu, hp3⟩
              · have hge : ¬ pl.length < 100 := of_decide_eq_false (bI_f c149)
                have hlen : pl.length ≤ 100 := hp2.2.2.2.2.1
                rw [decide_eq_false hge, if_neg (by decide)] at hp3
                rw [if_pos hw1] at hS
                have hbig := hS.len
                rw [List.length_append] at hbig
                have hbig2 : pl.length + 1 ≤ (mergeL la lb w0).length := hbig
                refine g_iconst (v := nI 0) C dX4_takeMerged_152 (by decide) ?_
                exact g_zret C dX4_takeMerged_153 (by decide) (by decide) (Or.inl rfl) ⟨pl, by rw [decide_eq_false (by omega)]; rfl, hf.trans hf3 (fun _ _ h => h), hmu3.trans hmu, hp3, fun z => by omega⟩
        · have hni : ¬ i < la.length := of_decide_eq_false (bI_f c28)
          refine g_aload_n 5 2 C dX4_takeMerged_31 rfl rfl ?_
          refine g_iload 1 C dX4_takeMerged_32 rfl ?_
          refine g_callV (As := [.int (nI j)]) (rest := []) C dX4_takeMerged_34 (c_L_hasNumber hb2) wC_X4_hasNumber wM_X4_29 wI_X4_hasNumber wS_X4_hasNumber wN_X4 (kne k_b) (pf_5 k_b) rfl hd_X4_hasNumber ⟨by decide, by decide, by decide, by decide⟩ (Nat.le_of_ble_eq_true rfl) (fun r_ S_ h_ => ?_)
          obtain ⟨rfl, rfl⟩ := h_
          change Go X G _ 11 _ _ S2 37 [(6, .int (nI s)), (5, .int (nI j)), (4, .int (nI i)), (0, .ref p), (1, .ref a), (2, .ref b), (3, .int (nI w0))] [.int (bI (inR (nI j) lb.length))]
          refine g_topi (show bI (inR (nI j) lb.length) = bI (decide (j < lb.length)) by rw [inR_nI (by omega)]) ?_
          refine g_if_eq 190 C dX4_takeMerged_37 (by decide) (fun c37 => ?_) (fun c37 => ?_)
          · have hnj : ¬ j < lb.length := of_decide_eq_false (bI_f c37)
            have hend : i = la.length ∧ j = lb.length := by omega
            refine g_iconst (v := nI 1) C dX4_takeMerged_190 (by decide) ?_
            obtain ⟨rfl, rfl⟩ := hend
            have hd := MI.done oa ob hM hp2.2.2.2.2.1
            have hle : (mergeL la lb w0).length ≤ 100 := by rw [← hd]; exact hp2.2.2.2.2.1
            exact g_zret C dX4_takeMerged_191 (by decide) (by decide) (Or.inr rfl) ⟨pl, by rw [decide_eq_true hle]; rfl, hf, hmu, hp2, fun _ => hd⟩
          · have hor : i < la.length ∨ j < lb.length := Or.inr (of_decide_eq_true (bI_t c37))
            refine g_aload_n 4 1 C dX4_takeMerged_40 rfl rfl ?_
            refine g_iload 2 C dX4_takeMerged_41 rfl ?_
            refine g_aload_n 5 2 C dX4_takeMerged_43 rfl rfl ?_
            refine g_iload 1 C dX4_takeMerged_44 rfl ?_
            refine g_callV (As := [.int (nI i), .ref b, .int (nI j)]) (rest := []) C dX4_takeMerged_46 (c_L_orderOf ha2 hb2 (by omega) (by omega)) wC_X4_orderOf wM_X4_53 wI_X4_orderOf wS_X4_orderOf wN_X4 (kne k_a) (pf_5 k_a) rfl hd_X4_orderOf ⟨by decide, by decide, by decide, by decide⟩ (Nat.le_of_ble_eq_true rfl) (fun r_ S_ h_ => ?_)
            obtain ⟨rfl, rfl⟩ := h_
            change Go X G _ 11 _ _ S2 49 [(6, .int (nI s)), (5, .int (nI j)), (4, .int (nI i)), (0, .ref p), (1, .ref a), (2, .ref b), (3, .int (nI w0))] [.int (ordL la i lb j)]
            rcases ord_3 la i lb j hor with ⟨o1, o2, o3⟩ | ⟨o1, o2, o3, o4⟩ | ⟨o1, o2, o3⟩
            · refine g_topi o1 ?_
              obtain ⟨g1, g2⟩ := hM.lt oa.2.2 ob.2.2 o2 o3
              have hS := hM.stepA oa.2.2 ob.2.2 o2 o3
              refine g_istore (lv' := [(7, .int (-1)), (6, .int (nI s)), (5, .int (nI j)), (4, .int (nI i)), (0, .ref p), (1, .ref a), (2, .ref b), (3, .int (nI w0))]) C dX4_takeMerged_49 (by decide) rfl ?_
              refine g_iload 0 C dX4_takeMerged_51 rfl ?_
              refine g_if_ne 69 C dX4_takeMerged_53 (by decide) (fun _ => ?_) (fun c => absurd c (by decide))
              refine g_iload 0 C dX4_takeMerged_69 rfl ?_
              refine g_if_ge 87 C dX4_takeMerged_71 (by decide) (fun c => absurd c (by decide)) (fun _ => ?_)
              refine g_iload_n 7 3 C dX4_takeMerged_74 rfl rfl ?_
              refine g_iconst (v := nI 1) C dX4_takeMerged_75 (by decide) ?_
              refine g_ncmp_eq 83 (by omega) (by omega) C dX4_takeMerged_76 (by decide) (fun c76 => ?_) (fun c76 => ?_)
              · have hw1 : ¬ w0 ≠ 1 := fun z => z c76
                refine g_iconst (v := nI 0) C dX4_takeMerged_83 (by decide) ?_
                refine g_goto 96 C dX4_takeMerged_84 (by decide) ?_
                refine g_istore (lv' := [(8, .int (nI 0)), (7, .int (-1)), (6, .int (nI s)), (5, .int (nI j)), (4, .int (nI i)), (0, .ref p), (1, .ref a), (2, .ref b), (3, .int (nI w0))]) C dX4_takeMerged_96 (by decide) rfl ?_
                refine g_iload 1 C dX4_takeMerged_98 rfl ?_
                refine g_if_gt 107 C dX4_takeMerged_100 (by decide) (fun c => absurd c (by decide)) (fun _ => ?_)
                refine g_aload_n 6 1 C dX4_takeMerged_103 rfl rfl ?_
                refine g_goto 108 C dX4_takeMerged_104 (by decide) ?_
                refine g_astore (lv' := [(9, .ref a), (8, .int (nI 0)), (7, .int (-1)), (6, .int (nI s)), (5, .int (nI j)), (4, .int (nI i)), (0, .ref p), (1, .ref a), (2, .ref b), (3, .int (nI w0))]) C dX4_takeMerged_108 (by decide) rfl ?_
                refine g_iload 2 C dX4_takeMerged_110 rfl ?_
                refine g_if_gt 120 C dX4_takeMerged_112 (by decide) (fun c => absurd c (by decide)) (fun _ => ?_)
                refine g_iload 5 C dX4_takeMerged_115 rfl ?_
                refine g_goto 122 C dX4_takeMerged_117 (by decide) ?_
                refine g_istore (lv' := [(10, .int (nI i)), (9, .ref a), (8, .int (nI 0)), (7, .int (-1)), (6, .int (nI s)), (5, .int (nI j)), (4, .int (nI i)), (0, .ref p), (1, .ref a), (2, .ref b), (3, .int (nI w0))]) C dX4_takeMerged_122 (by decide) rfl ?_
                refine g_iload 2 C dX4_takeMerged_124 rfl ?_
                refine g_nif_eq 154 (by decide) C dX4_takeMerged_126 (by decide) (fun _ => ?_) (fun c => absurd c (by decide))
                refine g_iload 6 C dX4_takeMerged_154 rfl ?_
                refine g_iload 3 C dX4_takeMerged_156 rfl ?_
                refine g_if_gt 165 C dX4_takeMerged_158 (by decide) (fun c => absurd c (by decide)) (fun _ => ?_)
                refine g_iconst (v := nI 1) C dX4_takeMerged_161 (by decide) ?_
                refine g_goto 166 C dX4_takeMerged_162 (by decide) ?_
                refine g_iadd C dX4_takeMerged_166 ?_
                refine g_topi (nI_add _ _ : _ = nI (i + 1)) ?_
                refine g_istore (lv' := [(4, .int (nI (i + 1))), (10, .int (nI i)), (9, .ref a), (8, .int (nI 0)), (7, .int (-1)), (6, .int (nI s)), (5, .int (nI j)), (0, .ref p), (1, .ref a), (2, .ref b), (3, .int (nI w0))]) C dX4_takeMerged_167 (by decide) rfl ?_
                refine g_iload 6 C dX4_takeMerged_169 rfl ?_
                refine g_iload 4 C dX4_takeMerged_171 rfl ?_
                refine g_if_lt 180 C dX4_takeMerged_173 (by decide) (fun _ => ?_) (fun c => absurd c (by decide))
                refine g_iconst (v := nI 0) C dX4_takeMerged_180 (by decide) ?_
                refine g_iadd C dX4_takeMerged_181 ?_
                refine g_topi (nI_add _ _ : _ = nI (j + 0)) ?_
                refine g_istore (lv' := [(5, .int (nI (j + 0))), (4, .int (nI (i + 1))), (10, .int (nI i)), (9, .ref a), (8, .int (nI 0)), (7, .int (-1)), (6, .int (nI s)), (0, .ref p), (1, .ref a), (2, .ref b), (3, .int (nI w0))]) C dX4_takeMerged_182 (by decide) rfl ?_
                refine g_iinc (v := nI (s + 1)) (lv' := [(6, .int (nI (s + 1))), (5, .int (nI (j + 0))), (4, .int (nI (i + 1))), (10, .int (nI i)), (9, .ref a), (8, .int (nI 0)), (7, .int (-1)), (0, .ref p), (1, .ref a), (2, .ref b), (3, .int (nI w0))]) 6 C dX4_takeMerged_184 rfl (nI_add _ 1) (by decide) rfl ?_
                refine g_goto 14 C dX4_takeMerged_187 (by decide) ?_
                refine Go.pick (lv' := [(6, .int (nI (s + 1))), (5, .int (nI (j + 0))), (4, .int (nI (i + 1))), (0, .ref p), (1, .ref a), (2, .ref b), (3, .int (nI w0))]) [0, 1, 2, 7, 8, 9, 10] rfl ?_
                rw [if_neg (fun z => hw1 ((go_lt g1).mp z))] at hS
                exact ih_ (s + 1) (i + 1) (j) pl S2 (by omega) ⟨by omega, by omega, hS, hf, hmu, hp2⟩
              · have hw1 : w0 ≠ 1 := c76
                refine g_iconst (v := nI 1) C dX4_takeMerged_79 (by decide) ?_
                refine g_goto 96 C dX4_takeMerged_80 (by decide) ?_
                refine g_istore (lv' := [(8, .int (nI 1)), (7, .int (-1)), (6, .int (nI s)), (5, .int (nI j)), (4, .int (nI i)), (0, .ref p), (1, .ref a), (2, .ref b), (3, .int (nI w0))]) C dX4_takeMerged_96 (by decide) rfl ?_
                refine g_iload 1 C dX4_takeMerged_98 rfl ?_
                refine g_if_gt 107 C dX4_takeMerged_100 (by decide) (fun c => absurd c (by decide)) (fun _ => ?_)
                refine g_aload_n 6 1 C dX4_takeMerged_103 rfl rfl ?_
                refine g_goto 108 C dX4_takeMerged_104 (by decide) ?_
                refine g_astore (lv' := [(9, .ref a), (8, .int (nI 1)), (7, .int (-1)), (6, .int (nI s)), (5, .int (nI j)), (4, .int (nI i)), (0, .ref p), (1, .ref a), (2, .ref b), (3, .int (nI w0))]) C dX4_takeMerged_108 (by decide) rfl ?_
                refine g_iload 2 C dX4_takeMerged_110 rfl ?_
                refine g_if_gt 120 C dX4_takeMerged_112 (by decide) (fun c => absurd c (by decide)) (fun _ => ?_)
                refine g_iload 5 C dX4_takeMerged_115 rfl ?_
                refine g_goto 122 C dX4_takeMerged_117 (by decide) ?_
                refine g_istore (lv' := [(10, .int (nI i)), (9, .ref a), (8, .int (nI 1)), (7, .int (-1)), (6, .int (nI s)), (5, .int (nI j)), (4, .int (nI i)), (0, .ref p), (1, .ref a), (2, .ref b), (3, .int (nI w0))]) C dX4_takeMerged_122 (by decide) rfl ?_
                refine g_iload 2 C dX4_takeMerged_124 rfl ?_
                refine g_nif_eq 154 (by decide) C dX4_takeMerged_126 (by decide) (fun c => absurd c (by decide)) (fun _ => ?_)
                obtain ⟨m_, m1, m2, m3, m4⟩ := ha2.2.2.2.2.2.2 i o2
                refine g_aload_n 7 0 C dX4_takeMerged_129 rfl rfl ?_
                refine g_aload 1 C dX4_takeMerged_130 rfl ?_
                refine gr_ls_names C dX4_takeMerged_132 k_a wF_X4_17 ra_a ?_
                refine g_iload 0 C dX4_takeMerged_135 rfl ?_
                refine gar_nr_a C dX4_takeMerged_137 kn_a (by omega) (by omega) m1 ?_
                refine g_aload 1 C dX4_takeMerged_138 rfl ?_
                refine gr_ls_values C dX4_takeMerged_140 k_a wF_X4_21 rb_a ?_
                refine g_iload 0 C dX4_takeMerged_143 rfl ?_
                refine ga_vl_a C dX4_takeMerged_145 kv_a (by omega) (by omega) ?_
                refine g_topl (m4) ?_
                refine g_callV (As := [.ref m_, .long ((ent la i).2)]) (rest := []) C dX4_takeMerged_146 (c_L_append (v := (ent la i).2) hp2 m2 m3) wC_X4_append wM_X4_57 wI_X4_append wS_X4_append wN_X4 (kne hp2.1.1) (pf_5 hp2.1.1) rfl hd_X4_append ⟨by decide, by decide, by decide, by decide⟩ (Nat.le_of_ble_eq_true rfl) (fun r_ S3 h_ => ?_)
                obtain ⟨rfl, hf3, hmu3, hp3⟩ := h_
                change Go X G _ 11 _ _ S3 149 [(10, .int (nI i)), (9, .ref a), (8, .int (nI 1)), (7, .int (-1)), (6, .int (nI s)), (5, .int (nI j)), (4, .int (nI i)), (0, .ref p), (1, .ref a), (2, .ref b), (3, .int (nI w0))] [.int (bI (appB pl 100 (nm la i)))]
                rw [show appB pl 100 (ent la i).1 = decide (pl.length < 100) from app_ok g2] at hp3
                refine g_topi (show bI (appB pl 100 (nm la i)) = bI (decide (pl.length < 100)) by rw [app_ok g2]) ?_
                refine g_if_ne 154 C dX4_takeMerged_149 (by decide) (fun c149 => ?_) (fun c149 => ?_)
                · have hlt := of_decide_eq_true (bI_t c149)
                  rw [decide_eq_true hlt, if_pos rfl] at hp3
                  refine g_iload 6 C dX4_takeMerged_154 rfl ?_
                  refine g_iload 3 C dX4_takeMerged_156 rfl ?_
                  refine g_if_gt 165 C dX4_takeMerged_158 (by decide) (fun c => absurd c (by decide)) (fun _ => ?_)
                  refine g_iconst (v := nI 1) C dX4_takeMerged_161 (by decide) ?_
                  refine g_goto 166 C dX4_takeMerged_162 (by decide) ?_
                  refine g_iadd C dX4_takeMerged_166 ?_
                  refine g_topi (nI_add _ _ : _ = nI (i + 1)) ?_
                  refine g_istore (lv' := [(4, .int (nI (i + 1))), (10, .int (nI i)), (9, .ref a), (8, .int (nI 1)), (7, .int (-1)), (6, .int (nI s)), (5, .int (nI j)), (0, .ref p), (1, .ref a), (2, .ref b), (3, .int (nI w0))]) C dX4_takeMerged_167 (by decide) rfl ?_
                  refine g_iload 6 C dX4_takeMerged_169 rfl ?_
                  refine g_iload 4 C dX4_takeMerged_171 rfl ?_
                  refine g_if_lt 180 C dX4_takeMerged_173 (by decide) (fun _ => ?_) (fun c => absurd c (by decide))
                  refine g_iconst (v := nI 0) C dX4_takeMerged_180 (by decide) ?_
                  refine g_iadd C dX4_takeMerged_181 ?_
                  refine g_topi (nI_add _ _ : _ = nI (j + 0)) ?_
                  refine g_istore (lv' := [(5, .int (nI (j + 0))), (4, .int (nI (i + 1))), (10, .int (nI i)), (9, .ref a), (8, .int (nI 1)), (7, .int (-1)), (6, .int (nI s)), (0, .ref p), (1, .ref a), (2, .ref b), (3, .int (nI w0))]) C dX4_takeMerged_182 (by decide) rfl ?_
                  refine g_iinc (v := nI (s + 1)) (lv' := [(6, .int (nI (s + 1))), (5, .int (nI (j + 0))), (4, .int (nI (i + 1))), (10, .int (nI i)), (9, .ref a), (8, .int (nI 1)), (7, .int (-1)), (0, .ref p), (1, .ref a), (2, .ref b), (3, .int (nI w0))]) 6 C dX4_takeMerged_184 rfl (nI_add _ 1) (by decide) rfl ?_
                  refine g_goto 14 C dX4_takeMerged_187 (by decide) ?_
                  refine Go.pick (lv' := [(6, .int (nI (s + 1))), (5, .int (nI (j + 0))), (4, .int (nI (i + 1))), (0, .ref p), (1, .ref a), (2, .ref b), (3, .int (nI w0))]) [0, 1, 2, 7, 8, 9, 10] rfl ?_
                  rw [if_pos ((go_lt g1).mpr hw1)] at hS
                  exact ih_ (s + 1) (i + 1) (j) _ S3 (by omega) ⟨by omega, by omega, hS, hf.trans hf3 (fun _ _ h => h), hmu3.trans hmu, hp3⟩
                · have hge : ¬ pl.length < 100 := of_decide_eq_false (bI_f c149)
                  have hlen : pl.length ≤ 100 := hp2.2.2.2.2.1
                  rw [decide_eq_false hge, if_neg (by decide)] at hp3
                  rw [if_pos ((go_lt g1).mpr hw1)] at hS
                  have hbig := hS.len
                  rw [List.length_append] at hbig
                  have hbig2 : pl.length + 1 ≤ (mergeL la lb w0).length := hbig
                  refine g_iconst (v := nI 0) C dX4_takeMerged_152 (by decide) ?_
                  exact g_zret C dX4_takeMerged_153 (by decide) (by decide) (Or.inl rfl) ⟨pl, by rw [decide_eq_false (by omega)]; rfl, hf.trans hf3 (fun _ _ h => h), hmu3.trans hmu, hp3, fun z => by omega⟩
            · refine g_topi o1 ?_
              obtain ⟨hS, g2, g1⟩ := hM.stepE oa.2.2 ob.2.2 o2 o3 o4
              refine g_istore (lv' := [(7, .int (nI 0)), (6, .int (nI s)), (5, .int (nI j)), (4, .int (nI i)), (0, .ref p), (1, .ref a), (2, .ref b), (3, .int (nI w0))]) C dX4_takeMerged_49 (by decide) rfl ?_
              refine g_iload 0 C dX4_takeMerged_51 rfl ?_
              refine g_nif_ne 69 (by decide) C dX4_takeMerged_53 (by decide) (fun c => absurd c (by decide)) (fun _ => ?_)
              refine g_iload_n 7 3 C dX4_takeMerged_56 rfl rfl ?_
              refine g_iconst (v := nI 2) C dX4_takeMerged_57 (by decide) ?_
              refine g_ncmp_eq 65 (by omega) (by omega) C dX4_takeMerged_58 (by decide) (fun c58 => ?_) (fun c58 => ?_)
              · have hw1 : ¬ w0 ≠ 2 := fun z => z c58
                refine g_iconst (v := nI 0) C dX4_takeMerged_65 (by decide) ?_
                refine g_goto 96 C dX4_takeMerged_66 (by decide) ?_
                refine g_istore (lv' := [(8, .int (nI 0)), (7, .int (nI 0)), (6, .int (nI s)), (5, .int (nI j)), (4, .int (nI i)), (0, .ref p), (1, .ref a), (2, .ref b), (3, .int (nI w0))]) C dX4_takeMerged_96 (by decide) rfl ?_
                refine g_iload 1 C dX4_takeMerged_98 rfl ?_
                refine g_nif_gt 107 (by decide) C dX4_takeMerged_100 (by decide) (fun c => absurd c (by decide)) (fun _ => ?_)
                refine g_aload_n 6 1 C dX4_takeMerged_103 rfl rfl ?_
                refine g_goto 108 C dX4_takeMerged_104 (by decide) ?_
                refine g_astore (lv' := [(9, .ref a), (8, .int (nI 0)), (7, .int (nI 0)), (6, .int (nI s)), (5, .int (nI j)), (4, .int (nI i)), (0, .ref p), (1, .ref a), (2, .ref b), (3, .int (nI w0))]) C dX4_takeMerged_108 (by decide) rfl ?_
                refine g_iload 2 C dX4_takeMerged_110 rfl ?_
                refine g_nif_gt 120 (by decide) C dX4_takeMerged_112 (by decide) (fun c => absurd c (by decide)) (fun _ => ?_)
                refine g_iload 5 C dX4_takeMerged_115 rfl ?_
                refine g_goto 122 C dX4_takeMerged_117 (by decide) ?_
                refine g_istore (lv' := [(10, .int (nI i)), (9, .ref a), (8, .int (nI 0)), (7, .int (nI 0)), (6, .int (nI s)), (5, .int (nI j)), (4, .int (nI i)), (0, .ref p), (1, .ref a), (2, .ref b), (3, .int (nI w0))]) C dX4_takeMerged_122 (by decide) rfl ?_
                refine g_iload 2 C dX4_takeMerged_124 rfl ?_
                refine g_nif_eq 154 (by decide) C dX4_takeMerged_126 (by decide) (fun _ => ?_) (fun c => absurd c (by decide))
                refine g_iload 6 C dX4_takeMerged_154 rfl ?_
                refine g_iload 3 C dX4_takeMerged_156 rfl ?_
                refine g_nif_gt 165 (by decide) C dX4_takeMerged_158 (by decide) (fun c => absurd c (by decide)) (fun _ => ?_)
                refine g_iconst (v := nI 1) C dX4_takeMerged_161 (by decide) ?_
                refine g_goto 166 C dX4_takeMerged_162 (by decide) ?_
                refine g_iadd C dX4_takeMerged_166 ?_
                refine g_topi (nI_add _ _ : _ = nI (i + 1)) ?_
                refine g_istore (lv' := [(4, .int (nI (i + 1))), (10, .int (nI i)), (9, .ref a), (8, .int (nI 0)), (7, .int (nI 0)), (6, .int (nI s)), (5, .int (nI j)), (0, .ref p), (1, .ref a), (2, .ref b), (3, .int (nI w0))]) C dX4_takeMerged_167 (by decide) rfl ?_
                refine g_iload 6 C dX4_takeMerged_169 rfl ?_
                refine g_iload 4 C dX4_takeMerged_171 rfl ?_
                refine g_nif_lt 180 (by omega) C dX4_takeMerged_173 (by decide) ?_
                refine g_iconst (v := nI 1) C dX4_takeMerged_176 (by decide) ?_
                refine g_goto 181 C dX4_takeMerged_177 (by decide) ?_
                refine g_iadd C dX4_takeMerged_181 ?_
                refine g_topi (nI_add _ _ : _ = nI (j + 1)) ?_
                refine g_istore (lv' := [(5, .int (nI (j + 1))), (4, .int (nI (i + 1))), (10, .int (nI i)), (9, .ref a), (8, .int (nI 0)), (7, .int (nI 0)), (6, .int (nI s)), (0, .ref p), (1, .ref a), (2, .ref b), (3, .int (nI w0))]) C dX4_takeMerged_182 (by decide) rfl ?_
                refine g_iinc (v := nI (s + 1)) (lv' := [(6, .int (nI (s + 1))), (5, .int (nI (j + 1))), (4, .int (nI (i + 1))), (10, .int (nI i)), (9, .ref a), (8, .int (nI 0)), (7, .int (nI 0)), (0, .ref p), (1, .ref a), (2, .ref b), (3, .int (nI w0))]) 6 C dX4_takeMerged_184 rfl (nI_add _ 1) (by decide) rfl ?_
                refine g_goto 14 C dX4_takeMerged_187 (by decide) ?_
                refine Go.pick (lv' := [(6, .int (nI (s + 1))), (5, .int (nI (j + 1))), (4, .int (nI (i + 1))), (0, .ref p), (1, .ref a), (2, .ref b), (3, .int (nI w0))]) [0, 1, 2, 7, 8, 9, 10] rfl ?_
                rw [if_neg (fun z => hw1 ((go_eq g1 hw).mp z))] at hS
                exact ih_ (s + 1) (i + 1) (j + 1) pl S2 (by omega) ⟨by omega, by omega, hS, hf, hmu, hp2⟩
              · have hw1 : w0 ≠ 2 := c58
                refine g_iconst (v := nI 1) C dX4_takeMerged_61 (by decide) ?_
                refine g_goto 96 C dX4_takeMerged_62 (by decide) ?_
                refine g_istore (lv' := [(8, .int (nI 1)), (7, .int (nI 0)), (6, .int (nI s)), (5, .int (nI j)), (4, .int (nI i)), (0, .ref p), (1, .ref a), (2, .ref b), (3, .int (nI w0))]) C dX4_takeMerged_96 (by decide) rfl ?_
                refine g_iload 1 C dX4_takeMerged_98 rfl ?_
                refine g_nif_gt 107 (by decide) C dX4_takeMerged_100 (by decide) (fun c => absurd c (by decide)) (fun _ => ?_)
                refine g_aload_n 6 1 C dX4_takeMerged_103 rfl rfl ?_
                refine g_goto 108 C dX4_takeMerged_104 (by decide) ?_
                refine g_astore (lv' := [(9, .ref a), (8, .int (nI 1)), (7, .int (nI 0)), (6, .int (nI s)), (5, .int (nI j)), (4, .int (nI i)), (0, .ref p), (1, .ref a), (2, .ref b), (3, .int (nI w0))]) C dX4_takeMerged_108 (by decide) rfl ?_
                refine g_iload 2 C dX4_takeMerged_110 rfl ?_
                refine g_nif_gt 120 (by decide) C dX4_takeMerged_112 (by decide) (fun c => absurd c (by decide)) (fun _ => ?_)
                refine g_iload 5 C dX4_takeMerged_115 rfl ?_
                refine g_goto 122 C dX4_takeMerged_117 (by decide) ?_
                refine g_istore (lv' := [(10, .int (nI i)), (9, .ref a), (8, .int (nI 1)), (7, .int (nI 0)), (6, .int (nI s)), (5, .int (nI j)), (4, .int (nI i)), (0, .ref p), (1, .ref a), (2, .ref b), (3, .int (nI w0))]) C dX4_takeMerged_122 (by decide) rfl ?_
                refine g_iload 2 C dX4_takeMerged_124 rfl ?_
                refine g_nif_eq 154 (by decide) C dX4_takeMerged_126 (by decide) (fun c => absurd c (by decide)) (fun _ => ?_)
                obtain ⟨m_, m1, m2, m3, m4⟩ := ha2.2.2.2.2.2.2 i o2
                refine g_aload_n 7 0 C dX4_takeMerged_129 rfl rfl ?_
                refine g_aload 1 C dX4_takeMerged_130 rfl ?_
                refine gr_ls_names C dX4_takeMerged_132 k_a wF_X4_17 ra_a ?_
                refine g_iload 0 C dX4_takeMerged_135 rfl ?_
                refine gar_nr_a C dX4_takeMerged_137 kn_a (by omega) (by omega) m1 ?_
                refine g_aload 1 C dX4_takeMerged_138 rfl ?_
                refine gr_ls_values C dX4_takeMerged_140 k_a wF_X4_21 rb_a ?_
                refine g_iload 0 C dX4_takeMerged_143 rfl ?_
                refine ga_vl_a C dX4_takeMerged_145 kv_a (by omega) (by omega) ?_
                refine g_topl (m4) ?_
                refine g_callV (As := [.ref m_, .long ((ent la i).2)]) (rest := []) C dX4_takeMerged_146 (c_L_append (v := (ent la i).2) hp2 m2 m3) wC_X4_append wM_X4_57 wI_X4_append wS_X4_append wN_X4 (kne hp2.1.1) (pf_5 hp2.1.1) rfl hd_X4_append ⟨by decide, by decide, by decide, by decide⟩ (Nat.le_of_ble_eq_true rfl) (fun r_ S3 h_ => ?_)
                obtain ⟨rfl, hf3, hmu3, hp3⟩ := h_
                change Go X G _ 11 _ _ S3 149 [(10, .int (nI i)), (9, .ref a), (8, .int (nI 1)), (7, .int (nI 0)), (6, .int (nI s)), (5, .int (nI j)), (4, .int (nI i)), (0, .ref p), (1, .ref a), (2, .ref b), (3, .int (nI w0))] [.int (bI (appB pl 100 (nm la i)))]
                rw [show appB pl 100 (ent la i).1 = decide (pl.length < 100) from app_ok g2] at hp3
                refine g_topi (show bI (appB pl 100 (nm la i)) = bI (decide (pl.length < 100)) by rw [app_ok g2]) ?_
                refine g_if_ne 154 C dX4_takeMerged_149 (by decide) (fun c149 => ?_) (fun c149 => ?_)
                · have hlt := of_decide_eq_true (bI_t c149)
                  rw [decide_eq_true hlt, if_pos rfl] at hp3
                  refine g_iload 6 C dX4_takeMerged_154 rfl ?_
                  refine g_iload 3 C dX4_takeMerged_156 rfl ?_
                  refine g_nif_gt 165 (by decide) C dX4_takeMerged_158 (by decide) (fun c => absurd c (by decide)) (fun _ => ?_)
                  refine g_iconst (v := nI 1) C dX4_takeMerged_161 (by decide) ?_
                  refine g_goto 166 C dX4_takeMerged_162 (by decide) ?_
                  refine g_iadd C dX4_takeMerged_166 ?_
                  refine g_topi (nI_add _ _ : _ = nI (i + 1)) ?_
                  refine g_istore (lv' := [(4, .int (nI (i + 1))), (10, .int (nI i)), (9, .ref a), (8, .int (nI 1)), (7, .int (nI 0)), (6, .int (nI s)), (5, .int (nI j)), (0, .ref p), (1, .ref a), (2, .ref b), (3, .int (nI w0))]) C dX4_takeMerged_167 (by decide) rfl ?_
                  refine g_iload 6 C dX4_takeMerged_169 rfl ?_
                  refine g_iload 4 C dX4_takeMerged_171 rfl ?_
                  refine g_nif_lt 180 (by omega) C dX4_takeMerged_173 (by decide) ?_
                  refine g_iconst (v := nI 1) C dX4_takeMerged_176 (by decide) ?_
                  refine g_goto 181 C dX4_takeMerged_177 (by decide) ?_
                  refine g_iadd C dX4_takeMerged_181 ?_
                  refine g_topi (nI_add _ _ : _ = nI (j + 1)) ?_
                  refine g_istore (lv' := [(5, .int (nI (j + 1))), (4, .int (nI (i + 1))), (10, .int (nI i)), (9, .ref a), (8, .int (nI 1)), (7, .int (nI 0)), (6, .int (nI s)), (0, .ref p), (1, .ref a), (2, .ref b), (3, .int (nI w0))]) C dX4_takeMerged_182 (by decide) rfl ?_
                  refine g_iinc (v := nI (s + 1)) (lv' := [(6, .int (nI (s + 1))), (5, .int (nI (j + 1))), (4, .int (nI (i + 1))), (10, .int (nI i)), (9, .ref a), (8, .int (nI 1)), (7, .int (nI 0)), (0, .ref p), (1, .ref a), (2, .ref b), (3, .int (nI w0))]) 6 C dX4_takeMerged_184 rfl (nI_add _ 1) (by decide) rfl ?_
                  refine g_goto 14 C dX4_takeMerged_187 (by decide) ?_
                  refine Go.pick (lv' := [(6, .int (nI (s + 1))), (5, .int (nI (j + 1))), (4, .int (nI (i + 1))), (0, .ref p), (1, .ref a), (2, .ref b), (3, .int (nI w0))]) [0, 1, 2, 7, 8, 9, 10] rfl ?_
                  rw [if_pos ((go_eq g1 hw).mpr hw1)] at hS
                  exact ih_ (s + 1) (i + 1) (j + 1) _ S3 (by omega) ⟨by omega, by omega, hS, hf.trans hf3 (fun _ _ h => h), hmu3.trans hmu, hp3⟩
                · have hge : ¬ pl.length < 100 := of_decide_eq_false (bI_f c149)
                  have hlen : pl.length ≤ 100 := hp2.2.2.2.2.1
                  rw [decide_eq_false hge, if_neg (by decide)] at hp3
                  rw [if_pos ((go_eq g1 hw).mpr hw1)] at hS
                  have hbig := hS.len
                  rw [List.length_append] at hbig
                  have hbig2 : pl.length + 1 ≤ (mergeL la lb w0).length := hbig
                  refine g_iconst (v := nI 0) C dX4_takeMerged_152 (by decide) ?_
                  exact g_zret C dX4_takeMerged_153 (by decide) (by decide) (Or.inl rfl) ⟨pl, by rw [decide_eq_false (by omega)]; rfl, hf.trans hf3 (fun _ _ h => h), hmu3.trans hmu, hp3, fun z => by omega⟩
            · refine g_topi o1 ?_
              obtain ⟨g1, g2⟩ := hM.gt oa.2.2 ob.2.2 o2 o3
              have hS := hM.stepB oa.2.2 ob.2.2 o2 o3
              refine g_istore (lv' := [(7, .int (nI 1)), (6, .int (nI s)), (5, .int (nI j)), (4, .int (nI i)), (0, .ref p), (1, .ref a), (2, .ref b), (3, .int (nI w0))]) C dX4_takeMerged_49 (by decide) rfl ?_
              refine g_iload 0 C dX4_takeMerged_51 rfl ?_
              refine g_nif_ne 69 (by decide) C dX4_takeMerged_53 (by decide) (fun _ => ?_) (fun c => absurd c (by decide))
              refine g_iload 0 C dX4_takeMerged_69 rfl ?_
              refine g_nif_ge 87 (by omega) C dX4_takeMerged_71 (by decide) ?_
              refine g_iload_n 7 3 C dX4_takeMerged_87 rfl rfl ?_
              refine g_nif_ne 95 (by omega) C dX4_takeMerged_88 (by decide) (fun c88 => ?_) (fun c88 => ?_)
              · have hw1 : ¬ w0 = 0 := c88
                refine g_iconst (v := nI 0) C dX4_takeMerged_95 (by decide) ?_
                refine g_istore (lv' := [(8, .int (nI 0)), (7, .int (nI 1)), (6, .int (nI s)), (5, .int (nI j)), (4, .int (nI i)), (0, .ref p), (1, .ref a), (2, .ref b), (3, .int (nI w0))]) C dX4_takeMerged_96 (by decide) rfl ?_
                refine g_iload 1 C dX4_takeMerged_98 rfl ?_
                refine g_nif_gt 107 (by decide) C dX4_takeMerged_100 (by decide) (fun _ => ?_) (fun c => absurd c (by decide))
                refine g_aload_n 7 2 C dX4_takeMerged_107 rfl rfl ?_
                refine g_astore (lv' := [(9, .ref b), (8, .int (nI 0)), (7, .int (nI 1)), (6, .int (nI s)), (5, .int (nI j)), (4, .int (nI i)), (0, .ref p), (1, .ref a), (2, .ref b), (3, .int (nI w0))]) C dX4_takeMerged_108 (by decide) rfl ?_
                refine g_iload 2 C dX4_takeMerged_110 rfl ?_
                refine g_nif_gt 120 (by decide) C dX4_takeMerged_112 (by decide) (fun _ => ?_) (fun c => absurd c (by decide))
                refine g_iload 4 C dX4_takeMerged_120 rfl ?_
                refine g_istore (lv' := [(10, .int (nI j)), (9, .ref b), (8, .int (nI 0)), (7, .int (nI 1)), (6, .int (nI s)), (5, .int (nI j)), (4, .int (nI i)), (0, .ref p), (1, .ref a), (2, .ref b), (3, .int (nI w0))]) C dX4_takeMerged_122 (by decide) rfl ?_
                refine g_iload 2 C dX4_takeMerged_124 rfl ?_
                refine g_nif_eq 154 (by decide) C dX4_takeMerged_126 (by decide) (fun _ => ?_) (fun c => absurd c (by decide))
                refine g_iload 6 C dX4_takeMerged_154 rfl ?_
                refine g_iload 3 C dX4_takeMerged_156 rfl ?_
                refine g_nif_gt 165 (by decide) C dX4_takeMerged_158 (by decide) (fun _ => ?_) (fun c => absurd c (by decide))
                refine g_iconst (v := nI 0) C dX4_takeMerged_165 (by decide) ?_
                refine g_iadd C dX4_takeMerged_166 ?_
                refine g_topi (nI_add _ _ : _ = nI (i + 0)) ?_
                refine g_istore (lv' := [(4, .int (nI (i + 0))), (10, .int (nI j)), (9, .ref b), (8, .int (nI 0)), (7, .int (nI 1)), (6, .int (nI s)), (5, .int (nI j)), (0, .ref p), (1, .ref a), (2, .ref b), (3, .int (nI w0))]) C dX4_takeMerged_167 (by decide) rfl ?_
                refine g_iload 6 C dX4_takeMerged_169 rfl ?_
                refine g_iload 4 C dX4_takeMerged_171 rfl ?_
                refine g_nif_lt 180 (by omega) C dX4_takeMerged_173 (by decide) ?_
                refine g_iconst (v := nI 1) C dX4_takeMerged_176 (by decide) ?_
                refine g_goto 181 C dX4_takeMerged_177 (by decide) ?_
                refine g_iadd C dX4_takeMerged_181 ?_
                refine g_topi (nI_add _ _ : _ = nI (j + 1)) ?_
                refine g_istore (lv' := [(5, .int (nI (j + 1))), (4, .int (nI (i + 0))), (10, .int (nI j)), (9, .ref b), (8, .int (nI 0)), (7, .int (nI 1)), (6, .int (nI s)), (0, .ref p), (1, .ref a), (2, .ref b), (3, .int (nI w0))]) C dX4_takeMerged_182 (by decide) rfl ?_
                refine g_iinc (v := nI (s + 1)) (lv' := [(6, .int (nI (s + 1))), (5, .int (nI (j + 1))), (4, .int (nI (i + 0))), (10, .int (nI j)), (9, .ref b), (8, .int (nI 0)), (7, .int (nI 1)), (0, .ref p), (1, .ref a), (2, .ref b), (3, .int (nI w0))]) 6 C dX4_takeMerged_184 rfl (nI_add _ 1) (by decide) rfl ?_
                refine g_goto 14 C dX4_takeMerged_187 (by decide) ?_
                refine Go.pick (lv' := [(6, .int (nI (s + 1))), (5, .int (nI (j + 1))), (4, .int (nI (i + 0))), (0, .ref p), (1, .ref a), (2, .ref b), (3, .int (nI w0))]) [0, 1, 2, 7, 8, 9, 10] rfl ?_
                rw [if_neg hw1] at hS
                exact ih_ (s + 1) (i) (j + 1) pl S2 (by omega) ⟨by omega, by omega, hS, hf, hmu, hp2⟩
              · have hw1 : w0 = 0 := c88
                refine g_iconst (v := nI 1) C dX4_takeMerged_91 (by decide) ?_
                refine g_goto 96 C dX4_takeMerged_92 (by decide) ?_
                refine g_istore (lv' := [(8, .int (nI 1)), (7, .int (nI 1)), (6, .int (nI s)), (5, .int (nI j)), (4, .int (nI i)), (0, .ref p), (1, .ref a), (2, .ref b), (3, .int (nI w0))]) C dX4_takeMerged_96 (by decide) rfl ?_
                refine g_iload 1 C dX4_takeMerged_98 rfl ?_
                refine g_nif_gt 107 (by decide) C dX4_takeMerged_100 (by decide) (fun _ => ?_) (fun c => absurd c (by decide))
                refine g_aload_n 7 2 C dX4_takeMerged_107 rfl rfl ?_
                refine g_astore (lv' := [(9, .ref b), (8, .int (nI 1)), (7, .int (nI 1)), (6, .int (nI s)), (5, .int (nI j)), (4, .int (nI i)), (0, .ref p), (1, .ref a), (2, .ref b), (3, .int (nI w0))]) C dX4_takeMerged_108 (by decide) rfl ?_
                refine g_iload 2 C dX4_takeMerged_110 rfl ?_
                refine g_nif_gt 120 (by decide) C dX4_takeMerged_112 (by decide) (fun _ => ?_) (fun c => absurd c (by decide))
                refine g_iload 4 C dX4_takeMerged_120 rfl ?_
                refine g_istore (lv' := [(10, .int (nI j)), (9, .ref b), (8, .int (nI 1)), (7, .int (nI 1)), (6, .int (nI s)), (5, .int (nI j)), (4, .int (nI i)), (0, .ref p), (1, .ref a), (2, .ref b), (3, .int (nI w0))]) C dX4_takeMerged_122 (by decide) rfl ?_
                refine g_iload 2 C dX4_takeMerged_124 rfl ?_
                refine g_nif_eq 154 (by decide) C dX4_takeMerged_126 (by decide) (fun c => absurd c (by decide)) (fun _ => ?_)
                obtain ⟨m_, m1, m2, m3, m4⟩ := hb2.2.2.2.2.2.2 j o2
                refine g_aload_n 7 0 C dX4_takeMerged_129 rfl rfl ?_
                refine g_aload 1 C dX4_takeMerged_130 rfl ?_
                refine gr_ls_names C dX4_takeMerged_132 k_b wF_X4_17 ra_b ?_
                refine g_iload 0 C dX4_takeMerged_135 rfl ?_
                refine gar_nr_a C dX4_takeMerged_137 kn_b (by omega) (by omega) m1 ?_
                refine g_aload 1 C dX4_takeMerged_138 rfl ?_
                refine gr_ls_values C dX4_takeMerged_140 k_b wF_X4_21 rb_b ?_
                refine g_iload 0 C dX4_takeMerged_143 rfl ?_
                refine ga_vl_a C dX4_takeMerged_145 kv_b (by omega) (by omega) ?_
                refine g_topl (m4) ?_
                refine g_callV (As := [.ref m_, .long ((ent lb j).2)]) (rest := []) C dX4_takeMerged_146 (c_L_append (v := (ent lb j).2) hp2 m2 m3) wC_X4_append wM_X4_57 wI_X4_append wS_X4_append wN_X4 (kne hp2.1.1) (pf_5 hp2.1.1) rfl hd_X4_append ⟨by decide, by decide, by decide, by decide⟩ (Nat.le_of_ble_eq_true rfl) (fun r_ S3 h_ => ?_)
                obtain ⟨rfl, hf3, hmu3, hp3⟩ := h_
                change Go X G _ 11 _ _ S3 149 [(10, .int (nI j)), (9, .ref b), (8, .int (nI 1)), (7, .int (nI 1)), (6, .int (nI s)), (5, .int (nI j)), (4, .int (nI i)), (0, .ref p), (1, .ref a), (2, .ref b), (3, .int (nI w0))] [.int (bI (appB pl 100 (nm lb j)))]
                rw [show appB pl 100 (ent lb j).1 = decide (pl.length < 100) from app_ok g2] at hp3
                refine g_topi (show bI (appB pl 100 (nm lb j)) = bI (decide (pl.length < 100)) by rw [app_ok g2]) ?_
                refine g_if_ne 154 C dX4_takeMerged_149 (by decide) (fun c149 => ?_) (fun c149 => ?_)
                · have hlt := of_decide_eq_true (bI_t c149)
                  rw [decide_eq_true hlt, if_pos rfl] at hp3
                  refine g_iload 6 C dX4_takeMerged_154 rfl ?_
                  refine g_iload 3 C dX4_takeMerged_156 rfl ?_
                  refine g_nif_gt 165 (by decide) C dX4_takeMerged_158 (by decide) (fun _ => ?_) (fun c => absurd c (by decide))
                  refine g_iconst (v := nI 0) C dX4_takeMerged_165 (by decide) ?_
                  refine g_iadd C dX4_takeMerged_166 ?_
                  refine g_topi (nI_add _ _ : _ = nI (i + 0)) ?_
                  refine g_istore (lv' := [(4, .int (nI (i + 0))), (10, .int (nI j)), (9, .ref b), (8, .int (nI 1)), (7, .int (nI 1)), (6, .int (nI s)), (5, .int (nI j)), (0, .ref p), (1, .ref a), (2, .ref b), (3, .int (nI w0))]) C dX4_takeMerged_167 (by decide) rfl ?_
                  refine g_iload 6 C dX4_takeMerged_169 rfl ?_
                  refine g_iload 4 C dX4_takeMerged_171 rfl ?_
                  refine g_nif_lt 180 (by omega) C dX4_takeMerged_173 (by decide) ?_
                  refine g_iconst (v := nI 1) C dX4_takeMerged_176 (by decide) ?_
                  refine g_goto 181 C dX4_takeMerged_177 (by decide) ?_
                  refine g_iadd C dX4_takeMerged_181 ?_
                  refine g_topi (nI_add _ _ : _ = nI (j + 1)) ?_
                  refine g_istore (lv' := [(5, .int (nI (j + 1))), (4, .int (nI (i + 0))), (10, .int (nI j)), (9, .ref b), (8, .int (nI 1)), (7, .int (nI 1)), (6, .int (nI s)), (0, .ref p), (1, .ref a), (2, .ref b), (3, .int (nI w0))]) C dX4_takeMerged_182 (by decide) rfl ?_
                  refine g_iinc (v := nI (s + 1)) (lv' := [(6, .int (nI (s + 1))), (5, .int (nI (j + 1))), (4, .int (nI (i + 0))), (10, .int (nI j)), (9, .ref b), (8, .int (nI 1)), (7, .int (nI 1)), (0, .ref p), (1, .ref a), (2, .ref b), (3, .int (nI w0))]) 6 C dX4_takeMerged_184 rfl (nI_add _ 1) (by decide) rfl ?_
                  refine g_goto 14 C dX4_takeMerged_187 (by decide) ?_
                  refine Go.pick (lv' := [(6, .int (nI (s + 1))), (5, .int (nI (j + 1))), (4, .int (nI (i + 0))), (0, .ref p), (1, .ref a), (2, .ref b), (3, .int (nI w0))]) [0, 1, 2, 7, 8, 9, 10] rfl ?_
                  rw [if_pos hw1] at hS
                  exact ih_ (s + 1) (i) (j + 1) _ S3 (by omega) ⟨by omega, by omega, hS, hf.trans hf3 (fun _ _ h => h), hmu3.trans hmu, hp3⟩
                · have hge : ¬ pl.length < 100 := of_decide_eq_false (bI_f c149)
                  have hlen : pl.length ≤ 100 := hp2.2.2.2.2.1
                  rw [decide_eq_false hge, if_neg (by decide)] at hp3
                  rw [if_pos hw1] at hS
                  have hbig := hS.len
                  rw [List.length_append] at hbig
                  have hbig2 : pl.length + 1 ≤ (mergeL la lb w0).length := hbig
                  refine g_iconst (v := nI 0) C dX4_takeMerged_152 (by decide) ?_
                  exact g_zret C dX4_takeMerged_153 (by decide) (by decide) (Or.inl rfl) ⟨pl, by rw [decide_eq_false (by omega)]; rfl, hf.trans hf3 (fun _ _ h => h), hmu3.trans hmu, hp3, fun z => by omega⟩
  exact lp 201 0 0 0 [] _ (by omega) ⟨by omega, by omega, MI.zero la lb w0, (Fr.refl S _).u_ls_size (Fb.of hp.1.1 (Or.inl rfl)), rfl, h00⟩
