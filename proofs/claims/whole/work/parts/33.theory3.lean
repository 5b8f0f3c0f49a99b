/-- the row of a tree up to node v -/
def lvB (l : List Ent) (pr : Bool) (v : Nat) : List Nat := (List.range v).flatMap fun u => List.replicate ((trS l pr (u + 1)).length - (trS l pr u).length) 1 ++ [0]
theorem lvB_succ (l : List Ent) (pr : Bool) (v : Nat) : lvB l pr (v + 1) = lvB l pr v ++ (List.replicate ((trS l pr (v + 1)).length - (trS l pr v).length) 1 ++ [0]) := by
  unfold lvB
  rw [List.range_succ, List.flatMap_append, List.flatMap_cons, List.flatMap_nil, List.append_nil]
theorem trS_mono (l : List Ent) (pr : Bool) (v : Nat) : (trS l pr v).length ≤ (trS l pr (v + 1)).length := by
  show _ ≤ (if v < (trS l pr v).length then _ else _ : List Nd).length
  split
  · rw [List.length_append]; omega
  · exact Nat.le_refl _
theorem trS_pre {l : List Ent} {pr : Bool} {v i : Nat} (h : i < (trS l pr v).length) : ∀ k, i < (trS l pr (v + k)).length ∧ (trS l pr (v + k)).getD i (0, 0, 0, 0) = (trS l pr v).getD i (0, 0, 0, 0) := by
  intro k
  induction k with
  | zero => exact ⟨h, rfl⟩
  | succ k ih =>
    have e : trS l pr (v + (k + 1)) = if v + k < (trS l pr (v + k)).length then trS l pr (v + k) ++ kids l pr ((trS l pr (v + k)).getD (v + k) (0, 0, 0, 0)) else trS l pr (v + k) := rfl
    rw [e]
    split
    · rw [List.length_append, getD_app, if_pos ih.1]
      exact ⟨by omega, ih.2⟩
    · exact ih
theorem lvB_len {l : List Ent} {pr : Bool} (v : Nat) : (lvB l pr v).length + 1 = v + (trS l pr v).length := by
  induction v with
  | zero => rfl
  | succ v ih =>
    have := trS_mono l pr v
    rw [lvB_succ, List.length_append, List.length_append, List.length_replicate]
    show _ + (_ + 1) + 1 = _
    omega
/-- below the last node there is always a next one -/
theorem tr_lt {l : List Ent} {pr : Bool} {v : Nat} (hv : v ≤ 2402) (h : v < (tr l pr).length) : v < (trS l pr v).length := by
  rcases Nat.lt_or_ge v (trS l pr v).length with g | g
  · exact g
  · have e := trS_stop g (2402 - v)
    rw [show v + (2402 - v) = 2402 by omega] at e
    unfold tr at h
    rw [e] at h
    omega
theorem tr_get {l : List Ent} {pr : Bool} {v : Nat} (hv : v ≤ 2402) (h : v < (tr l pr).length) : (trS l pr v).getD v (0, 0, 0, 0) = ndAt l pr v := by
  have := (trS_pre (tr_lt hv h) (2402 - v)).2
  rw [show v + (2402 - v) = 2402 by omega] at this
  exact this.symm
theorem deg_eq {l : List Ent} {pr : Bool} {v : Nat} (hv : v ≤ 2402) (h : v < (tr l pr).length) : (kids l pr (ndAt l pr v)).length = (trS l pr (v + 1)).length - (trS l pr v).length := by
  rw [trS_succ (tr_lt hv h), List.length_append, tr_get hv h]
  omega
theorem list_range {α : Type} (l : List α) (d : α) : l = (List.range l.length).map fun i => l.getD i d := by
  apply List.ext_getElem
  · rw [List.length_map, List.length_range]
  · intro i h1 h2
    rw [List.getElem_map, List.getElem_range, List.getD_eq_getElem?_getD, List.getElem?_eq_getElem h1]
    rfl
theorem flatMap_congr2 {α β : Type} {l : List α} {f g : α → List β} (h : ∀ a ∈ l, f a = g a) : l.flatMap f = l.flatMap g := by
  induction l with
  | nil => rfl
  | cons a r ih => rw [List.flatMap_cons, List.flatMap_cons, h a List.mem_cons_self, ih fun b hb => h b (List.mem_cons_of_mem _ hb)]
theorem lvB_full {l : List Ent} (hl : okL l) (h0 : 0 < l.length) (pr : Bool) : lvB l pr (tr l pr).length = bitsT l pr := by
  have hn := trS_len hl h0 pr 2402
  unfold bitsT
  rw [show (tr l pr).flatMap (fun v => List.replicate (kids l pr v).length 1 ++ [0]) = ((List.range (tr l pr).length).map fun i => (tr l pr).getD i (0, 0, 0, 0)).flatMap (fun v => List.replicate (kids l pr v).length 1 ++ [0]) from by rw [← list_range]]
  rw [List.flatMap_map]
  unfold lvB
  refine flatMap_congr2 fun u hu => ?_
  have hu := List.mem_range.mp hu
  rw [← deg_eq (by unfold tr at hu; omega) hu]
  rfl
def mkV (l : List Ent) (pr : Bool) : Nat → Nat := sumN fun v => if isEndN l (ndAt l pr v) then 1 else 0
def ltV (l : List Ent) (w : Nat) (pr : Bool) : Nat → Nat := sumN fun v => if 0 < v ∧ ¬ (w = 4 ∧ again l (tr l pr) v = true) then (ndAt l pr v).2.2.1 - (ndAt l pr v).2.2.2 else 0
theorem tr_ok {l : List Ent} (hl : okL l) (h0 : 0 < l.length) (pr : Bool) : (tr l pr).length ≤ 2401 ∧ 1 ≤ (tr l pr).length ∧ ∀ u, u < (tr l pr).length → okNd l (ndAt l pr u) := by
  have key : ∀ n T, T = trS l pr n → T.length ≤ 2401 ∧ 1 ≤ T.length ∧ ∀ u, u < T.length → okNd l (T.getD u (0, 0, 0, 0)) := by
    intro n T e
    rw [e]
    refine ⟨trS_len hl h0 pr n, (trS_ok hl.2.2 h0 pr n).2.2, fun u hu => (trS_ok hl.2.2 h0 pr n).2.1 _ ?_⟩
    rw [List.getD_eq_getElem?_getD, List.getElem?_eq_getElem hu]
    exact List.getElem_mem hu
  exact key 2402 (tr l pr) (by unfold tr; rfl)
theorem ltV_le {l : List Ent} (hl : okL l) (h0 : 0 < l.length) {w : Nat} {pr : Bool} : ∀ v, v ≤ (tr l pr).length → ltV l w pr v ≤ 24 * v := by
  intro v
  induction v with
  | zero => intro _; exact Nat.le_refl _
  | succ v ih =>
    intro hv
    have a := ih (by omega)
    have b := (tr_ok hl h0 pr).2.2 v (by omega)
    have c := (hl.2.1 (ndAt l pr v).1 (by have := b.1; have := b.2.1; omega)).2.1
    have d := b.2.2.1
    show ltV l w pr v + (if 0 < v ∧ ¬ (w = 4 ∧ again l (tr l pr) v = true) then (ndAt l pr v).2.2.1 - (ndAt l pr v).2.2.2 else 0) ≤ _
    split <;> omega
