/-! the binder: where a node's names begin and end -/
def alC (l : List Ent) (k : Nat) : Nat := if k = 0 then 0 else alN l k
def pA (l : List Ent) (k d e : Nat) : Nat := k + 1 + fN (fun i => decide (d ≤ alN l (k + 1 + i))) (e - (k + 1))
def edg (l : List Ent) (v : Nd) : Prop := (v.1 = 0 ∨ alN l v.1 ≤ v.2.2.2) ∧ (v.2.1 = l.length ∨ alN l v.2.1 < v.2.2.1)
theorem pA_eq {l : List Ent} {k d e p : Nat} (h1 : k < p) (h2 : p ≤ e) (h3 : ∀ q, k < q → q < p → d ≤ alN l q) (h4 : p = e ∨ alN l p < d) : pA l k d e = p := by
  unfold pA
  rw [fN_eq (k := p - (k + 1)) (by omega) (fun j hj => decide_eq_true (h3 _ (by omega) (by omega))) ?_]
  · omega
  · rcases h4 with h | h
    · exact Or.inl (by omega)
    · exact Or.inr (decide_eq_false (by rw [show k + 1 + (p - (k + 1)) = p by omega]; omega))
theorem pA_node {l : List Ent} {v : Nd} (h : okNd l v) (he : edg l v) : pA l v.1 v.2.2.1 l.length = v.2.1 := by
  refine pA_eq h.1 h.2.1 h.2.2.2.1 ?_
  rcases he.2 with e | e
  · exact Or.inl e
  · exact Or.inr e
theorem pA_kid {l : List Ent} {k hi d : Nat} (hk : k < hi) (hh : hi ≤ l.length) (he : hi = l.length ∨ alN l hi < d) : pA l k (d + 1) l.length = gEnd l k hi d := by
  have g2 := gEnd_le (l := l) (d := d) hk
  refine pA_eq (gEnd_gt l k hi d) (by omega) (fun q a b => gEnd_al a b) ?_
  rcases Nat.lt_or_ge (gEnd l k hi d) hi with z | z
  · have := gEnd_stop z
    exact Or.inr (by omega)
  · rw [show gEnd l k hi d = hi by omega]
    rcases he with e | e
    · exact Or.inl e
    · exact Or.inr (by omega)
theorem gTo_eq {l : List Ent} {k e d m : Nat} (h24 : (nm l k).length ≤ 24) (hke : k < e) (hd : d < m) (h1 : m ≤ (nm l k).length) (h2 : ∀ q, k < q → q < e → m ≤ alN l q) (h3 : m = (nm l k).length ∨ ∃ q, k < q ∧ q < e ∧ alN l q = m) : gTo l k e d = m := by
  unfold gTo
  have ge : ∀ x, (∀ q, k < q → q < e → x < alN l q) → gEnd l k e x = e := fun x hx => by
    rcases Nat.lt_or_ge (gEnd l k e x) e with z | z
    · exact absurd (hx _ (gEnd_gt l k e x) z) (gEnd_stop z)
    · have := gEnd_le (l := l) (d := x) hke; omega
  rw [fN_eq (k := m - (d + 1)) (by omega) (fun j hj => by
    rw [Bool.and_eq_true]
    exact ⟨decide_eq_true (by omega), decide_eq_true (ge _ (fun q a b => by have := h2 q a b; omega))⟩) ?_]
  · omega
  · refine Or.inr ?_
    rw [show d + 1 + (m - (d + 1)) = m by omega]
    rcases h3 with h | ⟨q, a, b, c⟩
    · rw [decide_eq_false (by omega)]; rfl
    · rw [show decide (gEnd l k e m = e) = false from decide_eq_false (fun z => by have := gEnd_al (l := l) (k := k) (hi := e) (d := m) a (by rw [z]; exact b); omega), Bool.and_false]
/-- of the kids of a node that is so, each is so -/
theorem kidsF_edg {l : List Ent} {pr : Bool} {hi d : Nat} (he : hi = l.length ∨ alN l hi < d) : ∀ f k, (k < hi → k = 0 ∨ alN l k ≤ d) → ∀ v ∈ kidsF l pr hi d f k, edg l v := by
  intro f
  induction f with
  | zero => intro k _ v hv; exact absurd hv List.not_mem_nil
  | succ f ih =>
    intro k hk v hv
    unfold kidsF at hv
    by_cases g : k < hi
    · rw [if_pos g] at hv
      have g2 := gEnd_le (l := l) (d := d) g
      rcases List.mem_cons.mp hv with e | e
      · rw [e]
        refine ⟨hk g, ?_⟩
        show gEnd l k hi d = l.length ∨ alN l (gEnd l k hi d) < (if pr then gTo l k (gEnd l k hi d) d else d + 1)
        have hd : d < (if pr then gTo l k (gEnd l k hi d) d else d + 1) := by
          cases pr with
          | false => show d < d + 1; omega
          | true => exact gTo_gt l k (gEnd l k hi d) d
        rcases Nat.lt_or_ge (gEnd l k hi d) hi with z | z
        · have := gEnd_stop z
          exact Or.inr (by omega)
        · have e2 : gEnd l k hi d = hi := by omega
          rcases he with y | y
          · exact Or.inl (e2.trans y)
          · refine Or.inr (Nat.lt_trans ?_ hd)
            rw [e2]; exact y
      · exact ih _ (fun z => Or.inr (by have := gEnd_stop z; omega)) v e
    · rw [if_neg g] at hv; exact absurd hv List.not_mem_nil
theorem k0_al {l : List Ent} {v : Nd} (h : okNd l v) (he : edg l v) : kid0 l v = 0 ∨ alN l (kid0 l v) ≤ v.2.2.1 := by
  unfold kid0
  by_cases e : (nm l v.1).length = v.2.2.1
  · rw [if_pos e]
    refine Or.inr ?_
    have := lcp_le1 (nm l (v.1 + 1 - 1)) (nm l (v.1 + 1))
    rw [Nat.add_sub_cancel] at this
    unfold alN
    rw [Nat.add_sub_cancel]
    omega
  · rw [if_neg e]
    have := h.2.2.2.2
    rcases he.1 with z | z
    · exact Or.inl z
    · exact Or.inr (by omega)
theorem kids_edg {l : List Ent} {pr : Bool} {v : Nd} (h : okNd l v) (he : edg l v) : ∀ u ∈ kids l pr v, edg l u := by
  rw [← kids_eq]
  exact kidsF_edg he.2 _ _ (fun _ => k0_al h he)
theorem trS_edg {l : List Ent} (hs : sortedL l) (h0 : 0 < l.length) (pr : Bool) : ∀ v, ∀ u ∈ trS l pr v, edg l u := by
  intro v
  induction v with
  | zero => intro u hu; rw [List.mem_singleton.mp hu]; exact ⟨Or.inl rfl, Or.inl rfl⟩
  | succ v ih =>
    intro u hu
    unfold trS at hu
    by_cases g : v < (trS l pr v).length
    · rw [if_pos g] at hu
      have hm : (trS l pr v).getD v (0, 0, 0, 0) ∈ trS l pr v := by
        rw [List.getD_eq_getElem?_getD, List.getElem?_eq_getElem g]; exact List.getElem_mem g
      rcases List.mem_append.mp hu with e | e
      · exact ih u e
      · exact kids_edg ((trS_ok hs h0 pr v).2.1 _ hm) (ih _ hm) u e
    · rw [if_neg g] at hu; exact ih u hu
/-- the binder's scan over a node's names: W is added, from k on no kid before nx -/
def takes (l : List Ent) (d k : Nat) : Bool := decide (d < (nm l k).length) && decide (alC l k ≤ d)
def scI (l : List Ent) (pr : Bool) (v : Nd) (W : List Nd) (k : Nat) : Prop := ∃ f nx, W ++ kidsF l pr v.2.1 v.2.2.1 f nx = kids l pr v ∧ k ≤ nx ∧ nx ≤ v.2.1 ∧ v.2.1 - nx < f ∧ okK l v.2.1 v.2.2.1 nx ∧ (∀ q, k ≤ q → q < nx → takes l v.2.2.1 q = false) ∧ (nx < v.2.1 → takes l v.2.2.1 nx = true)
theorem takes_yes {l : List Ent} {d k : Nat} (h1 : d < (nm l k).length) (h2 : k = 0 ∨ alN l k ≤ d) : takes l d k = true := by
  unfold takes alC
  rw [decide_eq_true h1, Bool.true_and]
  by_cases e : k = 0
  · rw [if_pos e]; exact decide_eq_true (Nat.zero_le _)
  · rw [if_neg e]; exact decide_eq_true (h2.resolve_left e)
theorem scI_0 {l : List Ent} (hs : sortedL l) {pr : Bool} {v : Nd} (h : okNd l v) (he : edg l v) : scI l pr v [] v.1 := by
  obtain ⟨a, b, c⟩ := h.k0 hs
  have h1 := h.1
  refine ⟨v.2.1 - v.1 + 1, kid0 l v, kids_eq l pr v, c, b, by omega, a, fun q q1 q2 => ?_, fun z => takes_yes (a.2.2 z) (k0_al h he)⟩
  unfold kid0 at q2
  by_cases e : (nm l v.1).length = v.2.2.1
  · rw [if_pos e] at q2
    unfold takes
    rw [show q = v.1 by omega, decide_eq_false (by omega), Bool.false_and]
  · rw [if_neg e] at q2; omega
theorem scI_no {l : List Ent} {pr : Bool} {v : Nd} {W : List Nd} {k : Nat} (h : scI l pr v W k) (hk : k < v.2.1) (ht : takes l v.2.2.1 k = false) : scI l pr v W (k + 1) := by
  obtain ⟨f, nx, h1, h2, h3, h4, h5, h6, h7⟩ := h
  have : k ≠ nx := fun e => by
    have := h7 (by omega)
    rw [← e, ht] at this; cases this
  exact ⟨f, nx, h1, by omega, h3, h4, h5, fun q a b => h6 q (by omega) b, h7⟩
theorem scI_yes {l : List Ent} (hs : sortedL l) {pr : Bool} {v : Nd} {W : List Nd} {k : Nat} (h : scI l pr v W k) (hk : k < v.2.1) (ht : takes l v.2.2.1 k = true) : scI l pr v (W ++ [(k, gEnd l k v.2.1 v.2.2.1, (if pr then gTo l k (gEnd l k v.2.1 v.2.2.1) v.2.2.1 else v.2.2.1 + 1), v.2.2.1)]) (k + 1) ∧ W.length < (kids l pr v).length := by
  obtain ⟨f, nx, h1, h2, h3, h4, h5, h6, h7⟩ := h
  have e : k = nx := by
    rcases Nat.lt_or_ge k nx with z | z
    · have := h6 k (Nat.le_refl _) z; rw [ht] at this; cases this
    · omega
  subst e
  cases f with
  | zero => omega
  | succ f =>
    unfold kidsF at h1
    rw [if_pos hk] at h1
    have g1 := gEnd_gt l k v.2.1 v.2.2.1
    have g2 := gEnd_le (l := l) (d := v.2.2.1) hk
    refine ⟨⟨f, gEnd l k v.2.1 v.2.2.1, by rw [List.append_assoc]; exact h1, g1, g2, by omega, h5.next hs hk, fun q a b => ?_, fun z => ?_⟩, by rw [← h1, List.length_append, List.length_cons]; omega⟩
    · unfold takes alC
      have := gEnd_al (l := l) (k := k) (hi := v.2.1) (d := v.2.2.1) (q := q) (by omega) b
      rw [if_neg (by omega), show decide (alN l q ≤ v.2.2.1) = false from decide_eq_false (by omega), Bool.and_false]
    · exact takes_yes ((h5.next hs hk).2.2 z) (Or.inr (by have := gEnd_stop z; omega))
theorem scI_end {l : List Ent} {pr : Bool} {v : Nd} {W : List Nd} {k : Nat} (h : scI l pr v W k) (hk : v.2.1 ≤ k) : W = kids l pr v := by
  obtain ⟨f, nx, h1, h2, h3, h4, h5, h6, h7⟩ := h
  rw [← h1, kidsF_len (by omega), List.append_nil]
