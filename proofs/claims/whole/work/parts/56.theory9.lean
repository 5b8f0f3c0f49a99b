def spanV (v : Nd) : Nat := v.2.1 - v.1
theorem kidsF_span {l : List Ent} {pr : Bool} {hi d : Nat} : ∀ f k, hi - k < f → k ≤ hi → lsum spanV (kidsF l pr hi d f k) = hi - k := by
  intro f
  induction f with
  | zero => intro k h _; exact absurd h (Nat.not_lt_zero _)
  | succ f ih =>
    intro k h1 h2
    unfold kidsF
    by_cases g : k < hi
    · rw [if_pos g]
      have g1 := gEnd_gt l k hi d
      have g2 := gEnd_le (l := l) (d := d) g
      have i1 := ih (gEnd l k hi d) (by omega) g2
      show spanV (k, gEnd l k hi d, (if pr then gTo l k (gEnd l k hi d) d else d + 1), d) + lsum spanV _ = _
      rw [i1, show spanV (k, gEnd l k hi d, (if pr then gTo l k (gEnd l k hi d) d else d + 1), d) = gEnd l k hi d - k from rfl]
      omega
    · rw [if_neg g]
      show 0 = _
      omega
theorem kids_span {l : List Ent} (hs : sortedL l) (pr : Bool) {v : Nd} (h : okNd l v) : lsum spanV (kids l pr v) + (if isEndN l v = true then 1 else 0) = spanV v := by
  obtain ⟨h1, h2, h3⟩ := h.k0 hs
  have h4 := h.1
  have h5 := kidsF_span (l := l) (pr := pr) (hi := v.2.1) (d := v.2.2.1) (v.2.1 - v.1 + 1) (kid0 l v) (by omega) h2
  rw [show kids l pr v = kidsF l pr v.2.1 v.2.2.1 (v.2.1 - v.1 + 1) (kid0 l v) from rfl, h5]
  unfold isEndN spanV
  unfold kid0 at *
  by_cases g : (nm l v.1).length = v.2.2.1
  · rw [if_pos g, decide_eq_true g, if_pos rfl]; omega
  · rw [if_neg g, decide_eq_false g, if_neg (by decide)]; omega
theorem trS_le {l : List Ent} {pr : Bool} {v : Nat} : ∀ k, (trS l pr v).length ≤ (trS l pr (v + k)).length := by
  intro k
  induction k with
  | zero => exact Nat.le_refl _
  | succ k ih => exact Nat.le_trans ih (trS_mono l pr (v + k))
theorem tr_N {l : List Ent} (hl : okL l) (h0 : 0 < l.length) {pr : Bool} {v : Nat} (hv : v ≤ 2402) : (trS l pr v).length ≤ (tr l pr).length := by
  have := trS_le (l := l) (pr := pr) (v := v) (2402 - v)
  rw [show v + (2402 - v) = 2402 by omega] at this
  exact this
theorem mk_all {l : List Ent} (hl : okL l) (h0 : 0 < l.length) (pr : Bool) : ∀ v, v ≤ (tr l pr).length → mkV l pr v + lsum spanV ((trS l pr v).drop v) = l.length := by
  intro v
  induction v with
  | zero => intro _; show 0 + (l.length - 0 + 0) = _; omega
  | succ v ih =>
    intro hv
    have i1 := ih (by omega)
    have hN := (tr_ok hl h0 pr).1
    have g := tr_lt (l := l) (pr := pr) (v := v) (by omega) (by omega)
    have hm : (trS l pr v).getD v (0, 0, 0, 0) ∈ trS l pr v := by
      rw [List.getD_eq_getElem?_getD, List.getElem?_eq_getElem g]; exact List.getElem_mem g
    have k := kids_span hl.2.2 pr ((trS_ok hl.2.2 h0 pr v).2.1 _ hm)
    have e := tr_get (l := l) (pr := pr) (v := v) (by omega) (by omega)
    have hd : (trS l pr v).drop v = (trS l pr v).getD v (0, 0, 0, 0) :: (trS l pr v).drop (v + 1) := by
      rw [List.getD_eq_getElem?_getD, List.getElem?_eq_getElem g]; exact List.drop_eq_getElem_cons g
    rw [hd] at i1
    have i2 : lsum spanV ((trS l pr v).getD v (0, 0, 0, 0) :: (trS l pr v).drop (v + 1)) = spanV ((trS l pr v).getD v (0, 0, 0, 0)) + lsum spanV ((trS l pr v).drop (v + 1)) := rfl
    rw [trS_succ g, List.drop_append_of_le_length (by omega), lsum_app]
    show mkV l pr v + (if isEndN l (ndAt l pr v) = true then 1 else 0) + _ = _
    rw [← e]
    omega
theorem tr_full {l : List Ent} (hl : okL l) (h0 : 0 < l.length) (pr : Bool) : (trS l pr (tr l pr).length).length = (tr l pr).length := by
  have hN := (tr_ok hl h0 pr).1
  have h1 := tr_N hl h0 (pr := pr) (v := (tr l pr).length) (by omega)
  rcases Nat.lt_or_ge (trS l pr (tr l pr).length).length (tr l pr).length with h | h
  · have h2 := trS_stop (l := l) (pr := pr) (v := (tr l pr).length) (by omega) (2402 - (tr l pr).length)
    rw [show (tr l pr).length + (2402 - (tr l pr).length) = 2402 by omega] at h2
    have : (tr l pr).length = (trS l pr (tr l pr).length).length := by
      conv => lhs; unfold tr
      rw [h2]
    omega
  · omega
theorem marks_len {l : List Ent} (hl : okL l) (h0 : 0 < l.length) {K : Nat} (h : 2 ≤ K ∧ K ≤ 4) : marksN K l = l.length := by
  unfold marksN
  rw [if_neg (by omega)]
  have h1 := mk_all hl h0 (K != 2) (tr l (K != 2)).length (Nat.le_refl _)
  rw [List.drop_eq_nil_of_le (by rw [tr_full hl h0]; exact Nat.le_refl _), show lsum spanV [] = 0 from rfl, Nat.add_zero] at h1
  exact h1
/-- the row of a tree -/
theorem ones_pre {a r : List Nat} : ∀ i, i ≤ a.length → onesN (a ++ r) i = onesN a i := by
  intro i hi
  unfold onesN
  refine sumN_congr fun k hk => ?_
  rw [getD_app, if_pos (by omega)]
theorem ones_app {a r : List Nat} (i : Nat) : onesN (a ++ r) (a.length + i) = onesN a a.length + onesN r i := by
  rw [ones_add, ones_pre a.length (Nat.le_refl _)]
  congr 1
  unfold onesN
  refine sumN_congr fun k hk => ?_
  rw [getD_app, if_neg (by omega), show a.length + k - a.length = k by omega]
theorem rep1_get {n i : Nat} (h : i < n) : (List.replicate n 1 : List Nat).getD i 0 = 1 := by
  rw [List.getD_eq_getElem?_getD, List.getElem?_eq_getElem (by rw [List.length_replicate]; exact h), List.getElem_replicate]; rfl
theorem ones_rep1 (n : Nat) : ∀ i, i ≤ n → onesN (List.replicate n 1) i = i := by
  intro i
  induction i with
  | zero => intro _; rfl
  | succ i ih => intro hi; rw [ones_s, ih (by omega), rep1_get (by omega)]
theorem lvB_pre {l : List Ent} {pr : Bool} {v : Nat} : ∀ k, ∃ r, lvB l pr (v + k) = lvB l pr v ++ r := by
  intro k
  induction k with
  | zero => exact ⟨[], (List.append_nil _).symm⟩
  | succ k ih =>
    obtain ⟨r, hr⟩ := ih
    exact ⟨r ++ (List.replicate ((trS l pr (v + k + 1)).length - (trS l pr (v + k)).length) 1 ++ [0]), by rw [show v + (k + 1) = v + k + 1 from rfl, lvB_succ, hr, List.append_assoc]⟩
theorem lvB_l {l : List Ent} (hl : okL l) (h0 : 0 < l.length) (v : Nat) : (lvB l false v).length = v + fe l v := by
  have h1 := lvB_len (l := l) (pr := false) v
  have h2 := (trS_ok hl.2.2 h0 false v).2.2
  unfold fe
  omega
theorem lvB_o {l : List Ent} (hl : okL l) (h0 : 0 < l.length) : ∀ v, onesN (lvB l false v) (lvB l false v).length = fe l v := by
  intro v
  induction v with
  | zero => rfl
  | succ v ih =>
    rw [lvB_succ, List.length_append, ones_app, ih, fe_succ hl h0]
    congr 1
    rw [List.length_append, ones_app, List.length_replicate, ones_rep1 _ _ (Nat.le_refl _)]
    rfl
/-- bits of the row at node v -/
theorem row_at {l : List Ent} (hl : okL l) (h0 : 0 < l.length) {v : Nat} (hv : v < (tr l false).length) : onesN (bitsT l false) (v + fe l v) = fe l v ∧ v + fe l v + dgN l v < (bitsT l false).length ∧ (∀ q, q < dgN l v → (bitsT l false).getD (v + fe l v + q) 0 = 1) ∧ (bitsT l false).getD (v + fe l v + dgN l v) 0 = 0 ∧ (0 < v → (bitsT l false).getD (v + fe l v - 1) 0 = 0) := by
  have hN := lvB_full hl h0 false
  obtain ⟨r, hr⟩ := lvB_pre (l := l) (pr := false) (v := v + 1) ((tr l false).length - (v + 1))
  rw [show v + 1 + ((tr l false).length - (v + 1)) = (tr l false).length by omega, hN, lvB_succ, List.append_assoc, List.append_assoc, show (trS l false (v + 1)).length - (trS l false v).length = dgN l v from rfl] at hr
  have hlen := lvB_l hl h0 v
  rw [hr]
  refine ⟨?_, ?_, fun q hq => ?_, ?_, fun h => ?_⟩
  · rw [← hlen, ones_pre _ (Nat.le_refl _)]; exact lvB_o hl h0 v
  · rw [List.length_append, List.length_append, List.length_append, hlen, List.length_replicate]
    show _ < _ + (dgN l v + (1 + _))
    omega
  · rw [getD_app, hlen, if_neg (by omega), show v + fe l v + q - (v + fe l v) = q by omega, getD_app, List.length_replicate, if_pos (show q < dgN l v from hq)]
    exact rep1_get hq
  · rw [getD_app, hlen, if_neg (by omega), show v + fe l v + dgN l v - (v + fe l v) = dgN l v by omega, getD_app, List.length_replicate, if_neg (show ¬ dgN l v < dgN l v by omega), show dgN l v - dgN l v = 0 by omega]
    rfl
  · obtain ⟨u, rfl⟩ : ∃ u, v = u + 1 := ⟨v - 1, by omega⟩
    rw [getD_app, hlen, if_pos (by omega), lvB_succ, ← List.append_assoc, getD_app]
    have h9 : (lvB l false u ++ List.replicate ((trS l false (u + 1)).length - (trS l false u).length) 1).length = u + 1 + fe l (u + 1) - 1 := by
      rw [List.length_append, lvB_l hl h0, List.length_replicate, fe_succ hl h0]
      show _ + dgN l u = _
      omega
    rw [h9, if_neg (by omega), Nat.sub_self]; rfl
theorem bz_at {l : List Ent} (hl : okL l) (h0 : 0 < l.length) (h01 : bit01 (bitsT l false)) {v : Nat} (hv : v < (tr l false).length) : bzN (bitsT l false) v = v + fe l v := by
  obtain ⟨a1, a2, a3, a4, a5⟩ := row_at hl h0 hv
  refine fN_eq (by omega) (fun m hm => decide_eq_true ?_) (Or.inr (decide_eq_false ?_))
  · have hz := zeros_mono h01 (show m ≤ v + fe l v - 1 by omega)
    rcases Nat.eq_zero_or_pos v with e | e
    · subst e
      have : fe l 0 = 0 := rfl
      omega
    · have hs := ones_s (bitsT l false) (v + fe l v - 1)
      rw [show v + fe l v - 1 + 1 = v + fe l v by omega, a1, a5 e] at hs
      omega
  · rw [a1]; omega
/-- names in order that share bytes -/
theorem sandwich {a b c : List Nat} {m : Nat} (h1 : less a b = true) (h2 : less b c = true) (hm : m ≤ lcp a c) : m ≤ lcp b c := by
  rcases Nat.lt_or_ge (lcp b c) m with g | g
  · exfalso
    have l1 := lcp_le1 a c
    have l2 := lcp_le2 a c
    have hba : less b a = true := by
      have hj : ∀ j, j < lcp b c → b.getD j 0 = a.getD j 0 := fun j hj => (lcp_all hj).trans (lcp_all (a := a) (b := c) (by omega)).symm
      have hac : a.getD (lcp b c) 0 = c.getD (lcp b c) 0 := lcp_all (by omega)
      by_cases e : lcp b c < b.length
      · have hne := lcp_end e (show lcp b c < c.length by omega)
        have hlt : b.getD (lcp b c) 0 < c.getD (lcp b c) 0 := by
          unfold less at h2
          rw [if_pos (by omega), if_pos e] at h2
          exact of_decide_eq_true h2
        have el : lcp b a = lcp b c := lcp_eq (by omega) (by omega) hj (Or.inr (Or.inr (by rw [hac]; exact hne)))
        exact less_lt el (by omega) e (by rw [hac]; exact hlt)
      · have e2 := lcp_le1 b c
        have el : lcp b a = lcp b c := lcp_eq (by omega) (by omega) hj (Or.inl (by omega))
        exact less_pre el (by omega) e
    rw [less_asymm h1] at hba; cases hba
  · exact g
theorem al_ge {l : List Ent} (hs : sortedL l) {a c m : Nat} (hac : a < c) (hc : c < l.length) (hm : m ≤ lcp (nm l a) (nm l c)) : m ≤ alN l c := by
  unfold alN
  by_cases e : a = c - 1
  · rw [← e]; exact hm
  · exact sandwich (hs a (c - 1) (by omega) (by omega)) (hs (c - 1) c (by omega) hc) hm
theorem share {l : List Ent} {lo m : Nat} : ∀ x, lo ≤ x → (∀ q, lo < q → q ≤ x → m ≤ alN l q) → ∀ j, j < m → (nm l x).getD j 0 = (nm l lo).getD j 0 := by
  intro x
  induction x with
  | zero => intro h _ j _; rw [show lo = 0 by omega]
  | succ x ih =>
    intro h hq j hj
    by_cases e : lo = x + 1
    · rw [e]
    · have h1 := hq (x + 1) (by omega) (Nat.le_refl _)
      have h2 : (nm l x).getD j 0 = (nm l (x + 1)).getD j 0 := lcp_all (show j < lcp (nm l x) (nm l (x + 1)) from Nat.lt_of_lt_of_le hj h1)
      rw [← h2]
      exact ih (by omega) (fun q h3 h4 => hq q h3 (by omega)) j hj
theorem kidsF_cover {l : List Ent} {pr : Bool} {hi d : Nat} : ∀ f k, hi - k < f → ∀ x, k ≤ x → x < hi → ∃ q, q < (kidsF l pr hi d f k).length ∧ ((kidsF l pr hi d f k).getD q (0, 0, 0, 0)).1 ≤ x ∧ x < ((kidsF l pr hi d f k).getD q (0, 0, 0, 0)).2.1 ∧ ((kidsF l pr hi d f k).getD q (0, 0, 0, 0)).2.1 = gEnd l ((kidsF l pr hi d f k).getD q (0, 0, 0, 0)).1 hi d := by
  intro f
  induction f with
  | zero => intro k h; exact absurd h (Nat.not_lt_zero _)
  | succ f ih =>
    intro k h1 x hx1 hx2
    unfold kidsF
    have g : k < hi := by omega
    rw [if_pos g]
    have g1 := gEnd_gt l k hi d
    by_cases e : x < gEnd l k hi d
    · exact ⟨0, by rw [List.length_cons]; omega, hx1, e, rfl⟩
    · obtain ⟨q, q1, q2⟩ := ih (gEnd l k hi d) (by omega) x (by omega) hx2
      exact ⟨q + 1, by rw [List.length_cons]; omega, q2⟩
theorem kidsF_ord {l : List Ent} {pr : Bool} {hi d : Nat} : ∀ f k q, q < (kidsF l pr hi d f k).length → k ≤ ((kidsF l pr hi d f k).getD q (0, 0, 0, 0)).1 ∧ ((kidsF l pr hi d f k).getD q (0, 0, 0, 0)).1 < hi ∧ (0 < q → k < ((kidsF l pr hi d f k).getD q (0, 0, 0, 0)).1 ∧ alN l ((kidsF l pr hi d f k).getD q (0, 0, 0, 0)).1 ≤ d) ∧ ∀ p, p < q → ((kidsF l pr hi d f k).getD p (0, 0, 0, 0)).1 < ((kidsF l pr hi d f k).getD q (0, 0, 0, 0)).1 := by
  intro f
  induction f with
  | zero => intro k q h; exact absurd h (Nat.not_lt_zero _)
  | succ f ih =>
    intro k q h
    unfold kidsF at h ⊢
    by_cases g : k < hi
    · rw [if_pos g] at h ⊢
      have g1 := gEnd_gt l k hi d
      cases q with
      | zero => exact ⟨Nat.le_refl _, g, fun h => absurd h (Nat.lt_irrefl _), fun p hp => absurd hp (Nat.not_lt_zero _)⟩
      | succ q =>
        have hq : q < (kidsF l pr hi d f (gEnd l k hi d)).length := by rw [List.length_cons] at h; omega
        obtain ⟨i1, i2, i3, i4⟩ := ih (gEnd l k hi d) q hq
        have h5 : gEnd l k hi d < hi := by omega
        refine ⟨?_, i2, fun _ => ⟨?_, ?_⟩, fun p hp => ?_⟩
        · show k ≤ ((kidsF l pr hi d f (gEnd l k hi d)).getD q (0, 0, 0, 0)).1; omega
        · show k < ((kidsF l pr hi d f (gEnd l k hi d)).getD q (0, 0, 0, 0)).1; omega
        · show alN l ((kidsF l pr hi d f (gEnd l k hi d)).getD q (0, 0, 0, 0)).1 ≤ d
          rcases Nat.eq_zero_or_pos q with e | e
          · subst e
            have e2 : ((kidsF l pr hi d f (gEnd l k hi d)).getD 0 (0, 0, 0, 0)).1 = gEnd l k hi d := by
              cases f with
              | zero => exact absurd hq (Nat.not_lt_zero _)
              | succ f => unfold kidsF; rw [if_pos h5]; rfl
            rw [e2]
            have := gEnd_stop h5
            omega
          · exact (i3 e).2
        · cases p with
          | zero => show k < ((kidsF l pr hi d f (gEnd l k hi d)).getD q (0, 0, 0, 0)).1; omega
          | succ p => exact i4 p (by omega)
    · rw [if_neg g] at h; exact absurd h (Nat.not_lt_zero _)
