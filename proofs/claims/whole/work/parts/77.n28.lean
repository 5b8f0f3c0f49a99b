theorem bitsT_run (l : List Ent) (pr : Bool) : bitsT l pr = runB (fun v => (kids l pr (ndAt l pr v)).length) (tr l pr).length := by
  rw [runB_flat]
  exact flat_get _ (0, 0, 0, 0) (tr l pr)
theorem tr_sum {l : List Ent} (hl : okL l) (h0 : 0 < l.length) (pr : Bool) : sumN (fun v => (kids l pr (ndAt l pr v)).length) (tr l pr).length + 1 = (tr l pr).length := by
  have hN := (tr_ok hl h0 pr).1
  have : ∀ v, v ≤ (tr l pr).length → sumN (fun v => (kids l pr (ndAt l pr v)).length) v + 1 = (trS l pr v).length := by
    intro v
    induction v with
    | zero => intro _; rfl
    | succ v ih =>
      intro hv
      have h1 := ih (by omega)
      rw [trS_succ (tr_lt (by omega) (by omega)), List.length_append, tr_get (by omega) (by omega), ← h1]
      show _ + (kids l pr (ndAt l pr v)).length + 1 = _
      omega
  exact (this _ (Nat.le_refl _)).trans (tr_full hl h0 pr)
theorem getD_mem {α : Type} {L : List α} {i : Nat} {d : α} (h : i < L.length) : L.getD i d ∈ L := by
  rw [List.getD_eq_getElem?_getD, List.getElem?_eq_getElem h]; exact List.getElem_mem _
theorem trS_stem {l : List Ent} : ∀ v i, 0 < i → i < (trS l false v).length → ((trS l false v).getD i (0, 0, 0, 0)).2.2.1 = ((trS l false v).getD i (0, 0, 0, 0)).2.2.2 + 1 := by
  intro v
  induction v with
  | zero => intro i h1 h2; exact absurd (show i < 1 from h2) (by omega)
  | succ v ih =>
    intro i h1 h2
    by_cases g : v < (trS l false v).length
    · rw [trS_succ g] at h2 ⊢
      rw [List.length_append] at h2
      rw [getD_app]
      split
      · exact ih i h1 (by assumption)
      · have hm := getD_mem (L := kids l false ((trS l false v).getD v (0, 0, 0, 0))) (i := i - (trS l false v).length) (d := (0, 0, 0, 0)) (by omega)
        have := kids_d hm
        rw [this.1, this.2 rfl]
    · have e : trS l false (v + 1) = trS l false v := if_neg g
      rw [e] at h2 ⊢
      exact ih i h1 h2
theorem tr_stem0 {l : List Ent} : ∀ u, 0 < u → u < (tr l false).length → ((tr l false).getD u (0, 0, 0, 0)).2.2.1 = ((tr l false).getD u (0, 0, 0, 0)).2.2.2 + 1 := by
  unfold tr
  generalize 2402 = n
  exact trS_stem n
theorem tr_stem {l : List Ent} (hl : okL l) (h0 : 0 < l.length) : ∀ u, 0 < u → u < (tr l false).length → ((tr l false).getD u (0, 0, 0, 0)).2.2.2 < (nm l ((tr l false).getD u (0, 0, 0, 0)).1).length := by
  intro u h1 h2
  have h4 : okNd l ((tr l false).getD u (0, 0, 0, 0)) := (tr_ok hl h0 false).2.2 u h2
  have h5 : ((tr l false).getD u (0, 0, 0, 0)).2.2.1 = ((tr l false).getD u (0, 0, 0, 0)).2.2.2 + 1 := tr_stem0 u h1 h2
  have := h4.2.2.1
  omega
theorem letT {l : List Ent} {K : Nat} {fo : Bool} (h1 : K ≠ 1) (h5 : K ≠ 5) (hf : fo = true ↔ K = 4) : lettersN K l = sumN (lbF l (tr l (K != 2)) fo) (tr l (K != 2)).length := by
  unfold lettersN
  rw [if_neg h1, if_neg h5]
  refine sumN_congr (fun v _ => ?_)
  unfold lbF
  rw [show ndAt l (K != 2) v = (tr l (K != 2)).getD v (0, 0, 0, 0) from rfl]
  generalize (tr l (K != 2)).getD v (0, 0, 0, 0) = nd
  generalize again l (tr l (K != 2)) v = ag
  by_cases h0 : 0 < v ∧ ¬ (K = 4 ∧ ag = true)
  · rw [if_pos h0, if_pos (by rw [hf]; exact h0)]
  · rw [if_neg h0, if_neg (by rw [hf]; exact h0)]
def bndP (S : PS) (l : List Ent) (k : Int32) : Option Value → PS → Prop := fun r S' => ((kdB k && fitsN l k.toNatClampNeg) = true ∧ ∃ d : Nat → Nat, r = some (.ref (d 0)) ∧ Fr S S' No ∧ mu S' = mu S ∧ bookC S' d (bookT k.toNatClampNeg l) ∧ (∀ i, i < 9 → kd S (d i) = 0) ∧ ∀ i, i < 9 → kd S' (d i) ≠ 0) ∨ ((kdB k && fitsN l k.toNatClampNeg) = false ∧ r = some .null ∧ S = S')
theorem kdB_lit {K : Nat} (h1 : 1 ≤ K) (h5 : K ≤ 5) : kdB (nI K) = true := by
  unfold kdB
  rw [inR_nI (by omega), inR_nI (by omega), decide_eq_true (by omega), decide_eq_false (by omega)]; rfl
theorem ebN_eq (l : List Ent) (e : Nat) : ebN l e = (nm l ((tr l false).getD (e + 1) (0, 0, 0, 0)).1).getD ((tr l false).getD (e + 1) (0, 0, 0, 0)).2.2.2 0 := by unfold ebN ndAt; rfl
theorem edgesN_1 (l : List Ent) : edgesN 1 l = 0 := by unfold edgesN; exact if_pos (Or.inl rfl)
theorem edgesN_5 (l : List Ent) : edgesN 5 l = 0 := by unfold edgesN; exact if_pos (Or.inr rfl)
theorem edgesN_T {K : Nat} (l : List Ent) (h1 : K ≠ 1) (h5 : K ≠ 5) {pr : Bool} (h : (K != 2) = pr) : edgesN K l = (tr l pr).length - 1 := by unfold edgesN; rw [if_neg (by omega), h]
theorem lettersN_1 (l : List Ent) : lettersN 1 l = sumN (fun k => (nm l k).length) l.length := by unfold lettersN; exact if_pos rfl
theorem lettersN_5 (l : List Ent) : lettersN 5 l = 0 := by unfold lettersN; rw [if_neg (by decide)]; exact if_pos rfl
theorem bitsN_5 (l : List Ent) : bitsN 5 l = bitsS l := by unfold bitsN; rw [if_neg (by decide)]; exact if_pos rfl
theorem bitsN_T {K : Nat} (l : List Ent) (h1 : K ≠ 1) (h5 : K ≠ 5) {pr : Bool} (h : (K != 2) = pr) : bitsN K l = bitsT l pr := by unfold bitsN; rw [if_neg h1, if_neg h5, h]
theorem letTp {l : List Ent} {K : Nat} {fo pr : Bool} (h : (K != 2) = pr) (h1 : K ≠ 1) (h5 : K ≠ 5) (hf : fo = true ↔ K = 4) : lettersN K l = sumN (lbF l (tr l pr) fo) (tr l pr).length := by
  rw [letT h1 h5 hf, h]
def nine (a b c d e f g h i : Nat) : Nat → Nat := fun q => if q = 1 then b else if q = 2 then c else if q = 3 then d else if q = 4 then e else if q = 5 then f else if q = 6 then g else if q = 7 then h else if q = 8 then i else a
theorem nine_all {P : Nat → Prop} {a b c d e f g h i : Nat} (ha : P a) (hb : P b) (hc : P c) (hd : P d) (he : P e) (hf : P f) (hg : P g) (hh : P h) (hi : P i) : ∀ q, q < 9 → P (nine a b c d e f g h i q) := by
  intro q _
  unfold nine
  split
  · exact hb
  split
  · exact hc
  split
  · exact hd
  split
  · exact he
  split
  · exact hf
  split
  · exact hg
  split
  · exact hh
  split
  · exact hi
  · exact ha
theorem bookC_mk {S : PS} {K : Nat} {l : List Ent} {a b c d e f g h i : Nat} (h1 : kd S a = 3) (h2 : bk_kind S a = nI K) (h3 : bk_list S a = some b) (hl : listC S b c d l.length l) (he : bk_edges S a = nI (edgesN K l)) (hp : bk_part S a = nI (lettersN K l)) (hb : bk_eb S a = some i) (hk8 : kd S i = 15) (h8 : K = 2 → ln S i = edgesN 2 l ∧ ∀ e, e < edgesN 2 l → eb_a S i e = nI (ebN l e)) (hr1 : K = 1 → bk_row S a = none) (hr : K ≠ 1 → bk_row S a = some e ∧ rowC S e f g h (bitsN K l) false false) : bookC S (nine a b c d e f g h i) (bookT K l) := ⟨⟨h1, h2, h3⟩, hl, ⟨he, hp⟩, ⟨hb, hk8, h8⟩, hr1, hr⟩
theorem nine_0 (a b c d e f g h i : Nat) : nine a b c d e f g h i 0 = a := rfl
set_option maxRecDepth 100000 in
set_option maxHeartbeats 400000 in
theorem c_C_isBK_in {lX : Launch} {G : Gx} {S : PS} {k : Nat} (h1 : 1 ≤ k) (h5 : k ≤ 5) : Ct lX yX10_isBookKind cX10_isBookKind 1 (Option.some Jvm.ClassFile.FieldType.boolean) rm_X10_isBookKind G [.int (nI k)] S (fun r S' => r = some (.int 1) ∧ S = S') := by
  refine Ct.mk RX10 "isBookKind" hy_X10_isBookKind (Nat.le_of_ble_eq_true rfl) (fun X hX C => ?_)
  change Go X G _ 1 0 0 S 0 [(0, .int (nI k))] []
  refine g_iload_n 0 0 C dX10_isBookKind_0 rfl rfl ?_
  refine g_iconst (v := nI 1) C dX10_isBookKind_1 (by decide) ?_
  refine g_ncmp_lt 14 (by omega) (by omega) C dX10_isBookKind_2 (by decide) (fun c2 => ?_) (fun c2 => ?_)
  · omega
  · refine g_iload_n 0 0 C dX10_isBookKind_5 rfl rfl ?_
    refine g_iconst (v := nI 5) C dX10_isBookKind_6 (by decide) ?_
    refine g_ncmp_gt 14 (by omega) (by omega) C dX10_isBookKind_7 (by decide) (fun c7 => ?_) (fun c7 => ?_)
    · omega
    · refine g_iconst (v := nI 1) C dX10_isBookKind_10 (by decide) ?_
      refine g_goto 15 C dX10_isBookKind_11 (by decide) ?_
      exact g_zret C dX10_isBookKind_15 (by decide) (by decide) (Or.inr rfl) (⟨rfl, rfl⟩)
set_option maxRecDepth 100000 in
set_option maxHeartbeats 400000 in
theorem c_C_isBK_no {lX : Launch} {G : Gx} {S : PS} {k : Int32} (hk : kdB k = false) : Ct lX yX10_isBookKind cX10_isBookKind 1 (Option.some Jvm.ClassFile.FieldType.boolean) rm_X10_isBookKind G [.int k] S (fun r S' => r = some (.int 0) ∧ S = S') := by
  refine Ct.mk RX10 "isBookKind" hy_X10_isBookKind (Nat.le_of_ble_eq_true rfl) (fun X hX C => ?_)
  change Go X G _ 1 0 0 S 0 [(0, .int k)] []
  refine g_iload_n 0 0 C dX10_isBookKind_0 rfl rfl ?_
  refine g_iconst (v := nI 1) C dX10_isBookKind_1 (by decide) ?_
  refine g_icmp_lt 14 C dX10_isBookKind_2 (by decide) (fun c2 => ?_) (fun c2 => ?_)
  · refine g_iconst (v := nI 0) C dX10_isBookKind_14 (by decide) ?_
    exact g_zret C dX10_isBookKind_15 (by decide) (by decide) (Or.inl rfl) (⟨rfl, rfl⟩)
  · refine g_iload_n 0 0 C dX10_isBookKind_5 rfl rfl ?_
    refine g_iconst (v := nI 5) C dX10_isBookKind_6 (by decide) ?_
    refine g_icmp_gt 14 C dX10_isBookKind_7 (by decide) (fun c7 => ?_) (fun c7 => ?_)
    · refine g_iconst (v := nI 0) C dX10_isBookKind_14 (by decide) ?_
      exact g_zret C dX10_isBookKind_15 (by decide) (by decide) (Or.inl rfl) (⟨rfl, rfl⟩)
    · obtain ⟨i, -, -, rfl, e⟩ := kd_in c2 c7
      rw [e] at hk
      cases hk
set_option maxRecDepth 100000 in
set_option maxHeartbeats 400000 in
theorem c_B_bind_k {lX : Launch} {G : Gx} {S : PS} {x : Nat} {c : Nat → Nat} (hC : CoC S x c) {a nr va room : Nat} {l : List Ent} (hL : listC S a nr va room l) (hl : okL l) {k : Int32} (hk : kdB k = false) : Ct lX yX1_bind cX1_bind 6 (Option.some (Jvm.ClassFile.FieldType.object "BitAlmanac$Book")) rm_X1_bind G [.ref ((c 7)), .ref a, .int k] S (bndP S l k) := by
  obtain ⟨⟨k_a, ra_a, rb_a⟩, ⟨kn_a, ln_a⟩, ⟨kv_a, lv_a⟩, sz_a, le_a, rm_a, en_a⟩ := hL
  refine Ct.mk RX1 "bind" hy_X1_bind (Nat.le_of_ble_eq_true rfl) (fun X hX C => ?_)
  change Go X G _ 6 0 0 S 0 [(0, .ref ((c 7))), (1, .ref a), (2, .int k)] []
  refine g_iload_n 2 2 C dX1_bind_0 rfl rfl ?_
  refine g_callSN (As := [.int k]) (rest := []) C dX1_bind_1 (c_C_isBK_no hk) wC_X10_isBookKind C.2.2.2.2.2.1.2.2.2.2.2.2.2.1 wZ_X10_isBookKind wN_X10 hd_X10_isBookKind.2 ⟨by decide, by decide, by decide, by decide⟩ (Nat.le_of_ble_eq_true rfl) (fun r_ S_ h_ => ?_)
  obtain ⟨rfl, rfl⟩ := h_
  change Go X G _ 6 _ _ S 4 [(0, .ref ((c 7))), (1, .ref a), (2, .int k)] [.int (nI 0)]
  refine g_nif_eq 24 (by decide) C dX1_bind_4 (by decide) (fun _ => ?_) (fun c => absurd c (by decide))
  refine g_null C dX1_bind_24 ?_
  exact g_aret (r := none) C dX1_bind_25 (Or.inl ⟨_, rfl⟩) (by decide) (by decide) (Or.inr ⟨by rw [hk]; rfl, rfl, rfl⟩)
set_option maxRecDepth 100000 in
set_option maxHeartbeats 400000 in
theorem c_B_bind_0 {lX : Launch} {G : Gx} {S : PS} {x : Nat} {c : Nat → Nat} (hC : CoC S x c) {a nr va room : Nat} {l : List Ent} (hL : listC S a nr va room l) (hl : okL l) {k : Nat} (h1 : 1 ≤ k) (h5 : k ≤ 5) (h0 : l.length = 0) : Ct lX yX1_bind cX1_bind 6 (Option.some (Jvm.ClassFile.FieldType.object "BitAlmanac$Book")) rm_X1_bind G [.ref ((c 7)), .ref a, .int (nI k)] S (bndP S l (nI k)) := by
  obtain ⟨⟨k_a, ra_a, rb_a⟩, ⟨kn_a, ln_a⟩, ⟨kv_a, lv_a⟩, sz_a, le_a, rm_a, en_a⟩ := hL
  refine Ct.mk RX1 "bind" hy_X1_bind (Nat.le_of_ble_eq_true rfl) (fun X hX C => ?_)
  change Go X G _ 6 0 0 S 0 [(0, .ref ((c 7))), (1, .ref a), (2, .int (nI k))] []
  refine g_iload_n 2 2 C dX1_bind_0 rfl rfl ?_
  refine g_callSN (As := [.int (nI k)]) (rest := []) C dX1_bind_1 (c_C_isBK_in h1 h5) wC_X10_isBookKind C.2.2.2.2.2.1.2.2.2.2.2.2.2.1 wZ_X10_isBookKind wN_X10 hd_X10_isBookKind.2 ⟨by decide, by decide, by decide, by decide⟩ (Nat.le_of_ble_eq_true rfl) (fun r_ S_ h_ => ?_)
  obtain ⟨rfl, rfl⟩ := h_
  change Go X G _ 6 _ _ S 4 [(0, .ref ((c 7))), (1, .ref a), (2, .int (nI k))] [.int (nI 1)]
  refine g_nif_eq 24 (by decide) C dX1_bind_4 (by decide) (fun c => absurd c (by decide)) (fun _ => ?_)
  refine g_aload_n 1 1 C dX1_bind_7 rfl rfl ?_
  refine gf_ls_size C dX1_bind_8 k_a wF_X1_35 ?_
  refine g_topi (sz_a) ?_
  refine g_iconst (v := nI 1) C dX1_bind_11 (by decide) ?_
  refine g_ncmp_lt 24 (by omega) (by omega) C dX1_bind_12 (by decide) (fun c12 => ?_) (fun c12 => ?_)
  · refine g_null C dX1_bind_24 ?_
    exact g_aret (r := none) C dX1_bind_25 (Or.inl ⟨_, rfl⟩) (by decide) (by decide) (Or.inr ⟨by unfold fitsN; rw [decide_eq_false (by omega), Bool.false_and, Bool.and_false], rfl, rfl⟩)
  · omega
set_option maxRecDepth 100000 in
set_option maxHeartbeats 400000 in
theorem c_B_bind_8 {lX : Launch} {G : Gx} {S : PS} {x : Nat} {c : Nat → Nat} (hC : CoC S x c) {a nr va room : Nat} {l : List Ent} (hL : listC S a nr va room l) (hl : okL l) (h0 : 0 < l.length) (h8 : all8 l l.length = false) : Ct lX yX1_bind cX1_bind 6 (Option.some (Jvm.ClassFile.FieldType.object "BitAlmanac$Book")) rm_X1_bind G [.ref ((c 7)), .ref a, .int (nI 5)] S (bndP S l (nI 5)) := by
  have hL' := hL
  obtain ⟨⟨k_a, ra_a, rb_a⟩, ⟨kn_a, ln_a⟩, ⟨kv_a, lv_a⟩, sz_a, le_a, rm_a, en_a⟩ := hL
  have hl1 := hl.1
  refine Ct.mk RX1 "bind" hy_X1_bind (Nat.le_of_ble_eq_true rfl) (fun X hX C => ?_)
  change Go X G _ 6 0 0 S 0 [(0, .ref ((c 7))), (1, .ref a), (2, .int (nI 5))] []
  refine g_iload_n 2 2 C dX1_bind_0 rfl rfl ?_
  refine g_callSN (As := [.int (nI 5)]) (rest := []) C dX1_bind_1 (c_C_isBK_in (by decide) (by decide)) wC_X10_isBookKind C.2.2.2.2.2.1.2.2.2.2.2.2.2.1 wZ_X10_isBookKind wN_X10 hd_X10_isBookKind.2 ⟨by decide, by decide, by decide, by decide⟩ (Nat.le_of_ble_eq_true rfl) (fun r_ S_ h_ => ?_)
  obtain ⟨rfl, rfl⟩ := h_
  change Go X G _ 6 _ _ S 4 [(0, .ref ((c 7))), (1, .ref a), (2, .int (nI 5))] [.int (nI 1)]
  refine g_nif_eq 24 (by decide) C dX1_bind_4 (by decide) (fun c => absurd c (by decide)) (fun _ => ?_)
  refine g_aload_n 1 1 C dX1_bind_7 rfl rfl ?_
  refine gf_ls_size C dX1_bind_8 k_a wF_X1_35 ?_
  refine g_topi (sz_a) ?_
  refine g_iconst (v := nI 1) C dX1_bind_11 (by decide) ?_
  refine g_ncmp_lt 24 (by omega) (by omega) C dX1_bind_12 (by decide) (fun c12 => ?_) (fun c12 => ?_)
  · omega
  · refine g_aload_n 1 1 C dX1_bind_15 rfl rfl ?_
    refine gf_ls_size C dX1_bind_16 k_a wF_X1_35 ?_
    refine g_topi (sz_a) ?_
    refine g_bipush (v := nI 100) C dX1_bind_19 (by decide) ?_
    refine g_ncmp_le 26 (by omega) (by omega) C dX1_bind_21 (by decide) (fun c21 => ?_) (fun c21 => ?_)
    · refine g_iload_n 2 2 C dX1_bind_26 rfl rfl ?_
      refine g_iconst (v := nI 5) C dX1_bind_27 (by decide) ?_
      refine g_ncmp_ne 42 (by decide) (by decide) C dX1_bind_28 (by decide) (fun c => absurd c (by decide)) (fun _ => ?_)
      refine g_aload_n 1 1 C dX1_bind_31 rfl rfl ?_
      refine g_bipush (v := nI 8) C dX1_bind_32 (by decide) ?_
      refine g_callV (As := [.int (nI 8)]) (rest := []) C dX1_bind_34 (c_L_all8 hL') wC_X4_allHaveBytes wM_X1_40 wI_X4_allHaveBytes wS_X4_allHaveBytes wN_X4 (kne k_a) (pf_5 k_a) rfl hd_X4_allHaveBytes ⟨by decide, by decide, by decide, by decide⟩ (Nat.le_of_ble_eq_true rfl) (fun r_ S_ h_ => ?_)
      obtain ⟨rfl, rfl⟩ := h_
      change Go X G _ 6 _ _ S 37 [(0, .ref ((c 7))), (1, .ref a), (2, .int (nI 5))] [.int (bI (all8 l l.length))]
      refine g_if_ne 42 C dX1_bind_37 (by decide) (fun c37 => ?_) (fun c37 => ?_)
      · rw [bI_t c37] at h8
        cases h8
      · refine g_null C dX1_bind_40 ?_
        exact g_aret (r := none) C dX1_bind_41 (Or.inl ⟨_, rfl⟩) (by decide) (by decide) (Or.inr ⟨by unfold fitsN; rw [show (nI 5).toNatClampNeg = 5 by decide, h8, show decide ((5 : Nat) ≠ 5) = false by decide, Bool.false_or, Bool.and_false, Bool.and_false], rfl, rfl⟩)
    · omega
set_option maxRecDepth 100000 in
set_option maxHeartbeats 400000 in
theorem c_B_bind_1 {lX : Launch} {G : Gx} {S : PS} {x : Nat} {c : Nat → Nat} (hC : CoC S x c) {a nr va room : Nat} {l : List Ent} (hL : listC S a nr va room l) (hl : okL l) (h0 : 0 < l.length) : Ct lX yX1_bind cX1_bind 6 (Option.some (Jvm.ClassFile.FieldType.object "BitAlmanac$Book")) rm_X1_bind G [.ref ((c 7)), .ref a, .int (nI 1)] S (bndP S l (nI 1)) := by
  have hL' := hL
  obtain ⟨⟨k_a, ra_a, rb_a⟩, ⟨kn_a, ln_a⟩, ⟨kv_a, lv_a⟩, sz_a, le_a, rm_a, en_a⟩ := hL
  have hl1 := hl.1
  refine Ct.mk RX1 "bind" hy_X1_bind (Nat.le_of_ble_eq_true rfl) (fun X hX C => ?_)
  change Go X G _ 6 0 0 S 0 [(0, .ref ((c 7))), (1, .ref a), (2, .int (nI 1))] []
  refine g_iload_n 2 2 C dX1_bind_0 rfl rfl ?_
  refine g_callSN (As := [.int (nI 1)]) (rest := []) C dX1_bind_1 (c_C_isBK_in (by decide) (by decide)) wC_X10_isBookKind C.2.2.2.2.2.1.2.2.2.2.2.2.2.1 wZ_X10_isBookKind wN_X10 hd_X10_isBookKind.2 ⟨by decide, by decide, by decide, by decide⟩ (Nat.le_of_ble_eq_true rfl) (fun r_ S_ h_ => ?_)
  obtain ⟨rfl, rfl⟩ := h_
  change Go X G _ 6 _ _ S 4 [(0, .ref ((c 7))), (1, .ref a), (2, .int (nI 1))] [.int (nI 1)]
  refine g_nif_eq 24 (by decide) C dX1_bind_4 (by decide) (fun c => absurd c (by decide)) (fun _ => ?_)
  refine g_aload_n 1 1 C dX1_bind_7 rfl rfl ?_
  refine gf_ls_size C dX1_bind_8 k_a wF_X1_35 ?_
  refine g_topi (sz_a) ?_
  refine g_iconst (v := nI 1) C dX1_bind_11 (by decide) ?_
  refine g_ncmp_lt 24 (by omega) (by omega) C dX1_bind_12 (by decide) (fun c12 => ?_) (fun c12 => ?_)
  · omega
  · refine g_aload_n 1 1 C dX1_bind_15 rfl rfl ?_
    refine gf_ls_size C dX1_bind_16 k_a wF_X1_35 ?_
    refine g_topi (sz_a) ?_
    refine g_bipush (v := nI 100) C dX1_bind_19 (by decide) ?_
    refine g_ncmp_le 26 (by omega) (by omega) C dX1_bind_21 (by decide) (fun c21 => ?_) (fun c21 => ?_)
    · refine g_iload_n 2 2 C dX1_bind_26 rfl rfl ?_
      refine g_iconst (v := nI 5) C dX1_bind_27 (by decide) ?_
      refine g_ncmp_ne 42 (by decide) (by decide) C dX1_bind_28 (by decide) (fun _ => ?_) (fun c => absurd c (by decide))
      refine g_aload_n 1 1 C dX1_bind_42 rfl rfl ?_
      refine g_aload_n 1 1 C dX1_bind_43 rfl rfl ?_
      refine gf_ls_size C dX1_bind_44 k_a wF_X1_35 ?_
      refine g_topi (sz_a) ?_
      refine g_callV (As := [.int (nI (l.length))]) (rest := []) C dX1_bind_47 (c_L_copy hL' (room0 := l.length) (by omega)) wC_X4_copyWithRoom wM_X1_43 wI_X4_copyWithRoom wS_X4_copyWithRoom wN_X4 (kne k_a) (pf_5 k_a) rfl hd_X4_copyWithRoom ⟨by decide, by decide, by decide, by decide⟩ (Nat.le_of_ble_eq_true rfl) (fun r_ Sa h_ => ?_)
      obtain ⟨a2, nr2, va2, rfl, fA, hmA, hLc, ha2, hn2, hv2⟩ := h_
      change Go X G _ 6 _ _ Sa 50 [(0, .ref ((c 7))), (1, .ref a), (2, .int (nI 1))] [.ref a2]
      rw [Nat.max_self] at hLc
      have hCa := hC.fr fA
      refine g_astore_n (lv' := [(3, .ref a2), (0, .ref ((c 7))), (1, .ref a), (2, .int (nI 1))]) C dX1_bind_50 rfl (by decide) rfl ?_
      refine g_iconst (v := nI 0) C dX1_bind_51 (by decide) ?_
      refine gy_eb_a C dX1_bind_52 (by omega) ⟨by decide, by decide⟩ (fun q1 h0_q1 => ?_)
      have f1 : Fr S (na_eb_a Sa q1 0) No := fA.a_eb_a h0_q1
      have g1 : Fr Sa (na_eb_a Sa q1 0) No := (Fr.refl Sa No).a_eb_a h0_q1
      have hq1 : kd S q1 = 0 := fA.new h0_q1
      have hL1 := hLc.fr g1 (fun z => z) (fun z => z) (fun z => z)
      have hC1 := hC.fr f1
      have kq1 : kd (na_eb_a Sa q1 0) q1 = 15 := va_up_self _ _ _
      refine g_astore (lv' := [(4, .ref q1), (3, .ref a2), (0, .ref ((c 7))), (1, .ref a), (2, .int (nI 1))]) C dX1_bind_54 (by decide) rfl ?_
      refine g_iload_n 4 2 C dX1_bind_56 rfl rfl ?_
      refine g_iconst (v := nI 1) C dX1_bind_57 (by decide) ?_
      refine g_ncmp_ne 79 (by decide) (by decide) C dX1_bind_58 (by decide) (fun c => absurd c (by decide)) (fun _ => ?_)
      refine gw_Book C dX1_bind_61 wK_X1_47 ⟨by decide, by decide⟩ (fun q2 h0_q2 => ?_)
      have f2 : Fr S (nw_Book (na_eb_a Sa q1 0) q2) No := f1.n_Book h0_q2
      have g2 : Fr (na_eb_a Sa q1 0) (nw_Book (na_eb_a Sa q1 0) q2) No := (Fr.refl _ No).n_Book h0_q2
      have hq2 : kd S q2 = 0 := f1.new h0_q2
      have hL2 := hL1.fr g2 (fun z => z) (fun z => z) (fun z => z)
      have kq2 : kd (nw_Book (na_eb_a Sa q1 0) q2) q2 = 3 := va_up_self _ _ _
      have kq1' : kd (nw_Book (na_eb_a Sa q1 0) q2) q1 = 15 := g2.kd_ kq1
      refine g_dup C dX1_bind_64 rfl ?_
      refine g_iload_n 4 2 C dX1_bind_65 rfl rfl ?_
      refine g_aload_n 1 3 C dX1_bind_66 rfl rfl ?_
      refine g_null C dX1_bind_67 ?_
      refine g_iconst (v := nI 0) C dX1_bind_68 (by decide) ?_
      refine g_aload_n 1 3 C dX1_bind_69 rfl rfl ?_
      refine g_callV (As := []) (rest := [.int (nI 0), .null, .ref a2, .int (nI 1), .ref q2, .ref q2]) C dX1_bind_70 (c_L_nameBytes hL2) wC_X4_nameBytes wM_X1_49 wI_X4_nameBytes wS_X4_nameBytes wN_X4 (kne hL2.1.1) (pf_5 hL2.1.1) rfl hd_X4_nameBytes ⟨by decide, by decide, by decide, by decide⟩ (Nat.le_of_ble_eq_true rfl) (fun r_ S_ h_ => ?_)
      obtain ⟨rfl, rfl⟩ := h_
      change Go X G _ 6 _ _ (nw_Book (na_eb_a Sa q1 0) q2) 73 [(4, .ref q1), (3, .ref a2), (0, .ref ((c 7))), (1, .ref a), (2, .int (nI 1))] [.int (nI (sumN (fun k => (nm l k).length) l.length)), .int (nI 0), .null, .ref a2, .int (nI 1), .ref q2, .ref q2]
      refine g_aload 0 C dX1_bind_73 rfl ?_
      refine g_callI (As := [.int (nI 1), .ref a2, .null, .int (nI 0), .int (nI (sumN (fun k => (nm l k).length) l.length)), .ref q1]) (rest := [.ref q2]) C dX1_bind_75 (c_K_initN (rw := 0) (S := (nw_Book (na_eb_a Sa q1 0) q2)) kq2) wC_X2_init wM_X1_53 wI_X2_init wN_X2 rfl hd_X2_init.2 ⟨by decide, by decide, by decide, by decide⟩ (Nat.le_of_ble_eq_true rfl) (fun r_ S_ h_ => ?_)
      obtain ⟨rfl, rfl⟩ := h_
      change Go X G _ 6 _ _ (bk_eb_ (bk_part_ (bk_edges_ (bk_row_ (bk_list_ (bk_kind_ (nw_Book (na_eb_a Sa q1 0) q2) (va_up (bk_kind (nw_Book (na_eb_a Sa q1 0) q2)) q2 (nI 1))) (va_up (bk_list (nw_Book (na_eb_a Sa q1 0) q2)) q2 (some a2))) (va_up (bk_row (nw_Book (na_eb_a Sa q1 0) q2)) q2 (none))) (va_up (bk_edges (nw_Book (na_eb_a Sa q1 0) q2)) q2 (nI 0))) (va_up (bk_part (nw_Book (na_eb_a Sa q1 0) q2)) q2 (nI (sumN (fun k => (nm l k).length) l.length)))) (va_up (bk_eb (nw_Book (na_eb_a Sa q1 0) q2)) q2 (some q1))) 78 [(4, .ref q1), (3, .ref a2), (0, .ref ((c 7))), (1, .ref a), (2, .int (nI 1))] [.ref q2]
      refine g_aret (r := some q2) C dX1_bind_78 (Or.inl ⟨_, rfl⟩) (by decide) (by decide) (Or.inl ⟨by rw [kdB_lit (by decide) (by decide), show (nI 1).toNatClampNeg = 1 by decide]; unfold fitsN; rw [decide_eq_true h0]; rfl, nine q2 a2 nr2 va2 q2 q2 q2 q2 q1, rfl, ((((((f2.u_bk_kind (Or.inl hq2)).u_bk_list (Or.inl hq2)).u_bk_row (Or.inl hq2)).u_bk_edges (Or.inl hq2)).u_bk_part (Or.inl hq2)).u_bk_eb (Or.inl hq2)), hmA, ?_, nine_all (P := fun q => kd S q = 0) hq2 ha2 hn2 hv2 hq2 hq2 hq2 hq2 hq1, nine_all (P := fun q => kd (nw_Book (na_eb_a Sa q1 0) q2) q ≠ 0) (by rw [kq2]; decide) (by rw [hL2.1.1]; decide) (by rw [hL2.2.1.1]; decide) (by rw [hL2.2.2.1.1]; decide) (by rw [kq2]; decide) (by rw [kq2]; decide) (by rw [kq2]; decide) (by rw [kq2]; decide) (by rw [kq1']; decide)⟩)
      rw [show (nI 1).toNatClampNeg = 1 by decide]
      exact bookC_mk (K := 1) kq2 (va_up_self _ _ _) (va_up_self _ _ _) hL2 ((va_up_self _ _ _).trans (congrArg nI (edgesN_1 l).symm)) ((va_up_self _ _ _).trans (congrArg nI (lettersN_1 l).symm)) (va_up_self _ _ _) kq1' (fun e => absurd e (by decide)) (fun _ => va_up_self _ _ _) (fun e => absurd rfl e)
    · omega
set_option maxRecDepth 100000 in
set_option maxHeartbeats 400000 in
theorem c_B_bind_5 {lX : Launch} {G : Gx} {S : PS} {x : Nat} {c : Nat → Nat} (hC : CoC S x c) {a nr va room : Nat} {l : List Ent} (hL : listC S a nr va room l) (hl : okL l) (h0 : 0 < l.length) (h8 : all8 l l.length = true) : Ct lX yX1_bind cX1_bind 6 (Option.some (Jvm.ClassFile.FieldType.object "BitAlmanac$Book")) rm_X1_bind G [.ref ((c 7)), .ref a, .int (nI 5)] S (bndP S l (nI 5)) := by
  have hL' := hL
  obtain ⟨⟨k_a, ra_a, rb_a⟩, ⟨kn_a, ln_a⟩, ⟨kv_a, lv_a⟩, sz_a, le_a, rm_a, en_a⟩ := hL
  have hl1 := hl.1
  refine Ct.mk RX1 "bind" hy_X1_bind (Nat.le_of_ble_eq_true rfl) (fun X hX C => ?_)
  change Go X G _ 6 0 0 S 0 [(0, .ref ((c 7))), (1, .ref a), (2, .int (nI 5))] []
  refine g_iload_n 2 2 C dX1_bind_0 rfl rfl ?_
  refine g_callSN (As := [.int (nI 5)]) (rest := []) C dX1_bind_1 (c_C_isBK_in (by decide) (by decide)) wC_X10_isBookKind C.2.2.2.2.2.1.2.2.2.2.2.2.2.1 wZ_X10_isBookKind wN_X10 hd_X10_isBookKind.2 ⟨by decide, by decide, by decide, by decide⟩ (Nat.le_of_ble_eq_true rfl) (fun r_ S_ h_ => ?_)
  obtain ⟨rfl, rfl⟩ := h_
  change Go X G _ 6 _ _ S 4 [(0, .ref ((c 7))), (1, .ref a), (2, .int (nI 5))] [.int (nI 1)]
  refine g_nif_eq 24 (by decide) C dX1_bind_4 (by decide) (fun c => absurd c (by decide)) (fun _ => ?_)
  refine g_aload_n 1 1 C dX1_bind_7 rfl rfl ?_
  refine gf_ls_size C dX1_bind_8 k_a wF_X1_35 ?_
  refine g_topi (sz_a) ?_
  refine g_iconst (v := nI 1) C dX1_bind_11 (by decide) ?_
  refine g_ncmp_lt 24 (by omega) (by omega) C dX1_bind_12 (by decide) (fun c12 => ?_) (fun c12 => ?_)
  · omega
  · refine g_aload_n 1 1 C dX1_bind_15 rfl rfl ?_
    refine gf_ls_size C dX1_bind_16 k_a wF_X1_35 ?_
    refine g_topi (sz_a) ?_
    refine g_bipush (v := nI 100) C dX1_bind_19 (by decide) ?_
    refine g_ncmp_le 26 (by omega) (by omega) C dX1_bind_21 (by decide) (fun c21 => ?_) (fun c21 => ?_)
    · refine g_iload_n 2 2 C dX1_bind_26 rfl rfl ?_
      refine g_iconst (v := nI 5) C dX1_bind_27 (by decide) ?_
      refine g_ncmp_ne 42 (by decide) (by decide) C dX1_bind_28 (by decide) (fun c => absurd c (by decide)) (fun _ => ?_)
      refine g_aload_n 1 1 C dX1_bind_31 rfl rfl ?_
      refine g_bipush (v := nI 8) C dX1_bind_32 (by decide) ?_
      refine g_callV (As := [.int (nI 8)]) (rest := []) C dX1_bind_34 (c_L_all8 hL') wC_X4_allHaveBytes wM_X1_40 wI_X4_allHaveBytes wS_X4_allHaveBytes wN_X4 (kne k_a) (pf_5 k_a) rfl hd_X4_allHaveBytes ⟨by decide, by decide, by decide, by decide⟩ (Nat.le_of_ble_eq_true rfl) (fun r_ S_ h_ => ?_)
      obtain ⟨rfl, rfl⟩ := h_
      change Go X G _ 6 _ _ S 37 [(0, .ref ((c 7))), (1, .ref a), (2, .int (nI 5))] [.int (bI (all8 l l.length))]
      refine g_if_ne 42 C dX1_bind_37 (by decide) (fun c37 => ?_) (fun c37 => ?_)
      · refine g_aload_n 1 1 C dX1_bind_42 rfl rfl ?_
        refine g_aload_n 1 1 C dX1_bind_43 rfl rfl ?_
        refine gf_ls_size C dX1_bind_44 k_a wF_X1_35 ?_
        refine g_topi (sz_a) ?_
        refine g_callV (As := [.int (nI (l.length))]) (rest := []) C dX1_bind_47 (c_L_copy hL' (room0 := l.length) (by omega)) wC_X4_copyWithRoom wM_X1_43 wI_X4_copyWithRoom wS_X4_copyWithRoom wN_X4 (kne k_a) (pf_5 k_a) rfl hd_X4_copyWithRoom ⟨by decide, by decide, by decide, by decide⟩ (Nat.le_of_ble_eq_true rfl) (fun r_ Sa h_ => ?_)
        obtain ⟨a2, nr2, va2, rfl, fA, hmA, hLc, ha2, hn2, hv2⟩ := h_
        change Go X G _ 6 _ _ Sa 50 [(0, .ref ((c 7))), (1, .ref a), (2, .int (nI 5))] [.ref a2]
        rw [Nat.max_self] at hLc
        have hCa := hC.fr fA
        refine g_astore_n (lv' := [(3, .ref a2), (0, .ref ((c 7))), (1, .ref a), (2, .int (nI 5))]) C dX1_bind_50 rfl (by decide) rfl ?_
        refine g_iconst (v := nI 0) C dX1_bind_51 (by decide) ?_
        refine gy_eb_a C dX1_bind_52 (by omega) ⟨by decide, by decide⟩ (fun q1 h0_q1 => ?_)
        have f1 : Fr S (na_eb_a Sa q1 0) No := fA.a_eb_a h0_q1
        have g1 : Fr Sa (na_eb_a Sa q1 0) No := (Fr.refl Sa No).a_eb_a h0_q1
        have hq1 : kd S q1 = 0 := fA.new h0_q1
        have hL1 := hLc.fr g1 (fun z => z) (fun z => z) (fun z => z)
        have hC1 := hC.fr f1
        have kq1 : kd (na_eb_a Sa q1 0) q1 = 15 := va_up_self _ _ _
        refine g_astore (lv' := [(4, .ref q1), (3, .ref a2), (0, .ref ((c 7))), (1, .ref a), (2, .int (nI 5))]) C dX1_bind_54 (by decide) rfl ?_
        refine g_iload_n 4 2 C dX1_bind_56 rfl rfl ?_
        refine g_iconst (v := nI 1) C dX1_bind_57 (by decide) ?_
        refine g_ncmp_ne 79 (by decide) (by decide) C dX1_bind_58 (by decide) (fun _ => ?_) (fun c => absurd c (by decide))
        refine g_iload_n 4 2 C dX1_bind_79 rfl rfl ?_
        refine g_iconst (v := nI 5) C dX1_bind_80 (by decide) ?_
        refine g_ncmp_ne 103 (by decide) (by decide) C dX1_bind_81 (by decide) (fun c => absurd c (by decide)) (fun _ => ?_)
        refine gw_Book C dX1_bind_84 wK_X1_47 ⟨by decide, by decide⟩ (fun q2 h0_q2 => ?_)
        have f2 : Fr S (nw_Book (na_eb_a Sa q1 0) q2) No := f1.n_Book h0_q2
        have g2 : Fr (na_eb_a Sa q1 0) (nw_Book (na_eb_a Sa q1 0) q2) No := (Fr.refl _ No).n_Book h0_q2
        have hq2 : kd S q2 = 0 := f1.new h0_q2
        have hL2 := hL1.fr g2 (fun z => z) (fun z => z) (fun z => z)
        have kq2 : kd (nw_Book (na_eb_a Sa q1 0) q2) q2 = 3 := va_up_self _ _ _
        have kq1' : kd (nw_Book (na_eb_a Sa q1 0) q2) q1 = 15 := g2.kd_ kq1
        refine g_dup C dX1_bind_87 rfl ?_
        refine g_iload_n 4 2 C dX1_bind_88 rfl rfl ?_
        refine g_aload_n 1 3 C dX1_bind_89 rfl rfl ?_
        refine g_aload_n 2 0 C dX1_bind_90 rfl rfl ?_
        refine g_aload_n 1 3 C dX1_bind_91 rfl rfl ?_
        have hC2 := hC.fr f2
        refine g_callV (As := [.ref a2]) (rest := [.ref a2, .int (nI 5), .ref q2, .ref q2]) C dX1_bind_92 (c_B_splitRow hC2 hL2 hl h0 (all8_iff.mp h8)) wC_X1_splitRow wM_X1_56 wI_X1_splitRow wS_X1_splitRow wN_X1 (kne (kup h0_q2 (kup h0_q1 (fA.kd_ hC.2.2.2.2.1.2)))) (pf_2 (kup h0_q2 (kup h0_q1 (fA.kd_ hC.2.2.2.2.1.2)))) rfl hd_X1_splitRow ⟨by decide, by decide, by decide, by decide⟩ (Nat.le_of_ble_eq_true rfl) (fun r_ Sr h_ => ?_)
        obtain ⟨rw_, wd, ta, tb, rfl, fr, hmr, hscr, hrow, hr0, hw0, ht0, hu0⟩ := h_
        change Go X G _ 6 _ _ Sr 95 [(4, .ref q1), (3, .ref a2), (0, .ref ((c 7))), (1, .ref a), (2, .int (nI 5))] [.ref rw_, .ref a2, .int (nI 5), .ref q2, .ref q2]
        have f3 : Fr S Sr No := f2.trans fr (fun _ _ z => z)
        have hL3 := hL2.fr fr (fun z => z) (fun z => z) (fun z => z)
        have kq2' := fr.kd_ kq2
        have kq1'' := fr.kd_ kq1'
        refine g_iconst (v := nI 0) C dX1_bind_95 (by decide) ?_
        refine g_iconst (v := nI 0) C dX1_bind_96 (by decide) ?_
        refine g_aload 0 C dX1_bind_97 rfl ?_
        refine g_callI (As := [.int (nI 5), .ref a2, .ref rw_, .int (nI 0), .int (nI 0), .ref q1]) (rest := [.ref q2]) C dX1_bind_99 (c_K_init (S := Sr) (rw := rw_) kq2') wC_X2_init wM_X1_53 wI_X2_init wN_X2 rfl hd_X2_init.2 ⟨by decide, by decide, by decide, by decide⟩ (Nat.le_of_ble_eq_true rfl) (fun r_ S_ h_ => ?_)
        obtain ⟨rfl, rfl⟩ := h_
        change Go X G _ 6 _ _ (bk_eb_ (bk_part_ (bk_edges_ (bk_row_ (bk_list_ (bk_kind_ Sr (va_up (bk_kind Sr) q2 (nI 5))) (va_up (bk_list Sr) q2 (some a2))) (va_up (bk_row Sr) q2 (some rw_))) (va_up (bk_edges Sr) q2 (nI 0))) (va_up (bk_part Sr) q2 (nI 0))) (va_up (bk_eb Sr) q2 (some q1))) 102 [(4, .ref q1), (3, .ref a2), (0, .ref ((c 7))), (1, .ref a), (2, .int (nI 5))] [.ref q2]
        refine g_aret (r := some q2) C dX1_bind_102 (Or.inl ⟨_, rfl⟩) (by decide) (by decide) (Or.inl ⟨by rw [kdB_lit (by decide) (by decide), show (nI 5).toNatClampNeg = 5 by decide]; unfold fitsN; rw [decide_eq_true h0]; rw [h8]; rfl, nine q2 a2 nr2 va2 rw_ wd ta tb q1, rfl, ((((((f3.u_bk_kind (Or.inl hq2)).u_bk_list (Or.inl hq2)).u_bk_row (Or.inl hq2)).u_bk_edges (Or.inl hq2)).u_bk_part (Or.inl hq2)).u_bk_eb (Or.inl hq2)), hmr.trans hmA, ?_, nine_all (P := fun q => kd S q = 0) hq2 ha2 hn2 hv2 (f2.new hr0) (f2.new hw0) (f2.new ht0) (f2.new hu0) hq1, nine_all (P := fun q => kd Sr q ≠ 0) (by rw [kq2']; decide) (by rw [hL3.1.1]; decide) (by rw [hL3.2.1.1]; decide) (by rw [hL3.2.2.1.1]; decide) (by rw [hrow.1.1.1]; decide) (by rw [hrow.1.2.1.1]; decide) (by rw [hrow.1.2.2.1.1]; decide) (by rw [hrow.1.2.2.2.1.1]; decide) (by rw [kq1'']; decide)⟩)
        rw [show (nI 5).toNatClampNeg = 5 by decide]
        exact bookC_mk (K := 5) kq2' (va_up_self _ _ _) (va_up_self _ _ _) hL3 ((va_up_self _ _ _).trans (congrArg nI (edgesN_5 l).symm)) ((va_up_self _ _ _).trans (congrArg nI (lettersN_5 l).symm)) (va_up_self _ _ _) kq1'' (fun e => absurd e (by decide)) (fun e => absurd e (by decide)) (fun _ => ⟨va_up_self _ _ _, by rw [bitsN_5]; exact hrow⟩)
      · rw [h8] at c37
        exact absurd c37 (by decide)
    · omega
set_option maxRecDepth 100000 in
set_option maxHeartbeats 400000 in
theorem c_B_bind_2 {lX : Launch} {G : Gx} {S : PS} {x : Nat} {c : Nat → Nat} (hC : CoC S x c) {a nr va room : Nat} {l : List Ent} (hL : listC S a nr va room l) (hl : okL l) (h0 : 0 < l.length) : Ct lX yX1_bind cX1_bind 6 (Option.some (Jvm.ClassFile.FieldType.object "BitAlmanac$Book")) rm_X1_bind G [.ref ((c 7)), .ref a, .int (nI 2)] S (bndP S l (nI 2)) := by
  have hL' := hL
  obtain ⟨⟨k_a, ra_a, rb_a⟩, ⟨kn_a, ln_a⟩, ⟨kv_a, lv_a⟩, sz_a, le_a, rm_a, en_a⟩ := hL
  have hl1 := hl.1
  have hT := tr_ok hl h0 false
  refine Ct.mk RX1 "bind" hy_X1_bind (Nat.le_of_ble_eq_true rfl) (fun X hX C => ?_)
  change Go X G _ 6 0 0 S 0 [(0, .ref ((c 7))), (1, .ref a), (2, .int (nI 2))] []
  refine g_iload_n 2 2 C dX1_bind_0 rfl rfl ?_
  refine g_callSN (As := [.int (nI 2)]) (rest := []) C dX1_bind_1 (c_C_isBK_in (by decide) (by decide)) wC_X10_isBookKind C.2.2.2.2.2.1.2.2.2.2.2.2.2.1 wZ_X10_isBookKind wN_X10 hd_X10_isBookKind.2 ⟨by decide, by decide, by decide, by decide⟩ (Nat.le_of_ble_eq_true rfl) (fun r_ S_ h_ => ?_)
  obtain ⟨rfl, rfl⟩ := h_
  change Go X G _ 6 _ _ S 4 [(0, .ref ((c 7))), (1, .ref a), (2, .int (nI 2))] [.int (nI 1)]
  refine g_nif_eq 24 (by decide) C dX1_bind_4 (by decide) (fun c => absurd c (by decide)) (fun _ => ?_)
  refine g_aload_n 1 1 C dX1_bind_7 rfl rfl ?_
  refine gf_ls_size C dX1_bind_8 k_a wF_X1_35 ?_
  refine g_topi (sz_a) ?_
  refine g_iconst (v := nI 1) C dX1_bind_11 (by decide) ?_
  refine g_ncmp_lt 24 (by omega) (by omega) C dX1_bind_12 (by decide) (fun c12 => ?_) (fun c12 => ?_)
  · omega
  · refine g_aload_n 1 1 C dX1_bind_15 rfl rfl ?_
    refine gf_ls_size C dX1_bind_16 k_a wF_X1_35 ?_
    refine g_topi (sz_a) ?_
    refine g_bipush (v := nI 100) C dX1_bind_19 (by decide) ?_
    refine g_ncmp_le 26 (by omega) (by omega) C dX1_bind_21 (by decide) (fun c21 => ?_) (fun c21 => ?_)
    · refine g_iload_n 2 2 C dX1_bind_26 rfl rfl ?_
      refine g_iconst (v := nI 5) C dX1_bind_27 (by decide) ?_
      refine g_ncmp_ne 42 (by decide) (by decide) C dX1_bind_28 (by decide) (fun _ => ?_) (fun c => absurd c (by decide))
      refine g_aload_n 1 1 C dX1_bind_42 rfl rfl ?_
      refine g_aload_n 1 1 C dX1_bind_43 rfl rfl ?_
      refine gf_ls_size C dX1_bind_44 k_a wF_X1_35 ?_
      refine g_topi (sz_a) ?_
      refine g_callV (As := [.int (nI (l.length))]) (rest := []) C dX1_bind_47 (c_L_copy hL' (room0 := l.length) (by omega)) wC_X4_copyWithRoom wM_X1_43 wI_X4_copyWithRoom wS_X4_copyWithRoom wN_X4 (kne k_a) (pf_5 k_a) rfl hd_X4_copyWithRoom ⟨by decide, by decide, by decide, by decide⟩ (Nat.le_of_ble_eq_true rfl) (fun r_ Sa h_ => ?_)
      obtain ⟨a2, nr2, va2, rfl, fA, hmA, hLc, ha2, hn2, hv2⟩ := h_
      change Go X G _ 6 _ _ Sa 50 [(0, .ref ((c 7))), (1, .ref a), (2, .int (nI 2))] [.ref a2]
      rw [Nat.max_self] at hLc
      have hCa := hC.fr fA
      refine g_astore_n (lv' := [(3, .ref a2), (0, .ref ((c 7))), (1, .ref a), (2, .int (nI 2))]) C dX1_bind_50 rfl (by decide) rfl ?_
      refine g_iconst (v := nI 0) C dX1_bind_51 (by decide) ?_
      refine gy_eb_a C dX1_bind_52 (by omega) ⟨by decide, by decide⟩ (fun q1 h0_q1 => ?_)
      have f1 : Fr S (na_eb_a Sa q1 0) No := fA.a_eb_a h0_q1
      have g1 : Fr Sa (na_eb_a Sa q1 0) No := (Fr.refl Sa No).a_eb_a h0_q1
      have hq1 : kd S q1 = 0 := fA.new h0_q1
      have hL1 := hLc.fr g1 (fun z => z) (fun z => z) (fun z => z)
      have hC1 := hC.fr f1
      have kq1 : kd (na_eb_a Sa q1 0) q1 = 15 := va_up_self _ _ _
      refine g_astore (lv' := [(4, .ref q1), (3, .ref a2), (0, .ref ((c 7))), (1, .ref a), (2, .int (nI 2))]) C dX1_bind_54 (by decide) rfl ?_
      refine g_iload_n 4 2 C dX1_bind_56 rfl rfl ?_
      refine g_iconst (v := nI 1) C dX1_bind_57 (by decide) ?_
      refine g_ncmp_ne 79 (by decide) (by decide) C dX1_bind_58 (by decide) (fun _ => ?_) (fun c => absurd c (by decide))
      refine g_iload_n 4 2 C dX1_bind_79 rfl rfl ?_
      refine g_iconst (v := nI 5) C dX1_bind_80 (by decide) ?_
      refine g_ncmp_ne 103 (by decide) (by decide) C dX1_bind_81 (by decide) (fun _ => ?_) (fun c => absurd c (by decide))
      refine g_aload_n 2 0 C dX1_bind_103 rfl rfl ?_
      refine g_aload_n 1 3 C dX1_bind_104 rfl rfl ?_
      refine g_iload_n 4 2 C dX1_bind_105 rfl rfl ?_
      refine g_iconst (v := nI 2) C dX1_bind_106 (by decide) ?_
      refine g_ncmp_ne 114 (by decide) (by decide) C dX1_bind_107 (by decide) (fun c => absurd c (by decide)) (fun _ => ?_)
      refine g_iconst (v := nI 1) C dX1_bind_110 (by decide) ?_
      refine g_goto 115 C dX1_bind_111 (by decide) ?_
      refine g_callV (As := [.ref a2, .int (nI 1)]) (rest := []) C dX1_bind_115 (c_B_grow (S := (na_eb_a Sa q1 0)) (pr := false) hC1 hL1 hl h0) wC_X1_growTree wM_X1_60 wI_X1_growTree wS_X1_growTree wN_X1 (kne (kup h0_q1 (fA.kd_ hC.2.2.2.2.1.2))) (pf_2 (kup h0_q1 (fA.kd_ hC.2.2.2.2.1.2))) rfl hd_X1_growTree ⟨by decide, by decide, by decide, by decide⟩ (Nat.le_of_ble_eq_true rfl) (fun r_ S_ h_ => ?_)
      obtain ⟨al, g, f, d, s, rfl, rfl, hal, hnd, hdg⟩ := h_
      change Go X G _ 6 _ _ (grS (na_eb_a Sa q1 0) al g f d s (nI (tr l false).length)) 118 [(4, .ref q1), (3, .ref a2), (0, .ref ((c 7))), (1, .ref a), (2, .int (nI 2))] []
      have gG : Fr (na_eb_a Sa q1 0) (grS (na_eb_a Sa q1 0) al g f d s (nI (tr l false).length)) No := (((((Fr.refl _ No).s_al_a).s_dg_a).s_fi_a).s_de_a.s_st_a).s_bi_nodes
      have fG : Fr S (grS (na_eb_a Sa q1 0) al g f d s (nI (tr l false).length)) No := f1.trans gG (fun _ _ z => z)
      have hCG := hC.fr fG
      have hLG := hL1.fr gG (fun z => z) (fun z => z) (fun z => z)
      have kqG : kd (grS (na_eb_a Sa q1 0) al g f d s (nI (tr l false).length)) q1 = 15 := gG.kd_ kq1
      refine g_iload_n 4 2 C dX1_bind_118 rfl rfl ?_
      refine g_iconst (v := nI 2) C dX1_bind_119 (by decide) ?_
      refine g_ncmp_ne 131 (by decide) (by decide) C dX1_bind_120 (by decide) (fun c => absurd c (by decide)) (fun _ => ?_)
      refine g_aload_n 2 0 C dX1_bind_123 rfl rfl ?_
      refine g_aload_n 1 3 C dX1_bind_124 rfl rfl ?_
      refine g_callV (As := [.ref a2]) (rest := []) C dX1_bind_125 (c_B_edge (S := (grS (na_eb_a Sa q1 0) al g f d s (nI (tr l false).length))) (ns := (tr l false)) hCG hLG hl hnd hT.1 hT.2.2 rfl hT.2.1 (tr_stem hl h0)) wC_X1_edgeBytes wM_X1_64 wI_X1_edgeBytes wS_X1_edgeBytes wN_X1 (kne (fG.kd_ hC.2.2.2.2.1.2)) (pf_2 (fG.kd_ hC.2.2.2.2.1.2)) rfl hd_X1_edgeBytes ⟨by decide, by decide, by decide, by decide⟩ (Nat.le_of_ble_eq_true rfl) (fun r_ Se h_ => ?_)
      obtain ⟨q3, rfl, fe, hme, hse, hq3, kqe_, hle, heb⟩ := h_
      change Go X G _ 6 _ _ Se 128 [(4, .ref q1), (3, .ref a2), (0, .ref ((c 7))), (1, .ref a), (2, .int (nI 2))] [.ref q3]
      have f4 : Fr S Se No := fG.trans fe (fun _ _ z => z)
      have hLe := hLG.fr fe (fun z => z) (fun z => z) (fun z => z)
      have kqe := kqe_
      refine g_goto 133 C dX1_bind_128 (by decide) ?_
      refine g_astore (lv' := [(5, .ref q3), (4, .ref q1), (3, .ref a2), (0, .ref ((c 7))), (1, .ref a), (2, .int (nI 2))]) C dX1_bind_133 (by decide) rfl ?_
      refine gw_Book C dX1_bind_135 wK_X1_47 ⟨by decide, by decide⟩ (fun q2 h0_q2 => ?_)
      have f5 : Fr S (nw_Book Se q2) No := f4.n_Book h0_q2
      have g5 : Fr Se (nw_Book Se q2) No := (Fr.refl _ No).n_Book h0_q2
      have hq2 : kd S q2 = 0 := f4.new h0_q2
      have hL5 := hLe.fr g5 (fun z => z) (fun z => z) (fun z => z)
      have kq2 : kd (nw_Book Se q2) q2 = 3 := va_up_self _ _ _
      have kE5 := g5.kd_ kqe
      have hC5 := hC.fr f5
      have hs5 : scr (nw_Book Se q2) = scr (grS (na_eb_a Sa q1 0) al g f d s (nI (tr l false).length)) := hse
      refine g_dup C dX1_bind_138 rfl ?_
      refine g_iload_n 5 2 C dX1_bind_139 rfl rfl ?_
      refine g_aload_n 2 3 C dX1_bind_140 rfl rfl ?_
      refine g_aload_n 3 0 C dX1_bind_141 rfl rfl ?_
      refine g_callV (As := []) (rest := [.ref a2, .int (nI 2), .ref q2, .ref q2]) C dX1_bind_142 (c_B_treeRow (S := (nw_Book Se q2)) (n := (tr l false).length) (K := fun v => (kids l false (ndAt l false v)).length) hC5 (congrArg (fun q => q.1) hs5) hT.2.1 hT.1 (fun u hu => (congrArg (fun q => q.2.2.2.2.2 u) hs5).trans (hdg u hu)) (tr_sum hl h0 false)) wC_X1_treeRow wM_X1_68 wI_X1_treeRow wS_X1_treeRow wN_X1 (kne (f5.kd_ hC.2.2.2.2.1.2)) (pf_2 (f5.kd_ hC.2.2.2.2.1.2)) rfl hd_X1_treeRow ⟨by decide, by decide, by decide, by decide⟩ (Nat.le_of_ble_eq_true rfl) (fun r_ St h_ => ?_)
      obtain ⟨rw_, wd, ta, tb, rfl, ft, hmt, hst_, hrow, hr0, hw0, ht0, hu0⟩ := h_
      change Go X G _ 6 _ _ St 145 [(5, .ref q3), (4, .ref q1), (3, .ref a2), (0, .ref ((c 7))), (1, .ref a), (2, .int (nI 2))] [.ref rw_, .ref a2, .int (nI 2), .ref q2, .ref q2]
      have f6 : Fr S St No := f5.trans ft (fun _ _ z => z)
      have hL6 := hL5.fr ft (fun z => z) (fun z => z) (fun z => z)
      have kq6 := ft.kd_ kq2
      have kE6 := ft.kd_ kE5
      have hC6 := hC.fr f6
      have hs6 := hst_.trans hs5
      have n6 : bi_nodes St = nI (tr l false).length := congrArg (fun q => q.1) hs6
      have nd6 : ndF (fi_a St) (de_a St) (st_a St) (tr l false) := by
        rw [show fi_a St = f from congrArg (fun q => q.2.2.1) hs6, show de_a St = d from congrArg (fun q => q.2.2.2.1) hs6, show st_a St = s from congrArg (fun q => q.2.2.2.2.1) hs6]; exact hnd
      refine g_aload_n 3 0 C dX1_bind_145 rfl rfl ?_
      refine gf_bi_nodes C dX1_bind_146 (f6.kd_ hC.2.2.2.2.1.2) wF_X1_27 ?_
      refine g_topi (n6) ?_
      refine g_iconst (v := nI 1) C dX1_bind_149 (by decide) ?_
      refine g_isub C dX1_bind_150 ?_
      refine g_topi (pk_sub (by omega) : _ = nI ((tr l false).length - 1)) ?_
      refine g_aload_n 3 0 C dX1_bind_151 rfl rfl ?_
      refine g_aload_n 2 3 C dX1_bind_152 rfl rfl ?_
      refine g_iload_n 5 2 C dX1_bind_153 rfl rfl ?_
      refine g_iconst (v := nI 4) C dX1_bind_154 (by decide) ?_
      refine g_ncmp_ne 162 (by decide) (by decide) C dX1_bind_155 (by decide) (fun _ => ?_) (fun c => absurd c (by decide))
      refine g_iconst (v := nI 0) C dX1_bind_162 (by decide) ?_
      refine g_callV (As := [.ref a2, .int (nI 0)]) (rest := [.int (nI ((tr l false).length - 1)), .ref rw_, .ref a2, .int (nI 2), .ref q2, .ref q2]) C dX1_bind_163 (c_B_bytes (S := St) (ns := (tr l false)) (fo := false) hC6 hL6 hl nd6 hT.1 hT.2.2 n6 hT.2.1) wC_X1_stringBytes wM_X1_72 wI_X1_stringBytes wS_X1_stringBytes wN_X1 (kne (f6.kd_ hC.2.2.2.2.1.2)) (pf_2 (f6.kd_ hC.2.2.2.2.1.2)) rfl hd_X1_stringBytes ⟨by decide, by decide, by decide, by decide⟩ (Nat.le_of_ble_eq_true rfl) (fun r_ S_ h_ => ?_)
      obtain ⟨rfl, rfl⟩ := h_
      change Go X G _ 6 _ _ St 166 [(5, .ref q3), (4, .ref q1), (3, .ref a2), (0, .ref ((c 7))), (1, .ref a), (2, .int (nI 2))] [.int (nI (sumN (lbF l (tr l false) false) (tr l false).length)), .int (nI ((tr l false).length - 1)), .ref rw_, .ref a2, .int (nI 2), .ref q2, .ref q2]
      refine g_aload 0 C dX1_bind_166 rfl ?_
      refine g_callI (As := [.int (nI 2), .ref a2, .ref rw_, .int (nI ((tr l false).length - 1)), .int (nI (sumN (lbF l (tr l false) false) (tr l false).length)), .ref q3]) (rest := [.ref q2]) C dX1_bind_168 (c_K_init (S := St) (rw := rw_) kq6) wC_X2_init wM_X1_53 wI_X2_init wN_X2 rfl hd_X2_init.2 ⟨by decide, by decide, by decide, by decide⟩ (Nat.le_of_ble_eq_true rfl) (fun r_ S_ h_ => ?_)
      obtain ⟨rfl, rfl⟩ := h_
      change Go X G _ 6 _ _ (bk_eb_ (bk_part_ (bk_edges_ (bk_row_ (bk_list_ (bk_kind_ St (va_up (bk_kind St) q2 (nI 2))) (va_up (bk_list St) q2 (some a2))) (va_up (bk_row St) q2 (some rw_))) (va_up (bk_edges St) q2 (nI ((tr l false).length - 1)))) (va_up (bk_part St) q2 (nI (sumN (lbF l (tr l false) false) (tr l false).length)))) (va_up (bk_eb St) q2 (some q3))) 171 [(5, .ref q3), (4, .ref q1), (3, .ref a2), (0, .ref ((c 7))), (1, .ref a), (2, .int (nI 2))] [.ref q2]
      have c8 : cel St q3 = cel Se q3 := (ft.2.1 q3 (by rw [g5.kd_ kqe]; decide) (Or.inl fun z => z)).trans (g5.2.1 q3 (by rw [kqe]; decide) (Or.inl fun z => z))
      have eE : edgesN 2 l = (tr l false).length - 1 := edgesN_T l (by decide) (by decide) rfl
      refine g_aret (r := some q2) C dX1_bind_171 (Or.inl ⟨_, rfl⟩) (by decide) (by decide) (Or.inl ⟨by rw [kdB_lit (by decide) (by decide), show (nI 2).toNatClampNeg = 2 by decide]; unfold fitsN; rw [decide_eq_true h0]; rfl, nine q2 a2 nr2 va2 rw_ wd ta tb q3, rfl, ((((((f6.u_bk_kind (Or.inl hq2)).u_bk_list (Or.inl hq2)).u_bk_row (Or.inl hq2)).u_bk_edges (Or.inl hq2)).u_bk_part (Or.inl hq2)).u_bk_eb (Or.inl hq2)), hmt.trans (hme.trans hmA), ?_, nine_all (P := fun q => kd S q = 0) hq2 ha2 hn2 hv2 (f5.new hr0) (f5.new hw0) (f5.new ht0) (f5.new hu0) (fG.new hq3), nine_all (P := fun q => kd St q ≠ 0) (by rw [kq6]; decide) (by rw [hL6.1.1]; decide) (by rw [hL6.2.1.1]; decide) (by rw [hL6.2.2.1.1]; decide) (by rw [hrow.1.1.1]; decide) (by rw [hrow.1.2.1.1]; decide) (by rw [hrow.1.2.2.1.1]; decide) (by rw [hrow.1.2.2.2.1.1]; decide) (by rw [kE6]; decide)⟩)
      rw [show (nI 2).toNatClampNeg = 2 by decide]
      exact bookC_mk (K := 2) kq6 (va_up_self _ _ _) (va_up_self _ _ _) hL6 ((va_up_self _ _ _).trans (congrArg nI (edgesN_T l (by decide) (by decide) (pr := false) rfl).symm)) ((va_up_self _ _ _).trans (congrArg nI (letTp (K := 2) (fo := false) (pr := false) rfl (by decide) (by decide) (by decide)).symm)) (va_up_self _ _ _) kE6 (fun _ => ⟨((ce_ln c8).trans hle).trans eE.symm, fun e he => by
        have he' : e < edgesN 2 l := he
        rw [eE] at he'
        show eb_a St q3 e = nI (ebN l e)
        rw [ce_eb_a c8, ebN_eq]; exact heb e he'⟩) (fun e => absurd e (by decide)) (fun _ => ⟨va_up_self _ _ _, by rw [bitsN_T l (by decide) (by decide) (pr := false) rfl, bitsT_run]; exact hrow⟩)
    · omega
set_option maxRecDepth 100000 in
set_option maxHeartbeats 400000 in
theorem c_B_bind_3 {lX : Launch} {G : Gx} {S : PS} {x : Nat} {c : Nat → Nat} (hC : CoC S x c) {a nr va room : Nat} {l : List Ent} (hL : listC S a nr va room l) (hl : okL l) (h0 : 0 < l.length) : Ct lX yX1_bind cX1_bind 6 (Option.some (Jvm.ClassFile.FieldType.object "BitAlmanac$Book")) rm_X1_bind G [.ref ((c 7)), .ref a, .int (nI 3)] S (bndP S l (nI 3)) := by
  have hL' := hL
  obtain ⟨⟨k_a, ra_a, rb_a⟩, ⟨kn_a, ln_a⟩, ⟨kv_a, lv_a⟩, sz_a, le_a, rm_a, en_a⟩ := hL
  have hl1 := hl.1
  have hT := tr_ok hl h0 true
  refine Ct.mk RX1 "bind" hy_X1_bind (Nat.le_of_ble_eq_true rfl) (fun X hX C => ?_)
  change Go X G _ 6 0 0 S 0 [(0, .ref ((c 7))), (1, .ref a), (2, .int (nI 3))] []
  refine g_iload_n 2 2 C dX1_bind_0 rfl rfl ?_
  refine g_callSN (As := [.int (nI 3)]) (rest := []) C dX1_bind_1 (c_C_isBK_in (by decide) (by decide)) wC_X10_isBookKind C.2.2.2.2.2.1.2.2.2.2.2.2.2.1 wZ_X10_isBookKind wN_X10 hd_X10_isBookKind.2 ⟨by decide, by decide, by decide, by decide⟩ (Nat.le_of_ble_eq_true rfl) (fun r_ S_ h_ => ?_)
  obtain ⟨rfl, rfl⟩ := h_
  change Go X G _ 6 _ _ S 4 [(0, .ref ((c 7))), (1, .ref a), (2, .int (nI 3))] [.int (nI 1)]
  refine g_nif_eq 24 (by decide) C dX1_bind_4 (by decide) (fun c => absurd c (by decide)) (fun _ => ?_)
  refine g_aload_n 1 1 C dX1_bind_7 rfl rfl ?_
  refine gf_ls_size C dX1_bind_8 k_a wF_X1_35 ?_
  refine g_topi (sz_a) ?_
  refine g_iconst (v := nI 1) C dX1_bind_11 (by decide) ?_
  refine g_ncmp_lt 24 (by omega) (by omega) C dX1_bind_12 (by decide) (fun c12 => ?_) (fun c12 => ?_)
  · omega
  · refine g_aload_n 1 1 C dX1_bind_15 rfl rfl ?_
    refine gf_ls_size C dX1_bind_16 k_a wF_X1_35 ?_
    refine g_topi (sz_a) ?_
    refine g_bipush (v := nI 100) C dX1_bind_19 (by decide) ?_
    refine g_ncmp_le 26 (by omega) (by omega) C dX1_bind_21 (by decide) (fun c21 => ?_) (fun c21 => ?_)
    · refine g_iload_n 2 2 C dX1_bind_26 rfl rfl ?_
      refine g_iconst (v := nI 5) C dX1_bind_27 (by decide) ?_
      refine g_ncmp_ne 42 (by decide) (by decide) C dX1_bind_28 (by decide) (fun _ => ?_) (fun c => absurd c (by decide))
      refine g_aload_n 1 1 C dX1_bind_42 rfl rfl ?_
      refine g_aload_n 1 1 C dX1_bind_43 rfl rfl ?_
      refine gf_ls_size C dX1_bind_44 k_a wF_X1_35 ?_
      refine g_topi (sz_a) ?_
      refine g_callV (As := [.int (nI (l.length))]) (rest := []) C dX1_bind_47 (c_L_copy hL' (room0 := l.length) (by omega)) wC_X4_copyWithRoom wM_X1_43 wI_X4_copyWithRoom wS_X4_copyWithRoom wN_X4 (kne k_a) (pf_5 k_a) rfl hd_X4_copyWithRoom ⟨by decide, by decide, by decide, by decide⟩ (Nat.le_of_ble_eq_true rfl) (fun r_ Sa h_ => ?_)
      obtain ⟨a2, nr2, va2, rfl, fA, hmA, hLc, ha2, hn2, hv2⟩ := h_
      change Go X G _ 6 _ _ Sa 50 [(0, .ref ((c 7))), (1, .ref a), (2, .int (nI 3))] [.ref a2]
      rw [Nat.max_self] at hLc
      have hCa := hC.fr fA
      refine g_astore_n (lv' := [(3, .ref a2), (0, .ref ((c 7))), (1, .ref a), (2, .int (nI 3))]) C dX1_bind_50 rfl (by decide) rfl ?_
      refine g_iconst (v := nI 0) C dX1_bind_51 (by decide) ?_
      refine gy_eb_a C dX1_bind_52 (by omega) ⟨by decide, by decide⟩ (fun q1 h0_q1 => ?_)
      have f1 : Fr S (na_eb_a Sa q1 0) No := fA.a_eb_a h0_q1
      have g1 : Fr Sa (na_eb_a Sa q1 0) No := (Fr.refl Sa No).a_eb_a h0_q1
      have hq1 : kd S q1 = 0 := fA.new h0_q1
      have hL1 := hLc.fr g1 (fun z => z) (fun z => z) (fun z => z)
      have hC1 := hC.fr f1
      have kq1 : kd (na_eb_a Sa q1 0) q1 = 15 := va_up_self _ _ _
      refine g_astore (lv' := [(4, .ref q1), (3, .ref a2), (0, .ref ((c 7))), (1, .ref a), (2, .int (nI 3))]) C dX1_bind_54 (by decide) rfl ?_
      refine g_iload_n 4 2 C dX1_bind_56 rfl rfl ?_
      refine g_iconst (v := nI 1) C dX1_bind_57 (by decide) ?_
      refine g_ncmp_ne 79 (by decide) (by decide) C dX1_bind_58 (by decide) (fun _ => ?_) (fun c => absurd c (by decide))
      refine g_iload_n 4 2 C dX1_bind_79 rfl rfl ?_
      refine g_iconst (v := nI 5) C dX1_bind_80 (by decide) ?_
      refine g_ncmp_ne 103 (by decide) (by decide) C dX1_bind_81 (by decide) (fun _ => ?_) (fun c => absurd c (by decide))
      refine g_aload_n 2 0 C dX1_bind_103 rfl rfl ?_
      refine g_aload_n 1 3 C dX1_bind_104 rfl rfl ?_
      refine g_iload_n 4 2 C dX1_bind_105 rfl rfl ?_
      refine g_iconst (v := nI 2) C dX1_bind_106 (by decide) ?_
      refine g_ncmp_ne 114 (by decide) (by decide) C dX1_bind_107 (by decide) (fun _ => ?_) (fun c => absurd c (by decide))
      refine g_iconst (v := nI 0) C dX1_bind_114 (by decide) ?_
      refine g_callV (As := [.ref a2, .int (nI 0)]) (rest := []) C dX1_bind_115 (c_B_grow (S := (na_eb_a Sa q1 0)) (pr := true) hC1 hL1 hl h0) wC_X1_growTree wM_X1_60 wI_X1_growTree wS_X1_growTree wN_X1 (kne (kup h0_q1 (fA.kd_ hC.2.2.2.2.1.2))) (pf_2 (kup h0_q1 (fA.kd_ hC.2.2.2.2.1.2))) rfl hd_X1_growTree ⟨by decide, by decide, by decide, by decide⟩ (Nat.le_of_ble_eq_true rfl) (fun r_ S_ h_ => ?_)
      obtain ⟨al, g, f, d, s, rfl, rfl, hal, hnd, hdg⟩ := h_
      change Go X G _ 6 _ _ (grS (na_eb_a Sa q1 0) al g f d s (nI (tr l true).length)) 118 [(4, .ref q1), (3, .ref a2), (0, .ref ((c 7))), (1, .ref a), (2, .int (nI 3))] []
      have gG : Fr (na_eb_a Sa q1 0) (grS (na_eb_a Sa q1 0) al g f d s (nI (tr l true).length)) No := (((((Fr.refl _ No).s_al_a).s_dg_a).s_fi_a).s_de_a.s_st_a).s_bi_nodes
      have fG : Fr S (grS (na_eb_a Sa q1 0) al g f d s (nI (tr l true).length)) No := f1.trans gG (fun _ _ z => z)
      have hCG := hC.fr fG
      have hLG := hL1.fr gG (fun z => z) (fun z => z) (fun z => z)
      have kqG : kd (grS (na_eb_a Sa q1 0) al g f d s (nI (tr l true).length)) q1 = 15 := gG.kd_ kq1
      refine g_iload_n 4 2 C dX1_bind_118 rfl rfl ?_
      refine g_iconst (v := nI 2) C dX1_bind_119 (by decide) ?_
      refine g_ncmp_ne 131 (by decide) (by decide) C dX1_bind_120 (by decide) (fun _ => ?_) (fun c => absurd c (by decide))
      refine g_aload 0 C dX1_bind_131 rfl ?_
      refine g_astore (lv' := [(5, .ref q1), (4, .ref q1), (3, .ref a2), (0, .ref ((c 7))), (1, .ref a), (2, .int (nI 3))]) C dX1_bind_133 (by decide) rfl ?_
      refine gw_Book C dX1_bind_135 wK_X1_47 ⟨by decide, by decide⟩ (fun q2 h0_q2 => ?_)
      have f5 : Fr S (nw_Book (grS (na_eb_a Sa q1 0) al g f d s (nI (tr l true).length)) q2) No := fG.n_Book h0_q2
      have g5 : Fr (grS (na_eb_a Sa q1 0) al g f d s (nI (tr l true).length)) (nw_Book (grS (na_eb_a Sa q1 0) al g f d s (nI (tr l true).length)) q2) No := (Fr.refl _ No).n_Book h0_q2
      have hq2 : kd S q2 = 0 := fG.new h0_q2
      have hL5 := hLG.fr g5 (fun z => z) (fun z => z) (fun z => z)
      have kq2 : kd (nw_Book (grS (na_eb_a Sa q1 0) al g f d s (nI (tr l true).length)) q2) q2 = 3 := va_up_self _ _ _
      have kE5 := g5.kd_ kqG
      have hC5 := hC.fr f5
      have hs5 : scr (nw_Book (grS (na_eb_a Sa q1 0) al g f d s (nI (tr l true).length)) q2) = scr (grS (na_eb_a Sa q1 0) al g f d s (nI (tr l true).length)) := rfl
      refine g_dup C dX1_bind_138 rfl ?_
      refine g_iload_n 5 2 C dX1_bind_139 rfl rfl ?_
      refine g_aload_n 2 3 C dX1_bind_140 rfl rfl ?_
      refine g_aload_n 3 0 C dX1_bind_141 rfl rfl ?_
      refine g_callV (As := []) (rest := [.ref a2, .int (nI 3), .ref q2, .ref q2]) C dX1_bind_142 (c_B_treeRow (S := (nw_Book (grS (na_eb_a Sa q1 0) al g f d s (nI (tr l true).length)) q2)) (n := (tr l true).length) (K := fun v => (kids l true (ndAt l true v)).length) hC5 (congrArg (fun q => q.1) hs5) hT.2.1 hT.1 (fun u hu => (congrArg (fun q => q.2.2.2.2.2 u) hs5).trans (hdg u hu)) (tr_sum hl h0 true)) wC_X1_treeRow wM_X1_68 wI_X1_treeRow wS_X1_treeRow wN_X1 (kne (f5.kd_ hC.2.2.2.2.1.2)) (pf_2 (f5.kd_ hC.2.2.2.2.1.2)) rfl hd_X1_treeRow ⟨by decide, by decide, by decide, by decide⟩ (Nat.le_of_ble_eq_true rfl) (fun r_ St h_ => ?_)
      obtain ⟨rw_, wd, ta, tb, rfl, ft, hmt, hst_, hrow, hr0, hw0, ht0, hu0⟩ := h_
      change Go X G _ 6 _ _ St 145 [(5, .ref q1), (4, .ref q1), (3, .ref a2), (0, .ref ((c 7))), (1, .ref a), (2, .int (nI 3))] [.ref rw_, .ref a2, .int (nI 3), .ref q2, .ref q2]
      have f6 : Fr S St No := f5.trans ft (fun _ _ z => z)
      have hL6 := hL5.fr ft (fun z => z) (fun z => z) (fun z => z)
      have kq6 := ft.kd_ kq2
      have kE6 := ft.kd_ kE5
      have hC6 := hC.fr f6
      have hs6 := hst_.trans hs5
      have n6 : bi_nodes St = nI (tr l true).length := congrArg (fun q => q.1) hs6
      have nd6 : ndF (fi_a St) (de_a St) (st_a St) (tr l true) := by
        rw [show fi_a St = f from congrArg (fun q => q.2.2.1) hs6, show de_a St = d from congrArg (fun q => q.2.2.2.1) hs6, show st_a St = s from congrArg (fun q => q.2.2.2.2.1) hs6]; exact hnd
      refine g_aload_n 3 0 C dX1_bind_145 rfl rfl ?_
      refine gf_bi_nodes C dX1_bind_146 (f6.kd_ hC.2.2.2.2.1.2) wF_X1_27 ?_
      refine g_topi (n6) ?_
      refine g_iconst (v := nI 1) C dX1_bind_149 (by decide) ?_
      refine g_isub C dX1_bind_150 ?_
      refine g_topi (pk_sub (by omega) : _ = nI ((tr l true).length - 1)) ?_
      refine g_aload_n 3 0 C dX1_bind_151 rfl rfl ?_
      refine g_aload_n 2 3 C dX1_bind_152 rfl rfl ?_
      refine g_iload_n 5 2 C dX1_bind_153 rfl rfl ?_
      refine g_iconst (v := nI 4) C dX1_bind_154 (by decide) ?_
      refine g_ncmp_ne 162 (by decide) (by decide) C dX1_bind_155 (by decide) (fun _ => ?_) (fun c => absurd c (by decide))
      refine g_iconst (v := nI 0) C dX1_bind_162 (by decide) ?_
      refine g_callV (As := [.ref a2, .int (nI 0)]) (rest := [.int (nI ((tr l true).length - 1)), .ref rw_, .ref a2, .int (nI 3), .ref q2, .ref q2]) C dX1_bind_163 (c_B_bytes (S := St) (ns := (tr l true)) (fo := false) hC6 hL6 hl nd6 hT.1 hT.2.2 n6 hT.2.1) wC_X1_stringBytes wM_X1_72 wI_X1_stringBytes wS_X1_stringBytes wN_X1 (kne (f6.kd_ hC.2.2.2.2.1.2)) (pf_2 (f6.kd_ hC.2.2.2.2.1.2)) rfl hd_X1_stringBytes ⟨by decide, by decide, by decide, by decide⟩ (Nat.le_of_ble_eq_true rfl) (fun r_ S_ h_ => ?_)
      obtain ⟨rfl, rfl⟩ := h_
      change Go X G _ 6 _ _ St 166 [(5, .ref q1), (4, .ref q1), (3, .ref a2), (0, .ref ((c 7))), (1, .ref a), (2, .int (nI 3))] [.int (nI (sumN (lbF l (tr l true) false) (tr l true).length)), .int (nI ((tr l true).length - 1)), .ref rw_, .ref a2, .int (nI 3), .ref q2, .ref q2]
      refine g_aload 0 C dX1_bind_166 rfl ?_
      refine g_callI (As := [.int (nI 3), .ref a2, .ref rw_, .int (nI ((tr l true).length - 1)), .int (nI (sumN (lbF l (tr l true) false) (tr l true).length)), .ref q1]) (rest := [.ref q2]) C dX1_bind_168 (c_K_init (S := St) (rw := rw_) kq6) wC_X2_init wM_X1_53 wI_X2_init wN_X2 rfl hd_X2_init.2 ⟨by decide, by decide, by decide, by decide⟩ (Nat.le_of_ble_eq_true rfl) (fun r_ S_ h_ => ?_)
      obtain ⟨rfl, rfl⟩ := h_
      change Go X G _ 6 _ _ (bk_eb_ (bk_part_ (bk_edges_ (bk_row_ (bk_list_ (bk_kind_ St (va_up (bk_kind St) q2 (nI 3))) (va_up (bk_list St) q2 (some a2))) (va_up (bk_row St) q2 (some rw_))) (va_up (bk_edges St) q2 (nI ((tr l true).length - 1)))) (va_up (bk_part St) q2 (nI (sumN (lbF l (tr l true) false) (tr l true).length)))) (va_up (bk_eb St) q2 (some q1))) 171 [(5, .ref q1), (4, .ref q1), (3, .ref a2), (0, .ref ((c 7))), (1, .ref a), (2, .int (nI 3))] [.ref q2]
      refine g_aret (r := some q2) C dX1_bind_171 (Or.inl ⟨_, rfl⟩) (by decide) (by decide) (Or.inl ⟨by rw [kdB_lit (by decide) (by decide), show (nI 3).toNatClampNeg = 3 by decide]; unfold fitsN; rw [decide_eq_true h0]; rfl, nine q2 a2 nr2 va2 rw_ wd ta tb q1, rfl, ((((((f6.u_bk_kind (Or.inl hq2)).u_bk_list (Or.inl hq2)).u_bk_row (Or.inl hq2)).u_bk_edges (Or.inl hq2)).u_bk_part (Or.inl hq2)).u_bk_eb (Or.inl hq2)), hmt.trans hmA, ?_, nine_all (P := fun q => kd S q = 0) hq2 ha2 hn2 hv2 (f5.new hr0) (f5.new hw0) (f5.new ht0) (f5.new hu0) hq1, nine_all (P := fun q => kd St q ≠ 0) (by rw [kq6]; decide) (by rw [hL6.1.1]; decide) (by rw [hL6.2.1.1]; decide) (by rw [hL6.2.2.1.1]; decide) (by rw [hrow.1.1.1]; decide) (by rw [hrow.1.2.1.1]; decide) (by rw [hrow.1.2.2.1.1]; decide) (by rw [hrow.1.2.2.2.1.1]; decide) (by rw [kE6]; decide)⟩)
      rw [show (nI 3).toNatClampNeg = 3 by decide]
      exact bookC_mk (K := 3) kq6 (va_up_self _ _ _) (va_up_self _ _ _) hL6 ((va_up_self _ _ _).trans (congrArg nI (edgesN_T l (by decide) (by decide) (pr := true) rfl).symm)) ((va_up_self _ _ _).trans (congrArg nI (letTp (K := 3) (fo := false) (pr := true) rfl (by decide) (by decide) (by decide)).symm)) (va_up_self _ _ _) kE6 (fun e => absurd e (by decide)) (fun e => absurd e (by decide)) (fun _ => ⟨va_up_self _ _ _, by rw [bitsN_T l (by decide) (by decide) (pr := true) rfl, bitsT_run]; exact hrow⟩)
    · omega
set_option maxRecDepth 100000 in
set_option maxHeartbeats 400000 in
theorem c_B_bind_4 {lX : Launch} {G : Gx} {S : PS} {x : Nat} {c : Nat → Nat} (hC : CoC S x c) {a nr va room : Nat} {l : List Ent} (hL : listC S a nr va room l) (hl : okL l) (h0 : 0 < l.length) : Ct lX yX1_bind cX1_bind 6 (Option.some (Jvm.ClassFile.FieldType.object "BitAlmanac$Book")) rm_X1_bind G [.ref ((c 7)), .ref a, .int (nI 4)] S (bndP S l (nI 4)) := by
  have hL' := hL
  obtain ⟨⟨k_a, ra_a, rb_a⟩, ⟨kn_a, ln_a⟩, ⟨kv_a, lv_a⟩, sz_a, le_a, rm_a, en_a⟩ := hL
  have hl1 := hl.1
  have hT := tr_ok hl h0 true
  refine Ct.mk RX1 "bind" hy_X1_bind (Nat.le_of_ble_eq_true rfl) (fun X hX C => ?_)
  change Go X G _ 6 0 0 S 0 [(0, .ref ((c 7))), (1, .ref a), (2, .int (nI 4))] []
  refine g_iload_n 2 2 C dX1_bind_0 rfl rfl ?_
  refine g_callSN (As := [.int (nI 4)]) (rest := []) C dX1_bind_1 (c_C_isBK_in (by decide) (by decide)) wC_X10_isBookKind C.2.2.2.2.2.1.2.2.2.2.2.2.2.1 wZ_X10_isBookKind wN_X10 hd_X10_isBookKind.2 ⟨by decide, by decide, by decide, by decide⟩ (Nat.le_of_ble_eq_true rfl) (fun r_ S_ h_ => ?_)
  obtain ⟨rfl, rfl⟩ := h_
  change Go X G _ 6 _ _ S 4 [(0, .ref ((c 7))), (1, .ref a), (2, .int (nI 4))] [.int (nI 1)]
  refine g_nif_eq 24 (by decide) C dX1_bind_4 (by decide) (fun c => absurd c (by decide)) (fun _ => ?_)
  refine g_aload_n 1 1 C dX1_bind_7 rfl rfl ?_
  refine gf_ls_size C dX1_bind_8 k_a wF_X1_35 ?_
  refine g_topi (sz_a) ?_
  refine g_iconst (v := nI 1) C dX1_bind_11 (by decide) ?_
  refine g_ncmp_lt 24 (by omega) (by omega) C dX1_bind_12 (by decide) (fun c12 => ?_) (fun c12 => ?_)
  · omega
  · refine g_aload_n 1 1 C dX1_bind_15 rfl rfl ?_
    refine gf_ls_size C dX1_bind_16 k_a wF_X1_35 ?_
    refine g_topi (sz_a) ?_
    refine g_bipush (v := nI 100) C dX1_bind_19 (by decide) ?_
    refine g_ncmp_le 26 (by omega) (by omega) C dX1_bind_21 (by decide) (fun c21 => ?_) (fun c21 => ?_)
    · refine g_iload_n 2 2 C dX1_bind_26 rfl rfl ?_
      refine g_iconst (v := nI 5) C dX1_bind_27 (by decide) ?_
      refine g_ncmp_ne 42 (by decide) (by decide) C dX1_bind_28 (by decide) (fun _ => ?_) (fun c => absurd c (by decide))
      refine g_aload_n 1 1 C dX1_bind_42 rfl rfl ?_
      refine g_aload_n 1 1 C dX1_bind_43 rfl rfl ?_
      refine gf_ls_size C dX1_bind_44 k_a wF_X1_35 ?_
      refine g_topi (sz_a) ?_
      refine g_callV (As := [.int (nI (l.length))]) (rest := []) C dX1_bind_47 (c_L_copy hL' (room0 := l.length) (by omega)) wC_X4_copyWithRoom wM_X1_43 wI_X4_copyWithRoom wS_X4_copyWithRoom wN_X4 (kne k_a) (pf_5 k_a) rfl hd_X4_copyWithRoom ⟨by decide, by decide, by decide, by decide⟩ (Nat.le_of_ble_eq_true rfl) (fun r_ Sa h_ => ?_)
      obtain ⟨a2, nr2, va2, rfl, fA, hmA, hLc, ha2, hn2, hv2⟩ := h_
      change Go X G _ 6 _ _ Sa 50 [(0, .ref ((c 7))), (1, .ref a), (2, .int (nI 4))] [.ref a2]
      rw [Nat.max_self] at hLc
      have hCa := hC.fr fA
      refine g_astore_n (lv' := [(3, .ref a2), (0, .ref ((c 7))), (1, .ref a), (2, .int (nI 4))]) C dX1_bind_50 rfl (by decide) rfl ?_
      refine g_iconst (v := nI 0) C dX1_bind_51 (by decide) ?_
      refine gy_eb_a C dX1_bind_52 (by omega) ⟨by decide, by decide⟩ (fun q1 h0_q1 => ?_)
      have f1 : Fr S (na_eb_a Sa q1 0) No := fA.a_eb_a h0_q1
      have g1 : Fr Sa (na_eb_a Sa q1 0) No := (Fr.refl Sa No).a_eb_a h0_q1
      have hq1 : kd S q1 = 0 := fA.new h0_q1
      have hL1 := hLc.fr g1 (fun z => z) (fun z => z) (fun z => z)
      have hC1 := hC.fr f1
      have kq1 : kd (na_eb_a Sa q1 0) q1 = 15 := va_up_self _ _ _
      refine g_astore (lv' := [(4, .ref q1), (3, .ref a2), (0, .ref ((c 7))), (1, .ref a), (2, .int (nI 4))]) C dX1_bind_54 (by decide) rfl ?_
      refine g_iload_n 4 2 C dX1_bind_56 rfl rfl ?_
      refine g_iconst (v := nI 1) C dX1_bind_57 (by decide) ?_
      refine g_ncmp_ne 79 (by decide) (by decide) C dX1_bind_58 (by decide) (fun _ => ?_) (fun c => absurd c (by decide))
      refine g_iload_n 4 2 C dX1_bind_79 rfl rfl ?_
      refine g_iconst (v := nI 5) C dX1_bind_80 (by decide) ?_
      refine g_ncmp_ne 103 (by decide) (by decide) C dX1_bind_81 (by decide) (fun _ => ?_) (fun c => absurd c (by decide))
      refine g_aload_n 2 0 C dX1_bind_103 rfl rfl ?_
      refine g_aload_n 1 3 C dX1_bind_104 rfl rfl ?_
      refine g_iload_n 4 2 C dX1_bind_105 rfl rfl ?_
      refine g_iconst (v := nI 2) C dX1_bind_106 (by decide) ?_
      refine g_ncmp_ne 114 (by decide) (by decide) C dX1_bind_107 (by decide) (fun _ => ?_) (fun c => absurd c (by decide))
      refine g_iconst (v := nI 0) C dX1_bind_114 (by decide) ?_
      refine g_callV (As := [.ref a2, .int (nI 0)]) (rest := []) C dX1_bind_115 (c_B_grow (S := (na_eb_a Sa q1 0)) (pr := true) hC1 hL1 hl h0) wC_X1_growTree wM_X1_60 wI_X1_growTree wS_X1_growTree wN_X1 (kne (kup h0_q1 (fA.kd_ hC.2.2.2.2.1.2))) (pf_2 (kup h0_q1 (fA.kd_ hC.2.2.2.2.1.2))) rfl hd_X1_growTree ⟨by decide, by decide, by decide, by decide⟩ (Nat.le_of_ble_eq_true rfl) (fun r_ S_ h_ => ?_)
      obtain ⟨al, g, f, d, s, rfl, rfl, hal, hnd, hdg⟩ := h_
      change Go X G _ 6 _ _ (grS (na_eb_a Sa q1 0) al g f d s (nI (tr l true).length)) 118 [(4, .ref q1), (3, .ref a2), (0, .ref ((c 7))), (1, .ref a), (2, .int (nI 4))] []
      have gG : Fr (na_eb_a Sa q1 0) (grS (na_eb_a Sa q1 0) al g f d s (nI (tr l true).length)) No := (((((Fr.refl _ No).s_al_a).s_dg_a).s_fi_a).s_de_a.s_st_a).s_bi_nodes
      have fG : Fr S (grS (na_eb_a Sa q1 0) al g f d s (nI (tr l true).length)) No := f1.trans gG (fun _ _ z => z)
      have hCG := hC.fr fG
      have hLG := hL1.fr gG (fun z => z) (fun z => z) (fun z => z)
      have kqG : kd (grS (na_eb_a Sa q1 0) al g f d s (nI (tr l true).length)) q1 = 15 := gG.kd_ kq1
      refine g_iload_n 4 2 C dX1_bind_118 rfl rfl ?_
      refine g_iconst (v := nI 2) C dX1_bind_119 (by decide) ?_
      refine g_ncmp_ne 131 (by decide) (by decide) C dX1_bind_120 (by decide) (fun _ => ?_) (fun c => absurd c (by decide))
      refine g_aload 0 C dX1_bind_131 rfl ?_
      refine g_astore (lv' := [(5, .ref q1), (4, .ref q1), (3, .ref a2), (0, .ref ((c 7))), (1, .ref a), (2, .int (nI 4))]) C dX1_bind_133 (by decide) rfl ?_
      refine gw_Book C dX1_bind_135 wK_X1_47 ⟨by decide, by decide⟩ (fun q2 h0_q2 => ?_)
      have f5 : Fr S (nw_Book (grS (na_eb_a Sa q1 0) al g f d s (nI (tr l true).length)) q2) No := fG.n_Book h0_q2
      have g5 : Fr (grS (na_eb_a Sa q1 0) al g f d s (nI (tr l true).length)) (nw_Book (grS (na_eb_a Sa q1 0) al g f d s (nI (tr l true).length)) q2) No := (Fr.refl _ No).n_Book h0_q2
      have hq2 : kd S q2 = 0 := fG.new h0_q2
      have hL5 := hLG.fr g5 (fun z => z) (fun z => z) (fun z => z)
      have kq2 : kd (nw_Book (grS (na_eb_a Sa q1 0) al g f d s (nI (tr l true).length)) q2) q2 = 3 := va_up_self _ _ _
      have kE5 := g5.kd_ kqG
      have hC5 := hC.fr f5
      have hs5 : scr (nw_Book (grS (na_eb_a Sa q1 0) al g f d s (nI (tr l true).length)) q2) = scr (grS (na_eb_a Sa q1 0) al g f d s (nI (tr l true).length)) := rfl
      refine g_dup C dX1_bind_138 rfl ?_
      refine g_iload_n 5 2 C dX1_bind_139 rfl rfl ?_
      refine g_aload_n 2 3 C dX1_bind_140 rfl rfl ?_
      refine g_aload_n 3 0 C dX1_bind_141 rfl rfl ?_
      refine g_callV (As := []) (rest := [.ref a2, .int (nI 4), .ref q2, .ref q2]) C dX1_bind_142 (c_B_treeRow (S := (nw_Book (grS (na_eb_a Sa q1 0) al g f d s (nI (tr l true).length)) q2)) (n := (tr l true).length) (K := fun v => (kids l true (ndAt l true v)).length) hC5 (congrArg (fun q => q.1) hs5) hT.2.1 hT.1 (fun u hu => (congrArg (fun q => q.2.2.2.2.2 u) hs5).trans (hdg u hu)) (tr_sum hl h0 true)) wC_X1_treeRow wM_X1_68 wI_X1_treeRow wS_X1_treeRow wN_X1 (kne (f5.kd_ hC.2.2.2.2.1.2)) (pf_2 (f5.kd_ hC.2.2.2.2.1.2)) rfl hd_X1_treeRow ⟨by decide, by decide, by decide, by decide⟩ (Nat.le_of_ble_eq_true rfl) (fun r_ St h_ => ?_)
      obtain ⟨rw_, wd, ta, tb, rfl, ft, hmt, hst_, hrow, hr0, hw0, ht0, hu0⟩ := h_
      change Go X G _ 6 _ _ St 145 [(5, .ref q1), (4, .ref q1), (3, .ref a2), (0, .ref ((c 7))), (1, .ref a), (2, .int (nI 4))] [.ref rw_, .ref a2, .int (nI 4), .ref q2, .ref q2]
      have f6 : Fr S St No := f5.trans ft (fun _ _ z => z)
      have hL6 := hL5.fr ft (fun z => z) (fun z => z) (fun z => z)
      have kq6 := ft.kd_ kq2
      have kE6 := ft.kd_ kE5
      have hC6 := hC.fr f6
      have hs6 := hst_.trans hs5
      have n6 : bi_nodes St = nI (tr l true).length := congrArg (fun q => q.1) hs6
      have nd6 : ndF (fi_a St) (de_a St) (st_a St) (tr l true) := by
        rw [show fi_a St = f from congrArg (fun q => q.2.2.1) hs6, show de_a St = d from congrArg (fun q => q.2.2.2.1) hs6, show st_a St = s from congrArg (fun q => q.2.2.2.2.1) hs6]; exact hnd
      refine g_aload_n 3 0 C dX1_bind_145 rfl rfl ?_
      refine gf_bi_nodes C dX1_bind_146 (f6.kd_ hC.2.2.2.2.1.2) wF_X1_27 ?_
      refine g_topi (n6) ?_
      refine g_iconst (v := nI 1) C dX1_bind_149 (by decide) ?_
      refine g_isub C dX1_bind_150 ?_
      refine g_topi (pk_sub (by omega) : _ = nI ((tr l true).length - 1)) ?_
      refine g_aload_n 3 0 C dX1_bind_151 rfl rfl ?_
      refine g_aload_n 2 3 C dX1_bind_152 rfl rfl ?_
      refine g_iload_n 5 2 C dX1_bind_153 rfl rfl ?_
      refine g_iconst (v := nI 4) C dX1_bind_154 (by decide) ?_
      refine g_ncmp_ne 162 (by decide) (by decide) C dX1_bind_155 (by decide) (fun c => absurd c (by decide)) (fun _ => ?_)
      refine g_iconst (v := nI 1) C dX1_bind_158 (by decide) ?_
      refine g_goto 163 C dX1_bind_159 (by decide) ?_
      refine g_callV (As := [.ref a2, .int (nI 1)]) (rest := [.int (nI ((tr l true).length - 1)), .ref rw_, .ref a2, .int (nI 4), .ref q2, .ref q2]) C dX1_bind_163 (c_B_bytes (S := St) (ns := (tr l true)) (fo := true) hC6 hL6 hl nd6 hT.1 hT.2.2 n6 hT.2.1) wC_X1_stringBytes wM_X1_72 wI_X1_stringBytes wS_X1_stringBytes wN_X1 (kne (f6.kd_ hC.2.2.2.2.1.2)) (pf_2 (f6.kd_ hC.2.2.2.2.1.2)) rfl hd_X1_stringBytes ⟨by decide, by decide, by decide, by decide⟩ (Nat.le_of_ble_eq_true rfl) (fun r_ S_ h_ => ?_)
      obtain ⟨rfl, rfl⟩ := h_
      change Go X G _ 6 _ _ St 166 [(5, .ref q1), (4, .ref q1), (3, .ref a2), (0, .ref ((c 7))), (1, .ref a), (2, .int (nI 4))] [.int (nI (sumN (lbF l (tr l true) true) (tr l true).length)), .int (nI ((tr l true).length - 1)), .ref rw_, .ref a2, .int (nI 4), .ref q2, .ref q2]
      refine g_aload 0 C dX1_bind_166 rfl ?_
      refine g_callI (As := [.int (nI 4), .ref a2, .ref rw_, .int (nI ((tr l true).length - 1)), .int (nI (sumN (lbF l (tr l true) true) (tr l true).length)), .ref q1]) (rest := [.ref q2]) C dX1_bind_168 (c_K_init (S := St) (rw := rw_) kq6) wC_X2_init wM_X1_53 wI_X2_init wN_X2 rfl hd_X2_init.2 ⟨by decide, by decide, by decide, by decide⟩ (Nat.le_of_ble_eq_true rfl) (fun r_ S_ h_ => ?_)
      obtain ⟨rfl, rfl⟩ := h_
      change Go X G _ 6 _ _ (bk_eb_ (bk_part_ (bk_edges_ (bk_row_ (bk_list_ (bk_kind_ St (va_up (bk_kind St) q2 (nI 4))) (va_up (bk_list St) q2 (some a2))) (va_up (bk_row St) q2 (some rw_))) (va_up (bk_edges St) q2 (nI ((tr l true).length - 1)))) (va_up (bk_part St) q2 (nI (sumN (lbF l (tr l true) true) (tr l true).length)))) (va_up (bk_eb St) q2 (some q1))) 171 [(5, .ref q1), (4, .ref q1), (3, .ref a2), (0, .ref ((c 7))), (1, .ref a), (2, .int (nI 4))] [.ref q2]
      refine g_aret (r := some q2) C dX1_bind_171 (Or.inl ⟨_, rfl⟩) (by decide) (by decide) (Or.inl ⟨by rw [kdB_lit (by decide) (by decide), show (nI 4).toNatClampNeg = 4 by decide]; unfold fitsN; rw [decide_eq_true h0]; rfl, nine q2 a2 nr2 va2 rw_ wd ta tb q1, rfl, ((((((f6.u_bk_kind (Or.inl hq2)).u_bk_list (Or.inl hq2)).u_bk_row (Or.inl hq2)).u_bk_edges (Or.inl hq2)).u_bk_part (Or.inl hq2)).u_bk_eb (Or.inl hq2)), hmt.trans hmA, ?_, nine_all (P := fun q => kd S q = 0) hq2 ha2 hn2 hv2 (f5.new hr0) (f5.new hw0) (f5.new ht0) (f5.new hu0) hq1, nine_all (P := fun q => kd St q ≠ 0) (by rw [kq6]; decide) (by rw [hL6.1.1]; decide) (by rw [hL6.2.1.1]; decide) (by rw [hL6.2.2.1.1]; decide) (by rw [hrow.1.1.1]; decide) (by rw [hrow.1.2.1.1]; decide) (by rw [hrow.1.2.2.1.1]; decide) (by rw [hrow.1.2.2.2.1.1]; decide) (by rw [kE6]; decide)⟩)
      rw [show (nI 4).toNatClampNeg = 4 by decide]
      exact bookC_mk (K := 4) kq6 (va_up_self _ _ _) (va_up_self _ _ _) hL6 ((va_up_self _ _ _).trans (congrArg nI (edgesN_T l (by decide) (by decide) (pr := true) rfl).symm)) ((va_up_self _ _ _).trans (congrArg nI (letTp (K := 4) (fo := true) (pr := true) rfl (by decide) (by decide) (by decide)).symm)) (va_up_self _ _ _) kE6 (fun e => absurd e (by decide)) (fun e => absurd e (by decide)) (fun _ => ⟨va_up_self _ _ _, by rw [bitsN_T l (by decide) (by decide) (pr := true) rfl, bitsT_run]; exact hrow⟩)
    · omega
theorem c_B_bind {lX : Launch} {G : Gx} {S : PS} {x : Nat} {c : Nat → Nat} (hC : CoC S x c) {a nr va room : Nat} {l : List Ent} (hL : listC S a nr va room l) (hl : okL l) {k : Int32} : Ct lX yX1_bind cX1_bind 6 (Option.some (Jvm.ClassFile.FieldType.object "BitAlmanac$Book")) rm_X1_bind G [.ref (c 7), .ref a, .int k] S (bndP S l k) := by
  by_cases hk : kdB k = true
  · have : ∃ i, 1 ≤ i ∧ i ≤ 5 ∧ k = nI i := by
      by_cases h1 : k < nI 1
      · rw [kd_lo h1] at hk; cases hk
      · by_cases h2 : nI 5 < k
        · rw [kd_hi h2] at hk; cases hk
        · obtain ⟨i, a1, a2, a3, -⟩ := kd_in h1 h2
          exact ⟨i, a1, a2, a3⟩
    obtain ⟨i, a1, a2, rfl⟩ := this
    rcases Nat.eq_zero_or_pos l.length with z | z
    · exact c_B_bind_0 hC hL hl a1 a2 z
    · rcases (show i = 1 ∨ i = 2 ∨ i = 3 ∨ i = 4 ∨ i = 5 by omega) with e | e | e | e | e
      · subst e; exact c_B_bind_1 hC hL hl z
      · subst e; exact c_B_bind_2 hC hL hl z
      · subst e; exact c_B_bind_3 hC hL hl z
      · subst e; exact c_B_bind_4 hC hL hl z
      · subst e
        cases g : all8 l l.length with
        | false => exact c_B_bind_8 hC hL hl z g
        | true => exact c_B_bind_5 hC hL hl z g
  · exact c_B_bind_k hC hL hl (Bool.eq_false_iff.mpr hk)
