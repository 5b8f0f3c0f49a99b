/-- an edge's byte -/
def ebN (l : List Ent) (e : Nat) : Nat := (nm l (ndAt l false (e + 1)).1).getD (ndAt l false (e + 1)).2.2.2 0
def bookC (S : PS) (d : Nat → Nat) (T : Th) : Prop := (kd S (d 0) = 3 ∧ bk_kind S (d 0) = nI (tK T) ∧ bk_list S (d 0) = some (d 1)) ∧ listC S (d 1) (d 2) (d 3) (tL T).length (tL T) ∧ (bk_edges S (d 0) = nI (edgesN (tK T) (tL T)) ∧ bk_part S (d 0) = nI (lettersN (tK T) (tL T))) ∧ (bk_eb S (d 0) = some (d 8) ∧ kd S (d 8) = 15 ∧ (tK T = 2 → ln S (d 8) = edgesN 2 (tL T) ∧ ∀ e, e < edgesN 2 (tL T) → eb_a S (d 8) e = nI (ebN (tL T) e))) ∧ (tK T = 1 → bk_row S (d 0) = none) ∧ (tK T ≠ 1 → bk_row S (d 0) = some (d 4) ∧ rowC S (d 4) (d 5) (d 6) (d 7) (tB T) (tA T) (tC T))
def draftC (S : PS) (d : Nat → Nat) (T : Th) : Prop := (kd S (d 0) = 4 ∧ dr_kind S (d 0) = nI (tK T) ∧ dr_list S (d 0) = some (d 1)) ∧ listC S (d 1) (d 2) (d 3) 100 (tL T)
def bareC (S : PS) (d : Nat → Nat) (T : Th) : Prop := (kd S (d 0) = 1 ∧ br_kind S (d 0) = nI (tK T) ∧ br_row S (d 0) = some (d 4)) ∧ rowC S (d 4) (d 5) (d 6) (d 7) (tB T) (tA T) (tC T)
def thC (S : PS) (d : Nat → Nat) (T : Th) : Prop := (tK T ≤ 5 → bookC S d T) ∧ (tK T = 6 → draftC S d T) ∧ (tK T = 7 → bareC S d T)
theorem bookC.fr {S S' : PS} {A : Nat → Prop} {d : Nat → Nat} {T : Th} (h : Fr S S' A) (hb : bookC S d T) (hd : ∀ i, i < 9 → ¬ A (d i)) : bookC S' d T := by
  obtain ⟨⟨a1, a2, a3⟩, a4, ⟨a5, a6⟩, ⟨a7, a8, a9⟩, a10, a11⟩ := hb
  have c0 := h.2.1 (d 0) (by rw [a1]; decide) (Or.inl (hd 0 (by decide)))
  have c8 := h.2.1 (d 8) (by rw [a8]; decide) (Or.inl (hd 8 (by decide)))
  refine ⟨⟨(ce_kd c0).trans a1, (ce_bk_kind c0).trans a2, (ce_bk_list c0).trans a3⟩, a4.fr h (hd 1 (by decide)) (hd 2 (by decide)) (hd 3 (by decide)), ⟨(ce_bk_edges c0).trans a5, (ce_bk_part c0).trans a6⟩, ⟨(ce_bk_eb c0).trans a7, (ce_kd c8).trans a8, fun e => ⟨(ce_ln c8).trans (a9 e).1, fun q hq => by rw [ce_eb_a c8]; exact (a9 e).2 q hq⟩⟩, fun e => (ce_bk_row c0).trans (a10 e), fun e => ⟨(ce_bk_row c0).trans (a11 e).1, (a11 e).2.fr h (hd 4 (by decide)) (hd 5 (by decide)) (hd 6 (by decide)) (hd 7 (by decide))⟩⟩
theorem draftC.fr {S S' : PS} {A : Nat → Prop} {d : Nat → Nat} {T : Th} (h : Fr S S' A) (hb : draftC S d T) (hd : ∀ i, i < 9 → ¬ A (d i)) : draftC S' d T := by
  obtain ⟨⟨a1, a2, a3⟩, a4⟩ := hb
  have c0 := h.2.1 (d 0) (by rw [a1]; decide) (Or.inl (hd 0 (by decide)))
  exact ⟨⟨(ce_kd c0).trans a1, (ce_dr_kind c0).trans a2, (ce_dr_list c0).trans a3⟩, a4.fr h (hd 1 (by decide)) (hd 2 (by decide)) (hd 3 (by decide))⟩
theorem bareC.fr {S S' : PS} {A : Nat → Prop} {d : Nat → Nat} {T : Th} (h : Fr S S' A) (hb : bareC S d T) (hd : ∀ i, i < 9 → ¬ A (d i)) : bareC S' d T := by
  obtain ⟨⟨a1, a2, a3⟩, a4⟩ := hb
  have c0 := h.2.1 (d 0) (by rw [a1]; decide) (Or.inl (hd 0 (by decide)))
  exact ⟨⟨(ce_kd c0).trans a1, (ce_br_kind c0).trans a2, (ce_br_row c0).trans a3⟩, a4.fr h (hd 4 (by decide)) (hd 5 (by decide)) (hd 6 (by decide)) (hd 7 (by decide))⟩
theorem thC.fr {S S' : PS} {A : Nat → Prop} {d : Nat → Nat} {T : Th} (h : Fr S S' A) (hb : thC S d T) (hd : ∀ i, i < 9 → ¬ A (d i)) : thC S' d T := ⟨fun e => (hb.1 e).fr h hd, fun e => (hb.2.1 e).fr h hd, fun e => (hb.2.2 e).fr h hd⟩
/-- a list of numbers that is shown or asked -/
def witC (S : PS) (a n : Nat) (w : List Int32) : Prop := (kd S a = 9 ∧ wi_numbers S a = some n) ∧ (kd S n = 16 ∧ ln S n = 75) ∧ wi_size S a = nI w.length ∧ w.length ≤ 75 ∧ ∀ i, i < w.length → wn_a S n i = w.getD i 0
theorem witC.fr {S S' : PS} {A : Nat → Prop} {a n : Nat} {w : List Int32} (h : Fr S S' A) (hw : witC S a n w) (h1 : ¬ A a) (h2 : ¬ A n) : witC S' a n w := by
  obtain ⟨⟨a1, a2⟩, ⟨b1, b2⟩, d1, d2, d3⟩ := hw
  have c1 := h.2.1 a (by rw [a1]; decide) (Or.inl h1)
  have c2 := h.2.1 n (by rw [b1]; decide) (Or.inl h2)
  exact ⟨⟨(ce_kd c1).trans a1, (ce_wi_numbers c1).trans a2⟩, ⟨(ce_kd c2).trans b1, (ce_ln c2).trans b2⟩, (ce_wi_size c1).trans d1, d2, fun i hi => by rw [ce_wn_a c2]; exact d3 i hi⟩
theorem imK_len (l : List Ent) (w : Nat) : ∀ k, (imK l w k).length = k * (1 + w) + sumN (fun k => (nm l k).length) k := by
  intro k
  induction k with
  | zero => show 0 = 0 * (1 + w) + 0; omega
  | succ k ih =>
    rw [imK_s, ih]
    show _ = (k + 1) * (1 + w) + (sumN (fun k => (nm l k).length) k + (nm l k).length)
    rw [Nat.add_mul]; omega
set_option maxRecDepth 100000 in
set_option maxHeartbeats 2000000 in
theorem c_K_size {lX : Launch} {G : Gx} {S : PS} {d : Nat → Nat} {T : Th} (hb : bookC S d T) : Ct lX yX2_size cX2_size 1 (Option.some Jvm.ClassFile.FieldType.int) rm_X2_size G [.ref ((d 0))] S (fun r S' => r = some (.int (nI (tL T).length)) ∧ S = S') := by
  obtain ⟨⟨B1, B2, B3⟩, B4, ⟨B5, B6⟩, ⟨B7, B8, B9⟩, B10, B11⟩ := hb
  have hl' := B4
  obtain ⟨⟨k_a, ra_a, rb_a⟩, ⟨kn_a, ln_a⟩, ⟨kv_a, lv_a⟩, sz_a, le_a, rm_a, en_a⟩ := B4
  refine Ct.mk RX2 "size" hy_X2_size (Nat.le_of_ble_eq_true rfl) (fun X hX C => ?_)
  change Go X G _ 1 0 0 S 0 [(0, .ref ((d 0)))] []
  refine g_aload_n 0 0 C dX2_size_0 rfl rfl ?_
  refine gr_bk_list C dX2_size_1 B1 wF_X2_9 B3 ?_
  refine gf_ls_size C dX2_size_4 k_a wF_X2_30 ?_
  refine g_topi (sz_a) ?_
  exact g_iret C dX2_size_7 (by decide) (by decide) (⟨rfl, rfl⟩)
set_option maxRecDepth 100000 in
set_option maxHeartbeats 2000000 in
theorem c_D_size {lX : Launch} {G : Gx} {S : PS} {d : Nat → Nat} {T : Th} (hb : draftC S d T) : Ct lX yX3_size cX3_size 1 (Option.some Jvm.ClassFile.FieldType.int) rm_X3_size G [.ref ((d 0))] S (fun r S' => r = some (.int (nI (tL T).length)) ∧ S = S') := by
  refine Ct.mk RX3 "size" hy_X3_size (Nat.le_of_ble_eq_true rfl) (fun X hX C => ?_)
  change Go X G _ 1 0 0 S 0 [(0, .ref ((d 0)))] []
  refine g_aload_n 0 0 C dX3_size_0 rfl rfl ?_
  refine gr_dr_list C dX3_size_1 hb.1.1 wF_X3_9 hb.1.2.2 ?_
  refine gf_ls_size C dX3_size_4 hb.2.1.1 wF_X3_15 ?_
  refine g_topi (hb.2.2.2.2.1) ?_
  exact g_iret C dX3_size_7 (by decide) (by decide) (⟨rfl, rfl⟩)
set_option maxRecDepth 100000 in
set_option maxHeartbeats 2000000 in
theorem c_B_size {lX : Launch} {G : Gx} {S : PS} {d : Nat → Nat} {T : Th} (hb : bareC S d T) : Ct lX yX0_size cX0_size 1 (Option.some Jvm.ClassFile.FieldType.int) rm_X0_size G [.ref ((d 0))] S (fun r S' => r = some (.int (nI (tB T).length)) ∧ S = S') := by
  refine Ct.mk RX0 "size" hy_X0_size (Nat.le_of_ble_eq_true rfl) (fun X hX C => ?_)
  change Go X G _ 1 0 0 S 0 [(0, .ref ((d 0)))] []
  refine g_aload_n 0 0 C dX0_size_0 rfl rfl ?_
  refine gr_br_row C dX0_size_1 hb.1.1 wF_X0_9 hb.1.2.2 ?_
  refine gf_rw_bits C dX0_size_4 hb.2.1.1.1 wF_X0_15 ?_
  refine g_topi (hb.2.1.1.2.1) ?_
  exact g_iret C dX0_size_7 (by decide) (by decide) (⟨rfl, rfl⟩)
set_option maxRecDepth 100000 in
set_option maxHeartbeats 2000000 in
theorem c_K_isTree {lX : Launch} {G : Gx} {S : PS} {d : Nat → Nat} {T : Th} (hb : bookC S d T) (h5 : tK T ≤ 7) : Ct lX yX2_isTree cX2_isTree 1 (Option.some Jvm.ClassFile.FieldType.boolean) rm_X2_isTree G [.ref ((d 0))] S (fun r S' => r = some (.int (bI (decide (2 ≤ tK T ∧ tK T ≤ 4)))) ∧ S = S') := by
  obtain ⟨⟨B1, B2, B3⟩, B4, ⟨B5, B6⟩, ⟨B7, B8, B9⟩, B10, B11⟩ := hb
  have hl' := B4
  obtain ⟨⟨k_a, ra_a, rb_a⟩, ⟨kn_a, ln_a⟩, ⟨kv_a, lv_a⟩, sz_a, le_a, rm_a, en_a⟩ := B4
  refine Ct.mk RX2 "isTree" hy_X2_isTree (Nat.le_of_ble_eq_true rfl) (fun X hX C => ?_)
  change Go X G _ 1 0 0 S 0 [(0, .ref ((d 0)))] []
  refine g_aload_n 0 0 C dX2_isTree_0 rfl rfl ?_
  refine gf_bk_kindS C dX2_isTree_1 B1 wF_X2_35 ?_
  refine g_topi (B2) ?_
  refine g_iconst (v := nI 2) C dX2_isTree_4 (by decide) ?_
  refine g_ncmp_lt 20 (by omega) (by omega) C dX2_isTree_5 (by decide) (fun c5 => ?_) (fun c5 => ?_)
  · have e : decide (2 ≤ tK T ∧ tK T ≤ 4) = false := decide_eq_false (by omega)
    refine g_iconst (v := nI 0) C dX2_isTree_20 (by decide) ?_
    exact g_zret C dX2_isTree_21 (by decide) (by decide) (Or.inl rfl) (⟨by rw [e] <;> rfl, rfl⟩)
  · refine g_aload_n 0 0 C dX2_isTree_8 rfl rfl ?_
    refine gf_bk_kindS C dX2_isTree_9 B1 wF_X2_35 ?_
    refine g_topi (B2) ?_
    refine g_iconst (v := nI 4) C dX2_isTree_12 (by decide) ?_
    refine g_ncmp_gt 20 (by omega) (by omega) C dX2_isTree_13 (by decide) (fun c13 => ?_) (fun c13 => ?_)
    · have e : decide (2 ≤ tK T ∧ tK T ≤ 4) = false := decide_eq_false (by omega)
      refine g_iconst (v := nI 0) C dX2_isTree_20 (by decide) ?_
      exact g_zret C dX2_isTree_21 (by decide) (by decide) (Or.inl rfl) (⟨by rw [e] <;> rfl, rfl⟩)
    · have e : decide (2 ≤ tK T ∧ tK T ≤ 4) = true := decide_eq_true (by omega)
      refine g_iconst (v := nI 1) C dX2_isTree_16 (by decide) ?_
      refine g_goto 21 C dX2_isTree_17 (by decide) ?_
      exact g_zret C dX2_isTree_21 (by decide) (by decide) (Or.inr rfl) (⟨by rw [e] <;> rfl, rfl⟩)
set_option maxRecDepth 100000 in
set_option maxHeartbeats 2000000 in
theorem c_K_lacks1 {lX : Launch} {G : Gx} {S : PS} {d : Nat → Nat} {T : Th} (hb : bookC S d T) (h1 : tK T = 1) (hT : tA T = false ∧ tC T = false) : Ct lX yX2_lacksTable cX2_lacksTable 1 (Option.some Jvm.ClassFile.FieldType.boolean) rm_X2_lacksTable G [.ref ((d 0))] S (fun r S' => r = some (.int (bI (missT T))) ∧ S = S') := by
  obtain ⟨⟨B1, B2, B3⟩, B4, ⟨B5, B6⟩, ⟨B7, B8, B9⟩, B10, B11⟩ := hb
  have hl' := B4
  obtain ⟨⟨k_a, ra_a, rb_a⟩, ⟨kn_a, ln_a⟩, ⟨kv_a, lv_a⟩, sz_a, le_a, rm_a, en_a⟩ := B4
  refine Ct.mk RX2 "lacksTable" hy_X2_lacksTable (Nat.le_of_ble_eq_true rfl) (fun X hX C => ?_)
  change Go X G _ 1 0 0 S 0 [(0, .ref ((d 0)))] []
  refine g_aload_n 0 0 C dX2_lacksTable_0 rfl rfl ?_
  refine gn_bk_row C dX2_lacksTable_1 B1 wF_X2_15 (B10 h1) ?_
  refine g_ifnullN 21 C dX2_lacksTable_4 (by decide) ?_
  refine g_iconst (v := nI 0) C dX2_lacksTable_21 (by decide) ?_
  exact g_zret C dX2_lacksTable_22 (by decide) (by decide) (Or.inl rfl) (⟨by unfold missT; rw [hT.1, hT.2]; rfl, rfl⟩)
set_option maxRecDepth 100000 in
set_option maxHeartbeats 2000000 in
theorem c_K_lacksR {lX : Launch} {G : Gx} {S : PS} {d : Nat → Nat} {T : Th} (hb : bookC S d T) (h1 : tK T ≠ 1) : Ct lX yX2_lacksTable cX2_lacksTable 1 (Option.some Jvm.ClassFile.FieldType.boolean) rm_X2_lacksTable G [.ref ((d 0))] S (fun r S' => r = some (.int (bI (missT T))) ∧ S = S') := by
  obtain ⟨⟨B1, B2, B3⟩, B4, ⟨B5, B6⟩, ⟨B7, B8, B9⟩, B10, B11⟩ := hb
  have hl' := B4
  obtain ⟨⟨k_a, ra_a, rb_a⟩, ⟨kn_a, ln_a⟩, ⟨kv_a, lv_a⟩, sz_a, le_a, rm_a, en_a⟩ := B4
  refine Ct.mk RX2 "lacksTable" hy_X2_lacksTable (Nat.le_of_ble_eq_true rfl) (fun X hX C => ?_)
  change Go X G _ 1 0 0 S 0 [(0, .ref ((d 0)))] []
  refine g_aload_n 0 0 C dX2_lacksTable_0 rfl rfl ?_
  refine gr_bk_row C dX2_lacksTable_1 B1 wF_X2_15 (B11 h1).1 ?_
  refine g_ifnull C dX2_lacksTable_4 ?_
  refine g_aload_n 0 0 C dX2_lacksTable_7 rfl rfl ?_
  refine gr_bk_row C dX2_lacksTable_8 B1 wF_X2_15 (B11 h1).1 ?_
  refine g_callV (As := []) (rest := []) C dX2_lacksTable_11 (c_R_lacks (B11 h1).2.1) wC_X6_lacksTable wM_X2_38 wI_X6_lacksTable wS_X6_lacksTable wN_X6 (kne (B11 h1).2.1.1.1) (pf_7 (B11 h1).2.1.1.1) rfl hd_X6_lacksTable ⟨by decide, by decide, by decide, by decide⟩ (Nat.le_of_ble_eq_true rfl) (fun r_ S_ h_ => ?_)
  obtain ⟨rfl, rfl⟩ := h_
  change Go X G _ 1 _ _ S 14 [(0, .ref ((d 0)))] [.int (bI (tA T || tC T))]
  refine g_if_eq 21 C dX2_lacksTable_14 (by decide) (fun c14 => ?_) (fun c14 => ?_)
  · have e : missT T = false := bI_f c14
    refine g_iconst (v := nI 0) C dX2_lacksTable_21 (by decide) ?_
    exact g_zret C dX2_lacksTable_22 (by decide) (by decide) (Or.inl rfl) (⟨by rw [e] <;> rfl, rfl⟩)
  · have e : missT T = true := bI_t c14
    refine g_iconst (v := nI 1) C dX2_lacksTable_17 (by decide) ?_
    refine g_goto 22 C dX2_lacksTable_18 (by decide) ?_
    exact g_zret C dX2_lacksTable_22 (by decide) (by decide) (Or.inr rfl) (⟨by rw [e] <;> rfl, rfl⟩)
theorem c_K_lacks {lX : Launch} {G : Gx} {S : PS} {d : Nat → Nat} {T : Th} (hb : bookC S d T) (hT : okT T) : Ct lX yX2_lacksTable cX2_lacksTable 1 (Option.some Jvm.ClassFile.FieldType.boolean) rm_X2_lacksTable G [.ref (d 0)] S (fun r S' => r = some (.int (bI (missT T))) ∧ S = S') := by
  by_cases h1 : tK T = 1
  · exact c_K_lacks1 hb h1 (hT.2.2.2.2.2.2.2 h1)
  · exact c_K_lacksR hb h1
set_option maxRecDepth 100000 in
set_option maxHeartbeats 2000000 in
theorem c_K_lowBits {lX : Launch} {G : Gx} {S : PS} {d : Nat → Nat} {T : Th} (hb : bookC S d T) (h5 : tK T ≤ 7) : Ct lX yX2_lowBits cX2_lowBits 1 (Option.some Jvm.ClassFile.FieldType.int) rm_X2_lowBits G [.ref ((d 0))] S (fun r S' => r = some (.int (nI (if tK T = 5 then (tL T).length * (64 - hbN (tL T).length) else 0))) ∧ S = S') := by
  obtain ⟨⟨B1, B2, B3⟩, B4, ⟨B5, B6⟩, ⟨B7, B8, B9⟩, B10, B11⟩ := hb
  have hl' := B4
  obtain ⟨⟨k_a, ra_a, rb_a⟩, ⟨kn_a, ln_a⟩, ⟨kv_a, lv_a⟩, sz_a, le_a, rm_a, en_a⟩ := B4
  have hb7 := hbN_le (n := (tL T).length) (by omega)
  refine Ct.mk RX2 "lowBits" hy_X2_lowBits (Nat.le_of_ble_eq_true rfl) (fun X hX C => ?_)
  change Go X G _ 1 0 0 S 0 [(0, .ref ((d 0)))] []
  refine g_aload_n 0 0 C dX2_lowBits_0 rfl rfl ?_
  refine gf_bk_kindS C dX2_lowBits_1 B1 wF_X2_35 ?_
  refine g_topi (B2) ?_
  refine g_iconst (v := nI 5) C dX2_lowBits_4 (by decide) ?_
  refine g_ncmp_ne 29 (by omega) (by omega) C dX2_lowBits_5 (by decide) (fun c5 => ?_) (fun c5 => ?_)
  · have e : (if tK T = 5 then (tL T).length * (64 - hbN (tL T).length) else 0) = 0 := if_neg c5
    refine g_iconst (v := nI 0) C dX2_lowBits_29 (by decide) ?_
    exact g_iret C dX2_lowBits_30 (by decide) (by decide) (⟨by rw [e], rfl⟩)
  · have e : (if tK T = 5 then (tL T).length * (64 - hbN (tL T).length) else 0) = (tL T).length * (64 - hbN (tL T).length) := if_pos c5
    refine g_aload_n 0 0 C dX2_lowBits_8 rfl rfl ?_
    refine gr_bk_list C dX2_lowBits_9 B1 wF_X2_9 B3 ?_
    refine gf_ls_size C dX2_lowBits_12 k_a wF_X2_30 ?_
    refine g_topi (sz_a) ?_
    refine g_bipush (v := nI 64) C dX2_lowBits_15 (by decide) ?_
    refine g_aload_n 0 0 C dX2_lowBits_17 rfl rfl ?_
    refine gr_bk_list C dX2_lowBits_18 B1 wF_X2_9 B3 ?_
    refine g_callV (As := []) (rest := [.int (nI 64), .int (nI ((tL T).length))]) C dX2_lowBits_21 (c_L_highBits hl') wC_X4_highBits wM_X2_44 wI_X4_highBits wS_X4_highBits wN_X4 (kne k_a) (pf_5 k_a) rfl hd_X4_highBits ⟨by decide, by decide, by decide, by decide⟩ (Nat.le_of_ble_eq_true rfl) (fun r_ S_ h_ => ?_)
    obtain ⟨rfl, rfl⟩ := h_
    change Go X G _ 1 _ _ S 24 [(0, .ref ((d 0)))] [.int (nI (hbN (tL T).length)), .int (nI 64), .int (nI ((tL T).length))]
    refine g_isub C dX2_lowBits_24 ?_
    refine g_topi (pk_sub (by omega) : _ = nI (64 - (hbN (tL T).length))) ?_
    refine g_imul C dX2_lowBits_25 ?_
    refine g_topi (pk_mul _ _ : _ = nI (((tL T).length) * (64 - (hbN (tL T).length)))) ?_
    refine g_goto 30 C dX2_lowBits_26 (by decide) ?_
    exact g_iret C dX2_lowBits_30 (by decide) (by decide) (⟨by rw [e], rfl⟩)
set_option maxRecDepth 100000 in
set_option maxHeartbeats 2000000 in
theorem c_K_imageBytes {lX : Launch} {G : Gx} {S : PS} {d : Nat → Nat} {T : Th} (hb : bookC S d T) : Ct lX yX2_imageBytes cX2_imageBytes 1 (Option.some Jvm.ClassFile.FieldType.int) rm_X2_imageBytes G [.ref ((d 0))] S (fun r S' => r = some (.int (nI (imgL (tK T) (tL T)).length)) ∧ S = S') := by
  obtain ⟨⟨B1, B2, B3⟩, B4, ⟨B5, B6⟩, ⟨B7, B8, B9⟩, B10, B11⟩ := hb
  have hl' := B4
  obtain ⟨⟨k_a, ra_a, rb_a⟩, ⟨kn_a, ln_a⟩, ⟨kv_a, lv_a⟩, sz_a, le_a, rm_a, en_a⟩ := B4
  have hw8 := widthN_8 (tL T)
  have hs := sum_le24 (l := tL T) (fun k hk => by obtain ⟨_, _, _, h, _⟩ := en_a k hk; exact h.2.1) (tL T).length (Nat.le_refl _)
  refine Ct.mk RX2 "imageBytes" hy_X2_imageBytes (Nat.le_of_ble_eq_true rfl) (fun X hX C => ?_)
  change Go X G _ 1 0 0 S 0 [(0, .ref ((d 0)))] []
  refine g_iconst (v := nI 2) C dX2_imageBytes_0 (by decide) ?_
  refine g_aload_n 0 0 C dX2_imageBytes_1 rfl rfl ?_
  refine gr_bk_list C dX2_imageBytes_2 B1 wF_X2_9 B3 ?_
  refine g_callV (As := []) (rest := [.int (nI 2)]) C dX2_imageBytes_5 (c_L_nameBytes hl') wC_X4_nameBytes wM_X2_48 wI_X4_nameBytes wS_X4_nameBytes wN_X4 (kne k_a) (pf_5 k_a) rfl hd_X4_nameBytes ⟨by decide, by decide, by decide, by decide⟩ (Nat.le_of_ble_eq_true rfl) (fun r_ S_ h_ => ?_)
  obtain ⟨rfl, rfl⟩ := h_
  change Go X G _ 1 _ _ S 8 [(0, .ref ((d 0)))] [.int (nI (sumN (fun k => (nm (tL T) k).length) (tL T).length)), .int (nI 2)]
  refine g_iadd C dX2_imageBytes_8 ?_
  refine g_topi (nI_add _ _ : _ = nI (2 + (sumN (fun k => (nm (tL T) k).length) (tL T).length))) ?_
  refine g_aload_n 0 0 C dX2_imageBytes_9 rfl rfl ?_
  refine gr_bk_list C dX2_imageBytes_10 B1 wF_X2_9 B3 ?_
  refine gf_ls_size C dX2_imageBytes_13 k_a wF_X2_30 ?_
  refine g_topi (sz_a) ?_
  refine g_iconst (v := nI 1) C dX2_imageBytes_16 (by decide) ?_
  refine g_aload_n 0 0 C dX2_imageBytes_17 rfl rfl ?_
  refine gr_bk_list C dX2_imageBytes_18 B1 wF_X2_9 B3 ?_
  refine g_callV (As := []) (rest := [.int (nI 1), .int (nI ((tL T).length)), .int (nI (2 + (sumN (fun k => (nm (tL T) k).length) (tL T).length)))]) C dX2_imageBytes_21 (c_L_width hl') wC_X4_width wM_X2_51 wI_X4_width wS_X4_width wN_X4 (kne k_a) (pf_5 k_a) rfl hd_X4_width ⟨by decide, by decide, by decide, by decide⟩ (Nat.le_of_ble_eq_true rfl) (fun r_ S_ h_ => ?_)
  obtain ⟨rfl, rfl⟩ := h_
  change Go X G _ 1 _ _ S 24 [(0, .ref ((d 0)))] [.int (nI (widthN (tL T))), .int (nI 1), .int (nI ((tL T).length)), .int (nI (2 + (sumN (fun k => (nm (tL T) k).length) (tL T).length)))]
  refine g_iadd C dX2_imageBytes_24 ?_
  refine g_topi (nI_add _ _ : _ = nI (1 + (widthN (tL T)))) ?_
  refine g_imul C dX2_imageBytes_25 ?_
  refine g_topi (pk_mul _ _ : _ = nI (((tL T).length) * (1 + (widthN (tL T))))) ?_
  refine g_iadd C dX2_imageBytes_26 ?_
  refine g_topi (nI_add _ _ : _ = nI (2 + (sumN (fun k => (nm (tL T) k).length) (tL T).length) + (((tL T).length) * (1 + (widthN (tL T)))))) ?_
  refine g_iconst (v := nI 2) C dX2_imageBytes_27 (by decide) ?_
  refine g_iadd C dX2_imageBytes_28 ?_
  refine g_topi (nI_add _ _ : _ = nI (2 + (sumN (fun k => (nm (tL T) k).length) (tL T).length) + (((tL T).length) * (1 + (widthN (tL T)))) + 2)) ?_
  exact g_iret C dX2_imageBytes_29 (by decide) (by decide) (⟨by rw [imgL_len, imK_len]; congr 3; omega, rfl⟩)
set_option maxRecDepth 100000 in
set_option maxHeartbeats 2000000 in
theorem c_W_hasNumber {lX : Launch} {G : Gx} {S : PS} {a n : Nat} {w : List Int32} (hw : witC S a n w) {k : Int32} : Ct lX yX9_hasNumber cX9_hasNumber 2 (Option.some Jvm.ClassFile.FieldType.boolean) rm_X9_hasNumber G [.ref a, .int k] S (fun r S' => r = some (.int (bI (inR k w.length))) ∧ S = S') := by
  have hwl := hw.2.2.2.1
  refine Ct.mk RX9 "hasNumber" hy_X9_hasNumber (Nat.le_of_ble_eq_true rfl) (fun X hX C => ?_)
  change Go X G _ 2 0 0 S 0 [(0, .ref a), (1, .int k)] []
  refine g_iload_n 1 1 C dX9_hasNumber_0 rfl rfl ?_
  refine g_if_lt 16 C dX9_hasNumber_1 (by decide) (fun c1 => ?_) (fun c1 => ?_)
  · have e := inR_neg (n := w.length) c1
    refine g_iconst (v := nI 0) C dX9_hasNumber_16 (by decide) ?_
    exact g_zret C dX9_hasNumber_17 (by decide) (by decide) (Or.inl rfl) (⟨by rw [e] <;> rfl, rfl⟩)
  · refine g_iload_n 1 1 C dX9_hasNumber_4 rfl rfl ?_
    refine g_aload_n 0 0 C dX9_hasNumber_5 rfl rfl ?_
    refine gf_wi_size C dX9_hasNumber_6 hw.1.1 wF_X9_15 ?_
    refine g_topi (hw.2.2.1) ?_
    refine g_icmp_ge 16 C dX9_hasNumber_9 (by decide) (fun c9 => ?_) (fun c9 => ?_)
    · have e := inR_big (n := w.length) (by omega) c9
      refine g_iconst (v := nI 0) C dX9_hasNumber_16 (by decide) ?_
      exact g_zret C dX9_hasNumber_17 (by decide) (by decide) (Or.inl rfl) (⟨by rw [e] <;> rfl, rfl⟩)
    · have e := inR_in (n := w.length) (by omega) c1 c9
      refine g_iconst (v := nI 1) C dX9_hasNumber_12 (by decide) ?_
      refine g_goto 17 C dX9_hasNumber_13 (by decide) ?_
      exact g_zret C dX9_hasNumber_17 (by decide) (by decide) (Or.inr rfl) (⟨by rw [e] <;> rfl, rfl⟩)
set_option maxRecDepth 100000 in
set_option maxHeartbeats 2000000 in
theorem c_W_isLike {lX : Launch} {G : Gx} {S : PS} {a n a2 n2 : Nat} {w w2 : List Int32} (hw : witC S a n w) (hw2 : witC S a2 n2 w2) : Ct lX yX9_isLike cX9_isLike 3 (Option.some Jvm.ClassFile.FieldType.boolean) rm_X9_isLike G [.ref a, .ref a2] S (fun r S' => r = some (.int (bI (decide (w = w2)))) ∧ S = S') := by
  obtain ⟨⟨h1, h2⟩, ⟨h3, h3l⟩, h4, hwl, h5⟩ := hw
  obtain ⟨⟨g1, g2⟩, ⟨g3, g3l⟩, g4, gwl, g5⟩ := hw2
  refine Ct.mk RX9 "isLike" hy_X9_isLike (Nat.le_of_ble_eq_true rfl) (fun X hX C => ?_)
  change Go X G _ 3 0 0 S 0 [(0, .ref a), (1, .ref a2)] []
  refine g_aload_n 0 0 C dX9_isLike_0 rfl rfl ?_
  refine gf_wi_size C dX9_isLike_1 h1 wF_X9_15 ?_
  refine g_topi (h4) ?_
  refine g_aload_n 1 1 C dX9_isLike_4 rfl rfl ?_
  refine gf_wi_size C dX9_isLike_5 g1 wF_X9_15 ?_
  refine g_topi (g4) ?_
  refine g_ncmp_eq 13 (by omega) (by omega) C dX9_isLike_8 (by decide) (fun c8 => ?_) (fun c8 => ?_)
  · refine g_iconst (v := nI 0) C dX9_isLike_13 (by decide) ?_
    refine g_istore_n (lv' := [(2, .int (nI 0)), (0, .ref a), (1, .ref a2)]) C dX9_isLike_14 rfl (by decide) rfl ?_
    have lp : ∀ (n_ : Nat) (i : Nat), w.length - i < n_ → (i ≤ w.length ∧ wEq w w2 i = true) → Go X G (Qe X G (fun r S' => r = some (.int (bI (decide (w = w2)))) ∧ S = S') rm_X9_isLike.cells rm_X9_isLike.slots) 3 0 0 S 15 [(2, .int (nI i)), (0, .ref a), (1, .ref a2)] [] := by
      intro n_
      induction n_ with
      | zero => intro i hm_; exact absurd hm_ (Nat.not_lt_zero _)
      | succ n_ ih_ =>
        intro i hm_ hh
        have hh1 := hh.1
        refine g_iload_n 0 2 C dX9_isLike_15 rfl rfl ?_
        refine g_aload_n 1 0 C dX9_isLike_16 rfl rfl ?_
        refine gf_wi_size C dX9_isLike_17 h1 wF_X9_15 ?_
        refine g_topi (h4) ?_
        refine g_ncmp_ge 46 (by omega) (by omega) C dX9_isLike_20 (by decide) (fun c20 => ?_) (fun c20 => ?_)
        · have ei : i = w.length := by omega
          have e : decide (w = w2) = true := by rw [← wEq_full, ← ei]; exact hh.2
          refine g_iconst (v := nI 1) C dX9_isLike_46 (by decide) ?_
          exact g_zret C dX9_isLike_47 (by decide) (by decide) (Or.inr rfl) (⟨by rw [e]; rfl, rfl⟩)
        · refine g_aload_n 1 0 C dX9_isLike_23 rfl rfl ?_
          refine gr_wi_numbers C dX9_isLike_24 h1 wF_X9_9 h2 ?_
          refine g_iload_n 0 2 C dX9_isLike_27 rfl rfl ?_
          refine ga_wn_a C dX9_isLike_28 h3 (by omega) (by omega) ?_
          refine g_topi (h5 i (by omega)) ?_
          refine g_aload_n 2 1 C dX9_isLike_29 rfl rfl ?_
          refine gr_wi_numbers C dX9_isLike_30 g1 wF_X9_9 g2 ?_
          refine g_iload_n 0 2 C dX9_isLike_33 rfl rfl ?_
          refine ga_wn_a C dX9_isLike_34 g3 (by omega) (by omega) ?_
          refine g_topi (g5 i (by omega)) ?_
          refine g_icmp_eq 40 C dX9_isLike_35 (by decide) (fun c35 => ?_) (fun c35 => ?_)
          · refine g_iinc (v := nI (i + 1)) (lv' := [(2, .int (nI (i + 1))), (0, .ref a), (1, .ref a2)]) 0 C dX9_isLike_40 rfl (nI_add _ 1) (by decide) rfl ?_
            refine g_goto 15 C dX9_isLike_43 (by decide) ?_
            exact ih_ (i + 1) (by omega) ⟨by omega, wEq_iff.mpr ⟨c8, fun q hq => by
              by_cases e : q = i
              · rw [e]; exact c35
              · exact (wEq_iff.mp hh.2).2 q (by omega)⟩⟩
          · have e : decide (w = w2) = false := by rw [← wEq_full]; exact Bool.eq_false_iff.mpr (fun z => c35 ((wEq_iff.mp z).2 i (by omega)))
            refine g_iconst (v := nI 0) C dX9_isLike_38 (by decide) ?_
            exact g_zret C dX9_isLike_39 (by decide) (by decide) (Or.inl rfl) (⟨by rw [e]; rfl, rfl⟩)
    exact lp (w.length + 1) 0 (by omega) ⟨Nat.zero_le _, wEq_iff.mpr ⟨c8, fun q hq => absurd hq (Nat.not_lt_zero _)⟩⟩
  · have e : decide (w = w2) = false := decide_eq_false (fun z => c8 (by rw [z]))
    refine g_iconst (v := nI 0) C dX9_isLike_11 (by decide) ?_
    exact g_zret C dX9_isLike_12 (by decide) (by decide) (Or.inl rfl) (⟨by rw [e]; rfl, rfl⟩)
abbrev wiS (S : PS) (a n : Nat) (f : Nat → Int32) (v : Int32) : PS := wi_size_ (wn_a_ S (va_up (wn_a S) n f)) (va_up (wi_size S) a v)
theorem wiS_n {S : PS} {a n k : Nat} {f : Nat → Int32} {v x : Int32} : wn_a_ (wiS S a n f v) (va_up (wn_a (wiS S a n f v)) n (upd (wn_a (wiS S a n f v) n) k x)) = wiS S a n (upd f k x) v := by
  show wi_size_ (wn_a_ S (va_up (va_up (wn_a S) n f) n (upd (va_up (wn_a S) n f n) k x))) (va_up (wi_size S) a v) = _
  rw [va_up_up, va_up_self]
theorem wiS_s {S : PS} {a n : Nat} {f : Nat → Int32} {v x : Int32} : wi_size_ (wiS S a n f v) (va_up (wi_size (wiS S a n f v)) a x) = wiS S a n f x := by
  show wi_size_ (wn_a_ S (va_up (wn_a S) n f)) (va_up (va_up (wi_size S) a v) a x) = _
  rw [va_up_up]
theorem Fr.wi {S0 S : PS} {A : Nat → Prop} {a n : Nat} {f : Nat → Int32} {v : Int32} (h : Fr S0 S A) (h1 : Fb S0 A a) (h2 : Fb S0 A n) : Fr S0 (wiS S a n f v) A := (h.u_wn_a h2).u_wi_size h1
def wF (f : Nat → Int32) (w : List Int32) : Prop := ∀ i, i < w.length → f i = w.getD i 0
theorem wF.add3 {f : Nat → Int32} {w : List Int32} (h : wF f w) (x y z : Int32) : wF (upd (upd (upd f w.length x) (w.length + 1) y) (w.length + 2) z) (w ++ [x, y, z]) := by
  intro i hi
  rw [List.length_append] at hi
  have hi' : i < w.length + 3 := hi
  rw [getD_app]
  by_cases g : i < w.length
  · rw [if_pos g, pk_un (by omega), pk_un (by omega), pk_un (by omega)]; exact h i g
  · rw [if_neg g]
    by_cases e0 : i = w.length
    · rw [e0, pk_un (by omega), pk_un (by omega), pk_us, Nat.sub_self]; rfl
    · by_cases e1 : i = w.length + 1
      · rw [e1, pk_un (by omega), pk_us, show w.length + 1 - w.length = 1 by omega]; rfl
      · rw [show i = w.length + 2 by omega, pk_us, show w.length + 2 - w.length = 2 by omega]; rfl
set_option maxRecDepth 100000 in
set_option maxHeartbeats 2000000 in
theorem c_W_add3 {lX : Launch} {G : Gx} {S : PS} {a n : Nat} {w : List Int32} {f : Nat → Int32} {x y z : Int32} (ka : kd S a = 9) (ra : wi_numbers S a = some n) (kn : kd S n = 16) (hln : ln S n = 75) (hw : w.length + 3 ≤ 75) : Ct lX yX9_addThree cX9_addThree 4 (Option.none : Option Jvm.ClassFile.FieldType) rm_X9_addThree G [.ref a, .int x, .int y, .int z] (wiS S a n f (nI w.length)) (fun r S' => r = none ∧ S' = wiS S a n (upd (upd (upd f w.length x) (w.length + 1) y) (w.length + 2) z) (nI (w ++ [x, y, z]).length)) := by
  refine Ct.mk RX9 "addThree" hy_X9_addThree (Nat.le_of_ble_eq_true rfl) (fun X hX C => ?_)
  change Go X G _ 4 0 0 (wiS S a n f (nI w.length)) 0 [(0, .ref a), (1, .int x), (2, .int y), (3, .int z)] []
  refine g_aload_n 0 0 C dX9_addThree_0 rfl rfl ?_
  refine gf_wi_size C dX9_addThree_1 ka wF_X9_15 ?_
  refine g_topi (va_up_self _ _ _) ?_
  refine g_iconst (v := nI 3) C dX9_addThree_4 (by decide) ?_
  refine g_iadd C dX9_addThree_5 ?_
  refine g_topi (nI_add _ _ : _ = nI (w.length + 3)) ?_
  refine g_aload_n 0 0 C dX9_addThree_6 rfl rfl ?_
  refine gr_wi_numbers C dX9_addThree_7 ka wF_X9_9 ra ?_
  refine gl_wn_a C dX9_addThree_10 kn ?_
  refine g_topi (congrArg nI hln) ?_
  refine g_ncmp_le 15 (by omega) (by omega) C dX9_addThree_11 (by decide) (fun c11 => ?_) (fun c11 => ?_)
  · refine g_aload_n 0 0 C dX9_addThree_15 rfl rfl ?_
    refine gr_wi_numbers C dX9_addThree_16 ka wF_X9_9 ra ?_
    refine g_aload_n 0 0 C dX9_addThree_19 rfl rfl ?_
    refine gf_wi_size C dX9_addThree_20 ka wF_X9_15 ?_
    refine g_topi (va_up_self _ _ _) ?_
    refine g_iload_n 1 1 C dX9_addThree_23 rfl rfl ?_
    refine gs_wn_a C dX9_addThree_24 kn (by have h_ : ln (wiS S a n f (nI w.length)) n = 75 := hln; omega) (by have h_ : ln (wiS S a n f (nI w.length)) n = 75 := hln; omega) ?_
    refine g_st wiS_n ?_
    refine g_aload_n 0 0 C dX9_addThree_25 rfl rfl ?_
    refine gr_wi_numbers C dX9_addThree_26 ka wF_X9_9 ra ?_
    refine g_aload_n 0 0 C dX9_addThree_29 rfl rfl ?_
    refine gf_wi_size C dX9_addThree_30 ka wF_X9_15 ?_
    refine g_topi (va_up_self _ _ _) ?_
    refine g_iconst (v := nI 1) C dX9_addThree_33 (by decide) ?_
    refine g_iadd C dX9_addThree_34 ?_
    refine g_topi (nI_add _ _ : _ = nI (w.length + 1)) ?_
    refine g_iload_n 2 2 C dX9_addThree_35 rfl rfl ?_
    refine gs_wn_a C dX9_addThree_36 kn (by have h_ : ln (wiS S a n (upd f w.length x) (nI w.length)) n = 75 := hln; omega) (by have h_ : ln (wiS S a n (upd f w.length x) (nI w.length)) n = 75 := hln; omega) ?_
    refine g_st wiS_n ?_
    refine g_aload_n 0 0 C dX9_addThree_37 rfl rfl ?_
    refine gr_wi_numbers C dX9_addThree_38 ka wF_X9_9 ra ?_
    refine g_aload_n 0 0 C dX9_addThree_41 rfl rfl ?_
    refine gf_wi_size C dX9_addThree_42 ka wF_X9_15 ?_
    refine g_topi (va_up_self _ _ _) ?_
    refine g_iconst (v := nI 2) C dX9_addThree_45 (by decide) ?_
    refine g_iadd C dX9_addThree_46 ?_
    refine g_topi (nI_add _ _ : _ = nI (w.length + 2)) ?_
    refine g_iload_n 3 3 C dX9_addThree_47 rfl rfl ?_
    refine gs_wn_a C dX9_addThree_48 kn (by have h_ : ln (wiS S a n (upd (upd f w.length x) (w.length + 1) y) (nI w.length)) n = 75 := hln; omega) (by have h_ : ln (wiS S a n (upd (upd f w.length x) (w.length + 1) y) (nI w.length)) n = 75 := hln; omega) ?_
    refine g_st wiS_n ?_
    refine g_aload_n 0 0 C dX9_addThree_49 rfl rfl ?_
    refine g_dup C dX9_addThree_50 rfl ?_
    refine gf_wi_size C dX9_addThree_51 ka wF_X9_15 ?_
    refine g_topi (va_up_self _ _ _) ?_
    refine g_iconst (v := nI 3) C dX9_addThree_54 (by decide) ?_
    refine g_iadd C dX9_addThree_55 ?_
    refine g_topi (nI_add _ _ : _ = nI (w.length + 3)) ?_
    refine pp_wi_size C dX9_addThree_56 ka wF_X9_15 (Or.inl rfl) ?_
    exact g_vret C dX9_addThree_59 (by decide) (by decide) ⟨rfl, by rw [wiS_s, List.length_append]; rfl⟩
  · omega
