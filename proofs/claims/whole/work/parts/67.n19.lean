theorem bitsN_2 (l : List Ent) : bitsN 2 l = bitsT l false := by
  unfold bitsN
  rw [if_neg (by decide), if_neg (by decide)]
  exact congrArg (bitsT l) (by decide)
set_option maxRecDepth 100000 in
set_option maxHeartbeats 400000 in
theorem c_C_forked_err {lX : Launch} {G : Gx} {S : PS} {x : Nat} {c : Nat → Nat} {D : Nat → Nat → Nat} {Z : ZT} (hr : RCD S Z x c D) (hZ : okZ Z) {p e : Int32} (he : bookE Z p = .inl e) : Ct lX yX10_forkedAt cX10_forkedAt 3 (Option.some (Jvm.ClassFile.FieldType.object "BitAlmanac$Book")) rm_X10_forkedAt G [.ref x, .int p] S (fun r S' => r = some .null ∧ S = S') := by
  obtain ⟨⟨⟨kx, r0, k0⟩, r1, r3, r5, ⟨r7, k7⟩, ⟨r8, k8⟩, ⟨r9, k9⟩, ⟨r10, k10⟩, ⟨r11, k11⟩, ⟨r12, k12⟩, r13⟩, hT, hP, hH, hRf, hW, hA, hL, hSep⟩ := id hr
  obtain ⟨⟨k1, r2, k2⟩, hu, htl, htf, ht255⟩ := id hT
  obtain ⟨⟨k3, r4⟩, ⟨k4, l4⟩, ws, wl, wv⟩ := id hW
  refine Ct.mk RX10 "forkedAt" hy_X10_forkedAt (Nat.le_of_ble_eq_true rfl) (fun X hX C => ?_)
  change Go X G _ 3 0 0 S 0 [(0, .ref x), (1, .int p)] []
  refine g_aload_n 0 0 C dX10_forkedAt_0 rfl rfl ?_
  refine g_iload_n 1 1 C dX10_forkedAt_1 rfl rfl ?_
  refine g_callV (As := [.int p]) (rest := []) C dX10_forkedAt_2 (c_C_bookAt_err hr hZ he) wC_X10_bookAt wM_X10_114 wI_X10_bookAt wS_X10_bookAt wN_X10 (kne kx) (pf_10 kx) rfl hd_X10_bookAt ⟨by decide, by decide, by decide, by decide⟩ (Nat.le_of_ble_eq_true rfl) (fun r_ S_ h_ => ?_)
  obtain ⟨rfl, rfl⟩ := h_
  change Go X G _ 3 _ _ S 5 [(0, .ref x), (1, .int p)] [.null]
  refine g_astore_nN (lv' := [(2, .null), (0, .ref x), (1, .int p)]) C dX10_forkedAt_5 rfl (by decide) rfl ?_
  refine g_aload_nN 0 2 C dX10_forkedAt_6 rfl rfl ?_
  refine g_ifnullN 22 C dX10_forkedAt_7 (by decide) ?_
  refine g_null C dX10_forkedAt_22 ?_
  exact g_aret (r := none) C dX10_forkedAt_23 (Or.inl ⟨_, rfl⟩) (by decide) (by decide) (⟨rfl, rfl⟩)
set_option maxRecDepth 100000 in
set_option maxHeartbeats 400000 in
theorem c_C_forked_no {lX : Launch} {G : Gx} {S : PS} {x : Nat} {c : Nat → Nat} {D : Nat → Nat → Nat} {Z : ZT} (hr : RCD S Z x c D) (hZ : okZ Z) {j t : Nat} (hj : j < 10) (hp : zP Z j = t + 1) (he : bookE Z (nI j) = .inr t) (hk : tK (zH Z t) ≠ 2) : Ct lX yX10_forkedAt cX10_forkedAt 3 (Option.some (Jvm.ClassFile.FieldType.object "BitAlmanac$Book")) rm_X10_forkedAt G [.ref x, .int (nI j)] S (fun r S' => r = some .null ∧ S = S') := by
  obtain ⟨⟨⟨kx, r0, k0⟩, r1, r3, r5, ⟨r7, k7⟩, ⟨r8, k8⟩, ⟨r9, k9⟩, ⟨r10, k10⟩, ⟨r11, k11⟩, ⟨r12, k12⟩, r13⟩, hT, hP, hH, hRf, hW, hA, hL, hSep⟩ := id hr
  obtain ⟨⟨k1, r2, k2⟩, hu, htl, htf, ht255⟩ := id hT
  obtain ⟨⟨k3, r4⟩, ⟨k4, l4⟩, ws, wl, wv⟩ := id hW
  have hok := (hZ.th hj hp).1
  have hk5 : tK (zH Z t) ≤ 5 := by obtain ⟨j2, _, e2, h2, h3⟩ := bookE_inr he; exact h3
  have hbk := (hH t ⟨j, hj, hp⟩).1 hk5
  have hbl := hbk.2.1
  have hla := hbk.2.1.2.2.2.2.1
  have hl100 := hok.2.2.1.1
  refine Ct.mk RX10 "forkedAt" hy_X10_forkedAt (Nat.le_of_ble_eq_true rfl) (fun X hX C => ?_)
  change Go X G _ 3 0 0 S 0 [(0, .ref x), (1, .int (nI j))] []
  refine g_aload_n 0 0 C dX10_forkedAt_0 rfl rfl ?_
  refine g_iload_n 1 1 C dX10_forkedAt_1 rfl rfl ?_
  refine g_callV (As := [.int (nI j)]) (rest := []) C dX10_forkedAt_2 (c_C_bookAt_ok hr hZ hj hp he) wC_X10_bookAt wM_X10_114 wI_X10_bookAt wS_X10_bookAt wN_X10 (kne kx) (pf_10 kx) rfl hd_X10_bookAt ⟨by decide, by decide, by decide, by decide⟩ (Nat.le_of_ble_eq_true rfl) (fun r_ S_ h_ => ?_)
  obtain ⟨rfl, rfl⟩ := h_
  change Go X G _ 3 _ _ S 5 [(0, .ref x), (1, .int (nI j))] [.ref ((D t 0))]
  refine g_astore_n (lv' := [(2, .ref ((D t 0))), (0, .ref x), (1, .int (nI j))]) C dX10_forkedAt_5 rfl (by decide) rfl ?_
  refine g_aload_n 0 2 C dX10_forkedAt_6 rfl rfl ?_
  refine g_ifnull C dX10_forkedAt_7 ?_
  refine g_aload_n 0 2 C dX10_forkedAt_10 rfl rfl ?_
  refine gf_bk_kindS C dX10_forkedAt_11 hbk.1.1 wF_X10_221 ?_
  refine g_topi (hbk.1.2.1) ?_
  refine g_iconst (v := nI 2) C dX10_forkedAt_14 (by decide) ?_
  refine g_ncmp_ne 22 (by omega) (by omega) C dX10_forkedAt_15 (by decide) (fun c15 => ?_) (fun c15 => ?_)
  · refine g_null C dX10_forkedAt_22 ?_
    exact g_aret (r := none) C dX10_forkedAt_23 (Or.inl ⟨_, rfl⟩) (by decide) (by decide) (⟨rfl, rfl⟩)
  · exact absurd c15 hk
set_option maxRecDepth 100000 in
set_option maxHeartbeats 400000 in
theorem c_C_forked_ok {lX : Launch} {G : Gx} {S : PS} {x : Nat} {c : Nat → Nat} {D : Nat → Nat → Nat} {Z : ZT} (hr : RCD S Z x c D) (hZ : okZ Z) {j t : Nat} (hj : j < 10) (hp : zP Z j = t + 1) (he : bookE Z (nI j) = .inr t) (hk : tK (zH Z t) = 2) : Ct lX yX10_forkedAt cX10_forkedAt 3 (Option.some (Jvm.ClassFile.FieldType.object "BitAlmanac$Book")) rm_X10_forkedAt G [.ref x, .int (nI j)] S (fun r S' => r = some (.ref (D t 0)) ∧ S = S') := by
  obtain ⟨⟨⟨kx, r0, k0⟩, r1, r3, r5, ⟨r7, k7⟩, ⟨r8, k8⟩, ⟨r9, k9⟩, ⟨r10, k10⟩, ⟨r11, k11⟩, ⟨r12, k12⟩, r13⟩, hT, hP, hH, hRf, hW, hA, hL, hSep⟩ := id hr
  obtain ⟨⟨k1, r2, k2⟩, hu, htl, htf, ht255⟩ := id hT
  obtain ⟨⟨k3, r4⟩, ⟨k4, l4⟩, ws, wl, wv⟩ := id hW
  have hok := (hZ.th hj hp).1
  have hk5 : tK (zH Z t) ≤ 5 := by obtain ⟨j2, _, e2, h2, h3⟩ := bookE_inr he; exact h3
  have hbk := (hH t ⟨j, hj, hp⟩).1 hk5
  have hbl := hbk.2.1
  have hla := hbk.2.1.2.2.2.2.1
  have hl100 := hok.2.2.1.1
  refine Ct.mk RX10 "forkedAt" hy_X10_forkedAt (Nat.le_of_ble_eq_true rfl) (fun X hX C => ?_)
  change Go X G _ 3 0 0 S 0 [(0, .ref x), (1, .int (nI j))] []
  refine g_aload_n 0 0 C dX10_forkedAt_0 rfl rfl ?_
  refine g_iload_n 1 1 C dX10_forkedAt_1 rfl rfl ?_
  refine g_callV (As := [.int (nI j)]) (rest := []) C dX10_forkedAt_2 (c_C_bookAt_ok hr hZ hj hp he) wC_X10_bookAt wM_X10_114 wI_X10_bookAt wS_X10_bookAt wN_X10 (kne kx) (pf_10 kx) rfl hd_X10_bookAt ⟨by decide, by decide, by decide, by decide⟩ (Nat.le_of_ble_eq_true rfl) (fun r_ S_ h_ => ?_)
  obtain ⟨rfl, rfl⟩ := h_
  change Go X G _ 3 _ _ S 5 [(0, .ref x), (1, .int (nI j))] [.ref ((D t 0))]
  refine g_astore_n (lv' := [(2, .ref ((D t 0))), (0, .ref x), (1, .int (nI j))]) C dX10_forkedAt_5 rfl (by decide) rfl ?_
  refine g_aload_n 0 2 C dX10_forkedAt_6 rfl rfl ?_
  refine g_ifnull C dX10_forkedAt_7 ?_
  refine g_aload_n 0 2 C dX10_forkedAt_10 rfl rfl ?_
  refine gf_bk_kindS C dX10_forkedAt_11 hbk.1.1 wF_X10_221 ?_
  refine g_topi (hbk.1.2.1) ?_
  refine g_iconst (v := nI 2) C dX10_forkedAt_14 (by decide) ?_
  refine g_ncmp_ne 22 (by omega) (by omega) C dX10_forkedAt_15 (by decide) (fun c15 => ?_) (fun c15 => ?_)
  · exact absurd hk c15
  · refine g_aload_n 0 2 C dX10_forkedAt_18 rfl rfl ?_
    refine g_goto 23 C dX10_forkedAt_19 (by decide) ?_
    exact g_aret (r := some ((D t 0))) C dX10_forkedAt_23 (Or.inl ⟨_, rfl⟩) (by decide) (by decide) (⟨rfl, rfl⟩)
set_option maxRecDepth 100000 in
set_option maxHeartbeats 400000 in
theorem c_C_witness_err {lX : Launch} {G : Gx} {S : PS} {x : Nat} {c : Nat → Nat} {D : Nat → Nat → Nat} {Z : ZT} (hr : RCD S Z x c D) (hZ : okZ Z) {p e : Int32} (he : bookE Z p = .inl e) : Ct lX yX10_witness cX10_witness 4 (Option.some Jvm.ClassFile.FieldType.int) rm_X10_witness G [.ref x, .int p] S (fun r S' => r = some (.int (A_witness Z p)) ∧ RC S' (N_witness Z p) x ∧ Fk S S') := by
  obtain ⟨⟨⟨kx, r0, k0⟩, r1, r3, r5, ⟨r7, k7⟩, ⟨r8, k8⟩, ⟨r9, k9⟩, ⟨r10, k10⟩, ⟨r11, k11⟩, ⟨r12, k12⟩, r13⟩, hT, hP, hH, hRf, hW, hA, hL, hSep⟩ := id hr
  obtain ⟨⟨k1, r2, k2⟩, hu, htl, htf, ht255⟩ := id hT
  obtain ⟨⟨k3, r4⟩, ⟨k4, l4⟩, ws, wl, wv⟩ := id hW
  have hfe : forkE Z p = .inl e := by unfold forkE; rw [he]
  have hfz : forkZ Z p = Z := by unfold forkZ; rw [he]
  refine Ct.mk RX10 "witness" hy_X10_witness (Nat.le_of_ble_eq_true rfl) (fun X hX C => ?_)
  change Go X G _ 4 0 0 S 0 [(0, .ref x), (1, .int p)] []
  refine g_aload_n 0 0 C dX10_witness_0 rfl rfl ?_
  refine g_iload_n 1 1 C dX10_witness_1 rfl rfl ?_
  refine g_callV (As := [.int p]) (rest := []) C dX10_witness_2 (c_C_forked_err hr hZ he) wC_X10_forkedAt wM_X10_253 wI_X10_forkedAt wS_X10_forkedAt wN_X10 (kne kx) (pf_10 kx) rfl hd_X10_forkedAt ⟨by decide, by decide, by decide, by decide⟩ (Nat.le_of_ble_eq_true rfl) (fun r_ S_ h_ => ?_)
  obtain ⟨rfl, rfl⟩ := h_
  change Go X G _ 4 _ _ S 5 [(0, .ref x), (1, .int p)] [.null]
  refine g_astore_nN (lv' := [(2, .null), (0, .ref x), (1, .int p)]) C dX10_witness_5 rfl (by decide) rfl ?_
  refine g_aload_n 1 0 C dX10_witness_6 rfl rfl ?_
  refine g_aload_nN 0 2 C dX10_witness_7 rfl rfl ?_
  refine g_callV (As := [.null]) (rest := []) C dX10_witness_8 (c_C_nameFor_no hr hZ) wC_X10_nameFor wM_X10_146 wI_X10_nameFor wS_X10_nameFor wN_X10 (kne kx) (pf_10 kx) rfl hd_X10_nameFor ⟨by decide, by decide, by decide, by decide⟩ (Nat.le_of_ble_eq_true rfl) (fun r_ S_ h_ => ?_)
  obtain ⟨rfl, rfl⟩ := h_
  change Go X G _ 4 _ _ S 11 [(2, .null), (0, .ref x), (1, .int p)] [.null]
  refine g_astore_nN (lv' := [(3, .null), (2, .null), (0, .ref x), (1, .int p)]) C dX10_witness_11 rfl (by decide) rfl ?_
  refine g_aload_nN 1 2 C dX10_witness_12 rfl rfl ?_
  refine g_ifnullN 27 C dX10_witness_13 (by decide) ?_
  refine g_aload_n 2 0 C dX10_witness_27 rfl rfl ?_
  refine g_iload_n 3 1 C dX10_witness_28 rfl rfl ?_
  refine g_aload_nN 1 2 C dX10_witness_29 rfl rfl ?_
  refine g_aload_nN 0 3 C dX10_witness_30 rfl rfl ?_
  refine g_callV (As := [.int p, .null, .null]) (rest := []) C dX10_witness_31 (c_C_roa_no hr hZ) wC_X10_refusalOfAsking wM_X10_150 wI_X10_refusalOfAsking wS_X10_refusalOfAsking wN_X10 (kne kx) (pf_10 kx) rfl hd_X10_refusalOfAsking ⟨by decide, by decide, by decide, by decide⟩ (Nat.le_of_ble_eq_true rfl) (fun r_ S_ h_ => ?_)
  obtain ⟨rfl, rfl⟩ := h_
  change Go X G _ 4 _ _ S 34 [(3, .null), (2, .null), (0, .ref x), (1, .int p)] [.int (reA Z p)]
  exact g_iret C dX10_witness_34 (by decide) (by decide) (⟨by unfold A_witness; rw [hfe, ref_book he], ⟨c, D, by unfold N_witness; rw [hfe]; simp only []; rw [hfz]; exact hr⟩, Fk.refl S⟩)
set_option maxRecDepth 100000 in
set_option maxHeartbeats 400000 in
theorem c_C_witness_oth {lX : Launch} {G : Gx} {S : PS} {x : Nat} {c : Nat → Nat} {D : Nat → Nat → Nat} {Z : ZT} (hr : RCD S Z x c D) (hZ : okZ Z) {j t : Nat} (hj : j < 10) (hp : zP Z j = t + 1) (he : bookE Z (nI j) = .inr t) (hk : tK (zH Z t) ≠ 2) : Ct lX yX10_witness cX10_witness 4 (Option.some Jvm.ClassFile.FieldType.int) rm_X10_witness G [.ref x, .int (nI j)] S (fun r S' => r = some (.int (A_witness Z (nI j))) ∧ RC S' (N_witness Z (nI j)) x ∧ Fk S S') := by
  obtain ⟨⟨⟨kx, r0, k0⟩, r1, r3, r5, ⟨r7, k7⟩, ⟨r8, k8⟩, ⟨r9, k9⟩, ⟨r10, k10⟩, ⟨r11, k11⟩, ⟨r12, k12⟩, r13⟩, hT, hP, hH, hRf, hW, hA, hL, hSep⟩ := id hr
  obtain ⟨⟨k1, r2, k2⟩, hu, htl, htf, ht255⟩ := id hT
  obtain ⟨⟨k3, r4⟩, ⟨k4, l4⟩, ws, wl, wv⟩ := id hW
  have hfe : forkE Z (nI j) = .inl (-4) := by unfold forkE; rw [he]; simp only []; rw [if_neg hk]
  have hfz : forkZ Z (nI j) = Z := by unfold forkZ; rw [he]; simp only []; rw [if_neg hk]
  have hre : reA Z (nI j) = -4 := by unfold reA; rw [look_at hj hp]
  refine Ct.mk RX10 "witness" hy_X10_witness (Nat.le_of_ble_eq_true rfl) (fun X hX C => ?_)
  change Go X G _ 4 0 0 S 0 [(0, .ref x), (1, .int (nI j))] []
  refine g_aload_n 0 0 C dX10_witness_0 rfl rfl ?_
  refine g_iload_n 1 1 C dX10_witness_1 rfl rfl ?_
  refine g_callV (As := [.int (nI j)]) (rest := []) C dX10_witness_2 (c_C_forked_no hr hZ hj hp he hk) wC_X10_forkedAt wM_X10_253 wI_X10_forkedAt wS_X10_forkedAt wN_X10 (kne kx) (pf_10 kx) rfl hd_X10_forkedAt ⟨by decide, by decide, by decide, by decide⟩ (Nat.le_of_ble_eq_true rfl) (fun r_ S_ h_ => ?_)
  obtain ⟨rfl, rfl⟩ := h_
  change Go X G _ 4 _ _ S 5 [(0, .ref x), (1, .int (nI j))] [.null]
  refine g_astore_nN (lv' := [(2, .null), (0, .ref x), (1, .int (nI j))]) C dX10_witness_5 rfl (by decide) rfl ?_
  refine g_aload_n 1 0 C dX10_witness_6 rfl rfl ?_
  refine g_aload_nN 0 2 C dX10_witness_7 rfl rfl ?_
  refine g_callV (As := [.null]) (rest := []) C dX10_witness_8 (c_C_nameFor_no hr hZ) wC_X10_nameFor wM_X10_146 wI_X10_nameFor wS_X10_nameFor wN_X10 (kne kx) (pf_10 kx) rfl hd_X10_nameFor ⟨by decide, by decide, by decide, by decide⟩ (Nat.le_of_ble_eq_true rfl) (fun r_ S_ h_ => ?_)
  obtain ⟨rfl, rfl⟩ := h_
  change Go X G _ 4 _ _ S 11 [(2, .null), (0, .ref x), (1, .int (nI j))] [.null]
  refine g_astore_nN (lv' := [(3, .null), (2, .null), (0, .ref x), (1, .int (nI j))]) C dX10_witness_11 rfl (by decide) rfl ?_
  refine g_aload_nN 1 2 C dX10_witness_12 rfl rfl ?_
  refine g_ifnullN 27 C dX10_witness_13 (by decide) ?_
  refine g_aload_n 2 0 C dX10_witness_27 rfl rfl ?_
  refine g_iload_n 3 1 C dX10_witness_28 rfl rfl ?_
  refine g_aload_nN 1 2 C dX10_witness_29 rfl rfl ?_
  refine g_aload_nN 0 3 C dX10_witness_30 rfl rfl ?_
  refine g_callV (As := [.int (nI j), .null, .null]) (rest := []) C dX10_witness_31 (c_C_roa_no hr hZ) wC_X10_refusalOfAsking wM_X10_150 wI_X10_refusalOfAsking wS_X10_refusalOfAsking wN_X10 (kne kx) (pf_10 kx) rfl hd_X10_refusalOfAsking ⟨by decide, by decide, by decide, by decide⟩ (Nat.le_of_ble_eq_true rfl) (fun r_ S_ h_ => ?_)
  obtain ⟨rfl, rfl⟩ := h_
  change Go X G _ 4 _ _ S 34 [(3, .null), (2, .null), (0, .ref x), (1, .int (nI j))] [.int (reA Z (nI j))]
  exact g_iret C dX10_witness_34 (by decide) (by decide) (⟨by unfold A_witness; rw [hfe, hre], ⟨c, D, by unfold N_witness; rw [hfe]; simp only []; rw [hfz]; exact hr⟩, Fk.refl S⟩)
set_option maxRecDepth 100000 in
set_option maxHeartbeats 400000 in
theorem c_C_witness_ok {lX : Launch} {G : Gx} {S : PS} {x : Nat} {c : Nat → Nat} {D : Nat → Nat → Nat} {Z : ZT} (hr : RCD S Z x c D) (hZ : okZ Z) {j t : Nat} (hj : j < 10) (hp : zP Z j = t + 1) (he : bookE Z (nI j) = .inr t) (hk : tK (zH Z t) = 2) : Ct lX yX10_witness cX10_witness 4 (Option.some Jvm.ClassFile.FieldType.int) rm_X10_witness G [.ref x, .int (nI j)] S (fun r S' => r = some (.int (A_witness Z (nI j))) ∧ RC S' (N_witness Z (nI j)) x ∧ Fk S S') := by
  obtain ⟨⟨⟨kx, r0, k0⟩, r1, r3, r5, ⟨r7, k7⟩, ⟨r8, k8⟩, ⟨r9, k9⟩, ⟨r10, k10⟩, ⟨r11, k11⟩, ⟨r12, k12⟩, r13⟩, hT, hP, hH, hRf, hW, hA, hL, hSep⟩ := id hr
  obtain ⟨⟨k1, r2, k2⟩, hu, htl, htf, ht255⟩ := id hT
  obtain ⟨⟨k3, r4⟩, ⟨k4, l4⟩, ws, wl, wv⟩ := id hW
  have hok := (hZ.th hj hp).1
  have hk5 : tK (zH Z t) ≤ 5 := by obtain ⟨j2, _, e2, h2, h3⟩ := bookE_inr he; exact h3
  have hbk := (hH t ⟨j, hj, hp⟩).1 hk5
  have hbl := hbk.2.1
  have hla := hbk.2.1.2.2.2.2.1
  have hl100 := hok.2.2.1.1
  refine Ct.mk RX10 "witness" hy_X10_witness (Nat.le_of_ble_eq_true rfl) (fun X hX C => ?_)
  change Go X G _ 4 0 0 S 0 [(0, .ref x), (1, .int (nI j))] []
  refine g_aload_n 0 0 C dX10_witness_0 rfl rfl ?_
  refine g_iload_n 1 1 C dX10_witness_1 rfl rfl ?_
  refine g_callV (As := [.int (nI j)]) (rest := []) C dX10_witness_2 (c_C_forked_ok hr hZ hj hp he hk) wC_X10_forkedAt wM_X10_253 wI_X10_forkedAt wS_X10_forkedAt wN_X10 (kne kx) (pf_10 kx) rfl hd_X10_forkedAt ⟨by decide, by decide, by decide, by decide⟩ (Nat.le_of_ble_eq_true rfl) (fun r_ S_ h_ => ?_)
  obtain ⟨rfl, rfl⟩ := h_
  change Go X G _ 4 _ _ S 5 [(0, .ref x), (1, .int (nI j))] [.ref ((D t 0))]
  refine g_astore_n (lv' := [(2, .ref ((D t 0))), (0, .ref x), (1, .int (nI j))]) C dX10_witness_5 rfl (by decide) rfl ?_
  refine g_aload_n 1 0 C dX10_witness_6 rfl rfl ?_
  refine g_aload_n 0 2 C dX10_witness_7 rfl rfl ?_
  refine g_callV (As := [.ref ((D t 0))]) (rest := []) C dX10_witness_8 (c_C_nameFor hr hZ) wC_X10_nameFor wM_X10_146 wI_X10_nameFor wS_X10_nameFor wN_X10 (kne kx) (pf_10 kx) rfl hd_X10_nameFor ⟨by decide, by decide, by decide, by decide⟩ (Nat.le_of_ble_eq_true rfl) (fun r_ Sa h_ => ?_)
  rcases h_ with ⟨hn, m_, rfl, f1, hm1, hnm, hm0⟩ | ⟨hn, rfl, f1, hm1⟩
  · change Go X G _ 4 _ _ Sa 11 [(2, .ref ((D t 0))), (0, .ref x), (1, .int (nI j))] [.ref m_]
    have hr1 := hr.ask f1 hm1
    have hZ1 := hZ.ask
    have hb1 : bookC Sa (D t) (zH Z t) := (hr1.2.2.2.1 t ⟨j, hj, hp⟩).1 hk5
    have hoc := nameB_ok hn hZ.1.2
    have hTb : tB (zH Z t) = bitsT (tL (zH Z t)) false := by rw [(hok.2.2.2.2.2.1 hk5).2, hk, bitsN_2]
    have hpos := (hok.2.2.2.2.2.1 hk5).1
    have hfz : forkZ Z (nI j) = zT_ Z [] := by unfold forkZ; rw [he]; simp only []; rw [if_pos hk]
    obtain ⟨hC1, hT1, hP1, hH1, hRf1, hW1, ⟨wA, hA1⟩, hL1, hSep1⟩ := id hr1
    refine g_astore_n (lv' := [(3, .ref m_), (2, .ref ((D t 0))), (0, .ref x), (1, .int (nI j))]) C dX10_witness_11 rfl (by decide) rfl ?_
    refine g_aload_n 1 2 C dX10_witness_12 rfl rfl ?_
    refine g_ifnull C dX10_witness_13 ?_
    refine g_aload_n 0 3 C dX10_witness_16 rfl rfl ?_
    refine g_ifnull C dX10_witness_17 ?_
    refine g_aload_n 1 2 C dX10_witness_20 rfl rfl ?_
    refine g_callV (As := []) (rest := []) C dX10_witness_21 (c_K_lacks hb1 hok) wC_X2_lacksTable wM_X10_118 wI_X2_lacksTable wS_X2_lacksTable wN_X2 (kne hb1.1.1) (pf_3 hb1.1.1) rfl hd_X2_lacksTable ⟨by decide, by decide, by decide, by decide⟩ (Nat.le_of_ble_eq_true rfl) (fun r_ S_ h_ => ?_)
    obtain ⟨rfl, rfl⟩ := h_
    change Go X G _ 4 _ _ Sa 24 [(3, .ref m_), (2, .ref ((D t 0))), (0, .ref x), (1, .int (nI j))] [.int (bI (missT (zH Z t)))]
    refine g_if_eq 35 C dX10_witness_24 (by decide) (fun c24 => ?_) (fun c24 => ?_)
    · have hms := bI_f c24
      have hAC : tA (zH Z t) = false ∧ tC (zH Z t) = false := by unfold missT at hms; exact Bool.or_eq_false_iff.mp hms
      have hfe : forkE Z (nI j) = .inr t := by unfold forkE; rw [he]; simp only []; rw [if_pos hk, hn, if_pos rfl, hms, if_neg (by decide)]
      refine g_aload_n 2 0 C dX10_witness_35 rfl rfl ?_
      refine gr_ba_shown C dX10_witness_36 hr1.1.1.1 wF_X10_25 hC1.2.2.1 ?_
      refine g_aload_n 1 2 C dX10_witness_39 rfl rfl ?_
      refine g_aload_n 0 3 C dX10_witness_40 rfl rfl ?_
      refine g_callV (As := [.ref ((D t 0)), .ref m_]) (rest := []) C dX10_witness_41 (c_W_goDown (S := Sa) hW1.1.1 hW1.1.2 hW1.2.1.1 hW1.2.1.2 hb1 hk hok.2.2.1 hpos hTb hAC.1 hAC.2 hnm hoc) wC_X9_goDown wM_X10_256 wI_X9_goDown wS_X9_goDown wN_X9 (kne hW1.1.1) (pf_9 hW1.1.1) rfl hd_X9_goDown ⟨by decide, by decide, by decide, by decide⟩ (Nat.le_of_ble_eq_true rfl) (fun r_ S_ h_ => ?_)
      obtain ⟨f2, rfl, rfl, hwf⟩ := h_
      change Go X G _ 4 _ _ (wiS Sa (c 3) (c 4) f2 (nI (dnD (tL (zH Z t)) (zT Z)).length)) 44 [(3, .ref m_), (2, .ref ((D t 0))), (0, .ref x), (1, .int (nI j))] [.int (bI (dnIs (tL (zH Z t)) (zT Z)))]
      have hfw : Fr Sa (wiS Sa (c 3) (c 4) f2 (nI (dnD (tL (zH Z t)) (zT Z)).length)) (fun q => q = c 3 ∨ q = c 4) := (Fr.refl Sa _).wi (Fb.of hW1.1.1 (Or.inl rfl)) (Fb.of hW1.2.1.1 (Or.inr rfl))
      have hwn : witC (wiS Sa (c 3) (c 4) f2 (nI (dnD (tL (zH Z t)) (zT Z)).length)) (c 3) (c 4) (dnD (tL (zH Z t)) (zT Z)) := ⟨hW1.1, hW1.2.1, va_up_self _ _ _, dnD_len hoc.2.1, fun i hi => (congrFun (va_up_self _ _ _) i).trans (hwf i hi)⟩
      have hfk := ((f1.mono (B := fun q => q = c 3 ∨ q = c 4) (fun _ _ z => z.elim)).trans hfw (fun _ _ h => h)).fk
      exact g_iret C dX10_witness_44 (by decide) (by decide) ⟨by unfold A_witness; rw [hfe], ⟨c, D, by
        unfold N_witness; rw [hfe]
        exact hr1.wit (tp := []) hfw (fun a h => h) hwn (hT1.fr hfw rfl) rfl hRf1⟩, hfk⟩
    · have hms := bI_t c24
      refine g_aload_n 2 0 C dX10_witness_27 rfl rfl ?_
      refine g_iload_n 3 1 C dX10_witness_28 rfl rfl ?_
      refine g_aload_n 1 2 C dX10_witness_29 rfl rfl ?_
      refine g_aload_n 0 3 C dX10_witness_30 rfl rfl ?_
      refine g_callV (As := [.int (nI j), .ref ((D t 0)), .ref m_]) (rest := []) C dX10_witness_31 (c_C_roa_mis hr1 hZ1) wC_X10_refusalOfAsking wM_X10_150 wI_X10_refusalOfAsking wS_X10_refusalOfAsking wN_X10 (kne hr1.1.1.1) (pf_10 hr1.1.1.1) rfl hd_X10_refusalOfAsking ⟨by decide, by decide, by decide, by decide⟩ (Nat.le_of_ble_eq_true rfl) (fun r_ S_ h_ => ?_)
      obtain ⟨rfl, rfl⟩ := h_
      change Go X G _ 4 _ _ Sa 34 [(3, .ref m_), (2, .ref ((D t 0))), (0, .ref x), (1, .int (nI j))] [.int (-6)]
      have hfe : forkE Z (nI j) = .inl (-6) := by unfold forkE; rw [he]; simp only []; rw [if_pos hk, hn, if_pos rfl, hms, if_pos rfl]
      exact g_iret C dX10_witness_34 (by decide) (by decide) (⟨by unfold A_witness; rw [hfe], ⟨c, D, by unfold N_witness; rw [hfe]; simp only []; rw [hfz]; exact hr1⟩, f1.fk⟩)
  · change Go X G _ 4 _ _ Sa 11 [(2, .ref ((D t 0))), (0, .ref x), (1, .int (nI j))] [.null]
    have hr1 := hr.ask f1 hm1
    have hZ1 := hZ.ask
    have hfz : forkZ Z (nI j) = zT_ Z [] := by unfold forkZ; rw [he]; simp only []; rw [if_pos hk]
    have hfe : forkE Z (nI j) = .inl (-5) := by unfold forkE; rw [he]; simp only []; rw [if_pos hk, hn, if_neg (by decide)]
    refine g_astore_nN (lv' := [(3, .null), (2, .ref ((D t 0))), (0, .ref x), (1, .int (nI j))]) C dX10_witness_11 rfl (by decide) rfl ?_
    refine g_aload_n 1 2 C dX10_witness_12 rfl rfl ?_
    refine g_ifnull C dX10_witness_13 ?_
    refine g_aload_nN 0 3 C dX10_witness_16 rfl rfl ?_
    refine g_ifnullN 27 C dX10_witness_17 (by decide) ?_
    refine g_aload_n 2 0 C dX10_witness_27 rfl rfl ?_
    refine g_iload_n 3 1 C dX10_witness_28 rfl rfl ?_
    refine g_aload_n 1 2 C dX10_witness_29 rfl rfl ?_
    refine g_aload_nN 0 3 C dX10_witness_30 rfl rfl ?_
    refine g_callV (As := [.int (nI j), .ref ((D t 0)), .null]) (rest := []) C dX10_witness_31 (c_C_roa_bad hr1 hZ1) wC_X10_refusalOfAsking wM_X10_150 wI_X10_refusalOfAsking wS_X10_refusalOfAsking wN_X10 (kne hr1.1.1.1) (pf_10 hr1.1.1.1) rfl hd_X10_refusalOfAsking ⟨by decide, by decide, by decide, by decide⟩ (Nat.le_of_ble_eq_true rfl) (fun r_ S_ h_ => ?_)
    obtain ⟨rfl, rfl⟩ := h_
    change Go X G _ 4 _ _ Sa 34 [(3, .null), (2, .ref ((D t 0))), (0, .ref x), (1, .int (nI j))] [.int (-5)]
    exact g_iret C dX10_witness_34 (by decide) (by decide) (⟨by unfold A_witness; rw [hfe], ⟨c, D, by unfold N_witness; rw [hfe]; simp only []; rw [hfz]; exact hr1⟩, f1.fk⟩)
theorem c_C_witness {lX : Launch} {G : Gx} {S : PS} {x : Nat} {c : Nat → Nat} {D : Nat → Nat → Nat} {Z : ZT} (hr : RCD S Z x c D) (hZ : okZ Z) {p : Int32} : Ct lX yX10_witness cX10_witness 4 (Option.some Jvm.ClassFile.FieldType.int) rm_X10_witness G [.ref x, .int p] S (fun r S' => r = some (.int (A_witness Z p)) ∧ RC S' (N_witness Z p) x ∧ Fk S S') := by
  cases he : bookE Z p with
  | inl e => exact c_C_witness_err hr hZ he
  | inr t =>
    obtain ⟨j, hj, rfl, hp, -⟩ := bookE_inr he
    by_cases hk : tK (zH Z t) = 2
    · exact c_C_witness_ok hr hZ hj hp he hk
    · exact c_C_witness_oth hr hZ hj hp he hk
theorem RCD.asked {S S' : PS} {Z : ZT} {x : Nat} {c : Nat → Nat} {D : Nat → Nat → Nat} {W : List Int32} {A : Nat → Prop} (h : RCD S Z x c D) (hf : Fr S S' A) (hA : ∀ a, A a → a = c 5 ∨ a = c 6) (hw : witC S' (c 5) (c 6) W) (hmu : mu S' = mu S) : RCD S' Z x c D := by
  obtain ⟨h1, h2, h3, h4, h5, h6, ⟨w, h7⟩, ⟨l, h8⟩, h9⟩ := h
  have hd : ∀ t, usedP (zP Z) t → ∀ i, i < 9 → ¬ A (D t i) := fun t ht i hi z => by
    rcases hA _ z with e | e
    · exact (h9.2.1 t ht i hi).2 5 (by unfold fixI; decide) e
    · exact (h9.2.1 t ht i hi).2 6 (by unfold fixI; decide) e
  have hk : ∀ a, (kd S a ≠ 9 ∧ kd S a ≠ 16) → ¬ A a := fun a ha z => by
    rcases hA a z with e | e
    · rw [e] at ha; exact ha.1 h7.1.1
    · rw [e] at ha; exact ha.2 h7.2.1.1
  refine ⟨h1.fr hf, h2.fr hf hmu, by rw [show pl_a S' = pl_a S from congrArg (fun q => q.2.2.1) hmu]; exact h3, fun t ht => (h4 t ht).fr hf (hd t ht), (congrArg (fun q => q.1) hmu).trans h5, h6.fr hf (fun z => ?_) (fun z => ?_), ⟨W, hw⟩, ⟨l, h8.fr hf (hk _ (by rw [h8.1.1]; decide)) (hk _ (by rw [h8.2.1.1]; decide)) (hk _ (by rw [h8.2.2.1.1]; decide))⟩, h9.fr hf⟩
  · rcases hA _ z with e | e
    · exact h9.2.2.1 e
    · have := h6.1.1; rw [e, h7.2.1.1] at this; cases this
  · rcases hA _ z with e | e
    · have := h6.2.1.1; rw [e, h7.1.1] at this; cases this
    · exact h9.2.2.2 e
set_option maxRecDepth 100000 in
set_option maxHeartbeats 400000 in
theorem c_C_check_err {lX : Launch} {G : Gx} {S : PS} {x : Nat} {c : Nat → Nat} {D : Nat → Nat → Nat} {Z : ZT} (hr : RCD S Z x c D) (hZ : okZ Z) {p e : Int32} (he : bookE Z p = .inl e) : Ct lX yX10_check cX10_check 4 (Option.some Jvm.ClassFile.FieldType.int) rm_X10_check G [.ref x, .int p] S (fun r S' => r = some (.int (A_check Z p)) ∧ RC S' (forkZ Z p) x ∧ Fk S S') := by
  obtain ⟨⟨⟨kx, r0, k0⟩, r1, r3, r5, ⟨r7, k7⟩, ⟨r8, k8⟩, ⟨r9, k9⟩, ⟨r10, k10⟩, ⟨r11, k11⟩, ⟨r12, k12⟩, r13⟩, hT, hP, hH, hRf, hW, hA, hL, hSep⟩ := id hr
  obtain ⟨⟨k1, r2, k2⟩, hu, htl, htf, ht255⟩ := id hT
  obtain ⟨⟨k3, r4⟩, ⟨k4, l4⟩, ws, wl, wv⟩ := id hW
  have hfe : forkE Z p = .inl e := by unfold forkE; rw [he]
  have hfz : forkZ Z p = Z := by unfold forkZ; rw [he]
  refine Ct.mk RX10 "check" hy_X10_check (Nat.le_of_ble_eq_true rfl) (fun X hX C => ?_)
  change Go X G _ 4 0 0 S 0 [(0, .ref x), (1, .int p)] []
  refine g_aload_n 0 0 C dX10_check_0 rfl rfl ?_
  refine g_iload_n 1 1 C dX10_check_1 rfl rfl ?_
  refine g_callV (As := [.int p]) (rest := []) C dX10_check_2 (c_C_forked_err hr hZ he) wC_X10_forkedAt wM_X10_253 wI_X10_forkedAt wS_X10_forkedAt wN_X10 (kne kx) (pf_10 kx) rfl hd_X10_forkedAt ⟨by decide, by decide, by decide, by decide⟩ (Nat.le_of_ble_eq_true rfl) (fun r_ S_ h_ => ?_)
  obtain ⟨rfl, rfl⟩ := h_
  change Go X G _ 4 _ _ S 5 [(0, .ref x), (1, .int p)] [.null]
  refine g_astore_nN (lv' := [(2, .null), (0, .ref x), (1, .int p)]) C dX10_check_5 rfl (by decide) rfl ?_
  refine g_aload_n 1 0 C dX10_check_6 rfl rfl ?_
  refine g_aload_nN 0 2 C dX10_check_7 rfl rfl ?_
  refine g_callV (As := [.null]) (rest := []) C dX10_check_8 (c_C_nameFor_no hr hZ) wC_X10_nameFor wM_X10_146 wI_X10_nameFor wS_X10_nameFor wN_X10 (kne kx) (pf_10 kx) rfl hd_X10_nameFor ⟨by decide, by decide, by decide, by decide⟩ (Nat.le_of_ble_eq_true rfl) (fun r_ S_ h_ => ?_)
  obtain ⟨rfl, rfl⟩ := h_
  change Go X G _ 4 _ _ S 11 [(2, .null), (0, .ref x), (1, .int p)] [.null]
  refine g_astore_nN (lv' := [(3, .null), (2, .null), (0, .ref x), (1, .int p)]) C dX10_check_11 rfl (by decide) rfl ?_
  refine g_aload_nN 1 2 C dX10_check_12 rfl rfl ?_
  refine g_ifnullN 27 C dX10_check_13 (by decide) ?_
  refine g_aload_n 2 0 C dX10_check_27 rfl rfl ?_
  refine g_iload_n 3 1 C dX10_check_28 rfl rfl ?_
  refine g_aload_nN 1 2 C dX10_check_29 rfl rfl ?_
  refine g_aload_nN 0 3 C dX10_check_30 rfl rfl ?_
  refine g_callV (As := [.int p, .null, .null]) (rest := []) C dX10_check_31 (c_C_roa_no hr hZ) wC_X10_refusalOfAsking wM_X10_150 wI_X10_refusalOfAsking wS_X10_refusalOfAsking wN_X10 (kne kx) (pf_10 kx) rfl hd_X10_refusalOfAsking ⟨by decide, by decide, by decide, by decide⟩ (Nat.le_of_ble_eq_true rfl) (fun r_ S_ h_ => ?_)
  obtain ⟨rfl, rfl⟩ := h_
  change Go X G _ 4 _ _ S 34 [(3, .null), (2, .null), (0, .ref x), (1, .int p)] [.int (reA Z p)]
  exact g_iret C dX10_check_34 (by decide) (by decide) (⟨by unfold A_check; rw [hfe, ref_book he], ⟨c, D, by rw [hfz]; exact hr⟩, Fk.refl S⟩)
set_option maxRecDepth 100000 in
set_option maxHeartbeats 400000 in
theorem c_C_check_oth {lX : Launch} {G : Gx} {S : PS} {x : Nat} {c : Nat → Nat} {D : Nat → Nat → Nat} {Z : ZT} (hr : RCD S Z x c D) (hZ : okZ Z) {j t : Nat} (hj : j < 10) (hp : zP Z j = t + 1) (he : bookE Z (nI j) = .inr t) (hk : tK (zH Z t) ≠ 2) : Ct lX yX10_check cX10_check 4 (Option.some Jvm.ClassFile.FieldType.int) rm_X10_check G [.ref x, .int (nI j)] S (fun r S' => r = some (.int (A_check Z (nI j))) ∧ RC S' (forkZ Z (nI j)) x ∧ Fk S S') := by
  obtain ⟨⟨⟨kx, r0, k0⟩, r1, r3, r5, ⟨r7, k7⟩, ⟨r8, k8⟩, ⟨r9, k9⟩, ⟨r10, k10⟩, ⟨r11, k11⟩, ⟨r12, k12⟩, r13⟩, hT, hP, hH, hRf, hW, hA, hL, hSep⟩ := id hr
  obtain ⟨⟨k1, r2, k2⟩, hu, htl, htf, ht255⟩ := id hT
  obtain ⟨⟨k3, r4⟩, ⟨k4, l4⟩, ws, wl, wv⟩ := id hW
  have hfe : forkE Z (nI j) = .inl (-4) := by unfold forkE; rw [he]; simp only []; rw [if_neg hk]
  have hfz : forkZ Z (nI j) = Z := by unfold forkZ; rw [he]; simp only []; rw [if_neg hk]
  have hre : reA Z (nI j) = -4 := by unfold reA; rw [look_at hj hp]
  refine Ct.mk RX10 "check" hy_X10_check (Nat.le_of_ble_eq_true rfl) (fun X hX C => ?_)
  change Go X G _ 4 0 0 S 0 [(0, .ref x), (1, .int (nI j))] []
  refine g_aload_n 0 0 C dX10_check_0 rfl rfl ?_
  refine g_iload_n 1 1 C dX10_check_1 rfl rfl ?_
  refine g_callV (As := [.int (nI j)]) (rest := []) C dX10_check_2 (c_C_forked_no hr hZ hj hp he hk) wC_X10_forkedAt wM_X10_253 wI_X10_forkedAt wS_X10_forkedAt wN_X10 (kne kx) (pf_10 kx) rfl hd_X10_forkedAt ⟨by decide, by decide, by decide, by decide⟩ (Nat.le_of_ble_eq_true rfl) (fun r_ S_ h_ => ?_)
  obtain ⟨rfl, rfl⟩ := h_
  change Go X G _ 4 _ _ S 5 [(0, .ref x), (1, .int (nI j))] [.null]
  refine g_astore_nN (lv' := [(2, .null), (0, .ref x), (1, .int (nI j))]) C dX10_check_5 rfl (by decide) rfl ?_
  refine g_aload_n 1 0 C dX10_check_6 rfl rfl ?_
  refine g_aload_nN 0 2 C dX10_check_7 rfl rfl ?_
  refine g_callV (As := [.null]) (rest := []) C dX10_check_8 (c_C_nameFor_no hr hZ) wC_X10_nameFor wM_X10_146 wI_X10_nameFor wS_X10_nameFor wN_X10 (kne kx) (pf_10 kx) rfl hd_X10_nameFor ⟨by decide, by decide, by decide, by decide⟩ (Nat.le_of_ble_eq_true rfl) (fun r_ S_ h_ => ?_)
  obtain ⟨rfl, rfl⟩ := h_
  change Go X G _ 4 _ _ S 11 [(2, .null), (0, .ref x), (1, .int (nI j))] [.null]
  refine g_astore_nN (lv' := [(3, .null), (2, .null), (0, .ref x), (1, .int (nI j))]) C dX10_check_11 rfl (by decide) rfl ?_
  refine g_aload_nN 1 2 C dX10_check_12 rfl rfl ?_
  refine g_ifnullN 27 C dX10_check_13 (by decide) ?_
  refine g_aload_n 2 0 C dX10_check_27 rfl rfl ?_
  refine g_iload_n 3 1 C dX10_check_28 rfl rfl ?_
  refine g_aload_nN 1 2 C dX10_check_29 rfl rfl ?_
  refine g_aload_nN 0 3 C dX10_check_30 rfl rfl ?_
  refine g_callV (As := [.int (nI j), .null, .null]) (rest := []) C dX10_check_31 (c_C_roa_no hr hZ) wC_X10_refusalOfAsking wM_X10_150 wI_X10_refusalOfAsking wS_X10_refusalOfAsking wN_X10 (kne kx) (pf_10 kx) rfl hd_X10_refusalOfAsking ⟨by decide, by decide, by decide, by decide⟩ (Nat.le_of_ble_eq_true rfl) (fun r_ S_ h_ => ?_)
  obtain ⟨rfl, rfl⟩ := h_
  change Go X G _ 4 _ _ S 34 [(3, .null), (2, .null), (0, .ref x), (1, .int (nI j))] [.int (reA Z (nI j))]
  exact g_iret C dX10_check_34 (by decide) (by decide) (⟨by unfold A_check; rw [hfe, hre], ⟨c, D, by rw [hfz]; exact hr⟩, Fk.refl S⟩)
set_option maxRecDepth 100000 in
set_option maxHeartbeats 400000 in
theorem c_C_check_ok {lX : Launch} {G : Gx} {S : PS} {x : Nat} {c : Nat → Nat} {D : Nat → Nat → Nat} {Z : ZT} (hr : RCD S Z x c D) (hZ : okZ Z) {j t : Nat} (hj : j < 10) (hp : zP Z j = t + 1) (he : bookE Z (nI j) = .inr t) (hk : tK (zH Z t) = 2) : Ct lX yX10_check cX10_check 4 (Option.some Jvm.ClassFile.FieldType.int) rm_X10_check G [.ref x, .int (nI j)] S (fun r S' => r = some (.int (A_check Z (nI j))) ∧ RC S' (forkZ Z (nI j)) x ∧ Fk S S') := by
  obtain ⟨⟨⟨kx, r0, k0⟩, r1, r3, r5, ⟨r7, k7⟩, ⟨r8, k8⟩, ⟨r9, k9⟩, ⟨r10, k10⟩, ⟨r11, k11⟩, ⟨r12, k12⟩, r13⟩, hT, hP, hH, hRf, hW, hA, hL, hSep⟩ := id hr
  obtain ⟨⟨k1, r2, k2⟩, hu, htl, htf, ht255⟩ := id hT
  obtain ⟨⟨k3, r4⟩, ⟨k4, l4⟩, ws, wl, wv⟩ := id hW
  have hok := (hZ.th hj hp).1
  have hk5 : tK (zH Z t) ≤ 5 := by obtain ⟨j2, _, e2, h2, h3⟩ := bookE_inr he; exact h3
  have hbk := (hH t ⟨j, hj, hp⟩).1 hk5
  have hbl := hbk.2.1
  have hla := hbk.2.1.2.2.2.2.1
  have hl100 := hok.2.2.1.1
  refine Ct.mk RX10 "check" hy_X10_check (Nat.le_of_ble_eq_true rfl) (fun X hX C => ?_)
  change Go X G _ 4 0 0 S 0 [(0, .ref x), (1, .int (nI j))] []
  refine g_aload_n 0 0 C dX10_check_0 rfl rfl ?_
  refine g_iload_n 1 1 C dX10_check_1 rfl rfl ?_
  refine g_callV (As := [.int (nI j)]) (rest := []) C dX10_check_2 (c_C_forked_ok hr hZ hj hp he hk) wC_X10_forkedAt wM_X10_253 wI_X10_forkedAt wS_X10_forkedAt wN_X10 (kne kx) (pf_10 kx) rfl hd_X10_forkedAt ⟨by decide, by decide, by decide, by decide⟩ (Nat.le_of_ble_eq_true rfl) (fun r_ S_ h_ => ?_)
  obtain ⟨rfl, rfl⟩ := h_
  change Go X G _ 4 _ _ S 5 [(0, .ref x), (1, .int (nI j))] [.ref ((D t 0))]
  refine g_astore_n (lv' := [(2, .ref ((D t 0))), (0, .ref x), (1, .int (nI j))]) C dX10_check_5 rfl (by decide) rfl ?_
  refine g_aload_n 1 0 C dX10_check_6 rfl rfl ?_
  refine g_aload_n 0 2 C dX10_check_7 rfl rfl ?_
  refine g_callV (As := [.ref ((D t 0))]) (rest := []) C dX10_check_8 (c_C_nameFor hr hZ) wC_X10_nameFor wM_X10_146 wI_X10_nameFor wS_X10_nameFor wN_X10 (kne kx) (pf_10 kx) rfl hd_X10_nameFor ⟨by decide, by decide, by decide, by decide⟩ (Nat.le_of_ble_eq_true rfl) (fun r_ Sa h_ => ?_)
  rcases h_ with ⟨hn, m_, rfl, f1, hm1, hnm, hm0⟩ | ⟨hn, rfl, f1, hm1⟩
  · change Go X G _ 4 _ _ Sa 11 [(2, .ref ((D t 0))), (0, .ref x), (1, .int (nI j))] [.ref m_]
    have hr1 := hr.ask f1 hm1
    have hZ1 := hZ.ask
    have hb1 : bookC Sa (D t) (zH Z t) := (hr1.2.2.2.1 t ⟨j, hj, hp⟩).1 hk5
    have hoc := nameB_ok hn hZ.1.2
    have hTb : tB (zH Z t) = bitsT (tL (zH Z t)) false := by rw [(hok.2.2.2.2.2.1 hk5).2, hk, bitsN_2]
    have hpos := (hok.2.2.2.2.2.1 hk5).1
    have hfz : forkZ Z (nI j) = zT_ Z [] := by unfold forkZ; rw [he]; simp only []; rw [if_pos hk]
    obtain ⟨hC1, hT1, hP1, hH1, hRf1, hW1, ⟨wA, hA1⟩, hL1, hSep1⟩ := id hr1
    refine g_astore_n (lv' := [(3, .ref m_), (2, .ref ((D t 0))), (0, .ref x), (1, .int (nI j))]) C dX10_check_11 rfl (by decide) rfl ?_
    refine g_aload_n 1 2 C dX10_check_12 rfl rfl ?_
    refine g_ifnull C dX10_check_13 ?_
    refine g_aload_n 0 3 C dX10_check_16 rfl rfl ?_
    refine g_ifnull C dX10_check_17 ?_
    refine g_aload_n 1 2 C dX10_check_20 rfl rfl ?_
    refine g_callV (As := []) (rest := []) C dX10_check_21 (c_K_lacks hb1 hok) wC_X2_lacksTable wM_X10_118 wI_X2_lacksTable wS_X2_lacksTable wN_X2 (kne hb1.1.1) (pf_3 hb1.1.1) rfl hd_X2_lacksTable ⟨by decide, by decide, by decide, by decide⟩ (Nat.le_of_ble_eq_true rfl) (fun r_ S_ h_ => ?_)
    obtain ⟨rfl, rfl⟩ := h_
    change Go X G _ 4 _ _ Sa 24 [(3, .ref m_), (2, .ref ((D t 0))), (0, .ref x), (1, .int (nI j))] [.int (bI (missT (zH Z t)))]
    refine g_if_eq 35 C dX10_check_24 (by decide) (fun c24 => ?_) (fun c24 => ?_)
    · have hms := bI_f c24
      have hAC : tA (zH Z t) = false ∧ tC (zH Z t) = false := by unfold missT at hms; exact Bool.or_eq_false_iff.mp hms
      have hfe : forkE Z (nI j) = .inr t := by unfold forkE; rw [he]; simp only []; rw [if_pos hk, hn, if_pos rfl, hms, if_neg (by decide)]
      refine g_aload_n 2 0 C dX10_check_35 rfl rfl ?_
      refine gr_ba_asked C dX10_check_36 hr1.1.1.1 wF_X10_29 hC1.2.2.2.1 ?_
      refine g_aload_n 1 2 C dX10_check_39 rfl rfl ?_
      refine g_aload_n 0 3 C dX10_check_40 rfl rfl ?_
      refine g_callV (As := [.ref ((D t 0)), .ref m_]) (rest := []) C dX10_check_41 (c_W_goDown (S := Sa) hA1.1.1 hA1.1.2 hA1.2.1.1 hA1.2.1.2 hb1 hk hok.2.2.1 hpos hTb hAC.1 hAC.2 hnm hoc) wC_X9_goDown wM_X10_256 wI_X9_goDown wS_X9_goDown wN_X9 (kne hA1.1.1) (pf_9 hA1.1.1) rfl hd_X9_goDown ⟨by decide, by decide, by decide, by decide⟩ (Nat.le_of_ble_eq_true rfl) (fun r_ S_ h_ => ?_)
      obtain ⟨f2, rfl, rfl, hwf⟩ := h_
      change Go X G _ 4 _ _ (wiS Sa (c 5) (c 6) f2 (nI (dnD (tL (zH Z t)) (zT Z)).length)) 44 [(3, .ref m_), (2, .ref ((D t 0))), (0, .ref x), (1, .int (nI j))] [.int (bI (dnIs (tL (zH Z t)) (zT Z)))]
      refine g_pop C dX10_check_44 rfl ?_
      refine g_aload_n 2 0 C dX10_check_45 rfl rfl ?_
      refine gr_ba_asked C dX10_check_46 hr1.1.1.1 wF_X10_29 hC1.2.2.2.1 ?_
      refine g_aload_n 2 0 C dX10_check_49 rfl rfl ?_
      refine gr_ba_shown C dX10_check_50 hr1.1.1.1 wF_X10_25 hC1.2.2.1 ?_
      have hfw : Fr Sa (wiS Sa (c 5) (c 6) f2 (nI (dnD (tL (zH Z t)) (zT Z)).length)) (fun q => q = c 5 ∨ q = c 6) := (Fr.refl Sa _).wi (Fb.of hA1.1.1 (Or.inl rfl)) (Fb.of hA1.2.1.1 (Or.inr rfl))
      have hwn : witC (wiS Sa (c 5) (c 6) f2 (nI (dnD (tL (zH Z t)) (zT Z)).length)) (c 5) (c 6) (dnD (tL (zH Z t)) (zT Z)) := ⟨hA1.1, hA1.2.1, va_up_self _ _ _, dnD_len hoc.2.1, fun i hi => (congrFun (va_up_self _ _ _) i).trans (hwf i hi)⟩
      have hr2 := hr1.asked hfw (fun a h => h) hwn rfl
      have hW2 := hr2.2.2.2.2.2.1
      refine g_callV (As := [.ref ((c 3))]) (rest := []) C dX10_check_53 (c_W_isLike hwn hW2) wC_X9_isLike wM_X10_265 wI_X9_isLike wS_X9_isLike wN_X9 (kne hA1.1.1) (pf_9 hA1.1.1) rfl hd_X9_isLike ⟨by decide, by decide, by decide, by decide⟩ (Nat.le_of_ble_eq_true rfl) (fun r_ S_ h_ => ?_)
      obtain ⟨rfl, rfl⟩ := h_
      change Go X G _ 4 _ _ (wiS Sa (c 5) (c 6) f2 (nI (dnD (tL (zH Z t)) (zT Z)).length)) 56 [(3, .ref m_), (2, .ref ((D t 0))), (0, .ref x), (1, .int (nI j))] [.int (bI (decide (dnD (tL (zH Z t)) (zT Z) = zW Z)))]
      refine g_if_eq 63 C dX10_check_56 (by decide) (fun c56 => ?_) (fun c56 => ?_)
      · have cK := c56
        refine g_iconst (v := nI 0) C dX10_check_63 (by decide) ?_
        have hfk := ((f1.mono (B := fun q => q = c 5 ∨ q = c 6) (fun _ _ z => z.elim)).trans hfw (fun _ _ h => h)).fk
        exact g_iret C dX10_check_64 (by decide) (by decide) ⟨by unfold A_check; rw [hfe]; simp only []; rw [bI_f cK]; rfl, ⟨c, D, by rw [hfz]; exact hr2⟩, hfk⟩
      · have cK := c56
        refine g_iconst (v := nI 1) C dX10_check_59 (by decide) ?_
        refine g_goto 64 C dX10_check_60 (by decide) ?_
        have hfk := ((f1.mono (B := fun q => q = c 5 ∨ q = c 6) (fun _ _ z => z.elim)).trans hfw (fun _ _ h => h)).fk
        exact g_iret C dX10_check_64 (by decide) (by decide) ⟨by unfold A_check; rw [hfe]; simp only []; rw [bI_t cK]; rfl, ⟨c, D, by rw [hfz]; exact hr2⟩, hfk⟩
    · have hms := bI_t c24
      refine g_aload_n 2 0 C dX10_check_27 rfl rfl ?_
      refine g_iload_n 3 1 C dX10_check_28 rfl rfl ?_
      refine g_aload_n 1 2 C dX10_check_29 rfl rfl ?_
      refine g_aload_n 0 3 C dX10_check_30 rfl rfl ?_
      refine g_callV (As := [.int (nI j), .ref ((D t 0)), .ref m_]) (rest := []) C dX10_check_31 (c_C_roa_mis hr1 hZ1) wC_X10_refusalOfAsking wM_X10_150 wI_X10_refusalOfAsking wS_X10_refusalOfAsking wN_X10 (kne hr1.1.1.1) (pf_10 hr1.1.1.1) rfl hd_X10_refusalOfAsking ⟨by decide, by decide, by decide, by decide⟩ (Nat.le_of_ble_eq_true rfl) (fun r_ S_ h_ => ?_)
      obtain ⟨rfl, rfl⟩ := h_
      change Go X G _ 4 _ _ Sa 34 [(3, .ref m_), (2, .ref ((D t 0))), (0, .ref x), (1, .int (nI j))] [.int (-6)]
      have hfe : forkE Z (nI j) = .inl (-6) := by unfold forkE; rw [he]; simp only []; rw [if_pos hk, hn, if_pos rfl, hms, if_pos rfl]
      exact g_iret C dX10_check_34 (by decide) (by decide) (⟨by unfold A_check; rw [hfe], ⟨c, D, by rw [hfz]; exact hr1⟩, f1.fk⟩)
  · change Go X G _ 4 _ _ Sa 11 [(2, .ref ((D t 0))), (0, .ref x), (1, .int (nI j))] [.null]
    have hr1 := hr.ask f1 hm1
    have hZ1 := hZ.ask
    have hfz : forkZ Z (nI j) = zT_ Z [] := by unfold forkZ; rw [he]; simp only []; rw [if_pos hk]
    have hfe : forkE Z (nI j) = .inl (-5) := by unfold forkE; rw [he]; simp only []; rw [if_pos hk, hn, if_neg (by decide)]
    refine g_astore_nN (lv' := [(3, .null), (2, .ref ((D t 0))), (0, .ref x), (1, .int (nI j))]) C dX10_check_11 rfl (by decide) rfl ?_
    refine g_aload_n 1 2 C dX10_check_12 rfl rfl ?_
    refine g_ifnull C dX10_check_13 ?_
    refine g_aload_nN 0 3 C dX10_check_16 rfl rfl ?_
    refine g_ifnullN 27 C dX10_check_17 (by decide) ?_
    refine g_aload_n 2 0 C dX10_check_27 rfl rfl ?_
    refine g_iload_n 3 1 C dX10_check_28 rfl rfl ?_
    refine g_aload_n 1 2 C dX10_check_29 rfl rfl ?_
    refine g_aload_nN 0 3 C dX10_check_30 rfl rfl ?_
    refine g_callV (As := [.int (nI j), .ref ((D t 0)), .null]) (rest := []) C dX10_check_31 (c_C_roa_bad hr1 hZ1) wC_X10_refusalOfAsking wM_X10_150 wI_X10_refusalOfAsking wS_X10_refusalOfAsking wN_X10 (kne hr1.1.1.1) (pf_10 hr1.1.1.1) rfl hd_X10_refusalOfAsking ⟨by decide, by decide, by decide, by decide⟩ (Nat.le_of_ble_eq_true rfl) (fun r_ S_ h_ => ?_)
    obtain ⟨rfl, rfl⟩ := h_
    change Go X G _ 4 _ _ Sa 34 [(3, .null), (2, .ref ((D t 0))), (0, .ref x), (1, .int (nI j))] [.int (-5)]
    exact g_iret C dX10_check_34 (by decide) (by decide) (⟨by unfold A_check; rw [hfe], ⟨c, D, by rw [hfz]; exact hr1⟩, f1.fk⟩)
theorem c_C_check {lX : Launch} {G : Gx} {S : PS} {x : Nat} {c : Nat → Nat} {D : Nat → Nat → Nat} {Z : ZT} (hr : RCD S Z x c D) (hZ : okZ Z) {p : Int32} : Ct lX yX10_check cX10_check 4 (Option.some Jvm.ClassFile.FieldType.int) rm_X10_check G [.ref x, .int p] S (fun r S' => r = some (.int (A_check Z p)) ∧ RC S' (forkZ Z p) x ∧ Fk S S') := by
  cases he : bookE Z p with
  | inl e => exact c_C_check_err hr hZ he
  | inr t =>
    obtain ⟨j, hj, rfl, hp, -⟩ := bookE_inr he
    by_cases hk : tK (zH Z t) = 2
    · exact c_C_check_ok hr hZ hj hp he hk
    · exact c_C_check_oth hr hZ hj hp he hk
