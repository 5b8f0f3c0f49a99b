set_option maxRecDepth 100000 in
set_option maxHeartbeats 2000000 in
theorem c_C_nameFor_no {lX : Launch} {G : Gx} {S : PS} {x : Nat} {c : Nat → Nat} {D : Nat → Nat → Nat} {Z : ZT} (hr : RCD S Z x c D) (hZ : okZ Z)  : Ct lX yX10_nameFor cX10_nameFor 2 (Option.some (Jvm.ClassFile.FieldType.object "BitAlmanac$Name")) rm_X10_nameFor G [.ref x, .null] S (fun r S' => r = some .null ∧ S = S') := by
  obtain ⟨⟨⟨kx, r0, k0⟩, r1, r3, r5, ⟨r7, k7⟩, ⟨r8, k8⟩, ⟨r9, k9⟩, ⟨r10, k10⟩, ⟨r11, k11⟩, ⟨r12, k12⟩, r13⟩, hT, hP, hH, hRf, hW, hA, hL, hSep⟩ := id hr
  obtain ⟨⟨k1, r2, k2⟩, hu, htl, htf, ht255⟩ := id hT
  obtain ⟨⟨k3, r4⟩, ⟨k4, l4⟩, ws, wl, wv⟩ := id hW
  refine Ct.mk RX10 "nameFor" hy_X10_nameFor (Nat.le_of_ble_eq_true rfl) (fun X hX C => ?_)
  change Go X G _ 2 0 0 S 0 [(0, .ref x), (1, .null)] []
  refine g_aload_nN 1 1 C dX10_nameFor_0 rfl rfl ?_
  refine g_ifnonnullN C dX10_nameFor_1 ?_
  refine g_null C dX10_nameFor_4 ?_
  refine g_goto 15 C dX10_nameFor_5 (by decide) ?_
  exact g_aret (r := none) C dX10_nameFor_15 (Or.inl ⟨_, rfl⟩) (by decide) (by decide) (⟨rfl, rfl⟩)
set_option maxRecDepth 100000 in
set_option maxHeartbeats 2000000 in
theorem c_C_nameFor {lX : Launch} {G : Gx} {S : PS} {x : Nat} {c : Nat → Nat} {D : Nat → Nat → Nat} {Z : ZT} (hr : RCD S Z x c D) (hZ : okZ Z) {b : Nat} : Ct lX yX10_nameFor cX10_nameFor 2 (Option.some (Jvm.ClassFile.FieldType.object "BitAlmanac$Name")) rm_X10_nameFor G [.ref x, .ref b] S (fun r S' => (nameB (zT Z) = true ∧ ∃ m, r = some (.ref m) ∧ Fr S S' No ∧ muT S S' ∧ nameC S' m (zT Z) ∧ kd S m = 0) ∨ (nameB (zT Z) = false ∧ r = some .null ∧ Fr S S' No ∧ muT S S')) := by
  obtain ⟨⟨⟨kx, r0, k0⟩, r1, r3, r5, ⟨r7, k7⟩, ⟨r8, k8⟩, ⟨r9, k9⟩, ⟨r10, k10⟩, ⟨r11, k11⟩, ⟨r12, k12⟩, r13⟩, hT, hP, hH, hRf, hW, hA, hL, hSep⟩ := id hr
  obtain ⟨⟨k1, r2, k2⟩, hu, htl, htf, ht255⟩ := id hT
  obtain ⟨⟨k3, r4⟩, ⟨k4, l4⟩, ws, wl, wv⟩ := id hW
  refine Ct.mk RX10 "nameFor" hy_X10_nameFor (Nat.le_of_ble_eq_true rfl) (fun X hX C => ?_)
  change Go X G _ 2 0 0 S 0 [(0, .ref x), (1, .ref b)] []
  refine g_aload_n 1 1 C dX10_nameFor_0 rfl rfl ?_
  refine g_ifnonnull 8 C dX10_nameFor_1 (by decide) ?_
  refine g_aload_n 0 0 C dX10_nameFor_8 rfl rfl ?_
  refine gr_ba_reel C dX10_nameFor_9 kx wF_X10_18 r1 ?_
  refine g_callV (As := []) (rest := []) C dX10_nameFor_12 (c_T_takeName hT) wC_X7_takeName wM_X10_91 wI_X7_takeName wS_X7_takeName wN_X7 (kne k1) (pf_8 k1) rfl hd_X7_takeName ⟨by decide, by decide, by decide, by decide⟩ (Nat.le_of_ble_eq_true rfl) (fun r_ Sa h_ => ?_)
  rcases h_ with ⟨hn, m_, rfl, f1, hm1, hnm, hm0⟩ | ⟨hn, rfl, f1, hm1⟩
  · change Go X G _ 2 _ _ Sa 15 [(0, .ref x), (1, .ref b)] [.ref m_]
    exact g_aret (r := some m_) C dX10_nameFor_15 (Or.inl ⟨_, rfl⟩) (by decide) (by decide) (Or.inl ⟨hn, m_, rfl, f1, hm1, hnm, hm0⟩)
  · change Go X G _ 2 _ _ Sa 15 [(0, .ref x), (1, .ref b)] [.null]
    exact g_aret (r := none) C dX10_nameFor_15 (Or.inl ⟨_, rfl⟩) (by decide) (by decide) (Or.inr ⟨hn, rfl, f1, hm1⟩)
set_option maxRecDepth 100000 in
set_option maxHeartbeats 2000000 in
theorem c_C_roa_no {lX : Launch} {G : Gx} {S : PS} {x : Nat} {c : Nat → Nat} {D : Nat → Nat → Nat} {Z : ZT} (hr : RCD S Z x c D) (hZ : okZ Z) {p : Int32} : Ct lX yX10_refusalOfAsking cX10_refusalOfAsking 4 (Option.some Jvm.ClassFile.FieldType.int) rm_X10_refusalOfAsking G [.ref x, .int p, .null, .null] S (fun r S' => r = some (.int (reA Z p)) ∧ S = S') := by
  obtain ⟨⟨⟨kx, r0, k0⟩, r1, r3, r5, ⟨r7, k7⟩, ⟨r8, k8⟩, ⟨r9, k9⟩, ⟨r10, k10⟩, ⟨r11, k11⟩, ⟨r12, k12⟩, r13⟩, hT, hP, hH, hRf, hW, hA, hL, hSep⟩ := id hr
  obtain ⟨⟨k1, r2, k2⟩, hu, htl, htf, ht255⟩ := id hT
  obtain ⟨⟨k3, r4⟩, ⟨k4, l4⟩, ws, wl, wv⟩ := id hW
  refine Ct.mk RX10 "refusalOfAsking" hy_X10_refusalOfAsking (Nat.le_of_ble_eq_true rfl) (fun X hX C => ?_)
  change Go X G _ 4 0 0 S 0 [(0, .ref x), (1, .int p), (2, .null), (3, .null)] []
  refine g_aload_nN 2 2 C dX10_refusalOfAsking_0 rfl rfl ?_
  refine g_ifnonnullN C dX10_refusalOfAsking_1 ?_
  refine g_aload_n 0 0 C dX10_refusalOfAsking_4 rfl rfl ?_
  refine g_iload_n 1 1 C dX10_refusalOfAsking_5 rfl rfl ?_
  refine g_callV (As := [.int p]) (rest := []) C dX10_refusalOfAsking_6 (c_C_ref hr hZ) wC_X10_refusalAt wM_X10_88 wI_X10_refusalAt wS_X10_refusalAt wN_X10 (kne kx) (pf_10 kx) rfl hd_X10_refusalAt ⟨by decide, by decide, by decide, by decide⟩ (Nat.le_of_ble_eq_true rfl) (fun r_ S_ h_ => ?_)
  obtain ⟨rfl, rfl⟩ := h_
  change Go X G _ 4 _ _ S 9 [(0, .ref x), (1, .int p), (2, .null), (3, .null)] [.int (reA Z p)]
  exact g_iret C dX10_refusalOfAsking_9 (by decide) (by decide) (⟨rfl, rfl⟩)
set_option maxRecDepth 100000 in
set_option maxHeartbeats 2000000 in
theorem c_C_roa_bad {lX : Launch} {G : Gx} {S : PS} {x : Nat} {c : Nat → Nat} {D : Nat → Nat → Nat} {Z : ZT} (hr : RCD S Z x c D) (hZ : okZ Z) {p : Int32} {b : Nat} : Ct lX yX10_refusalOfAsking cX10_refusalOfAsking 4 (Option.some Jvm.ClassFile.FieldType.int) rm_X10_refusalOfAsking G [.ref x, .int p, .ref b, .null] S (fun r S' => r = some (.int (-5)) ∧ S = S') := by
  obtain ⟨⟨⟨kx, r0, k0⟩, r1, r3, r5, ⟨r7, k7⟩, ⟨r8, k8⟩, ⟨r9, k9⟩, ⟨r10, k10⟩, ⟨r11, k11⟩, ⟨r12, k12⟩, r13⟩, hT, hP, hH, hRf, hW, hA, hL, hSep⟩ := id hr
  obtain ⟨⟨k1, r2, k2⟩, hu, htl, htf, ht255⟩ := id hT
  obtain ⟨⟨k3, r4⟩, ⟨k4, l4⟩, ws, wl, wv⟩ := id hW
  refine Ct.mk RX10 "refusalOfAsking" hy_X10_refusalOfAsking (Nat.le_of_ble_eq_true rfl) (fun X hX C => ?_)
  change Go X G _ 4 0 0 S 0 [(0, .ref x), (1, .int p), (2, .ref b), (3, .null)] []
  refine g_aload_n 2 2 C dX10_refusalOfAsking_0 rfl rfl ?_
  refine g_ifnonnull 10 C dX10_refusalOfAsking_1 (by decide) ?_
  refine g_aload_nN 3 3 C dX10_refusalOfAsking_10 rfl rfl ?_
  refine g_ifnonnullN C dX10_refusalOfAsking_11 ?_
  refine g_bipush (v := -5) C dX10_refusalOfAsking_14 (by decide) ?_
  refine g_goto 21 C dX10_refusalOfAsking_16 (by decide) ?_
  exact g_iret C dX10_refusalOfAsking_21 (by decide) (by decide) (⟨rfl, rfl⟩)
set_option maxRecDepth 100000 in
set_option maxHeartbeats 2000000 in
theorem c_C_roa_mis {lX : Launch} {G : Gx} {S : PS} {x : Nat} {c : Nat → Nat} {D : Nat → Nat → Nat} {Z : ZT} (hr : RCD S Z x c D) (hZ : okZ Z) {p : Int32} {b n : Nat} : Ct lX yX10_refusalOfAsking cX10_refusalOfAsking 4 (Option.some Jvm.ClassFile.FieldType.int) rm_X10_refusalOfAsking G [.ref x, .int p, .ref b, .ref n] S (fun r S' => r = some (.int (-6)) ∧ S = S') := by
  obtain ⟨⟨⟨kx, r0, k0⟩, r1, r3, r5, ⟨r7, k7⟩, ⟨r8, k8⟩, ⟨r9, k9⟩, ⟨r10, k10⟩, ⟨r11, k11⟩, ⟨r12, k12⟩, r13⟩, hT, hP, hH, hRf, hW, hA, hL, hSep⟩ := id hr
  obtain ⟨⟨k1, r2, k2⟩, hu, htl, htf, ht255⟩ := id hT
  obtain ⟨⟨k3, r4⟩, ⟨k4, l4⟩, ws, wl, wv⟩ := id hW
  refine Ct.mk RX10 "refusalOfAsking" hy_X10_refusalOfAsking (Nat.le_of_ble_eq_true rfl) (fun X hX C => ?_)
  change Go X G _ 4 0 0 S 0 [(0, .ref x), (1, .int p), (2, .ref b), (3, .ref n)] []
  refine g_aload_n 2 2 C dX10_refusalOfAsking_0 rfl rfl ?_
  refine g_ifnonnull 10 C dX10_refusalOfAsking_1 (by decide) ?_
  refine g_aload_n 3 3 C dX10_refusalOfAsking_10 rfl rfl ?_
  refine g_ifnonnull 19 C dX10_refusalOfAsking_11 (by decide) ?_
  refine g_bipush (v := -6) C dX10_refusalOfAsking_19 (by decide) ?_
  exact g_iret C dX10_refusalOfAsking_21 (by decide) (by decide) (⟨rfl, rfl⟩)
theorem RCD.ask {S S1 : PS} {Z : ZT} {x : Nat} {c : Nat → Nat} {D : Nat → Nat → Nat} (h : RCD S Z x c D) (hf : Fr S S1 No) (hm : muT S S1) : RCD S1 (zT_ Z []) x c D := h.no hf rfl rfl rfl (h.2.1.empty hf hm) hm.2.1 (hm.1.trans h.2.2.2.2.1)
theorem okZ.ask {Z : ZT} (h : okZ Z) : okZ (zT_ Z []) := ⟨⟨Nat.zero_le _, fun i hi => absurd hi (Nat.not_lt_zero _)⟩, h.2⟩
theorem askE_miss {Z : ZT} {p : Int32} {t : Nat} (he : bookE Z p = .inr t) (hn : nameB (zT Z) = true) : askE Z p = if missT (zH Z t) = true then .inl (-6) else .inr t := by
  unfold askE; rw [he]; simp only []; rw [hn, if_pos rfl]
theorem askE_bad {Z : ZT} {p : Int32} {t : Nat} (he : bookE Z p = .inr t) (hn : nameB (zT Z) = false) : askE Z p = .inl (-5) := by
  unfold askE; rw [he]; simp only []; rw [hn, if_neg (by decide)]
theorem askZ_in {Z : ZT} {p : Int32} {t : Nat} (he : bookE Z p = .inr t) : askZ Z p = zT_ Z [] := by unfold askZ; rw [he]
theorem askE_no {Z : ZT} {p e : Int32} (he : bookE Z p = .inl e) : askE Z p = .inl e ∧ askZ Z p = Z := by unfold askE askZ; rw [he]; exact ⟨rfl, rfl⟩
set_option maxRecDepth 100000 in
set_option maxHeartbeats 2000000 in
theorem c_C_below_err {lX : Launch} {G : Gx} {S : PS} {x : Nat} {c : Nat → Nat} {D : Nat → Nat → Nat} {Z : ZT} (hr : RCD S Z x c D) (hZ : okZ Z) {p e : Int32} (he : bookE Z p = .inl e)  : Ct lX yX10_below cX10_below 4 (Option.some Jvm.ClassFile.FieldType.int) rm_X10_below G [.ref x, .int p] S (fun r S' => r = some (.int (A_below Z p)) ∧ RC S' (askZ Z p) x ∧ Fk S S') := by
  obtain ⟨⟨⟨kx, r0, k0⟩, r1, r3, r5, ⟨r7, k7⟩, ⟨r8, k8⟩, ⟨r9, k9⟩, ⟨r10, k10⟩, ⟨r11, k11⟩, ⟨r12, k12⟩, r13⟩, hT, hP, hH, hRf, hW, hA, hL, hSep⟩ := id hr
  obtain ⟨⟨k1, r2, k2⟩, hu, htl, htf, ht255⟩ := id hT
  obtain ⟨⟨k3, r4⟩, ⟨k4, l4⟩, ws, wl, wv⟩ := id hW
  obtain ⟨ha, hz⟩ := askE_no he
  have hre := ref_book he
  refine Ct.mk RX10 "below" hy_X10_below (Nat.le_of_ble_eq_true rfl) (fun X hX C => ?_)
  change Go X G _ 4 0 0 S 0 [(0, .ref x), (1, .int p)] []
  refine g_aload_n 0 0 C dX10_below_0 rfl rfl ?_
  refine g_iload_n 1 1 C dX10_below_1 rfl rfl ?_
  refine g_callV (As := [.int p]) (rest := []) C dX10_below_2 (c_C_bookAt_err hr hZ he) wC_X10_bookAt wM_X10_114 wI_X10_bookAt wS_X10_bookAt wN_X10 (kne kx) (pf_10 kx) rfl hd_X10_bookAt ⟨by decide, by decide, by decide, by decide⟩ (Nat.le_of_ble_eq_true rfl) (fun r_ S_ h_ => ?_)
  obtain ⟨rfl, rfl⟩ := h_
  change Go X G _ 4 _ _ S 5 [(0, .ref x), (1, .int p)] [.null]
  refine g_astore_nN (lv' := [(2, .null), (0, .ref x), (1, .int p)]) C dX10_below_5 rfl (by decide) rfl ?_
  refine g_aload_n 1 0 C dX10_below_6 rfl rfl ?_
  refine g_aload_nN 0 2 C dX10_below_7 rfl rfl ?_
  refine g_callV (As := [.null]) (rest := []) C dX10_below_8 (c_C_nameFor_no hr hZ) wC_X10_nameFor wM_X10_146 wI_X10_nameFor wS_X10_nameFor wN_X10 (kne kx) (pf_10 kx) rfl hd_X10_nameFor ⟨by decide, by decide, by decide, by decide⟩ (Nat.le_of_ble_eq_true rfl) (fun r_ S_ h_ => ?_)
  obtain ⟨rfl, rfl⟩ := h_
  change Go X G _ 4 _ _ S 11 [(2, .null), (0, .ref x), (1, .int p)] [.null]
  refine g_astore_nN (lv' := [(3, .null), (2, .null), (0, .ref x), (1, .int p)]) C dX10_below_11 rfl (by decide) rfl ?_
  refine g_aload_nN 1 2 C dX10_below_12 rfl rfl ?_
  refine g_ifnullN 27 C dX10_below_13 (by decide) ?_
  refine g_aload_n 2 0 C dX10_below_27 rfl rfl ?_
  refine g_iload_n 3 1 C dX10_below_28 rfl rfl ?_
  refine g_aload_nN 1 2 C dX10_below_29 rfl rfl ?_
  refine g_aload_nN 0 3 C dX10_below_30 rfl rfl ?_
  refine g_callV (As := [.int p, .null, .null]) (rest := []) C dX10_below_31 (c_C_roa_no hr hZ) wC_X10_refusalOfAsking wM_X10_150 wI_X10_refusalOfAsking wS_X10_refusalOfAsking wN_X10 (kne kx) (pf_10 kx) rfl hd_X10_refusalOfAsking ⟨by decide, by decide, by decide, by decide⟩ (Nat.le_of_ble_eq_true rfl) (fun r_ S_ h_ => ?_)
  obtain ⟨rfl, rfl⟩ := h_
  change Go X G _ 4 _ _ S 34 [(3, .null), (2, .null), (0, .ref x), (1, .int p)] [.int (reA Z p)]
  exact g_iret C dX10_below_34 (by decide) (by decide) (⟨by unfold A_below; rw [ha, hre], ⟨c, D, by rw [hz]; exact hr⟩, Fk.refl S⟩)
set_option maxRecDepth 100000 in
set_option maxHeartbeats 2000000 in
theorem c_C_below_ok {lX : Launch} {G : Gx} {S : PS} {x : Nat} {c : Nat → Nat} {D : Nat → Nat → Nat} {Z : ZT} (hr : RCD S Z x c D) (hZ : okZ Z) {j t : Nat} (hj : j < 10) (hp : zP Z j = t + 1) (he : bookE Z (nI j) = .inr t)  : Ct lX yX10_below cX10_below 4 (Option.some Jvm.ClassFile.FieldType.int) rm_X10_below G [.ref x, .int (nI j)] S (fun r S' => r = some (.int (A_below Z (nI j))) ∧ RC S' (askZ Z (nI j)) x ∧ Fk S S') := by
  obtain ⟨⟨⟨kx, r0, k0⟩, r1, r3, r5, ⟨r7, k7⟩, ⟨r8, k8⟩, ⟨r9, k9⟩, ⟨r10, k10⟩, ⟨r11, k11⟩, ⟨r12, k12⟩, r13⟩, hT, hP, hH, hRf, hW, hA, hL, hSep⟩ := id hr
  obtain ⟨⟨k1, r2, k2⟩, hu, htl, htf, ht255⟩ := id hT
  obtain ⟨⟨k3, r4⟩, ⟨k4, l4⟩, ws, wl, wv⟩ := id hW
  have hok := (hZ.th hj hp).1
  have hk5 : tK (zH Z t) ≤ 5 := by obtain ⟨j2, _, e2, h2, h3⟩ := bookE_inr he; exact h3
  have hbk := (hH t ⟨j, hj, hp⟩).1 hk5
  refine Ct.mk RX10 "below" hy_X10_below (Nat.le_of_ble_eq_true rfl) (fun X hX C => ?_)
  change Go X G _ 4 0 0 S 0 [(0, .ref x), (1, .int (nI j))] []
  refine g_aload_n 0 0 C dX10_below_0 rfl rfl ?_
  refine g_iload_n 1 1 C dX10_below_1 rfl rfl ?_
  refine g_callV (As := [.int (nI j)]) (rest := []) C dX10_below_2 (c_C_bookAt_ok hr hZ hj hp he) wC_X10_bookAt wM_X10_114 wI_X10_bookAt wS_X10_bookAt wN_X10 (kne kx) (pf_10 kx) rfl hd_X10_bookAt ⟨by decide, by decide, by decide, by decide⟩ (Nat.le_of_ble_eq_true rfl) (fun r_ S_ h_ => ?_)
  obtain ⟨rfl, rfl⟩ := h_
  change Go X G _ 4 _ _ S 5 [(0, .ref x), (1, .int (nI j))] [.ref ((D t 0))]
  refine g_astore_n (lv' := [(2, .ref ((D t 0))), (0, .ref x), (1, .int (nI j))]) C dX10_below_5 rfl (by decide) rfl ?_
  refine g_aload_n 1 0 C dX10_below_6 rfl rfl ?_
  refine g_aload_n 0 2 C dX10_below_7 rfl rfl ?_
  refine g_callV (As := [.ref ((D t 0))]) (rest := []) C dX10_below_8 (c_C_nameFor hr hZ) wC_X10_nameFor wM_X10_146 wI_X10_nameFor wS_X10_nameFor wN_X10 (kne kx) (pf_10 kx) rfl hd_X10_nameFor ⟨by decide, by decide, by decide, by decide⟩ (Nat.le_of_ble_eq_true rfl) (fun r_ Sa h_ => ?_)
  rcases h_ with ⟨hn, m_, rfl, f1, hm1, hnm, hm0⟩ | ⟨hn, rfl, f1, hm1⟩
  · change Go X G _ 4 _ _ Sa 11 [(2, .ref ((D t 0))), (0, .ref x), (1, .int (nI j))] [.ref m_]
    have hr1 := hr.ask f1 hm1
    have hZ1 := hZ.ask
    have hb1 : bookC Sa (D t) (zH Z t) := (hr1.2.2.2.1 t ⟨j, hj, hp⟩).1 hk5
    have hoc := nameB_ok hn hZ.1.2
    have hla := hb1.2.1.2.2.2.2.1
    have hl100 := hok.2.2.1.1
    refine g_astore_n (lv' := [(3, .ref m_), (2, .ref ((D t 0))), (0, .ref x), (1, .int (nI j))]) C dX10_below_11 rfl (by decide) rfl ?_
    refine g_aload_n 1 2 C dX10_below_12 rfl rfl ?_
    refine g_ifnull C dX10_below_13 ?_
    refine g_aload_n 0 3 C dX10_below_16 rfl rfl ?_
    refine g_ifnull C dX10_below_17 ?_
    refine g_aload_n 1 2 C dX10_below_20 rfl rfl ?_
    refine g_callV (As := []) (rest := []) C dX10_below_21 (c_K_lacks hb1 hok) wC_X2_lacksTable wM_X10_118 wI_X2_lacksTable wS_X2_lacksTable wN_X2 (kne hb1.1.1) (pf_3 hb1.1.1) rfl hd_X2_lacksTable ⟨by decide, by decide, by decide, by decide⟩ (Nat.le_of_ble_eq_true rfl) (fun r_ S_ h_ => ?_)
    obtain ⟨rfl, rfl⟩ := h_
    change Go X G _ 4 _ _ Sa 24 [(3, .ref m_), (2, .ref ((D t 0))), (0, .ref x), (1, .int (nI j))] [.int (bI (missT (zH Z t)))]
    refine g_if_eq 35 C dX10_below_24 (by decide) (fun c24 => ?_) (fun c24 => ?_)
    · have hms := bI_f c24
      have ha : askE Z (nI j) = .inr t := by rw [askE_miss he hn, hms, if_neg (by decide)]
      refine g_aload_n 1 2 C dX10_below_35 rfl rfl ?_
      refine gr_bk_list C dX10_below_36 hb1.1.1 wF_X10_124 hb1.1.2.2 ?_
      refine g_aload_n 0 3 C dX10_below_39 rfl rfl ?_
      refine g_callV (As := [.ref m_]) (rest := []) C dX10_below_40 (c_L_ahead hb1.2.1 hnm hoc) wC_X4_ahead wM_X10_154 wI_X4_ahead wS_X4_ahead wN_X4 (kne hb1.2.1.1.1) (pf_5 hb1.2.1.1.1) rfl hd_X4_ahead ⟨by decide, by decide, by decide, by decide⟩ (Nat.le_of_ble_eq_true rfl) (fun r_ S_ h_ => ?_)
      obtain ⟨rfl, rfl⟩ := h_
      change Go X G _ 4 _ _ Sa 43 [(3, .ref m_), (2, .ref ((D t 0))), (0, .ref x), (1, .int (nI j))] [.int (nI (aheadN (tL (zH Z t)) (zT Z)))]
      have hah : aheadN (tL (zH Z t)) (zT Z) ≤ (tL (zH Z t)).length := ahead_le _ _
      exact g_iret C dX10_below_43 (by decide) (by decide) (⟨by unfold A_below; rw [ha], ⟨c, D, by rw [askZ_in he]; exact hr1⟩, f1.fk⟩)
    · have hms := bI_t c24
      refine g_aload_n 2 0 C dX10_below_27 rfl rfl ?_
      refine g_iload_n 3 1 C dX10_below_28 rfl rfl ?_
      refine g_aload_n 1 2 C dX10_below_29 rfl rfl ?_
      refine g_aload_n 0 3 C dX10_below_30 rfl rfl ?_
      refine g_callV (As := [.int (nI j), .ref ((D t 0)), .ref m_]) (rest := []) C dX10_below_31 (c_C_roa_mis hr1 hZ1) wC_X10_refusalOfAsking wM_X10_150 wI_X10_refusalOfAsking wS_X10_refusalOfAsking wN_X10 (kne hr1.1.1.1) (pf_10 hr1.1.1.1) rfl hd_X10_refusalOfAsking ⟨by decide, by decide, by decide, by decide⟩ (Nat.le_of_ble_eq_true rfl) (fun r_ S_ h_ => ?_)
      obtain ⟨rfl, rfl⟩ := h_
      change Go X G _ 4 _ _ Sa 34 [(3, .ref m_), (2, .ref ((D t 0))), (0, .ref x), (1, .int (nI j))] [.int (-6)]
      exact g_iret C dX10_below_34 (by decide) (by decide) (⟨by unfold A_below; rw [askE_miss he hn, hms, if_pos rfl], ⟨c, D, by rw [askZ_in he]; exact hr1⟩, f1.fk⟩)
  · change Go X G _ 4 _ _ Sa 11 [(2, .ref ((D t 0))), (0, .ref x), (1, .int (nI j))] [.null]
    have hr1 := hr.ask f1 hm1
    have hZ1 := hZ.ask
    refine g_astore_nN (lv' := [(3, .null), (2, .ref ((D t 0))), (0, .ref x), (1, .int (nI j))]) C dX10_below_11 rfl (by decide) rfl ?_
    refine g_aload_n 1 2 C dX10_below_12 rfl rfl ?_
    refine g_ifnull C dX10_below_13 ?_
    refine g_aload_nN 0 3 C dX10_below_16 rfl rfl ?_
    refine g_ifnullN 27 C dX10_below_17 (by decide) ?_
    refine g_aload_n 2 0 C dX10_below_27 rfl rfl ?_
    refine g_iload_n 3 1 C dX10_below_28 rfl rfl ?_
    refine g_aload_n 1 2 C dX10_below_29 rfl rfl ?_
    refine g_aload_nN 0 3 C dX10_below_30 rfl rfl ?_
    refine g_callV (As := [.int (nI j), .ref ((D t 0)), .null]) (rest := []) C dX10_below_31 (c_C_roa_bad hr1 hZ1) wC_X10_refusalOfAsking wM_X10_150 wI_X10_refusalOfAsking wS_X10_refusalOfAsking wN_X10 (kne hr1.1.1.1) (pf_10 hr1.1.1.1) rfl hd_X10_refusalOfAsking ⟨by decide, by decide, by decide, by decide⟩ (Nat.le_of_ble_eq_true rfl) (fun r_ S_ h_ => ?_)
    obtain ⟨rfl, rfl⟩ := h_
    change Go X G _ 4 _ _ Sa 34 [(3, .null), (2, .ref ((D t 0))), (0, .ref x), (1, .int (nI j))] [.int (-5)]
    exact g_iret C dX10_below_34 (by decide) (by decide) (⟨by unfold A_below; rw [askE_bad he hn], ⟨c, D, by rw [askZ_in he]; exact hr1⟩, f1.fk⟩)
theorem c_C_below {lX : Launch} {G : Gx} {S : PS} {x : Nat} {c : Nat → Nat} {D : Nat → Nat → Nat} {Z : ZT} (hr : RCD S Z x c D) (hZ : okZ Z) {p : Int32}  : Ct lX yX10_below cX10_below 4 (Option.some Jvm.ClassFile.FieldType.int) rm_X10_below G [.ref x, .int p] S (fun r S' => r = some (.int (A_below Z p)) ∧ RC S' (askZ Z p) x ∧ Fk S S') := by
  cases he : bookE Z p with
  | inl e => exact c_C_below_err hr hZ he
  | inr t =>
    obtain ⟨j, hj, rfl, hp, -⟩ := bookE_inr he
    exact c_C_below_ok hr hZ hj hp he
set_option maxRecDepth 100000 in
set_option maxHeartbeats 2000000 in
theorem c_C_number_err {lX : Launch} {G : Gx} {S : PS} {x : Nat} {c : Nat → Nat} {D : Nat → Nat → Nat} {Z : ZT} (hr : RCD S Z x c D) (hZ : okZ Z) {p e : Int32} (he : bookE Z p = .inl e)  : Ct lX yX10_number cX10_number 5 (Option.some Jvm.ClassFile.FieldType.int) rm_X10_number G [.ref x, .int p] S (fun r S' => r = some (.int (A_number Z p)) ∧ RC S' (askZ Z p) x ∧ Fk S S') := by
  obtain ⟨⟨⟨kx, r0, k0⟩, r1, r3, r5, ⟨r7, k7⟩, ⟨r8, k8⟩, ⟨r9, k9⟩, ⟨r10, k10⟩, ⟨r11, k11⟩, ⟨r12, k12⟩, r13⟩, hT, hP, hH, hRf, hW, hA, hL, hSep⟩ := id hr
  obtain ⟨⟨k1, r2, k2⟩, hu, htl, htf, ht255⟩ := id hT
  obtain ⟨⟨k3, r4⟩, ⟨k4, l4⟩, ws, wl, wv⟩ := id hW
  obtain ⟨ha, hz⟩ := askE_no he
  have hre := ref_book he
  refine Ct.mk RX10 "number" hy_X10_number (Nat.le_of_ble_eq_true rfl) (fun X hX C => ?_)
  change Go X G _ 5 0 0 S 0 [(0, .ref x), (1, .int p)] []
  refine g_aload_n 0 0 C dX10_number_0 rfl rfl ?_
  refine g_iload_n 1 1 C dX10_number_1 rfl rfl ?_
  refine g_callV (As := [.int p]) (rest := []) C dX10_number_2 (c_C_bookAt_err hr hZ he) wC_X10_bookAt wM_X10_114 wI_X10_bookAt wS_X10_bookAt wN_X10 (kne kx) (pf_10 kx) rfl hd_X10_bookAt ⟨by decide, by decide, by decide, by decide⟩ (Nat.le_of_ble_eq_true rfl) (fun r_ S_ h_ => ?_)
  obtain ⟨rfl, rfl⟩ := h_
  change Go X G _ 5 _ _ S 5 [(0, .ref x), (1, .int p)] [.null]
  refine g_astore_nN (lv' := [(2, .null), (0, .ref x), (1, .int p)]) C dX10_number_5 rfl (by decide) rfl ?_
  refine g_aload_n 1 0 C dX10_number_6 rfl rfl ?_
  refine g_aload_nN 0 2 C dX10_number_7 rfl rfl ?_
  refine g_callV (As := [.null]) (rest := []) C dX10_number_8 (c_C_nameFor_no hr hZ) wC_X10_nameFor wM_X10_146 wI_X10_nameFor wS_X10_nameFor wN_X10 (kne kx) (pf_10 kx) rfl hd_X10_nameFor ⟨by decide, by decide, by decide, by decide⟩ (Nat.le_of_ble_eq_true rfl) (fun r_ S_ h_ => ?_)
  obtain ⟨rfl, rfl⟩ := h_
  change Go X G _ 5 _ _ S 11 [(2, .null), (0, .ref x), (1, .int p)] [.null]
  refine g_astore_nN (lv' := [(3, .null), (2, .null), (0, .ref x), (1, .int p)]) C dX10_number_11 rfl (by decide) rfl ?_
  refine g_aload_nN 1 2 C dX10_number_12 rfl rfl ?_
  refine g_ifnullN 27 C dX10_number_13 (by decide) ?_
  refine g_aload_n 2 0 C dX10_number_27 rfl rfl ?_
  refine g_iload_n 3 1 C dX10_number_28 rfl rfl ?_
  refine g_aload_nN 1 2 C dX10_number_29 rfl rfl ?_
  refine g_aload_nN 0 3 C dX10_number_30 rfl rfl ?_
  refine g_callV (As := [.int p, .null, .null]) (rest := []) C dX10_number_31 (c_C_roa_no hr hZ) wC_X10_refusalOfAsking wM_X10_150 wI_X10_refusalOfAsking wS_X10_refusalOfAsking wN_X10 (kne kx) (pf_10 kx) rfl hd_X10_refusalOfAsking ⟨by decide, by decide, by decide, by decide⟩ (Nat.le_of_ble_eq_true rfl) (fun r_ S_ h_ => ?_)
  obtain ⟨rfl, rfl⟩ := h_
  change Go X G _ 5 _ _ S 34 [(3, .null), (2, .null), (0, .ref x), (1, .int p)] [.int (reA Z p)]
  exact g_iret C dX10_number_34 (by decide) (by decide) (⟨by unfold A_number; rw [ha, hre], ⟨c, D, by rw [hz]; exact hr⟩, Fk.refl S⟩)
set_option maxRecDepth 100000 in
set_option maxHeartbeats 2000000 in
theorem c_C_number_ok {lX : Launch} {G : Gx} {S : PS} {x : Nat} {c : Nat → Nat} {D : Nat → Nat → Nat} {Z : ZT} (hr : RCD S Z x c D) (hZ : okZ Z) {j t : Nat} (hj : j < 10) (hp : zP Z j = t + 1) (he : bookE Z (nI j) = .inr t)  : Ct lX yX10_number cX10_number 5 (Option.some Jvm.ClassFile.FieldType.int) rm_X10_number G [.ref x, .int (nI j)] S (fun r S' => r = some (.int (A_number Z (nI j))) ∧ RC S' (askZ Z (nI j)) x ∧ Fk S S') := by
  obtain ⟨⟨⟨kx, r0, k0⟩, r1, r3, r5, ⟨r7, k7⟩, ⟨r8, k8⟩, ⟨r9, k9⟩, ⟨r10, k10⟩, ⟨r11, k11⟩, ⟨r12, k12⟩, r13⟩, hT, hP, hH, hRf, hW, hA, hL, hSep⟩ := id hr
  obtain ⟨⟨k1, r2, k2⟩, hu, htl, htf, ht255⟩ := id hT
  obtain ⟨⟨k3, r4⟩, ⟨k4, l4⟩, ws, wl, wv⟩ := id hW
  have hok := (hZ.th hj hp).1
  have hk5 : tK (zH Z t) ≤ 5 := by obtain ⟨j2, _, e2, h2, h3⟩ := bookE_inr he; exact h3
  have hbk := (hH t ⟨j, hj, hp⟩).1 hk5
  refine Ct.mk RX10 "number" hy_X10_number (Nat.le_of_ble_eq_true rfl) (fun X hX C => ?_)
  change Go X G _ 5 0 0 S 0 [(0, .ref x), (1, .int (nI j))] []
  refine g_aload_n 0 0 C dX10_number_0 rfl rfl ?_
  refine g_iload_n 1 1 C dX10_number_1 rfl rfl ?_
  refine g_callV (As := [.int (nI j)]) (rest := []) C dX10_number_2 (c_C_bookAt_ok hr hZ hj hp he) wC_X10_bookAt wM_X10_114 wI_X10_bookAt wS_X10_bookAt wN_X10 (kne kx) (pf_10 kx) rfl hd_X10_bookAt ⟨by decide, by decide, by decide, by decide⟩ (Nat.le_of_ble_eq_true rfl) (fun r_ S_ h_ => ?_)
  obtain ⟨rfl, rfl⟩ := h_
  change Go X G _ 5 _ _ S 5 [(0, .ref x), (1, .int (nI j))] [.ref ((D t 0))]
  refine g_astore_n (lv' := [(2, .ref ((D t 0))), (0, .ref x), (1, .int (nI j))]) C dX10_number_5 rfl (by decide) rfl ?_
  refine g_aload_n 1 0 C dX10_number_6 rfl rfl ?_
  refine g_aload_n 0 2 C dX10_number_7 rfl rfl ?_
  refine g_callV (As := [.ref ((D t 0))]) (rest := []) C dX10_number_8 (c_C_nameFor hr hZ) wC_X10_nameFor wM_X10_146 wI_X10_nameFor wS_X10_nameFor wN_X10 (kne kx) (pf_10 kx) rfl hd_X10_nameFor ⟨by decide, by decide, by decide, by decide⟩ (Nat.le_of_ble_eq_true rfl) (fun r_ Sa h_ => ?_)
  rcases h_ with ⟨hn, m_, rfl, f1, hm1, hnm, hm0⟩ | ⟨hn, rfl, f1, hm1⟩
  · change Go X G _ 5 _ _ Sa 11 [(2, .ref ((D t 0))), (0, .ref x), (1, .int (nI j))] [.ref m_]
    have hr1 := hr.ask f1 hm1
    have hZ1 := hZ.ask
    have hb1 : bookC Sa (D t) (zH Z t) := (hr1.2.2.2.1 t ⟨j, hj, hp⟩).1 hk5
    have hoc := nameB_ok hn hZ.1.2
    have hla := hb1.2.1.2.2.2.2.1
    have hl100 := hok.2.2.1.1
    refine g_astore_n (lv' := [(3, .ref m_), (2, .ref ((D t 0))), (0, .ref x), (1, .int (nI j))]) C dX10_number_11 rfl (by decide) rfl ?_
    refine g_aload_n 1 2 C dX10_number_12 rfl rfl ?_
    refine g_ifnull C dX10_number_13 ?_
    refine g_aload_n 0 3 C dX10_number_16 rfl rfl ?_
    refine g_ifnull C dX10_number_17 ?_
    refine g_aload_n 1 2 C dX10_number_20 rfl rfl ?_
    refine g_callV (As := []) (rest := []) C dX10_number_21 (c_K_lacks hb1 hok) wC_X2_lacksTable wM_X10_118 wI_X2_lacksTable wS_X2_lacksTable wN_X2 (kne hb1.1.1) (pf_3 hb1.1.1) rfl hd_X2_lacksTable ⟨by decide, by decide, by decide, by decide⟩ (Nat.le_of_ble_eq_true rfl) (fun r_ S_ h_ => ?_)
    obtain ⟨rfl, rfl⟩ := h_
    change Go X G _ 5 _ _ Sa 24 [(3, .ref m_), (2, .ref ((D t 0))), (0, .ref x), (1, .int (nI j))] [.int (bI (missT (zH Z t)))]
    refine g_if_eq 35 C dX10_number_24 (by decide) (fun c24 => ?_) (fun c24 => ?_)
    · have hms := bI_f c24
      have ha : askE Z (nI j) = .inr t := by rw [askE_miss he hn, hms, if_neg (by decide)]
      refine g_aload_n 1 2 C dX10_number_35 rfl rfl ?_
      refine gr_bk_list C dX10_number_36 hb1.1.1 wF_X10_124 hb1.1.2.2 ?_
      refine g_aload_n 0 3 C dX10_number_39 rfl rfl ?_
      refine g_callV (As := [.ref m_]) (rest := []) C dX10_number_40 (c_L_ahead hb1.2.1 hnm hoc) wC_X4_ahead wM_X10_154 wI_X4_ahead wS_X4_ahead wN_X4 (kne hb1.2.1.1.1) (pf_5 hb1.2.1.1.1) rfl hd_X4_ahead ⟨by decide, by decide, by decide, by decide⟩ (Nat.le_of_ble_eq_true rfl) (fun r_ S_ h_ => ?_)
      obtain ⟨rfl, rfl⟩ := h_
      change Go X G _ 5 _ _ Sa 43 [(3, .ref m_), (2, .ref ((D t 0))), (0, .ref x), (1, .int (nI j))] [.int (nI (aheadN (tL (zH Z t)) (zT Z)))]
      have hah : aheadN (tL (zH Z t)) (zT Z) ≤ (tL (zH Z t)).length := ahead_le _ _
      refine g_istore (lv' := [(4, .int (nI (aheadN (tL (zH Z t)) (zT Z)))), (3, .ref m_), (2, .ref ((D t 0))), (0, .ref x), (1, .int (nI j))]) C dX10_number_43 (by decide) rfl ?_
      refine g_aload_n 2 2 C dX10_number_45 rfl rfl ?_
      refine gr_bk_list C dX10_number_46 hb1.1.1 wF_X10_124 hb1.1.2.2 ?_
      refine g_iload 0 C dX10_number_49 rfl ?_
      refine g_aload_n 1 3 C dX10_number_51 rfl rfl ?_
      refine g_callV (As := [.int (nI (aheadN (tL (zH Z t)) (zT Z))), .ref m_]) (rest := []) C dX10_number_52 (c_L_hasAt hb1.2.1 hnm hoc (by omega)) wC_X4_hasAt wM_X10_157 wI_X4_hasAt wS_X4_hasAt wN_X4 (kne hb1.2.1.1.1) (pf_5 hb1.2.1.1.1) rfl hd_X4_hasAt ⟨by decide, by decide, by decide, by decide⟩ (Nat.le_of_ble_eq_true rfl) (fun r_ S_ h_ => ?_)
      obtain ⟨rfl, rfl⟩ := h_
      change Go X G _ 5 _ _ Sa 55 [(4, .int (nI (aheadN (tL (zH Z t)) (zT Z)))), (3, .ref m_), (2, .ref ((D t 0))), (0, .ref x), (1, .int (nI j))] [.int (bI (isAtN (tL (zH Z t)) (aheadN (tL (zH Z t)) (zT Z)) (zT Z)))]
      refine g_if_eq 63 C dX10_number_55 (by decide) (fun c55 => ?_) (fun c55 => ?_)
      · have ea := bI_f c55
        refine g_iconst (v := -1) C dX10_number_63 (by decide) ?_
        exact g_iret C dX10_number_64 (by decide) (by decide) (⟨by unfold A_number; rw [ha]; simp only []; rw [ea, if_neg (by decide)], ⟨c, D, by rw [askZ_in he]; exact hr1⟩, f1.fk⟩)
      · have ea := bI_t c55
        refine g_iload 0 C dX10_number_58 rfl ?_
        refine g_goto 64 C dX10_number_60 (by decide) ?_
        exact g_iret C dX10_number_64 (by decide) (by decide) (⟨by unfold A_number; rw [ha]; simp only []; rw [ea, if_pos rfl], ⟨c, D, by rw [askZ_in he]; exact hr1⟩, f1.fk⟩)
    · have hms := bI_t c24
      refine g_aload_n 2 0 C dX10_number_27 rfl rfl ?_
      refine g_iload_n 3 1 C dX10_number_28 rfl rfl ?_
      refine g_aload_n 1 2 C dX10_number_29 rfl rfl ?_
      refine g_aload_n 0 3 C dX10_number_30 rfl rfl ?_
      refine g_callV (As := [.int (nI j), .ref ((D t 0)), .ref m_]) (rest := []) C dX10_number_31 (c_C_roa_mis hr1 hZ1) wC_X10_refusalOfAsking wM_X10_150 wI_X10_refusalOfAsking wS_X10_refusalOfAsking wN_X10 (kne hr1.1.1.1) (pf_10 hr1.1.1.1) rfl hd_X10_refusalOfAsking ⟨by decide, by decide, by decide, by decide⟩ (Nat.le_of_ble_eq_true rfl) (fun r_ S_ h_ => ?_)
      obtain ⟨rfl, rfl⟩ := h_
      change Go X G _ 5 _ _ Sa 34 [(3, .ref m_), (2, .ref ((D t 0))), (0, .ref x), (1, .int (nI j))] [.int (-6)]
      exact g_iret C dX10_number_34 (by decide) (by decide) (⟨by unfold A_number; rw [askE_miss he hn, hms, if_pos rfl], ⟨c, D, by rw [askZ_in he]; exact hr1⟩, f1.fk⟩)
  · change Go X G _ 5 _ _ Sa 11 [(2, .ref ((D t 0))), (0, .ref x), (1, .int (nI j))] [.null]
    have hr1 := hr.ask f1 hm1
    have hZ1 := hZ.ask
    refine g_astore_nN (lv' := [(3, .null), (2, .ref ((D t 0))), (0, .ref x), (1, .int (nI j))]) C dX10_number_11 rfl (by decide) rfl ?_
    refine g_aload_n 1 2 C dX10_number_12 rfl rfl ?_
    refine g_ifnull C dX10_number_13 ?_
    refine g_aload_nN 0 3 C dX10_number_16 rfl rfl ?_
    refine g_ifnullN 27 C dX10_number_17 (by decide) ?_
    refine g_aload_n 2 0 C dX10_number_27 rfl rfl ?_
    refine g_iload_n 3 1 C dX10_number_28 rfl rfl ?_
    refine g_aload_n 1 2 C dX10_number_29 rfl rfl ?_
    refine g_aload_nN 0 3 C dX10_number_30 rfl rfl ?_
    refine g_callV (As := [.int (nI j), .ref ((D t 0)), .null]) (rest := []) C dX10_number_31 (c_C_roa_bad hr1 hZ1) wC_X10_refusalOfAsking wM_X10_150 wI_X10_refusalOfAsking wS_X10_refusalOfAsking wN_X10 (kne hr1.1.1.1) (pf_10 hr1.1.1.1) rfl hd_X10_refusalOfAsking ⟨by decide, by decide, by decide, by decide⟩ (Nat.le_of_ble_eq_true rfl) (fun r_ S_ h_ => ?_)
    obtain ⟨rfl, rfl⟩ := h_
    change Go X G _ 5 _ _ Sa 34 [(3, .null), (2, .ref ((D t 0))), (0, .ref x), (1, .int (nI j))] [.int (-5)]
    exact g_iret C dX10_number_34 (by decide) (by decide) (⟨by unfold A_number; rw [askE_bad he hn], ⟨c, D, by rw [askZ_in he]; exact hr1⟩, f1.fk⟩)
theorem c_C_number {lX : Launch} {G : Gx} {S : PS} {x : Nat} {c : Nat → Nat} {D : Nat → Nat → Nat} {Z : ZT} (hr : RCD S Z x c D) (hZ : okZ Z) {p : Int32}  : Ct lX yX10_number cX10_number 5 (Option.some Jvm.ClassFile.FieldType.int) rm_X10_number G [.ref x, .int p] S (fun r S' => r = some (.int (A_number Z p)) ∧ RC S' (askZ Z p) x ∧ Fk S S') := by
  cases he : bookE Z p with
  | inl e => exact c_C_number_err hr hZ he
  | inr t =>
    obtain ⟨j, hj, rfl, hp, -⟩ := bookE_inr he
    exact c_C_number_ok hr hZ hj hp he
set_option maxRecDepth 100000 in
set_option maxHeartbeats 2000000 in
theorem c_C_prior_err {lX : Launch} {G : Gx} {S : PS} {x : Nat} {c : Nat → Nat} {D : Nat → Nat → Nat} {Z : ZT} (hr : RCD S Z x c D) (hZ : okZ Z) {p e : Int32} (he : bookE Z p = .inl e)  : Ct lX yX10_prior cX10_prior 5 (Option.some Jvm.ClassFile.FieldType.int) rm_X10_prior G [.ref x, .int p] S (fun r S' => r = some (.int (A_prior Z p)) ∧ RC S' (askZ Z p) x ∧ Fk S S') := by
  obtain ⟨⟨⟨kx, r0, k0⟩, r1, r3, r5, ⟨r7, k7⟩, ⟨r8, k8⟩, ⟨r9, k9⟩, ⟨r10, k10⟩, ⟨r11, k11⟩, ⟨r12, k12⟩, r13⟩, hT, hP, hH, hRf, hW, hA, hL, hSep⟩ := id hr
  obtain ⟨⟨k1, r2, k2⟩, hu, htl, htf, ht255⟩ := id hT
  obtain ⟨⟨k3, r4⟩, ⟨k4, l4⟩, ws, wl, wv⟩ := id hW
  obtain ⟨ha, hz⟩ := askE_no he
  have hre := ref_book he
  refine Ct.mk RX10 "prior" hy_X10_prior (Nat.le_of_ble_eq_true rfl) (fun X hX C => ?_)
  change Go X G _ 5 0 0 S 0 [(0, .ref x), (1, .int p)] []
  refine g_aload_n 0 0 C dX10_prior_0 rfl rfl ?_
  refine g_iload_n 1 1 C dX10_prior_1 rfl rfl ?_
  refine g_callV (As := [.int p]) (rest := []) C dX10_prior_2 (c_C_bookAt_err hr hZ he) wC_X10_bookAt wM_X10_114 wI_X10_bookAt wS_X10_bookAt wN_X10 (kne kx) (pf_10 kx) rfl hd_X10_bookAt ⟨by decide, by decide, by decide, by decide⟩ (Nat.le_of_ble_eq_true rfl) (fun r_ S_ h_ => ?_)
  obtain ⟨rfl, rfl⟩ := h_
  change Go X G _ 5 _ _ S 5 [(0, .ref x), (1, .int p)] [.null]
  refine g_astore_nN (lv' := [(2, .null), (0, .ref x), (1, .int p)]) C dX10_prior_5 rfl (by decide) rfl ?_
  refine g_aload_n 1 0 C dX10_prior_6 rfl rfl ?_
  refine g_aload_nN 0 2 C dX10_prior_7 rfl rfl ?_
  refine g_callV (As := [.null]) (rest := []) C dX10_prior_8 (c_C_nameFor_no hr hZ) wC_X10_nameFor wM_X10_146 wI_X10_nameFor wS_X10_nameFor wN_X10 (kne kx) (pf_10 kx) rfl hd_X10_nameFor ⟨by decide, by decide, by decide, by decide⟩ (Nat.le_of_ble_eq_true rfl) (fun r_ S_ h_ => ?_)
  obtain ⟨rfl, rfl⟩ := h_
  change Go X G _ 5 _ _ S 11 [(2, .null), (0, .ref x), (1, .int p)] [.null]
  refine g_astore_nN (lv' := [(3, .null), (2, .null), (0, .ref x), (1, .int p)]) C dX10_prior_11 rfl (by decide) rfl ?_
  refine g_aload_nN 1 2 C dX10_prior_12 rfl rfl ?_
  refine g_ifnullN 27 C dX10_prior_13 (by decide) ?_
  refine g_aload_n 2 0 C dX10_prior_27 rfl rfl ?_
  refine g_iload_n 3 1 C dX10_prior_28 rfl rfl ?_
  refine g_aload_nN 1 2 C dX10_prior_29 rfl rfl ?_
  refine g_aload_nN 0 3 C dX10_prior_30 rfl rfl ?_
  refine g_callV (As := [.int p, .null, .null]) (rest := []) C dX10_prior_31 (c_C_roa_no hr hZ) wC_X10_refusalOfAsking wM_X10_150 wI_X10_refusalOfAsking wS_X10_refusalOfAsking wN_X10 (kne kx) (pf_10 kx) rfl hd_X10_refusalOfAsking ⟨by decide, by decide, by decide, by decide⟩ (Nat.le_of_ble_eq_true rfl) (fun r_ S_ h_ => ?_)
  obtain ⟨rfl, rfl⟩ := h_
  change Go X G _ 5 _ _ S 34 [(3, .null), (2, .null), (0, .ref x), (1, .int p)] [.int (reA Z p)]
  exact g_iret C dX10_prior_34 (by decide) (by decide) (⟨by unfold A_prior; rw [ha, hre], ⟨c, D, by rw [hz]; exact hr⟩, Fk.refl S⟩)
set_option maxRecDepth 100000 in
set_option maxHeartbeats 2000000 in
theorem c_C_prior_ok {lX : Launch} {G : Gx} {S : PS} {x : Nat} {c : Nat → Nat} {D : Nat → Nat → Nat} {Z : ZT} (hr : RCD S Z x c D) (hZ : okZ Z) {j t : Nat} (hj : j < 10) (hp : zP Z j = t + 1) (he : bookE Z (nI j) = .inr t)  : Ct lX yX10_prior cX10_prior 5 (Option.some Jvm.ClassFile.FieldType.int) rm_X10_prior G [.ref x, .int (nI j)] S (fun r S' => r = some (.int (A_prior Z (nI j))) ∧ RC S' (askZ Z (nI j)) x ∧ Fk S S') := by
  obtain ⟨⟨⟨kx, r0, k0⟩, r1, r3, r5, ⟨r7, k7⟩, ⟨r8, k8⟩, ⟨r9, k9⟩, ⟨r10, k10⟩, ⟨r11, k11⟩, ⟨r12, k12⟩, r13⟩, hT, hP, hH, hRf, hW, hA, hL, hSep⟩ := id hr
  obtain ⟨⟨k1, r2, k2⟩, hu, htl, htf, ht255⟩ := id hT
  obtain ⟨⟨k3, r4⟩, ⟨k4, l4⟩, ws, wl, wv⟩ := id hW
  have hok := (hZ.th hj hp).1
  have hk5 : tK (zH Z t) ≤ 5 := by obtain ⟨j2, _, e2, h2, h3⟩ := bookE_inr he; exact h3
  have hbk := (hH t ⟨j, hj, hp⟩).1 hk5
  refine Ct.mk RX10 "prior" hy_X10_prior (Nat.le_of_ble_eq_true rfl) (fun X hX C => ?_)
  change Go X G _ 5 0 0 S 0 [(0, .ref x), (1, .int (nI j))] []
  refine g_aload_n 0 0 C dX10_prior_0 rfl rfl ?_
  refine g_iload_n 1 1 C dX10_prior_1 rfl rfl ?_
  refine g_callV (As := [.int (nI j)]) (rest := []) C dX10_prior_2 (c_C_bookAt_ok hr hZ hj hp he) wC_X10_bookAt wM_X10_114 wI_X10_bookAt wS_X10_bookAt wN_X10 (kne kx) (pf_10 kx) rfl hd_X10_bookAt ⟨by decide, by decide, by decide, by decide⟩ (Nat.le_of_ble_eq_true rfl) (fun r_ S_ h_ => ?_)
  obtain ⟨rfl, rfl⟩ := h_
  change Go X G _ 5 _ _ S 5 [(0, .ref x), (1, .int (nI j))] [.ref ((D t 0))]
  refine g_astore_n (lv' := [(2, .ref ((D t 0))), (0, .ref x), (1, .int (nI j))]) C dX10_prior_5 rfl (by decide) rfl ?_
  refine g_aload_n 1 0 C dX10_prior_6 rfl rfl ?_
  refine g_aload_n 0 2 C dX10_prior_7 rfl rfl ?_
  refine g_callV (As := [.ref ((D t 0))]) (rest := []) C dX10_prior_8 (c_C_nameFor hr hZ) wC_X10_nameFor wM_X10_146 wI_X10_nameFor wS_X10_nameFor wN_X10 (kne kx) (pf_10 kx) rfl hd_X10_nameFor ⟨by decide, by decide, by decide, by decide⟩ (Nat.le_of_ble_eq_true rfl) (fun r_ Sa h_ => ?_)
  rcases h_ with ⟨hn, m_, rfl, f1, hm1, hnm, hm0⟩ | ⟨hn, rfl, f1, hm1⟩
  · change Go X G _ 5 _ _ Sa 11 [(2, .ref ((D t 0))), (0, .ref x), (1, .int (nI j))] [.ref m_]
    have hr1 := hr.ask f1 hm1
    have hZ1 := hZ.ask
    have hb1 : bookC Sa (D t) (zH Z t) := (hr1.2.2.2.1 t ⟨j, hj, hp⟩).1 hk5
    have hoc := nameB_ok hn hZ.1.2
    have hla := hb1.2.1.2.2.2.2.1
    have hl100 := hok.2.2.1.1
    refine g_astore_n (lv' := [(3, .ref m_), (2, .ref ((D t 0))), (0, .ref x), (1, .int (nI j))]) C dX10_prior_11 rfl (by decide) rfl ?_
    refine g_aload_n 1 2 C dX10_prior_12 rfl rfl ?_
    refine g_ifnull C dX10_prior_13 ?_
    refine g_aload_n 0 3 C dX10_prior_16 rfl rfl ?_
    refine g_ifnull C dX10_prior_17 ?_
    refine g_aload_n 1 2 C dX10_prior_20 rfl rfl ?_
    refine g_callV (As := []) (rest := []) C dX10_prior_21 (c_K_lacks hb1 hok) wC_X2_lacksTable wM_X10_118 wI_X2_lacksTable wS_X2_lacksTable wN_X2 (kne hb1.1.1) (pf_3 hb1.1.1) rfl hd_X2_lacksTable ⟨by decide, by decide, by decide, by decide⟩ (Nat.le_of_ble_eq_true rfl) (fun r_ S_ h_ => ?_)
    obtain ⟨rfl, rfl⟩ := h_
    change Go X G _ 5 _ _ Sa 24 [(3, .ref m_), (2, .ref ((D t 0))), (0, .ref x), (1, .int (nI j))] [.int (bI (missT (zH Z t)))]
    refine g_if_eq 35 C dX10_prior_24 (by decide) (fun c24 => ?_) (fun c24 => ?_)
    · have hms := bI_f c24
      have ha : askE Z (nI j) = .inr t := by rw [askE_miss he hn, hms, if_neg (by decide)]
      refine g_aload_n 1 2 C dX10_prior_35 rfl rfl ?_
      refine gr_bk_list C dX10_prior_36 hb1.1.1 wF_X10_124 hb1.1.2.2 ?_
      refine g_aload_n 0 3 C dX10_prior_39 rfl rfl ?_
      refine g_callV (As := [.ref m_]) (rest := []) C dX10_prior_40 (c_L_ahead hb1.2.1 hnm hoc) wC_X4_ahead wM_X10_154 wI_X4_ahead wS_X4_ahead wN_X4 (kne hb1.2.1.1.1) (pf_5 hb1.2.1.1.1) rfl hd_X4_ahead ⟨by decide, by decide, by decide, by decide⟩ (Nat.le_of_ble_eq_true rfl) (fun r_ S_ h_ => ?_)
      obtain ⟨rfl, rfl⟩ := h_
      change Go X G _ 5 _ _ Sa 43 [(3, .ref m_), (2, .ref ((D t 0))), (0, .ref x), (1, .int (nI j))] [.int (nI (aheadN (tL (zH Z t)) (zT Z)))]
      have hah : aheadN (tL (zH Z t)) (zT Z) ≤ (tL (zH Z t)).length := ahead_le _ _
      refine g_istore (lv' := [(4, .int (nI (aheadN (tL (zH Z t)) (zT Z)))), (3, .ref m_), (2, .ref ((D t 0))), (0, .ref x), (1, .int (nI j))]) C dX10_prior_43 (by decide) rfl ?_
      refine g_iload 0 C dX10_prior_45 rfl ?_
      refine g_nif_le 57 (by omega) C dX10_prior_47 (by decide) (fun c47 => ?_) (fun c47 => ?_)
      · refine g_iconst (v := -1) C dX10_prior_57 (by decide) ?_
        exact g_iret C dX10_prior_58 (by decide) (by decide) (⟨by unfold A_prior; rw [ha]; simp only []; rw [show aheadN (tL (zH Z t)) (zT Z) = 0 by omega]; rfl, ⟨c, D, by rw [askZ_in he]; exact hr1⟩, f1.fk⟩)
      · refine g_iload 0 C dX10_prior_50 rfl ?_
        refine g_iconst (v := nI 1) C dX10_prior_52 (by decide) ?_
        refine g_isub C dX10_prior_53 ?_
        refine g_topi (pk_sub (by omega) : _ = nI (aheadN (tL (zH Z t)) (zT Z) - 1)) ?_
        refine g_goto 58 C dX10_prior_54 (by decide) ?_
        exact g_iret C dX10_prior_58 (by decide) (by decide) (⟨by unfold A_prior; rw [ha]; simp only []; rw [← pk_sub (by omega)]; rfl, ⟨c, D, by rw [askZ_in he]; exact hr1⟩, f1.fk⟩)
    · have hms := bI_t c24
      refine g_aload_n 2 0 C dX10_prior_27 rfl rfl ?_
      refine g_iload_n 3 1 C dX10_prior_28 rfl rfl ?_
      refine g_aload_n 1 2 C dX10_prior_29 rfl rfl ?_
      refine g_aload_n 0 3 C dX10_prior_30 rfl rfl ?_
      refine g_callV (As := [.int (nI j), .ref ((D t 0)), .ref m_]) (rest := []) C dX10_prior_31 (c_C_roa_mis hr1 hZ1) wC_X10_refusalOfAsking wM_X10_150 wI_X10_refusalOfAsking wS_X10_refusalOfAsking wN_X10 (kne hr1.1.1.1) (pf_10 hr1.1.1.1) rfl hd_X10_refusalOfAsking ⟨by decide, by decide, by decide, by decide⟩ (Nat.le_of_ble_eq_true rfl) (fun r_ S_ h_ => ?_)
      obtain ⟨rfl, rfl⟩ := h_
      change Go X G _ 5 _ _ Sa 34 [(3, .ref m_), (2, .ref ((D t 0))), (0, .ref x), (1, .int (nI j))] [.int (-6)]
      exact g_iret C dX10_prior_34 (by decide) (by decide) (⟨by unfold A_prior; rw [askE_miss he hn, hms, if_pos rfl], ⟨c, D, by rw [askZ_in he]; exact hr1⟩, f1.fk⟩)
  · change Go X G _ 5 _ _ Sa 11 [(2, .ref ((D t 0))), (0, .ref x), (1, .int (nI j))] [.null]
    have hr1 := hr.ask f1 hm1
    have hZ1 := hZ.ask
    refine g_astore_nN (lv' := [(3, .null), (2, .ref ((D t 0))), (0, .ref x), (1, .int (nI j))]) C dX10_prior_11 rfl (by decide) rfl ?_
    refine g_aload_n 1 2 C dX10_prior_12 rfl rfl ?_
    refine g_ifnull C dX10_prior_13 ?_
    refine g_aload_nN 0 3 C dX10_prior_16 rfl rfl ?_
    refine g_ifnullN 27 C dX10_prior_17 (by decide) ?_
    refine g_aload_n 2 0 C dX10_prior_27 rfl rfl ?_
    refine g_iload_n 3 1 C dX10_prior_28 rfl rfl ?_
    refine g_aload_n 1 2 C dX10_prior_29 rfl rfl ?_
    refine g_aload_nN 0 3 C dX10_prior_30 rfl rfl ?_
    refine g_callV (As := [.int (nI j), .ref ((D t 0)), .null]) (rest := []) C dX10_prior_31 (c_C_roa_bad hr1 hZ1) wC_X10_refusalOfAsking wM_X10_150 wI_X10_refusalOfAsking wS_X10_refusalOfAsking wN_X10 (kne hr1.1.1.1) (pf_10 hr1.1.1.1) rfl hd_X10_refusalOfAsking ⟨by decide, by decide, by decide, by decide⟩ (Nat.le_of_ble_eq_true rfl) (fun r_ S_ h_ => ?_)
    obtain ⟨rfl, rfl⟩ := h_
    change Go X G _ 5 _ _ Sa 34 [(3, .null), (2, .ref ((D t 0))), (0, .ref x), (1, .int (nI j))] [.int (-5)]
    exact g_iret C dX10_prior_34 (by decide) (by decide) (⟨by unfold A_prior; rw [askE_bad he hn], ⟨c, D, by rw [askZ_in he]; exact hr1⟩, f1.fk⟩)
theorem c_C_prior {lX : Launch} {G : Gx} {S : PS} {x : Nat} {c : Nat → Nat} {D : Nat → Nat → Nat} {Z : ZT} (hr : RCD S Z x c D) (hZ : okZ Z) {p : Int32}  : Ct lX yX10_prior cX10_prior 5 (Option.some Jvm.ClassFile.FieldType.int) rm_X10_prior G [.ref x, .int p] S (fun r S' => r = some (.int (A_prior Z p)) ∧ RC S' (askZ Z p) x ∧ Fk S S') := by
  cases he : bookE Z p with
  | inl e => exact c_C_prior_err hr hZ he
  | inr t =>
    obtain ⟨j, hj, rfl, hp, -⟩ := bookE_inr he
    exact c_C_prior_ok hr hZ hj hp he
set_option maxRecDepth 100000 in
set_option maxHeartbeats 2000000 in
theorem c_C_next_err {lX : Launch} {G : Gx} {S : PS} {x : Nat} {c : Nat → Nat} {D : Nat → Nat → Nat} {Z : ZT} (hr : RCD S Z x c D) (hZ : okZ Z) {p e : Int32} (he : bookE Z p = .inl e)  : Ct lX yX10_next cX10_next 5 (Option.some Jvm.ClassFile.FieldType.int) rm_X10_next G [.ref x, .int p] S (fun r S' => r = some (.int (A_next Z p)) ∧ RC S' (askZ Z p) x ∧ Fk S S') := by
  obtain ⟨⟨⟨kx, r0, k0⟩, r1, r3, r5, ⟨r7, k7⟩, ⟨r8, k8⟩, ⟨r9, k9⟩, ⟨r10, k10⟩, ⟨r11, k11⟩, ⟨r12, k12⟩, r13⟩, hT, hP, hH, hRf, hW, hA, hL, hSep⟩ := id hr
  obtain ⟨⟨k1, r2, k2⟩, hu, htl, htf, ht255⟩ := id hT
  obtain ⟨⟨k3, r4⟩, ⟨k4, l4⟩, ws, wl, wv⟩ := id hW
  obtain ⟨ha, hz⟩ := askE_no he
  have hre := ref_book he
  refine Ct.mk RX10 "next" hy_X10_next (Nat.le_of_ble_eq_true rfl) (fun X hX C => ?_)
  change Go X G _ 5 0 0 S 0 [(0, .ref x), (1, .int p)] []
  refine g_aload_n 0 0 C dX10_next_0 rfl rfl ?_
  refine g_iload_n 1 1 C dX10_next_1 rfl rfl ?_
  refine g_callV (As := [.int p]) (rest := []) C dX10_next_2 (c_C_bookAt_err hr hZ he) wC_X10_bookAt wM_X10_114 wI_X10_bookAt wS_X10_bookAt wN_X10 (kne kx) (pf_10 kx) rfl hd_X10_bookAt ⟨by decide, by decide, by decide, by decide⟩ (Nat.le_of_ble_eq_true rfl) (fun r_ S_ h_ => ?_)
  obtain ⟨rfl, rfl⟩ := h_
  change Go X G _ 5 _ _ S 5 [(0, .ref x), (1, .int p)] [.null]
  refine g_astore_nN (lv' := [(2, .null), (0, .ref x), (1, .int p)]) C dX10_next_5 rfl (by decide) rfl ?_
  refine g_aload_n 1 0 C dX10_next_6 rfl rfl ?_
  refine g_aload_nN 0 2 C dX10_next_7 rfl rfl ?_
  refine g_callV (As := [.null]) (rest := []) C dX10_next_8 (c_C_nameFor_no hr hZ) wC_X10_nameFor wM_X10_146 wI_X10_nameFor wS_X10_nameFor wN_X10 (kne kx) (pf_10 kx) rfl hd_X10_nameFor ⟨by decide, by decide, by decide, by decide⟩ (Nat.le_of_ble_eq_true rfl) (fun r_ S_ h_ => ?_)
  obtain ⟨rfl, rfl⟩ := h_
  change Go X G _ 5 _ _ S 11 [(2, .null), (0, .ref x), (1, .int p)] [.null]
  refine g_astore_nN (lv' := [(3, .null), (2, .null), (0, .ref x), (1, .int p)]) C dX10_next_11 rfl (by decide) rfl ?_
  refine g_aload_nN 1 2 C dX10_next_12 rfl rfl ?_
  refine g_ifnullN 27 C dX10_next_13 (by decide) ?_
  refine g_aload_n 2 0 C dX10_next_27 rfl rfl ?_
  refine g_iload_n 3 1 C dX10_next_28 rfl rfl ?_
  refine g_aload_nN 1 2 C dX10_next_29 rfl rfl ?_
  refine g_aload_nN 0 3 C dX10_next_30 rfl rfl ?_
  refine g_callV (As := [.int p, .null, .null]) (rest := []) C dX10_next_31 (c_C_roa_no hr hZ) wC_X10_refusalOfAsking wM_X10_150 wI_X10_refusalOfAsking wS_X10_refusalOfAsking wN_X10 (kne kx) (pf_10 kx) rfl hd_X10_refusalOfAsking ⟨by decide, by decide, by decide, by decide⟩ (Nat.le_of_ble_eq_true rfl) (fun r_ S_ h_ => ?_)
  obtain ⟨rfl, rfl⟩ := h_
  change Go X G _ 5 _ _ S 34 [(3, .null), (2, .null), (0, .ref x), (1, .int p)] [.int (reA Z p)]
  exact g_iret C dX10_next_34 (by decide) (by decide) (⟨by unfold A_next; rw [ha, hre], ⟨c, D, by rw [hz]; exact hr⟩, Fk.refl S⟩)
set_option maxRecDepth 100000 in
set_option maxHeartbeats 2000000 in
theorem c_C_next_ok {lX : Launch} {G : Gx} {S : PS} {x : Nat} {c : Nat → Nat} {D : Nat → Nat → Nat} {Z : ZT} (hr : RCD S Z x c D) (hZ : okZ Z) {j t : Nat} (hj : j < 10) (hp : zP Z j = t + 1) (he : bookE Z (nI j) = .inr t)  : Ct lX yX10_next cX10_next 5 (Option.some Jvm.ClassFile.FieldType.int) rm_X10_next G [.ref x, .int (nI j)] S (fun r S' => r = some (.int (A_next Z (nI j))) ∧ RC S' (askZ Z (nI j)) x ∧ Fk S S') := by
  obtain ⟨⟨⟨kx, r0, k0⟩, r1, r3, r5, ⟨r7, k7⟩, ⟨r8, k8⟩, ⟨r9, k9⟩, ⟨r10, k10⟩, ⟨r11, k11⟩, ⟨r12, k12⟩, r13⟩, hT, hP, hH, hRf, hW, hA, hL, hSep⟩ := id hr
  obtain ⟨⟨k1, r2, k2⟩, hu, htl, htf, ht255⟩ := id hT
  obtain ⟨⟨k3, r4⟩, ⟨k4, l4⟩, ws, wl, wv⟩ := id hW
  have hok := (hZ.th hj hp).1
  have hk5 : tK (zH Z t) ≤ 5 := by obtain ⟨j2, _, e2, h2, h3⟩ := bookE_inr he; exact h3
  have hbk := (hH t ⟨j, hj, hp⟩).1 hk5
  refine Ct.mk RX10 "next" hy_X10_next (Nat.le_of_ble_eq_true rfl) (fun X hX C => ?_)
  change Go X G _ 5 0 0 S 0 [(0, .ref x), (1, .int (nI j))] []
  refine g_aload_n 0 0 C dX10_next_0 rfl rfl ?_
  refine g_iload_n 1 1 C dX10_next_1 rfl rfl ?_
  refine g_callV (As := [.int (nI j)]) (rest := []) C dX10_next_2 (c_C_bookAt_ok hr hZ hj hp he) wC_X10_bookAt wM_X10_114 wI_X10_bookAt wS_X10_bookAt wN_X10 (kne kx) (pf_10 kx) rfl hd_X10_bookAt ⟨by decide, by decide, by decide, by decide⟩ (Nat.le_of_ble_eq_true rfl) (fun r_ S_ h_ => ?_)
  obtain ⟨rfl, rfl⟩ := h_
  change Go X G _ 5 _ _ S 5 [(0, .ref x), (1, .int (nI j))] [.ref ((D t 0))]
  refine g_astore_n (lv' := [(2, .ref ((D t 0))), (0, .ref x), (1, .int (nI j))]) C dX10_next_5 rfl (by decide) rfl ?_
  refine g_aload_n 1 0 C dX10_next_6 rfl rfl ?_
  refine g_aload_n 0 2 C dX10_next_7 rfl rfl ?_
  refine g_callV (As := [.ref ((D t 0))]) (rest := []) C dX10_next_8 (c_C_nameFor hr hZ) wC_X10_nameFor wM_X10_146 wI_X10_nameFor wS_X10_nameFor wN_X10 (kne kx) (pf_10 kx) rfl hd_X10_nameFor ⟨by decide, by decide, by decide, by decide⟩ (Nat.le_of_ble_eq_true rfl) (fun r_ Sa h_ => ?_)
  rcases h_ with ⟨hn, m_, rfl, f1, hm1, hnm, hm0⟩ | ⟨hn, rfl, f1, hm1⟩
  · change Go X G _ 5 _ _ Sa 11 [(2, .ref ((D t 0))), (0, .ref x), (1, .int (nI j))] [.ref m_]
    have hr1 := hr.ask f1 hm1
    have hZ1 := hZ.ask
    have hb1 : bookC Sa (D t) (zH Z t) := (hr1.2.2.2.1 t ⟨j, hj, hp⟩).1 hk5
    have hoc := nameB_ok hn hZ.1.2
    have hla := hb1.2.1.2.2.2.2.1
    have hl100 := hok.2.2.1.1
    refine g_astore_n (lv' := [(3, .ref m_), (2, .ref ((D t 0))), (0, .ref x), (1, .int (nI j))]) C dX10_next_11 rfl (by decide) rfl ?_
    refine g_aload_n 1 2 C dX10_next_12 rfl rfl ?_
    refine g_ifnull C dX10_next_13 ?_
    refine g_aload_n 0 3 C dX10_next_16 rfl rfl ?_
    refine g_ifnull C dX10_next_17 ?_
    refine g_aload_n 1 2 C dX10_next_20 rfl rfl ?_
    refine g_callV (As := []) (rest := []) C dX10_next_21 (c_K_lacks hb1 hok) wC_X2_lacksTable wM_X10_118 wI_X2_lacksTable wS_X2_lacksTable wN_X2 (kne hb1.1.1) (pf_3 hb1.1.1) rfl hd_X2_lacksTable ⟨by decide, by decide, by decide, by decide⟩ (Nat.le_of_ble_eq_true rfl) (fun r_ S_ h_ => ?_)
    obtain ⟨rfl, rfl⟩ := h_
    change Go X G _ 5 _ _ Sa 24 [(3, .ref m_), (2, .ref ((D t 0))), (0, .ref x), (1, .int (nI j))] [.int (bI (missT (zH Z t)))]
    refine g_if_eq 35 C dX10_next_24 (by decide) (fun c24 => ?_) (fun c24 => ?_)
    · have hms := bI_f c24
      have ha : askE Z (nI j) = .inr t := by rw [askE_miss he hn, hms, if_neg (by decide)]
      refine g_aload_n 1 2 C dX10_next_35 rfl rfl ?_
      refine gr_bk_list C dX10_next_36 hb1.1.1 wF_X10_124 hb1.1.2.2 ?_
      refine g_aload_n 0 3 C dX10_next_39 rfl rfl ?_
      refine g_callV (As := [.ref m_]) (rest := []) C dX10_next_40 (c_L_ahead hb1.2.1 hnm hoc) wC_X4_ahead wM_X10_154 wI_X4_ahead wS_X4_ahead wN_X4 (kne hb1.2.1.1.1) (pf_5 hb1.2.1.1.1) rfl hd_X4_ahead ⟨by decide, by decide, by decide, by decide⟩ (Nat.le_of_ble_eq_true rfl) (fun r_ S_ h_ => ?_)
      obtain ⟨rfl, rfl⟩ := h_
      change Go X G _ 5 _ _ Sa 43 [(3, .ref m_), (2, .ref ((D t 0))), (0, .ref x), (1, .int (nI j))] [.int (nI (aheadN (tL (zH Z t)) (zT Z)))]
      have hah : aheadN (tL (zH Z t)) (zT Z) ≤ (tL (zH Z t)).length := ahead_le _ _
      refine g_istore (lv' := [(4, .int (nI (aheadN (tL (zH Z t)) (zT Z)))), (3, .ref m_), (2, .ref ((D t 0))), (0, .ref x), (1, .int (nI j))]) C dX10_next_43 (by decide) rfl ?_
      refine g_aload_n 2 2 C dX10_next_45 rfl rfl ?_
      refine gr_bk_list C dX10_next_46 hb1.1.1 wF_X10_124 hb1.1.2.2 ?_
      refine g_iload 0 C dX10_next_49 rfl ?_
      refine g_aload_n 1 3 C dX10_next_51 rfl rfl ?_
      refine g_callV (As := [.int (nI (aheadN (tL (zH Z t)) (zT Z))), .ref m_]) (rest := []) C dX10_next_52 (c_L_hasAt hb1.2.1 hnm hoc (by omega)) wC_X4_hasAt wM_X10_157 wI_X4_hasAt wS_X4_hasAt wN_X4 (kne hb1.2.1.1.1) (pf_5 hb1.2.1.1.1) rfl hd_X4_hasAt ⟨by decide, by decide, by decide, by decide⟩ (Nat.le_of_ble_eq_true rfl) (fun r_ S_ h_ => ?_)
      obtain ⟨rfl, rfl⟩ := h_
      change Go X G _ 5 _ _ Sa 55 [(4, .int (nI (aheadN (tL (zH Z t)) (zT Z)))), (3, .ref m_), (2, .ref ((D t 0))), (0, .ref x), (1, .int (nI j))] [.int (bI (isAtN (tL (zH Z t)) (aheadN (tL (zH Z t)) (zT Z)) (zT Z)))]
      refine g_if_eq 61 C dX10_next_55 (by decide) (fun c55 => ?_) (fun c55 => ?_)
      · have ea := bI_f c55
        have hnx : nextN (tL (zH Z t)) (zT Z) = aheadN (tL (zH Z t)) (zT Z) := by unfold nextN; rw [ea]; rfl
        refine g_iload 0 C dX10_next_61 rfl ?_
        refine g_aload_n 2 2 C dX10_next_63 rfl rfl ?_
        refine gr_bk_list C dX10_next_64 hb1.1.1 wF_X10_124 hb1.1.2.2 ?_
        refine gf_ls_size C dX10_next_67 hb1.2.1.1.1 wF_X10_129 ?_
        refine g_topi (hb1.2.1.2.2.2.1) ?_
        refine g_ncmp_ge 78 (by omega) (by omega) C dX10_next_70 (by decide) (fun c70 => ?_) (fun c70 => ?_)
        · refine g_iconst (v := -1) C dX10_next_78 (by decide) ?_
          exact g_iret C dX10_next_79 (by decide) (by decide) (⟨by unfold A_next; rw [ha]; simp only []; rw [hnx, if_neg (by omega)], ⟨c, D, by rw [askZ_in he]; exact hr1⟩, f1.fk⟩)
        · refine g_iload 0 C dX10_next_73 rfl ?_
          refine g_goto 79 C dX10_next_75 (by decide) ?_
          exact g_iret C dX10_next_79 (by decide) (by decide) (⟨by unfold A_next; rw [ha]; simp only []; rw [hnx, if_pos (by omega)], ⟨c, D, by rw [askZ_in he]; exact hr1⟩, f1.fk⟩)
      · have ea := bI_t c55
        have hlt9 := isAtN_lt ea
        have hnx : nextN (tL (zH Z t)) (zT Z) = aheadN (tL (zH Z t)) (zT Z) + 1 := by unfold nextN; rw [ea]; rfl
        refine g_iinc (v := nI (aheadN (tL (zH Z t)) (zT Z) + 1)) (lv' := [(4, .int (nI (aheadN (tL (zH Z t)) (zT Z) + 1))), (3, .ref m_), (2, .ref ((D t 0))), (0, .ref x), (1, .int (nI j))]) 0 C dX10_next_58 rfl (nI_add _ 1) (by decide) rfl ?_
        refine g_iload 0 C dX10_next_61 rfl ?_
        refine g_aload_n 2 2 C dX10_next_63 rfl rfl ?_
        refine gr_bk_list C dX10_next_64 hb1.1.1 wF_X10_124 hb1.1.2.2 ?_
        refine gf_ls_size C dX10_next_67 hb1.2.1.1.1 wF_X10_129 ?_
        refine g_topi (hb1.2.1.2.2.2.1) ?_
        refine g_ncmp_ge 78 (by omega) (by omega) C dX10_next_70 (by decide) (fun c70 => ?_) (fun c70 => ?_)
        · refine g_iconst (v := -1) C dX10_next_78 (by decide) ?_
          exact g_iret C dX10_next_79 (by decide) (by decide) (⟨by unfold A_next; rw [ha]; simp only []; rw [hnx, if_neg (by omega)], ⟨c, D, by rw [askZ_in he]; exact hr1⟩, f1.fk⟩)
        · refine g_iload 0 C dX10_next_73 rfl ?_
          refine g_goto 79 C dX10_next_75 (by decide) ?_
          exact g_iret C dX10_next_79 (by decide) (by decide) (⟨by unfold A_next; rw [ha]; simp only []; rw [hnx, if_pos (by omega)], ⟨c, D, by rw [askZ_in he]; exact hr1⟩, f1.fk⟩)
    · have hms := bI_t c24
      refine g_aload_n 2 0 C dX10_next_27 rfl rfl ?_
      refine g_iload_n 3 1 C dX10_next_28 rfl rfl ?_
      refine g_aload_n 1 2 C dX10_next_29 rfl rfl ?_
      refine g_aload_n 0 3 C dX10_next_30 rfl rfl ?_
      refine g_callV (As := [.int (nI j), .ref ((D t 0)), .ref m_]) (rest := []) C dX10_next_31 (c_C_roa_mis hr1 hZ1) wC_X10_refusalOfAsking wM_X10_150 wI_X10_refusalOfAsking wS_X10_refusalOfAsking wN_X10 (kne hr1.1.1.1) (pf_10 hr1.1.1.1) rfl hd_X10_refusalOfAsking ⟨by decide, by decide, by decide, by decide⟩ (Nat.le_of_ble_eq_true rfl) (fun r_ S_ h_ => ?_)
      obtain ⟨rfl, rfl⟩ := h_
      change Go X G _ 5 _ _ Sa 34 [(3, .ref m_), (2, .ref ((D t 0))), (0, .ref x), (1, .int (nI j))] [.int (-6)]
      exact g_iret C dX10_next_34 (by decide) (by decide) (⟨by unfold A_next; rw [askE_miss he hn, hms, if_pos rfl], ⟨c, D, by rw [askZ_in he]; exact hr1⟩, f1.fk⟩)
  · change Go X G _ 5 _ _ Sa 11 [(2, .ref ((D t 0))), (0, .ref x), (1, .int (nI j))] [.null]
    have hr1 := hr.ask f1 hm1
    have hZ1 := hZ.ask
    refine g_astore_nN (lv' := [(3, .null), (2, .ref ((D t 0))), (0, .ref x), (1, .int (nI j))]) C dX10_next_11 rfl (by decide) rfl ?_
    refine g_aload_n 1 2 C dX10_next_12 rfl rfl ?_
    refine g_ifnull C dX10_next_13 ?_
    refine g_aload_nN 0 3 C dX10_next_16 rfl rfl ?_
    refine g_ifnullN 27 C dX10_next_17 (by decide) ?_
    refine g_aload_n 2 0 C dX10_next_27 rfl rfl ?_
    refine g_iload_n 3 1 C dX10_next_28 rfl rfl ?_
    refine g_aload_n 1 2 C dX10_next_29 rfl rfl ?_
    refine g_aload_nN 0 3 C dX10_next_30 rfl rfl ?_
    refine g_callV (As := [.int (nI j), .ref ((D t 0)), .null]) (rest := []) C dX10_next_31 (c_C_roa_bad hr1 hZ1) wC_X10_refusalOfAsking wM_X10_150 wI_X10_refusalOfAsking wS_X10_refusalOfAsking wN_X10 (kne hr1.1.1.1) (pf_10 hr1.1.1.1) rfl hd_X10_refusalOfAsking ⟨by decide, by decide, by decide, by decide⟩ (Nat.le_of_ble_eq_true rfl) (fun r_ S_ h_ => ?_)
    obtain ⟨rfl, rfl⟩ := h_
    change Go X G _ 5 _ _ Sa 34 [(3, .null), (2, .ref ((D t 0))), (0, .ref x), (1, .int (nI j))] [.int (-5)]
    exact g_iret C dX10_next_34 (by decide) (by decide) (⟨by unfold A_next; rw [askE_bad he hn], ⟨c, D, by rw [askZ_in he]; exact hr1⟩, f1.fk⟩)
theorem c_C_next {lX : Launch} {G : Gx} {S : PS} {x : Nat} {c : Nat → Nat} {D : Nat → Nat → Nat} {Z : ZT} (hr : RCD S Z x c D) (hZ : okZ Z) {p : Int32}  : Ct lX yX10_next cX10_next 5 (Option.some Jvm.ClassFile.FieldType.int) rm_X10_next G [.ref x, .int p] S (fun r S' => r = some (.int (A_next Z p)) ∧ RC S' (askZ Z p) x ∧ Fk S S') := by
  cases he : bookE Z p with
  | inl e => exact c_C_next_err hr hZ he
  | inr t =>
    obtain ⟨j, hj, rfl, hp, -⟩ := bookE_inr he
    exact c_C_next_ok hr hZ hj hp he
set_option maxRecDepth 100000 in
set_option maxHeartbeats 2000000 in
theorem c_C_longest_err {lX : Launch} {G : Gx} {S : PS} {x : Nat} {c : Nat → Nat} {D : Nat → Nat → Nat} {Z : ZT} (hr : RCD S Z x c D) (hZ : okZ Z) {p e : Int32} (he : bookE Z p = .inl e)  : Ct lX yX10_longest cX10_longest 4 (Option.some Jvm.ClassFile.FieldType.int) rm_X10_longest G [.ref x, .int p] S (fun r S' => r = some (.int (A_longest Z p)) ∧ RC S' (askZ Z p) x ∧ Fk S S') := by
  obtain ⟨⟨⟨kx, r0, k0⟩, r1, r3, r5, ⟨r7, k7⟩, ⟨r8, k8⟩, ⟨r9, k9⟩, ⟨r10, k10⟩, ⟨r11, k11⟩, ⟨r12, k12⟩, r13⟩, hT, hP, hH, hRf, hW, hA, hL, hSep⟩ := id hr
  obtain ⟨⟨k1, r2, k2⟩, hu, htl, htf, ht255⟩ := id hT
  obtain ⟨⟨k3, r4⟩, ⟨k4, l4⟩, ws, wl, wv⟩ := id hW
  obtain ⟨ha, hz⟩ := askE_no he
  have hre := ref_book he
  refine Ct.mk RX10 "longest" hy_X10_longest (Nat.le_of_ble_eq_true rfl) (fun X hX C => ?_)
  change Go X G _ 4 0 0 S 0 [(0, .ref x), (1, .int p)] []
  refine g_aload_n 0 0 C dX10_longest_0 rfl rfl ?_
  refine g_iload_n 1 1 C dX10_longest_1 rfl rfl ?_
  refine g_callV (As := [.int p]) (rest := []) C dX10_longest_2 (c_C_bookAt_err hr hZ he) wC_X10_bookAt wM_X10_114 wI_X10_bookAt wS_X10_bookAt wN_X10 (kne kx) (pf_10 kx) rfl hd_X10_bookAt ⟨by decide, by decide, by decide, by decide⟩ (Nat.le_of_ble_eq_true rfl) (fun r_ S_ h_ => ?_)
  obtain ⟨rfl, rfl⟩ := h_
  change Go X G _ 4 _ _ S 5 [(0, .ref x), (1, .int p)] [.null]
  refine g_astore_nN (lv' := [(2, .null), (0, .ref x), (1, .int p)]) C dX10_longest_5 rfl (by decide) rfl ?_
  refine g_aload_n 1 0 C dX10_longest_6 rfl rfl ?_
  refine g_aload_nN 0 2 C dX10_longest_7 rfl rfl ?_
  refine g_callV (As := [.null]) (rest := []) C dX10_longest_8 (c_C_nameFor_no hr hZ) wC_X10_nameFor wM_X10_146 wI_X10_nameFor wS_X10_nameFor wN_X10 (kne kx) (pf_10 kx) rfl hd_X10_nameFor ⟨by decide, by decide, by decide, by decide⟩ (Nat.le_of_ble_eq_true rfl) (fun r_ S_ h_ => ?_)
  obtain ⟨rfl, rfl⟩ := h_
  change Go X G _ 4 _ _ S 11 [(2, .null), (0, .ref x), (1, .int p)] [.null]
  refine g_astore_nN (lv' := [(3, .null), (2, .null), (0, .ref x), (1, .int p)]) C dX10_longest_11 rfl (by decide) rfl ?_
  refine g_aload_nN 1 2 C dX10_longest_12 rfl rfl ?_
  refine g_ifnullN 27 C dX10_longest_13 (by decide) ?_
  refine g_aload_n 2 0 C dX10_longest_27 rfl rfl ?_
  refine g_iload_n 3 1 C dX10_longest_28 rfl rfl ?_
  refine g_aload_nN 1 2 C dX10_longest_29 rfl rfl ?_
  refine g_aload_nN 0 3 C dX10_longest_30 rfl rfl ?_
  refine g_callV (As := [.int p, .null, .null]) (rest := []) C dX10_longest_31 (c_C_roa_no hr hZ) wC_X10_refusalOfAsking wM_X10_150 wI_X10_refusalOfAsking wS_X10_refusalOfAsking wN_X10 (kne kx) (pf_10 kx) rfl hd_X10_refusalOfAsking ⟨by decide, by decide, by decide, by decide⟩ (Nat.le_of_ble_eq_true rfl) (fun r_ S_ h_ => ?_)
  obtain ⟨rfl, rfl⟩ := h_
  change Go X G _ 4 _ _ S 34 [(3, .null), (2, .null), (0, .ref x), (1, .int p)] [.int (reA Z p)]
  exact g_iret C dX10_longest_34 (by decide) (by decide) (⟨by unfold A_longest; rw [ha, hre], ⟨c, D, by rw [hz]; exact hr⟩, Fk.refl S⟩)
set_option maxRecDepth 100000 in
set_option maxHeartbeats 2000000 in
theorem c_C_longest_ok {lX : Launch} {G : Gx} {S : PS} {x : Nat} {c : Nat → Nat} {D : Nat → Nat → Nat} {Z : ZT} (hr : RCD S Z x c D) (hZ : okZ Z) {j t : Nat} (hj : j < 10) (hp : zP Z j = t + 1) (he : bookE Z (nI j) = .inr t)  : Ct lX yX10_longest cX10_longest 4 (Option.some Jvm.ClassFile.FieldType.int) rm_X10_longest G [.ref x, .int (nI j)] S (fun r S' => r = some (.int (A_longest Z (nI j))) ∧ RC S' (askZ Z (nI j)) x ∧ Fk S S') := by
  obtain ⟨⟨⟨kx, r0, k0⟩, r1, r3, r5, ⟨r7, k7⟩, ⟨r8, k8⟩, ⟨r9, k9⟩, ⟨r10, k10⟩, ⟨r11, k11⟩, ⟨r12, k12⟩, r13⟩, hT, hP, hH, hRf, hW, hA, hL, hSep⟩ := id hr
  obtain ⟨⟨k1, r2, k2⟩, hu, htl, htf, ht255⟩ := id hT
  obtain ⟨⟨k3, r4⟩, ⟨k4, l4⟩, ws, wl, wv⟩ := id hW
  have hok := (hZ.th hj hp).1
  have hk5 : tK (zH Z t) ≤ 5 := by obtain ⟨j2, _, e2, h2, h3⟩ := bookE_inr he; exact h3
  have hbk := (hH t ⟨j, hj, hp⟩).1 hk5
  refine Ct.mk RX10 "longest" hy_X10_longest (Nat.le_of_ble_eq_true rfl) (fun X hX C => ?_)
  change Go X G _ 4 0 0 S 0 [(0, .ref x), (1, .int (nI j))] []
  refine g_aload_n 0 0 C dX10_longest_0 rfl rfl ?_
  refine g_iload_n 1 1 C dX10_longest_1 rfl rfl ?_
  refine g_callV (As := [.int (nI j)]) (rest := []) C dX10_longest_2 (c_C_bookAt_ok hr hZ hj hp he) wC_X10_bookAt wM_X10_114 wI_X10_bookAt wS_X10_bookAt wN_X10 (kne kx) (pf_10 kx) rfl hd_X10_bookAt ⟨by decide, by decide, by decide, by decide⟩ (Nat.le_of_ble_eq_true rfl) (fun r_ S_ h_ => ?_)
  obtain ⟨rfl, rfl⟩ := h_
  change Go X G _ 4 _ _ S 5 [(0, .ref x), (1, .int (nI j))] [.ref ((D t 0))]
  refine g_astore_n (lv' := [(2, .ref ((D t 0))), (0, .ref x), (1, .int (nI j))]) C dX10_longest_5 rfl (by decide) rfl ?_
  refine g_aload_n 1 0 C dX10_longest_6 rfl rfl ?_
  refine g_aload_n 0 2 C dX10_longest_7 rfl rfl ?_
  refine g_callV (As := [.ref ((D t 0))]) (rest := []) C dX10_longest_8 (c_C_nameFor hr hZ) wC_X10_nameFor wM_X10_146 wI_X10_nameFor wS_X10_nameFor wN_X10 (kne kx) (pf_10 kx) rfl hd_X10_nameFor ⟨by decide, by decide, by decide, by decide⟩ (Nat.le_of_ble_eq_true rfl) (fun r_ Sa h_ => ?_)
  rcases h_ with ⟨hn, m_, rfl, f1, hm1, hnm, hm0⟩ | ⟨hn, rfl, f1, hm1⟩
  · change Go X G _ 4 _ _ Sa 11 [(2, .ref ((D t 0))), (0, .ref x), (1, .int (nI j))] [.ref m_]
    have hr1 := hr.ask f1 hm1
    have hZ1 := hZ.ask
    have hb1 : bookC Sa (D t) (zH Z t) := (hr1.2.2.2.1 t ⟨j, hj, hp⟩).1 hk5
    have hoc := nameB_ok hn hZ.1.2
    have hla := hb1.2.1.2.2.2.2.1
    have hl100 := hok.2.2.1.1
    refine g_astore_n (lv' := [(3, .ref m_), (2, .ref ((D t 0))), (0, .ref x), (1, .int (nI j))]) C dX10_longest_11 rfl (by decide) rfl ?_
    refine g_aload_n 1 2 C dX10_longest_12 rfl rfl ?_
    refine g_ifnull C dX10_longest_13 ?_
    refine g_aload_n 0 3 C dX10_longest_16 rfl rfl ?_
    refine g_ifnull C dX10_longest_17 ?_
    refine g_aload_n 1 2 C dX10_longest_20 rfl rfl ?_
    refine g_callV (As := []) (rest := []) C dX10_longest_21 (c_K_lacks hb1 hok) wC_X2_lacksTable wM_X10_118 wI_X2_lacksTable wS_X2_lacksTable wN_X2 (kne hb1.1.1) (pf_3 hb1.1.1) rfl hd_X2_lacksTable ⟨by decide, by decide, by decide, by decide⟩ (Nat.le_of_ble_eq_true rfl) (fun r_ S_ h_ => ?_)
    obtain ⟨rfl, rfl⟩ := h_
    change Go X G _ 4 _ _ Sa 24 [(3, .ref m_), (2, .ref ((D t 0))), (0, .ref x), (1, .int (nI j))] [.int (bI (missT (zH Z t)))]
    refine g_if_eq 35 C dX10_longest_24 (by decide) (fun c24 => ?_) (fun c24 => ?_)
    · have hms := bI_f c24
      have ha : askE Z (nI j) = .inr t := by rw [askE_miss he hn, hms, if_neg (by decide)]
      refine g_aload_n 1 2 C dX10_longest_35 rfl rfl ?_
      refine gr_bk_list C dX10_longest_36 hb1.1.1 wF_X10_124 hb1.1.2.2 ?_
      refine g_aload_n 0 3 C dX10_longest_39 rfl rfl ?_
      refine g_callV (As := [.ref m_]) (rest := []) C dX10_longest_40 (c_L_longest hb1.2.1 hnm hoc) wC_X4_longestWithin wM_X10_180 wI_X4_longestWithin wS_X4_longestWithin wN_X4 (kne hb1.2.1.1.1) (pf_5 hb1.2.1.1.1) rfl hd_X4_longestWithin ⟨by decide, by decide, by decide, by decide⟩ (Nat.le_of_ble_eq_true rfl) (fun r_ S_ h_ => ?_)
      obtain ⟨rfl, rfl⟩ := h_
      change Go X G _ 4 _ _ Sa 43 [(3, .ref m_), (2, .ref ((D t 0))), (0, .ref x), (1, .int (nI j))] [.int (longN (tL (zH Z t)) (zT Z) (tL (zH Z t)).length)]
      exact g_iret C dX10_longest_43 (by decide) (by decide) (⟨by unfold A_longest; rw [ha], ⟨c, D, by rw [askZ_in he]; exact hr1⟩, f1.fk⟩)
    · have hms := bI_t c24
      refine g_aload_n 2 0 C dX10_longest_27 rfl rfl ?_
      refine g_iload_n 3 1 C dX10_longest_28 rfl rfl ?_
      refine g_aload_n 1 2 C dX10_longest_29 rfl rfl ?_
      refine g_aload_n 0 3 C dX10_longest_30 rfl rfl ?_
      refine g_callV (As := [.int (nI j), .ref ((D t 0)), .ref m_]) (rest := []) C dX10_longest_31 (c_C_roa_mis hr1 hZ1) wC_X10_refusalOfAsking wM_X10_150 wI_X10_refusalOfAsking wS_X10_refusalOfAsking wN_X10 (kne hr1.1.1.1) (pf_10 hr1.1.1.1) rfl hd_X10_refusalOfAsking ⟨by decide, by decide, by decide, by decide⟩ (Nat.le_of_ble_eq_true rfl) (fun r_ S_ h_ => ?_)
      obtain ⟨rfl, rfl⟩ := h_
      change Go X G _ 4 _ _ Sa 34 [(3, .ref m_), (2, .ref ((D t 0))), (0, .ref x), (1, .int (nI j))] [.int (-6)]
      exact g_iret C dX10_longest_34 (by decide) (by decide) (⟨by unfold A_longest; rw [askE_miss he hn, hms, if_pos rfl], ⟨c, D, by rw [askZ_in he]; exact hr1⟩, f1.fk⟩)
  · change Go X G _ 4 _ _ Sa 11 [(2, .ref ((D t 0))), (0, .ref x), (1, .int (nI j))] [.null]
    have hr1 := hr.ask f1 hm1
    have hZ1 := hZ.ask
    refine g_astore_nN (lv' := [(3, .null), (2, .ref ((D t 0))), (0, .ref x), (1, .int (nI j))]) C dX10_longest_11 rfl (by decide) rfl ?_
    refine g_aload_n 1 2 C dX10_longest_12 rfl rfl ?_
    refine g_ifnull C dX10_longest_13 ?_
    refine g_aload_nN 0 3 C dX10_longest_16 rfl rfl ?_
    refine g_ifnullN 27 C dX10_longest_17 (by decide) ?_
    refine g_aload_n 2 0 C dX10_longest_27 rfl rfl ?_
    refine g_iload_n 3 1 C dX10_longest_28 rfl rfl ?_
    refine g_aload_n 1 2 C dX10_longest_29 rfl rfl ?_
    refine g_aload_nN 0 3 C dX10_longest_30 rfl rfl ?_
    refine g_callV (As := [.int (nI j), .ref ((D t 0)), .null]) (rest := []) C dX10_longest_31 (c_C_roa_bad hr1 hZ1) wC_X10_refusalOfAsking wM_X10_150 wI_X10_refusalOfAsking wS_X10_refusalOfAsking wN_X10 (kne hr1.1.1.1) (pf_10 hr1.1.1.1) rfl hd_X10_refusalOfAsking ⟨by decide, by decide, by decide, by decide⟩ (Nat.le_of_ble_eq_true rfl) (fun r_ S_ h_ => ?_)
    obtain ⟨rfl, rfl⟩ := h_
    change Go X G _ 4 _ _ Sa 34 [(3, .null), (2, .ref ((D t 0))), (0, .ref x), (1, .int (nI j))] [.int (-5)]
    exact g_iret C dX10_longest_34 (by decide) (by decide) (⟨by unfold A_longest; rw [askE_bad he hn], ⟨c, D, by rw [askZ_in he]; exact hr1⟩, f1.fk⟩)
theorem c_C_longest {lX : Launch} {G : Gx} {S : PS} {x : Nat} {c : Nat → Nat} {D : Nat → Nat → Nat} {Z : ZT} (hr : RCD S Z x c D) (hZ : okZ Z) {p : Int32}  : Ct lX yX10_longest cX10_longest 4 (Option.some Jvm.ClassFile.FieldType.int) rm_X10_longest G [.ref x, .int p] S (fun r S' => r = some (.int (A_longest Z p)) ∧ RC S' (askZ Z p) x ∧ Fk S S') := by
  cases he : bookE Z p with
  | inl e => exact c_C_longest_err hr hZ he
  | inr t =>
    obtain ⟨j, hj, rfl, hp, -⟩ := bookE_inr he
    exact c_C_longest_ok hr hZ hj hp he
