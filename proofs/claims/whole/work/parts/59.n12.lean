theorem RCD.rowOf {S : PS} {Z : ZT} {x : Nat} {c : Nat → Nat} {D : Nat → Nat → Nat} (h : RCD S Z x c D) (hZ : okZ Z) {j t : Nat} (hj : j < 10) (hp : zP Z j = t + 1) (hk : ¬ (tK (zH Z t) = 1 ∨ tK (zH Z t) = 6)) : rowC S (D t 4) (D t 5) (D t 6) (D t 7) (tB (zH Z t)) (tA (zH Z t)) (tC (zH Z t)) := by
  have hth := h.2.2.2.1 t ⟨j, hj, hp⟩
  have hok := (hZ.th hj hp).1
  have h2 := hok.2.1
  by_cases g : tK (zH Z t) ≤ 5
  · exact ((hth.1 g).2.2.2.2.2 (fun e => hk (Or.inl e))).2
  · exact (hth.2.2 (by omega)).2
set_option maxRecDepth 100000 in
set_option maxHeartbeats 2000000 in
theorem c_C_rowAt_out {lX : Launch} {G : Gx} {S : PS} {x : Nat} {c : Nat → Nat} {D : Nat → Nat → Nat} {Z : ZT} (hr : RCD S Z x c D) (hZ : okZ Z) {p : Int32} (hp : p < 0 ∨ nI 10 ≤ p) : Ct lX yX10_rowAt cX10_rowAt 3 (Option.some (Jvm.ClassFile.FieldType.object "BitAlmanac$Row")) rm_X10_rowAt G [.ref x, .int p] S (fun r S' => r = some .null ∧ S = S') := by
  obtain ⟨⟨⟨kx, r0, k0⟩, r1, r3, r5, ⟨r7, k7⟩, ⟨r8, k8⟩, ⟨r9, k9⟩, ⟨r10, k10⟩, ⟨r11, k11⟩, ⟨r12, k12⟩, r13⟩, hT, hP, hH, hRf, hW, hA, hL, hSep⟩ := id hr
  obtain ⟨⟨k1, r2, k2⟩, hu, htl, htf, ht255⟩ := id hT
  obtain ⟨⟨k3, r4⟩, ⟨k4, l4⟩, ws, wl, wv⟩ := id hW
  refine Ct.mk RX10 "rowAt" hy_X10_rowAt (Nat.le_of_ble_eq_true rfl) (fun X hX C => ?_)
  change Go X G _ 3 0 0 S 0 [(0, .ref x), (1, .int p)] []
  refine g_aload_n 0 0 C dX10_rowAt_0 rfl rfl ?_
  refine g_iload_n 1 1 C dX10_rowAt_1 rfl rfl ?_
  refine g_callV (As := [.int p]) (rest := []) C dX10_rowAt_2 (c_C_bookAt_out hr hZ hp) wC_X10_bookAt wM_X10_114 wI_X10_bookAt wS_X10_bookAt wN_X10 (kne kx) (pf_10 kx) rfl hd_X10_bookAt ⟨by decide, by decide, by decide, by decide⟩ (Nat.le_of_ble_eq_true rfl) (fun r_ S_ h_ => ?_)
  obtain ⟨rfl, rfl⟩ := h_
  change Go X G _ 3 _ _ S 5 [(0, .ref x), (1, .int p)] [.null]
  refine g_astore_nN (lv' := [(2, .null), (0, .ref x), (1, .int p)]) C dX10_rowAt_5 rfl (by decide) rfl ?_
  refine g_aload_nN 0 2 C dX10_rowAt_6 rfl rfl ?_
  refine g_ifnonnullN C dX10_rowAt_7 ?_
  refine g_aload_n 1 0 C dX10_rowAt_10 rfl rfl ?_
  refine g_iload_n 2 1 C dX10_rowAt_11 rfl rfl ?_
  refine g_callV (As := [.int p]) (rest := []) C dX10_rowAt_12 (c_C_bareAt_out hr hZ hp) wC_X10_bareRowAt wM_X10_211 wI_X10_bareRowAt wS_X10_bareRowAt wN_X10 (kne kx) (pf_10 kx) rfl hd_X10_bareRowAt ⟨by decide, by decide, by decide, by decide⟩ (Nat.le_of_ble_eq_true rfl) (fun r_ S_ h_ => ?_)
  obtain ⟨rfl, rfl⟩ := h_
  change Go X G _ 3 _ _ S 15 [(2, .null), (0, .ref x), (1, .int p)] [.null]
  refine g_goto 22 C dX10_rowAt_15 (by decide) ?_
  exact g_aret (r := none) C dX10_rowAt_22 (Or.inl ⟨_, rfl⟩) (by decide) (by decide) (⟨rfl, rfl⟩)
set_option maxRecDepth 100000 in
set_option maxHeartbeats 2000000 in
theorem c_C_rowAt_no {lX : Launch} {G : Gx} {S : PS} {x : Nat} {c : Nat → Nat} {D : Nat → Nat → Nat} {Z : ZT} (hr : RCD S Z x c D) (hZ : okZ Z) {j : Nat} (hj : j < 10) (hp : zP Z j = 0) : Ct lX yX10_rowAt cX10_rowAt 3 (Option.some (Jvm.ClassFile.FieldType.object "BitAlmanac$Row")) rm_X10_rowAt G [.ref x, .int (nI j)] S (fun r S' => r = some .null ∧ S = S') := by
  obtain ⟨⟨⟨kx, r0, k0⟩, r1, r3, r5, ⟨r7, k7⟩, ⟨r8, k8⟩, ⟨r9, k9⟩, ⟨r10, k10⟩, ⟨r11, k11⟩, ⟨r12, k12⟩, r13⟩, hT, hP, hH, hRf, hW, hA, hL, hSep⟩ := id hr
  obtain ⟨⟨k1, r2, k2⟩, hu, htl, htf, ht255⟩ := id hT
  obtain ⟨⟨k3, r4⟩, ⟨k4, l4⟩, ws, wl, wv⟩ := id hW
  refine Ct.mk RX10 "rowAt" hy_X10_rowAt (Nat.le_of_ble_eq_true rfl) (fun X hX C => ?_)
  change Go X G _ 3 0 0 S 0 [(0, .ref x), (1, .int (nI j))] []
  refine g_aload_n 0 0 C dX10_rowAt_0 rfl rfl ?_
  refine g_iload_n 1 1 C dX10_rowAt_1 rfl rfl ?_
  refine g_callV (As := [.int (nI j)]) (rest := []) C dX10_rowAt_2 (c_C_bookAt_no hr hZ hj hp) wC_X10_bookAt wM_X10_114 wI_X10_bookAt wS_X10_bookAt wN_X10 (kne kx) (pf_10 kx) rfl hd_X10_bookAt ⟨by decide, by decide, by decide, by decide⟩ (Nat.le_of_ble_eq_true rfl) (fun r_ S_ h_ => ?_)
  obtain ⟨rfl, rfl⟩ := h_
  change Go X G _ 3 _ _ S 5 [(0, .ref x), (1, .int (nI j))] [.null]
  refine g_astore_nN (lv' := [(2, .null), (0, .ref x), (1, .int (nI j))]) C dX10_rowAt_5 rfl (by decide) rfl ?_
  refine g_aload_nN 0 2 C dX10_rowAt_6 rfl rfl ?_
  refine g_ifnonnullN C dX10_rowAt_7 ?_
  refine g_aload_n 1 0 C dX10_rowAt_10 rfl rfl ?_
  refine g_iload_n 2 1 C dX10_rowAt_11 rfl rfl ?_
  refine g_callV (As := [.int (nI j)]) (rest := []) C dX10_rowAt_12 (c_C_bareAt_no hr hZ hj hp) wC_X10_bareRowAt wM_X10_211 wI_X10_bareRowAt wS_X10_bareRowAt wN_X10 (kne kx) (pf_10 kx) rfl hd_X10_bareRowAt ⟨by decide, by decide, by decide, by decide⟩ (Nat.le_of_ble_eq_true rfl) (fun r_ S_ h_ => ?_)
  obtain ⟨rfl, rfl⟩ := h_
  change Go X G _ 3 _ _ S 15 [(2, .null), (0, .ref x), (1, .int (nI j))] [.null]
  refine g_goto 22 C dX10_rowAt_15 (by decide) ?_
  exact g_aret (r := none) C dX10_rowAt_22 (Or.inl ⟨_, rfl⟩) (by decide) (by decide) (⟨rfl, rfl⟩)
set_option maxRecDepth 100000 in
set_option maxHeartbeats 2000000 in
theorem c_C_rowAt_k1 {lX : Launch} {G : Gx} {S : PS} {x : Nat} {c : Nat → Nat} {D : Nat → Nat → Nat} {Z : ZT} (hr : RCD S Z x c D) (hZ : okZ Z) {j t : Nat} (hj : j < 10) (hp : zP Z j = t + 1) (hk : tK (zH Z t) = 1) : Ct lX yX10_rowAt cX10_rowAt 3 (Option.some (Jvm.ClassFile.FieldType.object "BitAlmanac$Row")) rm_X10_rowAt G [.ref x, .int (nI j)] S (fun r S' => r = some .null ∧ S = S') := by
  obtain ⟨⟨⟨kx, r0, k0⟩, r1, r3, r5, ⟨r7, k7⟩, ⟨r8, k8⟩, ⟨r9, k9⟩, ⟨r10, k10⟩, ⟨r11, k11⟩, ⟨r12, k12⟩, r13⟩, hT, hP, hH, hRf, hW, hA, hL, hSep⟩ := id hr
  obtain ⟨⟨k1, r2, k2⟩, hu, htl, htf, ht255⟩ := id hT
  obtain ⟨⟨k3, r4⟩, ⟨k4, l4⟩, ws, wl, wv⟩ := id hW
  have hth := hH t ⟨j, hj, hp⟩
  have hok := (hZ.th hj hp).1
  have hk7 := hok.2.1
  have hk1 := hok.1
  have hb := hth.1 (by omega)
  refine Ct.mk RX10 "rowAt" hy_X10_rowAt (Nat.le_of_ble_eq_true rfl) (fun X hX C => ?_)
  change Go X G _ 3 0 0 S 0 [(0, .ref x), (1, .int (nI j))] []
  refine g_aload_n 0 0 C dX10_rowAt_0 rfl rfl ?_
  refine g_iload_n 1 1 C dX10_rowAt_1 rfl rfl ?_
  refine g_callV (As := [.int (nI j)]) (rest := []) C dX10_rowAt_2 (c_C_bookAt_atb hr hZ hj hp (by omega)) wC_X10_bookAt wM_X10_114 wI_X10_bookAt wS_X10_bookAt wN_X10 (kne kx) (pf_10 kx) rfl hd_X10_bookAt ⟨by decide, by decide, by decide, by decide⟩ (Nat.le_of_ble_eq_true rfl) (fun r_ S_ h_ => ?_)
  obtain ⟨rfl, rfl⟩ := h_
  change Go X G _ 3 _ _ S 5 [(0, .ref x), (1, .int (nI j))] [.ref ((D t 0))]
  refine g_astore_n (lv' := [(2, .ref ((D t 0))), (0, .ref x), (1, .int (nI j))]) C dX10_rowAt_5 rfl (by decide) rfl ?_
  refine g_aload_n 0 2 C dX10_rowAt_6 rfl rfl ?_
  refine g_ifnonnull 18 C dX10_rowAt_7 (by decide) ?_
  refine g_aload_n 0 2 C dX10_rowAt_18 rfl rfl ?_
  refine gn_bk_row C dX10_rowAt_19 hb.1.1 wF_X10_224 (hb.2.2.2.2.1 hk) ?_
  exact g_aret (r := none) C dX10_rowAt_22 (Or.inl ⟨_, rfl⟩) (by decide) (by decide) (⟨rfl, rfl⟩)
set_option maxRecDepth 100000 in
set_option maxHeartbeats 2000000 in
theorem c_C_rowAt_kb {lX : Launch} {G : Gx} {S : PS} {x : Nat} {c : Nat → Nat} {D : Nat → Nat → Nat} {Z : ZT} (hr : RCD S Z x c D) (hZ : okZ Z) {j t : Nat} (hj : j < 10) (hp : zP Z j = t + 1) (hk : tK (zH Z t) ≤ 5) (hk1 : tK (zH Z t) ≠ 1) : Ct lX yX10_rowAt cX10_rowAt 3 (Option.some (Jvm.ClassFile.FieldType.object "BitAlmanac$Row")) rm_X10_rowAt G [.ref x, .int (nI j)] S (fun r S' => r = some (.ref (D t 4)) ∧ S = S') := by
  obtain ⟨⟨⟨kx, r0, k0⟩, r1, r3, r5, ⟨r7, k7⟩, ⟨r8, k8⟩, ⟨r9, k9⟩, ⟨r10, k10⟩, ⟨r11, k11⟩, ⟨r12, k12⟩, r13⟩, hT, hP, hH, hRf, hW, hA, hL, hSep⟩ := id hr
  obtain ⟨⟨k1, r2, k2⟩, hu, htl, htf, ht255⟩ := id hT
  obtain ⟨⟨k3, r4⟩, ⟨k4, l4⟩, ws, wl, wv⟩ := id hW
  have hth := hH t ⟨j, hj, hp⟩
  have hb := hth.1 hk
  refine Ct.mk RX10 "rowAt" hy_X10_rowAt (Nat.le_of_ble_eq_true rfl) (fun X hX C => ?_)
  change Go X G _ 3 0 0 S 0 [(0, .ref x), (1, .int (nI j))] []
  refine g_aload_n 0 0 C dX10_rowAt_0 rfl rfl ?_
  refine g_iload_n 1 1 C dX10_rowAt_1 rfl rfl ?_
  refine g_callV (As := [.int (nI j)]) (rest := []) C dX10_rowAt_2 (c_C_bookAt_atb hr hZ hj hp hk) wC_X10_bookAt wM_X10_114 wI_X10_bookAt wS_X10_bookAt wN_X10 (kne kx) (pf_10 kx) rfl hd_X10_bookAt ⟨by decide, by decide, by decide, by decide⟩ (Nat.le_of_ble_eq_true rfl) (fun r_ S_ h_ => ?_)
  obtain ⟨rfl, rfl⟩ := h_
  change Go X G _ 3 _ _ S 5 [(0, .ref x), (1, .int (nI j))] [.ref ((D t 0))]
  refine g_astore_n (lv' := [(2, .ref ((D t 0))), (0, .ref x), (1, .int (nI j))]) C dX10_rowAt_5 rfl (by decide) rfl ?_
  refine g_aload_n 0 2 C dX10_rowAt_6 rfl rfl ?_
  refine g_ifnonnull 18 C dX10_rowAt_7 (by decide) ?_
  refine g_aload_n 0 2 C dX10_rowAt_18 rfl rfl ?_
  refine gr_bk_row C dX10_rowAt_19 hb.1.1 wF_X10_224 (hb.2.2.2.2.2 hk1).1 ?_
  exact g_aret (r := some ((D t 4))) C dX10_rowAt_22 (Or.inl ⟨_, rfl⟩) (by decide) (by decide) (⟨rfl, rfl⟩)
set_option maxRecDepth 100000 in
set_option maxHeartbeats 2000000 in
theorem c_C_rowAt_kd {lX : Launch} {G : Gx} {S : PS} {x : Nat} {c : Nat → Nat} {D : Nat → Nat → Nat} {Z : ZT} (hr : RCD S Z x c D) (hZ : okZ Z) {j t : Nat} (hj : j < 10) (hp : zP Z j = t + 1) (hk : tK (zH Z t) = 6) : Ct lX yX10_rowAt cX10_rowAt 3 (Option.some (Jvm.ClassFile.FieldType.object "BitAlmanac$Row")) rm_X10_rowAt G [.ref x, .int (nI j)] S (fun r S' => r = some .null ∧ S = S') := by
  obtain ⟨⟨⟨kx, r0, k0⟩, r1, r3, r5, ⟨r7, k7⟩, ⟨r8, k8⟩, ⟨r9, k9⟩, ⟨r10, k10⟩, ⟨r11, k11⟩, ⟨r12, k12⟩, r13⟩, hT, hP, hH, hRf, hW, hA, hL, hSep⟩ := id hr
  obtain ⟨⟨k1, r2, k2⟩, hu, htl, htf, ht255⟩ := id hT
  obtain ⟨⟨k3, r4⟩, ⟨k4, l4⟩, ws, wl, wv⟩ := id hW
  refine Ct.mk RX10 "rowAt" hy_X10_rowAt (Nat.le_of_ble_eq_true rfl) (fun X hX C => ?_)
  change Go X G _ 3 0 0 S 0 [(0, .ref x), (1, .int (nI j))] []
  refine g_aload_n 0 0 C dX10_rowAt_0 rfl rfl ?_
  refine g_iload_n 1 1 C dX10_rowAt_1 rfl rfl ?_
  refine g_callV (As := [.int (nI j)]) (rest := []) C dX10_rowAt_2 (c_C_bookAt_atd hr hZ hj hp hk) wC_X10_bookAt wM_X10_114 wI_X10_bookAt wS_X10_bookAt wN_X10 (kne kx) (pf_10 kx) rfl hd_X10_bookAt ⟨by decide, by decide, by decide, by decide⟩ (Nat.le_of_ble_eq_true rfl) (fun r_ S_ h_ => ?_)
  obtain ⟨rfl, rfl⟩ := h_
  change Go X G _ 3 _ _ S 5 [(0, .ref x), (1, .int (nI j))] [.null]
  refine g_astore_nN (lv' := [(2, .null), (0, .ref x), (1, .int (nI j))]) C dX10_rowAt_5 rfl (by decide) rfl ?_
  refine g_aload_nN 0 2 C dX10_rowAt_6 rfl rfl ?_
  refine g_ifnonnullN C dX10_rowAt_7 ?_
  refine g_aload_n 1 0 C dX10_rowAt_10 rfl rfl ?_
  refine g_iload_n 2 1 C dX10_rowAt_11 rfl rfl ?_
  refine g_callV (As := [.int (nI j)]) (rest := []) C dX10_rowAt_12 (c_C_bareAt_atd hr hZ hj hp hk) wC_X10_bareRowAt wM_X10_211 wI_X10_bareRowAt wS_X10_bareRowAt wN_X10 (kne kx) (pf_10 kx) rfl hd_X10_bareRowAt ⟨by decide, by decide, by decide, by decide⟩ (Nat.le_of_ble_eq_true rfl) (fun r_ S_ h_ => ?_)
  obtain ⟨rfl, rfl⟩ := h_
  change Go X G _ 3 _ _ S 15 [(2, .null), (0, .ref x), (1, .int (nI j))] [.null]
  refine g_goto 22 C dX10_rowAt_15 (by decide) ?_
  exact g_aret (r := none) C dX10_rowAt_22 (Or.inl ⟨_, rfl⟩) (by decide) (by decide) (⟨rfl, rfl⟩)
set_option maxRecDepth 100000 in
set_option maxHeartbeats 2000000 in
theorem c_C_rowAt_kr {lX : Launch} {G : Gx} {S : PS} {x : Nat} {c : Nat → Nat} {D : Nat → Nat → Nat} {Z : ZT} (hr : RCD S Z x c D) (hZ : okZ Z) {j t : Nat} (hj : j < 10) (hp : zP Z j = t + 1) (hk : tK (zH Z t) = 7) : Ct lX yX10_rowAt cX10_rowAt 3 (Option.some (Jvm.ClassFile.FieldType.object "BitAlmanac$Row")) rm_X10_rowAt G [.ref x, .int (nI j)] S (fun r S' => r = some (.ref (D t 4)) ∧ S = S') := by
  obtain ⟨⟨⟨kx, r0, k0⟩, r1, r3, r5, ⟨r7, k7⟩, ⟨r8, k8⟩, ⟨r9, k9⟩, ⟨r10, k10⟩, ⟨r11, k11⟩, ⟨r12, k12⟩, r13⟩, hT, hP, hH, hRf, hW, hA, hL, hSep⟩ := id hr
  obtain ⟨⟨k1, r2, k2⟩, hu, htl, htf, ht255⟩ := id hT
  obtain ⟨⟨k3, r4⟩, ⟨k4, l4⟩, ws, wl, wv⟩ := id hW
  refine Ct.mk RX10 "rowAt" hy_X10_rowAt (Nat.le_of_ble_eq_true rfl) (fun X hX C => ?_)
  change Go X G _ 3 0 0 S 0 [(0, .ref x), (1, .int (nI j))] []
  refine g_aload_n 0 0 C dX10_rowAt_0 rfl rfl ?_
  refine g_iload_n 1 1 C dX10_rowAt_1 rfl rfl ?_
  refine g_callV (As := [.int (nI j)]) (rest := []) C dX10_rowAt_2 (c_C_bookAt_atr hr hZ hj hp hk) wC_X10_bookAt wM_X10_114 wI_X10_bookAt wS_X10_bookAt wN_X10 (kne kx) (pf_10 kx) rfl hd_X10_bookAt ⟨by decide, by decide, by decide, by decide⟩ (Nat.le_of_ble_eq_true rfl) (fun r_ S_ h_ => ?_)
  obtain ⟨rfl, rfl⟩ := h_
  change Go X G _ 3 _ _ S 5 [(0, .ref x), (1, .int (nI j))] [.null]
  refine g_astore_nN (lv' := [(2, .null), (0, .ref x), (1, .int (nI j))]) C dX10_rowAt_5 rfl (by decide) rfl ?_
  refine g_aload_nN 0 2 C dX10_rowAt_6 rfl rfl ?_
  refine g_ifnonnullN C dX10_rowAt_7 ?_
  refine g_aload_n 1 0 C dX10_rowAt_10 rfl rfl ?_
  refine g_iload_n 2 1 C dX10_rowAt_11 rfl rfl ?_
  refine g_callV (As := [.int (nI j)]) (rest := []) C dX10_rowAt_12 (c_C_bareAt_atr hr hZ hj hp hk) wC_X10_bareRowAt wM_X10_211 wI_X10_bareRowAt wS_X10_bareRowAt wN_X10 (kne kx) (pf_10 kx) rfl hd_X10_bareRowAt ⟨by decide, by decide, by decide, by decide⟩ (Nat.le_of_ble_eq_true rfl) (fun r_ S_ h_ => ?_)
  obtain ⟨rfl, rfl⟩ := h_
  change Go X G _ 3 _ _ S 15 [(2, .null), (0, .ref x), (1, .int (nI j))] [.ref ((D t 4))]
  refine g_goto 22 C dX10_rowAt_15 (by decide) ?_
  exact g_aret (r := some ((D t 4))) C dX10_rowAt_22 (Or.inl ⟨_, rfl⟩) (by decide) (by decide) (⟨rfl, rfl⟩)
theorem c_C_rowAt_ok {lX : Launch} {G : Gx} {S : PS} {x : Nat} {c : Nat → Nat} {D : Nat → Nat → Nat} {Z : ZT} (hr : RCD S Z x c D) (hZ : okZ Z) {j t : Nat} (hj : j < 10) (hp : zP Z j = t + 1) (he : rowedE Z (nI j) = .inr t) : Ct lX yX10_rowAt cX10_rowAt 3 (Option.some (Jvm.ClassFile.FieldType.object "BitAlmanac$Row")) rm_X10_rowAt G [.ref x, .int (nI j)] S (fun r S' => r = some (.ref (D t 4)) ∧ S = S') := by
  have hok := (hZ.th hj hp).1
  have h1 := hok.1
  have h2 := hok.2.1
  obtain ⟨j2, _, e2, h3, hk⟩ := rowedE_inr he
  by_cases g : tK (zH Z t) ≤ 5
  · exact c_C_rowAt_kb hr hZ hj hp g (fun e => hk (Or.inl e))
  · exact c_C_rowAt_kr hr hZ hj hp (by omega)
theorem c_C_rowAt_err {lX : Launch} {G : Gx} {S : PS} {x : Nat} {c : Nat → Nat} {D : Nat → Nat → Nat} {Z : ZT} (hr : RCD S Z x c D) (hZ : okZ Z) {p e : Int32} (he : rowedE Z p = .inl e) : Ct lX yX10_rowAt cX10_rowAt 3 (Option.some (Jvm.ClassFile.FieldType.object "BitAlmanac$Row")) rm_X10_rowAt G [.ref x, .int p] S (fun r S' => r = some .null ∧ S = S') := by
  rcases look_cases Z p with h | ⟨j, hj, rfl, h | ⟨t, h⟩⟩
  · exact c_C_rowAt_out hr hZ h
  · exact c_C_rowAt_no hr hZ hj h
  · unfold rowedE at he
    rw [look_at hj h] at he
    simp only [] at he
    split at he
    · rename_i hk
      rcases hk with hk | hk
      · exact c_C_rowAt_k1 hr hZ hj h hk
      · exact c_C_rowAt_kd hr hZ hj h hk
    · cases he
set_option maxRecDepth 100000 in
set_option maxHeartbeats 2000000 in
theorem c_C_rank_err {lX : Launch} {G : Gx} {S : PS} {x : Nat} {c : Nat → Nat} {D : Nat → Nat → Nat} {Z : ZT} (hr : RCD S Z x c D) (hZ : okZ Z) {p e : Int32} (he : rowedE Z p = .inl e) {i : Int32} : Ct lX yX10_rank cX10_rank 4 (Option.some Jvm.ClassFile.FieldType.int) rm_X10_rank G [.ref x, .int p, .int i] S (fun r S' => r = some (.int (A_rank Z p i)) ∧ RC S' (Z) x ∧ Fk S S') := by
  obtain ⟨⟨⟨kx, r0, k0⟩, r1, r3, r5, ⟨r7, k7⟩, ⟨r8, k8⟩, ⟨r9, k9⟩, ⟨r10, k10⟩, ⟨r11, k11⟩, ⟨r12, k12⟩, r13⟩, hT, hP, hH, hRf, hW, hA, hL, hSep⟩ := id hr
  obtain ⟨⟨k1, r2, k2⟩, hu, htl, htf, ht255⟩ := id hT
  obtain ⟨⟨k3, r4⟩, ⟨k4, l4⟩, ws, wl, wv⟩ := id hW
  refine Ct.mk RX10 "rank" hy_X10_rank (Nat.le_of_ble_eq_true rfl) (fun X hX C => ?_)
  change Go X G _ 4 0 0 S 0 [(0, .ref x), (1, .int p), (2, .int i)] []
  refine g_aload_n 0 0 C dX10_rank_0 rfl rfl ?_
  refine g_iload_n 1 1 C dX10_rank_1 rfl rfl ?_
  refine g_callV (As := [.int p]) (rest := []) C dX10_rank_2 (c_C_rowAt_err hr hZ he) wC_X10_rowAt wM_X10_188 wI_X10_rowAt wS_X10_rowAt wN_X10 (kne kx) (pf_10 kx) rfl hd_X10_rowAt ⟨by decide, by decide, by decide, by decide⟩ (Nat.le_of_ble_eq_true rfl) (fun r_ S_ h_ => ?_)
  obtain ⟨rfl, rfl⟩ := h_
  change Go X G _ 4 _ _ S 5 [(0, .ref x), (1, .int p), (2, .int i)] [.null]
  refine g_astore_nN (lv' := [(3, .null), (0, .ref x), (1, .int p), (2, .int i)]) C dX10_rank_5 rfl (by decide) rfl ?_
  refine g_aload_nN 0 3 C dX10_rank_6 rfl rfl ?_
  refine g_ifnonnullN C dX10_rank_7 ?_
  refine g_aload_n 1 0 C dX10_rank_10 rfl rfl ?_
  refine g_iload_n 2 1 C dX10_rank_11 rfl rfl ?_
  refine g_callV (As := [.int p]) (rest := []) C dX10_rank_12 (c_C_ref hr hZ) wC_X10_refusalAt wM_X10_88 wI_X10_refusalAt wS_X10_refusalAt wN_X10 (kne kx) (pf_10 kx) rfl hd_X10_refusalAt ⟨by decide, by decide, by decide, by decide⟩ (Nat.le_of_ble_eq_true rfl) (fun r_ S_ h_ => ?_)
  obtain ⟨rfl, rfl⟩ := h_
  change Go X G _ 4 _ _ S 15 [(3, .null), (0, .ref x), (1, .int p), (2, .int i)] [.int (reA Z p)]
  exact g_iret C dX10_rank_15 (by decide) (by decide) (⟨by unfold A_rank; rw [he, ref_rowed he], ⟨c, D, by exact hr⟩, Fk.refl S⟩)
set_option maxRecDepth 100000 in
set_option maxHeartbeats 2000000 in
theorem c_C_rank_ok {lX : Launch} {G : Gx} {S : PS} {x : Nat} {c : Nat → Nat} {D : Nat → Nat → Nat} {Z : ZT} (hr : RCD S Z x c D) (hZ : okZ Z) {j t : Nat} (hj : j < 10) (hp : zP Z j = t + 1) (he : rowedE Z (nI j) = .inr t) {i : Int32} : Ct lX yX10_rank cX10_rank 4 (Option.some Jvm.ClassFile.FieldType.int) rm_X10_rank G [.ref x, .int (nI j), .int i] S (fun r S' => r = some (.int (A_rank Z (nI j) i)) ∧ RC S' (Z) x ∧ Fk S S') := by
  obtain ⟨⟨⟨kx, r0, k0⟩, r1, r3, r5, ⟨r7, k7⟩, ⟨r8, k8⟩, ⟨r9, k9⟩, ⟨r10, k10⟩, ⟨r11, k11⟩, ⟨r12, k12⟩, r13⟩, hT, hP, hH, hRf, hW, hA, hL, hSep⟩ := id hr
  obtain ⟨⟨k1, r2, k2⟩, hu, htl, htf, ht255⟩ := id hT
  obtain ⟨⟨k3, r4⟩, ⟨k4, l4⟩, ws, wl, wv⟩ := id hW
  have hok := (hZ.th hj hp).1
  have hkr : ¬ (tK (zH Z t) = 1 ∨ tK (zH Z t) = 6) := by obtain ⟨j2, _, e2, h2, h3⟩ := rowedE_inr he; exact h3
  have hrw := hr.rowOf hZ hj hp hkr
  obtain ⟨⟨k_a, rb_a, rw_a, rt_a, ru_a⟩, ⟨k_w, l_w⟩, ⟨k_t, l_t⟩, ⟨k_u, l_u⟩, ⟨la_a, lb_a⟩, on_a, ⟨bl_a, b01⟩, wd_⟩ := id hrw.1
  have hon := ones_lt b01 (tB (zH Z t)).length
  refine Ct.mk RX10 "rank" hy_X10_rank (Nat.le_of_ble_eq_true rfl) (fun X hX C => ?_)
  change Go X G _ 4 0 0 S 0 [(0, .ref x), (1, .int (nI j)), (2, .int i)] []
  refine g_aload_n 0 0 C dX10_rank_0 rfl rfl ?_
  refine g_iload_n 1 1 C dX10_rank_1 rfl rfl ?_
  refine g_callV (As := [.int (nI j)]) (rest := []) C dX10_rank_2 (c_C_rowAt_ok hr hZ hj hp he) wC_X10_rowAt wM_X10_188 wI_X10_rowAt wS_X10_rowAt wN_X10 (kne kx) (pf_10 kx) rfl hd_X10_rowAt ⟨by decide, by decide, by decide, by decide⟩ (Nat.le_of_ble_eq_true rfl) (fun r_ S_ h_ => ?_)
  obtain ⟨rfl, rfl⟩ := h_
  change Go X G _ 4 _ _ S 5 [(0, .ref x), (1, .int (nI j)), (2, .int i)] [.ref ((D t 4))]
  refine g_astore_n (lv' := [(3, .ref ((D t 4))), (0, .ref x), (1, .int (nI j)), (2, .int i)]) C dX10_rank_5 rfl (by decide) rfl ?_
  refine g_aload_n 0 3 C dX10_rank_6 rfl rfl ?_
  refine g_ifnonnull 16 C dX10_rank_7 (by decide) ?_
  refine g_iload_n 3 2 C dX10_rank_16 rfl rfl ?_
  refine g_if_lt 28 C dX10_rank_17 (by decide) (fun c17 => ?_) (fun c17 => ?_)
  · have ei := inR_neg (n := (tB (zH Z t)).length + 1) c17
    refine g_bipush (v := -5) C dX10_rank_28 (by decide) ?_
    exact g_iret C dX10_rank_30 (by decide) (by decide) (⟨by unfold A_rank; rw [he]; simp only []; rw [ei]; rfl, ⟨c, D, hr⟩, Fk.refl S⟩)
  · refine g_iload_n 3 2 C dX10_rank_20 rfl rfl ?_
    refine g_aload_n 0 3 C dX10_rank_21 rfl rfl ?_
    refine gf_rw_bits C dX10_rank_22 k_a wF_X10_192 ?_
    refine g_topi (rb_a) ?_
    refine g_icmp_le 31 C dX10_rank_25 (by decide) (fun c25 => ?_) (fun c25 => ?_)
    · have ei := inR_in1 (n := (tB (zH Z t)).length) (by omega) c17 c25
      obtain ⟨k, hk, rfl⟩ := inR_spec ei (by omega)
      refine g_aload_n 0 3 C dX10_rank_31 rfl rfl ?_
      refine g_callV (As := []) (rest := []) C dX10_rank_32 (c_R_lacks hrw.1) wC_X6_lacksTable wM_X10_195 wI_X6_lacksTable wS_X6_lacksTable wN_X6 (kne k_a) (pf_7 k_a) rfl hd_X6_lacksTable ⟨by decide, by decide, by decide, by decide⟩ (Nat.le_of_ble_eq_true rfl) (fun r_ S_ h_ => ?_)
      obtain ⟨rfl, rfl⟩ := h_
      change Go X G _ 4 _ _ S 35 [(3, .ref ((D t 4))), (0, .ref x), (1, .int (nI j)), (2, .int (nI k))] [.int (bI (tA (zH Z t) || tC (zH Z t)))]
      refine g_if_eq 43 C dX10_rank_35 (by decide) (fun c35 => ?_) (fun c35 => ?_)
      · have em : missT (zH Z t) = false := bI_f c35
        have hAC : tA (zH Z t) = false ∧ tC (zH Z t) = false := by unfold missT at em; exact Bool.or_eq_false_iff.mp em
        refine g_aload_n 0 3 C dX10_rank_43 rfl rfl ?_
        refine g_iload_n 3 2 C dX10_rank_44 rfl rfl ?_
        refine g_callV (As := [.int (nI k)]) (rest := []) C dX10_rank_45 (c_R_onesAhead hrw (by omega) hAC.1 hAC.2) wC_X6_onesAhead wM_X10_196 wI_X6_onesAhead wS_X6_onesAhead wN_X6 (kne k_a) (pf_7 k_a) rfl hd_X6_onesAhead ⟨by decide, by decide, by decide, by decide⟩ (Nat.le_of_ble_eq_true rfl) (fun r_ S_ h_ => ?_)
        obtain ⟨rfl, rfl⟩ := h_
        change Go X G _ 4 _ _ S 48 [(3, .ref ((D t 4))), (0, .ref x), (1, .int (nI j)), (2, .int (nI k))] [.int (nI (onesN (tB (zH Z t)) k))]
        exact g_iret C dX10_rank_48 (by decide) (by decide) (⟨by unfold A_rank; rw [he]; simp only []; rw [ei, if_pos rfl, em, if_neg (by decide), nI_clamp (by omega)], ⟨c, D, hr⟩, Fk.refl S⟩)
      · have em : missT (zH Z t) = true := bI_t c35
        refine g_bipush (v := -6) C dX10_rank_38 (by decide) ?_
        refine g_goto 48 C dX10_rank_40 (by decide) ?_
        exact g_iret C dX10_rank_48 (by decide) (by decide) (⟨by unfold A_rank; rw [he]; simp only []; rw [ei, if_pos rfl, em, if_pos rfl], ⟨c, D, hr⟩, Fk.refl S⟩)
    · have ei := inR_big1 (n := (tB (zH Z t)).length) (by omega) c25
      refine g_bipush (v := -5) C dX10_rank_28 (by decide) ?_
      exact g_iret C dX10_rank_30 (by decide) (by decide) (⟨by unfold A_rank; rw [he]; simp only []; rw [ei]; rfl, ⟨c, D, hr⟩, Fk.refl S⟩)
theorem c_C_rank {lX : Launch} {G : Gx} {S : PS} {x : Nat} {c : Nat → Nat} {D : Nat → Nat → Nat} {Z : ZT} (hr : RCD S Z x c D) (hZ : okZ Z) {p : Int32} {i : Int32} : Ct lX yX10_rank cX10_rank 4 (Option.some Jvm.ClassFile.FieldType.int) rm_X10_rank G [.ref x, .int p, .int i] S (fun r S' => r = some (.int (A_rank Z p i)) ∧ RC S' (Z) x ∧ Fk S S') := by
  cases he : rowedE Z p with
  | inl e => exact c_C_rank_err hr hZ he
  | inr t =>
    obtain ⟨j, hj, rfl, hp, -⟩ := rowedE_inr he
    exact c_C_rank_ok hr hZ hj hp he
set_option maxRecDepth 100000 in
set_option maxHeartbeats 2000000 in
theorem c_C_select_err {lX : Launch} {G : Gx} {S : PS} {x : Nat} {c : Nat → Nat} {D : Nat → Nat → Nat} {Z : ZT} (hr : RCD S Z x c D) (hZ : okZ Z) {p e : Int32} (he : rowedE Z p = .inl e) {i : Int32} : Ct lX yX10_select cX10_select 4 (Option.some Jvm.ClassFile.FieldType.int) rm_X10_select G [.ref x, .int p, .int i] S (fun r S' => r = some (.int (A_select Z p i)) ∧ RC S' (Z) x ∧ Fk S S') := by
  obtain ⟨⟨⟨kx, r0, k0⟩, r1, r3, r5, ⟨r7, k7⟩, ⟨r8, k8⟩, ⟨r9, k9⟩, ⟨r10, k10⟩, ⟨r11, k11⟩, ⟨r12, k12⟩, r13⟩, hT, hP, hH, hRf, hW, hA, hL, hSep⟩ := id hr
  obtain ⟨⟨k1, r2, k2⟩, hu, htl, htf, ht255⟩ := id hT
  obtain ⟨⟨k3, r4⟩, ⟨k4, l4⟩, ws, wl, wv⟩ := id hW
  refine Ct.mk RX10 "select" hy_X10_select (Nat.le_of_ble_eq_true rfl) (fun X hX C => ?_)
  change Go X G _ 4 0 0 S 0 [(0, .ref x), (1, .int p), (2, .int i)] []
  refine g_aload_n 0 0 C dX10_select_0 rfl rfl ?_
  refine g_iload_n 1 1 C dX10_select_1 rfl rfl ?_
  refine g_callV (As := [.int p]) (rest := []) C dX10_select_2 (c_C_rowAt_err hr hZ he) wC_X10_rowAt wM_X10_188 wI_X10_rowAt wS_X10_rowAt wN_X10 (kne kx) (pf_10 kx) rfl hd_X10_rowAt ⟨by decide, by decide, by decide, by decide⟩ (Nat.le_of_ble_eq_true rfl) (fun r_ S_ h_ => ?_)
  obtain ⟨rfl, rfl⟩ := h_
  change Go X G _ 4 _ _ S 5 [(0, .ref x), (1, .int p), (2, .int i)] [.null]
  refine g_astore_nN (lv' := [(3, .null), (0, .ref x), (1, .int p), (2, .int i)]) C dX10_select_5 rfl (by decide) rfl ?_
  refine g_aload_nN 0 3 C dX10_select_6 rfl rfl ?_
  refine g_ifnonnullN C dX10_select_7 ?_
  refine g_aload_n 1 0 C dX10_select_10 rfl rfl ?_
  refine g_iload_n 2 1 C dX10_select_11 rfl rfl ?_
  refine g_callV (As := [.int p]) (rest := []) C dX10_select_12 (c_C_ref hr hZ) wC_X10_refusalAt wM_X10_88 wI_X10_refusalAt wS_X10_refusalAt wN_X10 (kne kx) (pf_10 kx) rfl hd_X10_refusalAt ⟨by decide, by decide, by decide, by decide⟩ (Nat.le_of_ble_eq_true rfl) (fun r_ S_ h_ => ?_)
  obtain ⟨rfl, rfl⟩ := h_
  change Go X G _ 4 _ _ S 15 [(3, .null), (0, .ref x), (1, .int p), (2, .int i)] [.int (reA Z p)]
  exact g_iret C dX10_select_15 (by decide) (by decide) (⟨by unfold A_select; rw [he, ref_rowed he], ⟨c, D, by exact hr⟩, Fk.refl S⟩)
set_option maxRecDepth 100000 in
set_option maxHeartbeats 2000000 in
theorem c_C_select_ok {lX : Launch} {G : Gx} {S : PS} {x : Nat} {c : Nat → Nat} {D : Nat → Nat → Nat} {Z : ZT} (hr : RCD S Z x c D) (hZ : okZ Z) {j t : Nat} (hj : j < 10) (hp : zP Z j = t + 1) (he : rowedE Z (nI j) = .inr t) {i : Int32} : Ct lX yX10_select cX10_select 4 (Option.some Jvm.ClassFile.FieldType.int) rm_X10_select G [.ref x, .int (nI j), .int i] S (fun r S' => r = some (.int (A_select Z (nI j) i)) ∧ RC S' (Z) x ∧ Fk S S') := by
  obtain ⟨⟨⟨kx, r0, k0⟩, r1, r3, r5, ⟨r7, k7⟩, ⟨r8, k8⟩, ⟨r9, k9⟩, ⟨r10, k10⟩, ⟨r11, k11⟩, ⟨r12, k12⟩, r13⟩, hT, hP, hH, hRf, hW, hA, hL, hSep⟩ := id hr
  obtain ⟨⟨k1, r2, k2⟩, hu, htl, htf, ht255⟩ := id hT
  obtain ⟨⟨k3, r4⟩, ⟨k4, l4⟩, ws, wl, wv⟩ := id hW
  have hok := (hZ.th hj hp).1
  have hkr : ¬ (tK (zH Z t) = 1 ∨ tK (zH Z t) = 6) := by obtain ⟨j2, _, e2, h2, h3⟩ := rowedE_inr he; exact h3
  have hrw := hr.rowOf hZ hj hp hkr
  obtain ⟨⟨k_a, rb_a, rw_a, rt_a, ru_a⟩, ⟨k_w, l_w⟩, ⟨k_t, l_t⟩, ⟨k_u, l_u⟩, ⟨la_a, lb_a⟩, on_a, ⟨bl_a, b01⟩, wd_⟩ := id hrw.1
  have hon := ones_lt b01 (tB (zH Z t)).length
  refine Ct.mk RX10 "select" hy_X10_select (Nat.le_of_ble_eq_true rfl) (fun X hX C => ?_)
  change Go X G _ 4 0 0 S 0 [(0, .ref x), (1, .int (nI j)), (2, .int i)] []
  refine g_aload_n 0 0 C dX10_select_0 rfl rfl ?_
  refine g_iload_n 1 1 C dX10_select_1 rfl rfl ?_
  refine g_callV (As := [.int (nI j)]) (rest := []) C dX10_select_2 (c_C_rowAt_ok hr hZ hj hp he) wC_X10_rowAt wM_X10_188 wI_X10_rowAt wS_X10_rowAt wN_X10 (kne kx) (pf_10 kx) rfl hd_X10_rowAt ⟨by decide, by decide, by decide, by decide⟩ (Nat.le_of_ble_eq_true rfl) (fun r_ S_ h_ => ?_)
  obtain ⟨rfl, rfl⟩ := h_
  change Go X G _ 4 _ _ S 5 [(0, .ref x), (1, .int (nI j)), (2, .int i)] [.ref ((D t 4))]
  refine g_astore_n (lv' := [(3, .ref ((D t 4))), (0, .ref x), (1, .int (nI j)), (2, .int i)]) C dX10_select_5 rfl (by decide) rfl ?_
  refine g_aload_n 0 3 C dX10_select_6 rfl rfl ?_
  refine g_ifnonnull 16 C dX10_select_7 (by decide) ?_
  refine g_iload_n 3 2 C dX10_select_16 rfl rfl ?_
  refine g_if_lt 28 C dX10_select_17 (by decide) (fun c17 => ?_) (fun c17 => ?_)
  · have ei := inR_neg (n := onesN (tB (zH Z t)) (tB (zH Z t)).length) c17
    refine g_bipush (v := -5) C dX10_select_28 (by decide) ?_
    exact g_iret C dX10_select_30 (by decide) (by decide) (⟨by unfold A_select; rw [he]; simp only []; rw [ei]; rfl, ⟨c, D, hr⟩, Fk.refl S⟩)
  · refine g_iload_n 3 2 C dX10_select_20 rfl rfl ?_
    refine g_aload_n 0 3 C dX10_select_21 rfl rfl ?_
    refine gf_rw_ones C dX10_select_22 k_a wF_X10_199 ?_
    refine g_topi (on_a) ?_
    refine g_icmp_lt 31 C dX10_select_25 (by decide) (fun c25 => ?_) (fun c25 => ?_)
    · have ei := inR_in (n := onesN (tB (zH Z t)) (tB (zH Z t)).length) (by omega) c17 (Int32.not_le.mpr c25)
      obtain ⟨k, hk, rfl⟩ := inR_spec ei (by omega)
      refine g_aload_n 0 3 C dX10_select_31 rfl rfl ?_
      refine g_callV (As := []) (rest := []) C dX10_select_32 (c_R_lacks hrw.1) wC_X6_lacksTable wM_X10_195 wI_X6_lacksTable wS_X6_lacksTable wN_X6 (kne k_a) (pf_7 k_a) rfl hd_X6_lacksTable ⟨by decide, by decide, by decide, by decide⟩ (Nat.le_of_ble_eq_true rfl) (fun r_ S_ h_ => ?_)
      obtain ⟨rfl, rfl⟩ := h_
      change Go X G _ 4 _ _ S 35 [(3, .ref ((D t 4))), (0, .ref x), (1, .int (nI j)), (2, .int (nI k))] [.int (bI (tA (zH Z t) || tC (zH Z t)))]
      refine g_if_eq 43 C dX10_select_35 (by decide) (fun c35 => ?_) (fun c35 => ?_)
      · have em : missT (zH Z t) = false := bI_f c35
        have hAC : tA (zH Z t) = false ∧ tC (zH Z t) = false := by unfold missT at em; exact Bool.or_eq_false_iff.mp em
        refine g_aload_n 0 3 C dX10_select_43 rfl rfl ?_
        refine g_iload_n 3 2 C dX10_select_44 rfl rfl ?_
        refine g_callV (As := [.int (nI k)]) (rest := []) C dX10_select_45 (c_R_place hrw hk hAC.1 hAC.2) wC_X6_placeOfOne wM_X10_202 wI_X6_placeOfOne wS_X6_placeOfOne wN_X6 (kne k_a) (pf_7 k_a) rfl hd_X6_placeOfOne ⟨by decide, by decide, by decide, by decide⟩ (Nat.le_of_ble_eq_true rfl) (fun r_ S_ h_ => ?_)
        obtain ⟨rfl, rfl⟩ := h_
        change Go X G _ 4 _ _ S 48 [(3, .ref ((D t 4))), (0, .ref x), (1, .int (nI j)), (2, .int (nI k))] [.int (nI (selN (tB (zH Z t)) k))]
        exact g_iret C dX10_select_48 (by decide) (by decide) (⟨by unfold A_select; rw [he]; simp only []; rw [ei, if_pos rfl, em, if_neg (by decide), nI_clamp (by omega)], ⟨c, D, hr⟩, Fk.refl S⟩)
      · have em : missT (zH Z t) = true := bI_t c35
        refine g_bipush (v := -6) C dX10_select_38 (by decide) ?_
        refine g_goto 48 C dX10_select_40 (by decide) ?_
        exact g_iret C dX10_select_48 (by decide) (by decide) (⟨by unfold A_select; rw [he]; simp only []; rw [ei, if_pos rfl, em, if_pos rfl], ⟨c, D, hr⟩, Fk.refl S⟩)
    · have ei := inR_big (n := onesN (tB (zH Z t)) (tB (zH Z t)).length) (by omega) (Int32.not_lt.mp c25)
      refine g_bipush (v := -5) C dX10_select_28 (by decide) ?_
      exact g_iret C dX10_select_30 (by decide) (by decide) (⟨by unfold A_select; rw [he]; simp only []; rw [ei]; rfl, ⟨c, D, hr⟩, Fk.refl S⟩)
theorem c_C_select {lX : Launch} {G : Gx} {S : PS} {x : Nat} {c : Nat → Nat} {D : Nat → Nat → Nat} {Z : ZT} (hr : RCD S Z x c D) (hZ : okZ Z) {p : Int32} {i : Int32} : Ct lX yX10_select cX10_select 4 (Option.some Jvm.ClassFile.FieldType.int) rm_X10_select G [.ref x, .int p, .int i] S (fun r S' => r = some (.int (A_select Z p i)) ∧ RC S' (Z) x ∧ Fk S S') := by
  cases he : rowedE Z p with
  | inl e => exact c_C_select_err hr hZ he
  | inr t =>
    obtain ⟨j, hj, rfl, hp, -⟩ := rowedE_inr he
    exact c_C_select_ok hr hZ hj hp he
set_option maxRecDepth 100000 in
set_option maxHeartbeats 2000000 in
theorem c_C_bit_err {lX : Launch} {G : Gx} {S : PS} {x : Nat} {c : Nat → Nat} {D : Nat → Nat → Nat} {Z : ZT} (hr : RCD S Z x c D) (hZ : okZ Z) {p e : Int32} (he : rowedE Z p = .inl e) {i : Int32} : Ct lX yX10_bit cX10_bit 4 (Option.some Jvm.ClassFile.FieldType.int) rm_X10_bit G [.ref x, .int p, .int i] S (fun r S' => r = some (.int (A_bit Z p i)) ∧ RC S' (Z) x ∧ Fk S S') := by
  obtain ⟨⟨⟨kx, r0, k0⟩, r1, r3, r5, ⟨r7, k7⟩, ⟨r8, k8⟩, ⟨r9, k9⟩, ⟨r10, k10⟩, ⟨r11, k11⟩, ⟨r12, k12⟩, r13⟩, hT, hP, hH, hRf, hW, hA, hL, hSep⟩ := id hr
  obtain ⟨⟨k1, r2, k2⟩, hu, htl, htf, ht255⟩ := id hT
  obtain ⟨⟨k3, r4⟩, ⟨k4, l4⟩, ws, wl, wv⟩ := id hW
  refine Ct.mk RX10 "bit" hy_X10_bit (Nat.le_of_ble_eq_true rfl) (fun X hX C => ?_)
  change Go X G _ 4 0 0 S 0 [(0, .ref x), (1, .int p), (2, .int i)] []
  refine g_aload_n 0 0 C dX10_bit_0 rfl rfl ?_
  refine g_iload_n 1 1 C dX10_bit_1 rfl rfl ?_
  refine g_callV (As := [.int p]) (rest := []) C dX10_bit_2 (c_C_rowAt_err hr hZ he) wC_X10_rowAt wM_X10_188 wI_X10_rowAt wS_X10_rowAt wN_X10 (kne kx) (pf_10 kx) rfl hd_X10_rowAt ⟨by decide, by decide, by decide, by decide⟩ (Nat.le_of_ble_eq_true rfl) (fun r_ S_ h_ => ?_)
  obtain ⟨rfl, rfl⟩ := h_
  change Go X G _ 4 _ _ S 5 [(0, .ref x), (1, .int p), (2, .int i)] [.null]
  refine g_astore_nN (lv' := [(3, .null), (0, .ref x), (1, .int p), (2, .int i)]) C dX10_bit_5 rfl (by decide) rfl ?_
  refine g_aload_nN 0 3 C dX10_bit_6 rfl rfl ?_
  refine g_ifnonnullN C dX10_bit_7 ?_
  refine g_aload_n 1 0 C dX10_bit_10 rfl rfl ?_
  refine g_iload_n 2 1 C dX10_bit_11 rfl rfl ?_
  refine g_callV (As := [.int p]) (rest := []) C dX10_bit_12 (c_C_ref hr hZ) wC_X10_refusalAt wM_X10_88 wI_X10_refusalAt wS_X10_refusalAt wN_X10 (kne kx) (pf_10 kx) rfl hd_X10_refusalAt ⟨by decide, by decide, by decide, by decide⟩ (Nat.le_of_ble_eq_true rfl) (fun r_ S_ h_ => ?_)
  obtain ⟨rfl, rfl⟩ := h_
  change Go X G _ 4 _ _ S 15 [(3, .null), (0, .ref x), (1, .int p), (2, .int i)] [.int (reA Z p)]
  exact g_iret C dX10_bit_15 (by decide) (by decide) (⟨by unfold A_bit; rw [he, ref_rowed he], ⟨c, D, by exact hr⟩, Fk.refl S⟩)
set_option maxRecDepth 100000 in
set_option maxHeartbeats 2000000 in
theorem c_C_bit_ok {lX : Launch} {G : Gx} {S : PS} {x : Nat} {c : Nat → Nat} {D : Nat → Nat → Nat} {Z : ZT} (hr : RCD S Z x c D) (hZ : okZ Z) {j t : Nat} (hj : j < 10) (hp : zP Z j = t + 1) (he : rowedE Z (nI j) = .inr t) {i : Int32} : Ct lX yX10_bit cX10_bit 4 (Option.some Jvm.ClassFile.FieldType.int) rm_X10_bit G [.ref x, .int (nI j), .int i] S (fun r S' => r = some (.int (A_bit Z (nI j) i)) ∧ RC S' (Z) x ∧ Fk S S') := by
  obtain ⟨⟨⟨kx, r0, k0⟩, r1, r3, r5, ⟨r7, k7⟩, ⟨r8, k8⟩, ⟨r9, k9⟩, ⟨r10, k10⟩, ⟨r11, k11⟩, ⟨r12, k12⟩, r13⟩, hT, hP, hH, hRf, hW, hA, hL, hSep⟩ := id hr
  obtain ⟨⟨k1, r2, k2⟩, hu, htl, htf, ht255⟩ := id hT
  obtain ⟨⟨k3, r4⟩, ⟨k4, l4⟩, ws, wl, wv⟩ := id hW
  have hok := (hZ.th hj hp).1
  have hkr : ¬ (tK (zH Z t) = 1 ∨ tK (zH Z t) = 6) := by obtain ⟨j2, _, e2, h2, h3⟩ := rowedE_inr he; exact h3
  have hrw := hr.rowOf hZ hj hp hkr
  obtain ⟨⟨k_a, rb_a, rw_a, rt_a, ru_a⟩, ⟨k_w, l_w⟩, ⟨k_t, l_t⟩, ⟨k_u, l_u⟩, ⟨la_a, lb_a⟩, on_a, ⟨bl_a, b01⟩, wd_⟩ := id hrw.1
  have hon := ones_lt b01 (tB (zH Z t)).length
  refine Ct.mk RX10 "bit" hy_X10_bit (Nat.le_of_ble_eq_true rfl) (fun X hX C => ?_)
  change Go X G _ 4 0 0 S 0 [(0, .ref x), (1, .int (nI j)), (2, .int i)] []
  refine g_aload_n 0 0 C dX10_bit_0 rfl rfl ?_
  refine g_iload_n 1 1 C dX10_bit_1 rfl rfl ?_
  refine g_callV (As := [.int (nI j)]) (rest := []) C dX10_bit_2 (c_C_rowAt_ok hr hZ hj hp he) wC_X10_rowAt wM_X10_188 wI_X10_rowAt wS_X10_rowAt wN_X10 (kne kx) (pf_10 kx) rfl hd_X10_rowAt ⟨by decide, by decide, by decide, by decide⟩ (Nat.le_of_ble_eq_true rfl) (fun r_ S_ h_ => ?_)
  obtain ⟨rfl, rfl⟩ := h_
  change Go X G _ 4 _ _ S 5 [(0, .ref x), (1, .int (nI j)), (2, .int i)] [.ref ((D t 4))]
  refine g_astore_n (lv' := [(3, .ref ((D t 4))), (0, .ref x), (1, .int (nI j)), (2, .int i)]) C dX10_bit_5 rfl (by decide) rfl ?_
  refine g_aload_n 0 3 C dX10_bit_6 rfl rfl ?_
  refine g_ifnonnull 16 C dX10_bit_7 (by decide) ?_
  refine g_aload_n 0 3 C dX10_bit_16 rfl rfl ?_
  refine g_iload_n 3 2 C dX10_bit_17 rfl rfl ?_
  refine g_callV (As := [.int i]) (rest := []) C dX10_bit_18 (c_R_hasBit hrw.1) wC_X6_hasBit wM_X10_205 wI_X6_hasBit wS_X6_hasBit wN_X6 (kne k_a) (pf_7 k_a) rfl hd_X6_hasBit ⟨by decide, by decide, by decide, by decide⟩ (Nat.le_of_ble_eq_true rfl) (fun r_ S_ h_ => ?_)
  obtain ⟨rfl, rfl⟩ := h_
  change Go X G _ 4 _ _ S 21 [(3, .ref ((D t 4))), (0, .ref x), (1, .int (nI j)), (2, .int i)] [.int (bI (inR i (tB (zH Z t)).length))]
  refine g_if_eq 32 C dX10_bit_21 (by decide) (fun c21 => ?_) (fun c21 => ?_)
  · have ei := bI_f c21
    refine g_bipush (v := -5) C dX10_bit_32 (by decide) ?_
    exact g_iret C dX10_bit_34 (by decide) (by decide) (⟨by unfold A_bit; rw [he]; simp only []; rw [ei, if_neg (by decide)], ⟨c, D, hr⟩, Fk.refl S⟩)
  · have ei := bI_t c21
    obtain ⟨k, hk, rfl⟩ := inR_spec ei (by omega)
    refine g_aload_n 0 3 C dX10_bit_24 rfl rfl ?_
    refine g_iload_n 3 2 C dX10_bit_25 rfl rfl ?_
    refine g_callV (As := [.int (nI k)]) (rest := []) C dX10_bit_26 (c_R_bitAt hrw.1 hk) wC_X6_bitAt wM_X10_208 wI_X6_bitAt wS_X6_bitAt wN_X6 (kne k_a) (pf_7 k_a) rfl hd_X6_bitAt ⟨by decide, by decide, by decide, by decide⟩ (Nat.le_of_ble_eq_true rfl) (fun r_ S_ h_ => ?_)
    obtain ⟨rfl, rfl⟩ := h_
    change Go X G _ 4 _ _ S 29 [(3, .ref ((D t 4))), (0, .ref x), (1, .int (nI j)), (2, .int (nI k))] [.int (nI ((tB (zH Z t)).getD k 0))]
    refine g_goto 34 C dX10_bit_29 (by decide) ?_
    exact g_iret C dX10_bit_34 (by decide) (by decide) (⟨by unfold A_bit; rw [he]; simp only []; rw [ei, if_pos rfl, nI_clamp (by omega)], ⟨c, D, hr⟩, Fk.refl S⟩)
theorem c_C_bit {lX : Launch} {G : Gx} {S : PS} {x : Nat} {c : Nat → Nat} {D : Nat → Nat → Nat} {Z : ZT} (hr : RCD S Z x c D) (hZ : okZ Z) {p : Int32} {i : Int32} : Ct lX yX10_bit cX10_bit 4 (Option.some Jvm.ClassFile.FieldType.int) rm_X10_bit G [.ref x, .int p, .int i] S (fun r S' => r = some (.int (A_bit Z p i)) ∧ RC S' (Z) x ∧ Fk S S') := by
  cases he : rowedE Z p with
  | inl e => exact c_C_bit_err hr hZ he
  | inr t =>
    obtain ⟨j, hj, rfl, hp, -⟩ := rowedE_inr he
    exact c_C_bit_ok hr hZ hj hp he
theorem thC.row {S S' : PS} {d : Nat → Nat} {T T' : Th} {A : Nat → Prop} (h : thC S d T) (hf : Fr S S' A) (hd0 : ¬ A (d 0)) (hd : tK T ≤ 5 → ∀ i, i < 9 → (i = 4 ∨ i = 5 ∨ i = 6 ∨ i = 7) ∨ ¬ A (d i)) (hk : ¬ (tK T = 1 ∨ tK T = 6)) (e1 : tK T' = tK T) (e2 : tL T' = tL T) (hr : rowC S' (d 4) (d 5) (d 6) (d 7) (tB T') (tA T') (tC T')) : thC S' d T' := by
  refine ⟨fun g => ?_, fun g => absurd (Or.inr (e1 ▸ g)) hk, fun g => ?_⟩
  · rw [e1] at g
    have hn : ∀ i, i < 9 → ¬ (i = 4 ∨ i = 5 ∨ i = 6 ∨ i = 7) → ¬ A (d i) := fun i hi hne => (hd g i hi).resolve_left hne
    obtain ⟨⟨a1, a2, a3⟩, a4, ⟨a5, a6⟩, ⟨a7, a8, a9⟩, a10, a11⟩ := h.1 g
    have c0 := hf.2.1 (d 0) (by rw [a1]; decide) (Or.inl (hn 0 (by decide) (by omega)))
    have c8 := hf.2.1 (d 8) (by rw [a8]; decide) (Or.inl (hn 8 (by decide) (by omega)))
    have hk1 : tK T ≠ 1 := fun e => hk (Or.inl e)
    unfold bookC
    rw [e1, e2]
    exact ⟨⟨(ce_kd c0).trans a1, (ce_bk_kind c0).trans a2, (ce_bk_list c0).trans a3⟩, a4.fr hf (hn 1 (by decide) (by omega)) (hn 2 (by decide) (by omega)) (hn 3 (by decide) (by omega)), ⟨(ce_bk_edges c0).trans a5, (ce_bk_part c0).trans a6⟩, ⟨(ce_bk_eb c0).trans a7, (ce_kd c8).trans a8, fun e => ⟨(ce_ln c8).trans (a9 e).1, fun q hq => by rw [ce_eb_a c8]; exact (a9 e).2 q hq⟩⟩, fun e => absurd e hk1, fun e => ⟨(ce_bk_row c0).trans (a11 e).1, hr⟩⟩
  · rw [e1] at g
    obtain ⟨⟨a1, a2, a3⟩, a4⟩ := h.2.2 g
    have c0 := hf.2.1 (d 0) (by rw [a1]; decide) (Or.inl hd0)
    unfold bareC
    rw [e1]
    exact ⟨⟨(ce_kd c0).trans a1, (ce_br_kind c0).trans a2, (ce_br_row c0).trans a3⟩, hr⟩
abbrev A4 (d : Nat → Nat) : Nat → Prop := fun q => q = d 4 ∨ q = d 5 ∨ q = d 6 ∨ q = d 7
theorem A4.in {d : Nat → Nat} {a : Nat} (h : A4 d a) : ∃ i, i < 9 ∧ a = d i := by
  rcases h with h | h | h | h
  · exact ⟨4, by decide, h⟩
  · exact ⟨5, by decide, h⟩
  · exact ⟨6, by decide, h⟩
  · exact ⟨7, by decide, h⟩
theorem A4.key {S : PS} {d : Nat → Nat} {b : List Nat} {la lb : Bool} (hr : rowC S (d 4) (d 5) (d 6) (d 7) b la lb) {a k : Nat} (e : kd S a = k) (n1 : k ≠ 7 := by decide) (n2 : k ≠ 17 := by decide) (n3 : k ≠ 13 := by decide) (n4 : k ≠ 14 := by decide) : ¬ A4 d a := fun z => by
  rcases z with z | z | z | z
  · rw [z, hr.1.1.1] at e; exact n1 e.symm
  · rw [z, hr.1.2.1.1] at e; exact n2 e.symm
  · rw [z, hr.1.2.2.1.1] at e; exact n3 e.symm
  · rw [z, hr.1.2.2.2.1.1] at e; exact n4 e.symm
theorem A4.out {S : PS} {d : Nat → Nat} {T : Th} (h : thC S d T) {b : List Nat} {la lb : Bool} (hr : rowC S (d 4) (d 5) (d 6) (d 7) b la lb) : tK T ≤ 5 → ∀ i, i < 9 → (i = 4 ∨ i = 5 ∨ i = 6 ∨ i = 7) ∨ ¬ A4 d (d i) := by
  intro g i hi
  have hb := h.1 g
  match i, hi with
  | 0, _ => exact Or.inr (A4.key hr hb.1.1)
  | 1, _ => exact Or.inr (A4.key hr hb.2.1.1.1)
  | 2, _ => exact Or.inr (A4.key hr hb.2.1.2.1.1)
  | 3, _ => exact Or.inr (A4.key hr hb.2.1.2.2.1.1)
  | 4, _ => exact Or.inl (by omega)
  | 5, _ => exact Or.inl (by omega)
  | 6, _ => exact Or.inl (by omega)
  | 7, _ => exact Or.inl (by omega)
  | 8, _ => exact Or.inr (A4.key hr hb.2.2.2.1.2.1)
  | i + 9, h => omega
theorem A4.out0 {S : PS} {d : Nat → Nat} {T : Th} (h : thC S d T) (hk7 : tK T ≤ 7) (hk : ¬ (tK T = 1 ∨ tK T = 6)) {b : List Nat} {la lb : Bool} (hr : rowC S (d 4) (d 5) (d 6) (d 7) b la lb) : ¬ A4 d (d 0) := by
  by_cases g : tK T ≤ 5
  · exact A4.key hr (h.1 g).1.1
  · exact A4.key hr (h.2.2 (by omega)).1.1
theorem rowP.lost {S : PS} {a wd ta tb : Nat} {b : List Nat} {la lb : Bool} {u v : Bool} (h : rowP S a wd ta tb b la lb) : rowP (rw_lb_ (rw_la_ S (va_up (rw_la S) a (bI u))) (va_up (rw_lb S) a (bI v))) a wd ta tb b u v := by
  obtain ⟨h1, h2, h3, h4, ⟨h5, h6⟩, h7⟩ := h
  exact ⟨h1, h2, h3, h4, ⟨va_up_self _ _ _, va_up_self _ _ _⟩, h7⟩
theorem rowC.loseA {S : PS} {a wd ta tb : Nat} {b : List Nat} {la lb : Bool} (h : rowC S a wd ta tb b la lb) : rowC (rw_la_ S (va_up (rw_la S) a (nI 1))) a wd ta tb b true lb := by
  obtain ⟨⟨h1, h2, h3, h4, ⟨h5, h6⟩, h7⟩, h8, h9⟩ := h
  exact ⟨⟨h1, h2, h3, h4, ⟨va_up_self _ _ _, h6⟩, h7⟩, fun e => absurd e (by decide), h9⟩
theorem rowC.loseB {S : PS} {a wd ta tb : Nat} {b : List Nat} {la lb : Bool} (h : rowC S a wd ta tb b la lb) : rowC (rw_lb_ S (va_up (rw_lb S) a (nI 1))) a wd ta tb b la true := by
  obtain ⟨⟨h1, h2, h3, h4, ⟨h5, h6⟩, h7⟩, h8, h9⟩ := h
  exact ⟨⟨h1, h2, h3, h4, ⟨h5, va_up_self _ _ _⟩, h7⟩, h8, fun e => absurd e (by decide)⟩
theorem in2_no {i : Int32} (h0 : ¬ i = 0) (h1 : ¬ i = nI 1) : inR i 2 = false := by
  rw [Bool.eq_false_iff]
  intro h
  obtain ⟨k, hk, rfl⟩ := inR_spec h (by decide)
  have : k = 0 ∨ k = 1 := by omega
  rcases this with rfl | rfl
  · exact h0 rfl
  · exact h1 rfl
