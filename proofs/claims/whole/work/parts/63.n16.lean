set_option maxRecDepth 100000 in
set_option maxHeartbeats 2000000 in
theorem c_C_share_o1 {lX : Launch} {G : Gx} {S : PS} {x : Nat} {c : Nat → Nat} {D : Nat → Nat → Nat} {Z : ZT} (hr : RCD S Z x c D) (hZ : okZ Z) {p q : Int32} (hp : p < 0 ∨ nI 10 ≤ p) : Ct lX yX10_share cX10_share 3 (Option.some Jvm.ClassFile.FieldType.int) rm_X10_share G [.ref x, .int p, .int q] S (fun r S' => r = some (.int (A_share Z p q)) ∧ RC S' (N_share Z p q) x ∧ Fk S S') := by
  obtain ⟨⟨⟨kx, r0, k0⟩, r1, r3, r5, ⟨r7, k7⟩, ⟨r8, k8⟩, ⟨r9, k9⟩, ⟨r10, k10⟩, ⟨r11, k11⟩, ⟨r12, k12⟩, r13⟩, hT, hP, hH, hRf, hW, hA, hL, hSep⟩ := id hr
  obtain ⟨⟨k1, r2, k2⟩, hu, htl, htf, ht255⟩ := id hT
  obtain ⟨⟨k3, r4⟩, ⟨k4, l4⟩, ws, wl, wv⟩ := id hW
  refine Ct.mk RX10 "share" hy_X10_share (Nat.le_of_ble_eq_true rfl) (fun X hX C => ?_)
  change Go X G _ 3 0 0 S 0 [(0, .ref x), (1, .int p), (2, .int q)] []
  refine g_iload_n 1 1 C dX10_share_0 rfl rfl ?_
  refine g_callS (As := [.int p]) (rest := []) C dX10_share_1 (c_C_beyond_out hp) wC_X10_isBeyond wM_X10_63 wZ_X10_isBeyond wN_X10 hd_X10_isBeyond.2 ⟨by decide, by decide, by decide, by decide⟩ (Nat.le_of_ble_eq_true rfl) (fun r_ S_ h_ => ?_)
  obtain ⟨rfl, rfl⟩ := h_
  change Go X G _ 3 _ _ S 4 [(0, .ref x), (1, .int p), (2, .int q)] [.int (nI 1)]
  refine g_nif_ne 14 (by decide) C dX10_share_4 (by decide) (fun _ => ?_) (fun c => absurd c (by decide))
  refine g_bipush (v := -2) C dX10_share_14 (by decide) ?_
  exact g_iret C dX10_share_16 (by decide) (by decide) (⟨by unfold A_share; rw [if_pos (Or.inl hp)], ⟨c, D, by unfold N_share; rw [if_pos (Or.inl hp)]; exact hr⟩, Fk.refl S⟩)
set_option maxRecDepth 100000 in
set_option maxHeartbeats 2000000 in
theorem c_C_share_o2 {lX : Launch} {G : Gx} {S : PS} {x : Nat} {c : Nat → Nat} {D : Nat → Nat → Nat} {Z : ZT} (hr : RCD S Z x c D) (hZ : okZ Z) {j : Nat} {q : Int32} (hj : j < 10) (hp : q < 0 ∨ nI 10 ≤ q) : Ct lX yX10_share cX10_share 3 (Option.some Jvm.ClassFile.FieldType.int) rm_X10_share G [.ref x, .int (nI j), .int q] S (fun r S' => r = some (.int (A_share Z (nI j) q)) ∧ RC S' (N_share Z (nI j) q) x ∧ Fk S S') := by
  obtain ⟨⟨⟨kx, r0, k0⟩, r1, r3, r5, ⟨r7, k7⟩, ⟨r8, k8⟩, ⟨r9, k9⟩, ⟨r10, k10⟩, ⟨r11, k11⟩, ⟨r12, k12⟩, r13⟩, hT, hP, hH, hRf, hW, hA, hL, hSep⟩ := id hr
  obtain ⟨⟨k1, r2, k2⟩, hu, htl, htf, ht255⟩ := id hT
  obtain ⟨⟨k3, r4⟩, ⟨k4, l4⟩, ws, wl, wv⟩ := id hW
  refine Ct.mk RX10 "share" hy_X10_share (Nat.le_of_ble_eq_true rfl) (fun X hX C => ?_)
  change Go X G _ 3 0 0 S 0 [(0, .ref x), (1, .int (nI j)), (2, .int q)] []
  refine g_iload_n 1 1 C dX10_share_0 rfl rfl ?_
  refine g_callS (As := [.int (nI j)]) (rest := []) C dX10_share_1 (c_C_beyond_in hj) wC_X10_isBeyond wM_X10_63 wZ_X10_isBeyond wN_X10 hd_X10_isBeyond.2 ⟨by decide, by decide, by decide, by decide⟩ (Nat.le_of_ble_eq_true rfl) (fun r_ S_ h_ => ?_)
  obtain ⟨rfl, rfl⟩ := h_
  change Go X G _ 3 _ _ S 4 [(0, .ref x), (1, .int (nI j)), (2, .int q)] [.int (nI 0)]
  refine g_nif_ne 14 (by decide) C dX10_share_4 (by decide) (fun c => absurd c (by decide)) (fun _ => ?_)
  refine g_iload_n 2 2 C dX10_share_7 rfl rfl ?_
  refine g_callS (As := [.int q]) (rest := []) C dX10_share_8 (c_C_beyond_out hp) wC_X10_isBeyond wM_X10_63 wZ_X10_isBeyond wN_X10 hd_X10_isBeyond.2 ⟨by decide, by decide, by decide, by decide⟩ (Nat.le_of_ble_eq_true rfl) (fun r_ S_ h_ => ?_)
  obtain ⟨rfl, rfl⟩ := h_
  change Go X G _ 3 _ _ S 11 [(0, .ref x), (1, .int (nI j)), (2, .int q)] [.int (nI 1)]
  refine g_nif_eq 17 (by decide) C dX10_share_11 (by decide) (fun c => absurd c (by decide)) (fun _ => ?_)
  refine g_bipush (v := -2) C dX10_share_14 (by decide) ?_
  exact g_iret C dX10_share_16 (by decide) (by decide) (⟨by unfold A_share; rw [if_pos (Or.inr hp)], ⟨c, D, by unfold N_share; rw [if_pos (Or.inr hp)]; exact hr⟩, Fk.refl S⟩)
set_option maxRecDepth 100000 in
set_option maxHeartbeats 2000000 in
theorem c_C_share_no {lX : Launch} {G : Gx} {S : PS} {x : Nat} {c : Nat → Nat} {D : Nat → Nat → Nat} {Z : ZT} (hr : RCD S Z x c D) (hZ : okZ Z) {j i : Nat} (hj : j < 10) (hi : i < 10) (hp : zP Z j = 0) : Ct lX yX10_share cX10_share 3 (Option.some Jvm.ClassFile.FieldType.int) rm_X10_share G [.ref x, .int (nI j), .int (nI i)] S (fun r S' => r = some (.int (A_share Z (nI j) (nI i))) ∧ RC S' (N_share Z (nI j) (nI i)) x ∧ Fk S S') := by
  obtain ⟨⟨⟨kx, r0, k0⟩, r1, r3, r5, ⟨r7, k7⟩, ⟨r8, k8⟩, ⟨r9, k9⟩, ⟨r10, k10⟩, ⟨r11, k11⟩, ⟨r12, k12⟩, r13⟩, hT, hP, hH, hRf, hW, hA, hL, hSep⟩ := id hr
  obtain ⟨⟨k1, r2, k2⟩, hu, htl, htf, ht255⟩ := id hT
  obtain ⟨⟨k3, r4⟩, ⟨k4, l4⟩, ws, wl, wv⟩ := id hW
  refine Ct.mk RX10 "share" hy_X10_share (Nat.le_of_ble_eq_true rfl) (fun X hX C => ?_)
  change Go X G _ 3 0 0 S 0 [(0, .ref x), (1, .int (nI j)), (2, .int (nI i))] []
  refine g_iload_n 1 1 C dX10_share_0 rfl rfl ?_
  refine g_callS (As := [.int (nI j)]) (rest := []) C dX10_share_1 (c_C_beyond_in hj) wC_X10_isBeyond wM_X10_63 wZ_X10_isBeyond wN_X10 hd_X10_isBeyond.2 ⟨by decide, by decide, by decide, by decide⟩ (Nat.le_of_ble_eq_true rfl) (fun r_ S_ h_ => ?_)
  obtain ⟨rfl, rfl⟩ := h_
  change Go X G _ 3 _ _ S 4 [(0, .ref x), (1, .int (nI j)), (2, .int (nI i))] [.int (nI 0)]
  refine g_nif_ne 14 (by decide) C dX10_share_4 (by decide) (fun c => absurd c (by decide)) (fun _ => ?_)
  refine g_iload_n 2 2 C dX10_share_7 rfl rfl ?_
  refine g_callS (As := [.int (nI i)]) (rest := []) C dX10_share_8 (c_C_beyond_in hi) wC_X10_isBeyond wM_X10_63 wZ_X10_isBeyond wN_X10 hd_X10_isBeyond.2 ⟨by decide, by decide, by decide, by decide⟩ (Nat.le_of_ble_eq_true rfl) (fun r_ S_ h_ => ?_)
  obtain ⟨rfl, rfl⟩ := h_
  change Go X G _ 3 _ _ S 11 [(0, .ref x), (1, .int (nI j)), (2, .int (nI i))] [.int (nI 0)]
  refine g_nif_eq 17 (by decide) C dX10_share_11 (by decide) (fun _ => ?_) (fun c => absurd c (by decide))
  refine g_aload_n 0 0 C dX10_share_17 rfl rfl ?_
  refine gr_ba_places C dX10_share_18 kx wF_X10_11 r0 ?_
  refine g_iload_n 1 1 C dX10_share_21 rfl rfl ?_
  refine ga_pl_a C dX10_share_22 k0 (by omega) ?_
  refine g_topv (show va_rf ((pl_a S) j) = .null by rw [show pl_a S j = none from by rw [hP j hj, if_pos hp]]; rfl) ?_
  refine g_ifnonnullN C dX10_share_23 ?_
  refine g_bipush (v := -3) C dX10_share_26 (by decide) ?_
  exact g_iret C dX10_share_28 (by decide) (by decide) (⟨by unfold A_share; rw [if_neg (fun z => z.elim (nI_in10 hj) (nI_in10 hi)), look_no hj hp], ⟨c, D, by unfold N_share; rw [if_neg (fun z => z.elim (nI_in10 hj) (nI_in10 hi)), nI_clamp (by omega), if_pos hp]; exact hr⟩, Fk.refl S⟩)
set_option maxRecDepth 100000 in
set_option maxHeartbeats 2000000 in
theorem c_C_share_atb {lX : Launch} {G : Gx} {S : PS} {x : Nat} {c : Nat → Nat} {D : Nat → Nat → Nat} {Z : ZT} (hr : RCD S Z x c D) (hZ : okZ Z) {j i t : Nat} (hj : j < 10) (hi : i < 10) (hp : zP Z j = t + 1) (hk : tK (zH Z t) ≤ 5) : Ct lX yX10_share cX10_share 3 (Option.some Jvm.ClassFile.FieldType.int) rm_X10_share G [.ref x, .int (nI j), .int (nI i)] S (fun r S' => r = some (.int (A_share Z (nI j) (nI i))) ∧ RC S' (N_share Z (nI j) (nI i)) x ∧ Fk S S') := by
  obtain ⟨⟨⟨kx, r0, k0⟩, r1, r3, r5, ⟨r7, k7⟩, ⟨r8, k8⟩, ⟨r9, k9⟩, ⟨r10, k10⟩, ⟨r11, k11⟩, ⟨r12, k12⟩, r13⟩, hT, hP, hH, hRf, hW, hA, hL, hSep⟩ := id hr
  obtain ⟨⟨k1, r2, k2⟩, hu, htl, htf, ht255⟩ := id hT
  obtain ⟨⟨k3, r4⟩, ⟨k4, l4⟩, ws, wl, wv⟩ := id hW
  have hth := hH t ⟨j, hj, hp⟩
  have hok := (hZ.th hj hp).1
  have hk7 := hok.2.1
  have hk1 := hok.1
  have hb := hth.1 hk
  refine Ct.mk RX10 "share" hy_X10_share (Nat.le_of_ble_eq_true rfl) (fun X hX C => ?_)
  change Go X G _ 3 0 0 S 0 [(0, .ref x), (1, .int (nI j)), (2, .int (nI i))] []
  refine g_iload_n 1 1 C dX10_share_0 rfl rfl ?_
  refine g_callS (As := [.int (nI j)]) (rest := []) C dX10_share_1 (c_C_beyond_in hj) wC_X10_isBeyond wM_X10_63 wZ_X10_isBeyond wN_X10 hd_X10_isBeyond.2 ⟨by decide, by decide, by decide, by decide⟩ (Nat.le_of_ble_eq_true rfl) (fun r_ S_ h_ => ?_)
  obtain ⟨rfl, rfl⟩ := h_
  change Go X G _ 3 _ _ S 4 [(0, .ref x), (1, .int (nI j)), (2, .int (nI i))] [.int (nI 0)]
  refine g_nif_ne 14 (by decide) C dX10_share_4 (by decide) (fun c => absurd c (by decide)) (fun _ => ?_)
  refine g_iload_n 2 2 C dX10_share_7 rfl rfl ?_
  refine g_callS (As := [.int (nI i)]) (rest := []) C dX10_share_8 (c_C_beyond_in hi) wC_X10_isBeyond wM_X10_63 wZ_X10_isBeyond wN_X10 hd_X10_isBeyond.2 ⟨by decide, by decide, by decide, by decide⟩ (Nat.le_of_ble_eq_true rfl) (fun r_ S_ h_ => ?_)
  obtain ⟨rfl, rfl⟩ := h_
  change Go X G _ 3 _ _ S 11 [(0, .ref x), (1, .int (nI j)), (2, .int (nI i))] [.int (nI 0)]
  refine g_nif_eq 17 (by decide) C dX10_share_11 (by decide) (fun _ => ?_) (fun c => absurd c (by decide))
  refine g_aload_n 0 0 C dX10_share_17 rfl rfl ?_
  refine gr_ba_places C dX10_share_18 kx wF_X10_11 r0 ?_
  refine g_iload_n 1 1 C dX10_share_21 rfl rfl ?_
  refine gar_pl_a C dX10_share_22 k0 (by omega) (show pl_a S j = some (D t 0) from by rw [hP j hj, if_neg (by omega), hp]; rfl) ?_
  refine g_ifnonnull 29 C dX10_share_23 (by decide) ?_
  refine g_aload_n 0 0 C dX10_share_29 rfl rfl ?_
  refine gr_ba_places C dX10_share_30 kx wF_X10_11 r0 ?_
  refine g_iload_n 2 2 C dX10_share_33 rfl rfl ?_
  refine g_aload_n 0 0 C dX10_share_34 rfl rfl ?_
  refine gr_ba_places C dX10_share_35 kx wF_X10_11 r0 ?_
  refine g_iload_n 1 1 C dX10_share_38 rfl rfl ?_
  refine gar_pl_a C dX10_share_39 k0 (by omega) (show pl_a S j = some (D t 0) from by rw [hP j hj, if_neg (by omega), hp]; rfl) ?_
  refine gs_pl (r := (RX2, TX2, 6)) C dX10_share_40 k0 (by omega) (kne hb.1.1) (pf_3 hb.1.1) rfl C.2.2.2.2.2.1.2.2.2.1.2.1 ?_
  refine g_aload_n 0 0 C dX10_share_41 rfl rfl ?_
  refine g_iload_n 2 2 C dX10_share_42 rfl rfl ?_
  have hr2 : RCD (pl_a_ S (va_up (pl_a S) i (some (D t 0)))) (zP_ Z (setP (zP Z) i (t + 1))) x c D := hr.place (Or.inr ⟨j, hj, hp.symm⟩) (by rw [if_neg (by omega)]; rfl)
  have hZ2 : okZ (zP_ Z (setP (zP Z) i (t + 1))) := hZ.place (Or.inr ⟨j, hj, hp.symm⟩)
  have hp2 : zP (zP_ Z (setP (zP Z) i (t + 1))) i = t + 1 := by show setP (zP Z) i (t + 1) i = _; unfold setP; rw [if_pos rfl]
  refine g_callV (As := [.int (nI i)]) (rest := []) C dX10_share_43 (c_C_held_at hr2 hZ2 hi hp2) wC_X10_kindHeld wM_X10_80 wI_X10_kindHeld wS_X10_kindHeld wN_X10 (kne kx) (pf_10 kx) rfl hd_X10_kindHeld ⟨by decide, by decide, by decide, by decide⟩ (Nat.le_of_ble_eq_true rfl) (fun r_ S_ h_ => ?_)
  obtain ⟨rfl, rfl⟩ := h_
  change Go X G _ 3 _ _ (pl_a_ S (va_up (pl_a S) i (some (D t 0)))) 46 [(0, .ref x), (1, .int (nI j)), (2, .int (nI i))] [.int (nI (tK (zH Z t)))]
  exact g_iret C dX10_share_46 (by decide) (by decide) (⟨by unfold A_share; rw [if_neg (fun z => z.elim (nI_in10 hj) (nI_in10 hi)), look_at hj hp], ⟨c, D, by unfold N_share; rw [if_neg (fun z => z.elim (nI_in10 hj) (nI_in10 hi)), nI_clamp (by omega), nI_clamp (by omega), if_neg (by omega), hp]; exact hr2⟩, ⟨rfl, fun _ _ => rfl⟩⟩)
set_option maxRecDepth 100000 in
set_option maxHeartbeats 2000000 in
theorem c_C_share_atd {lX : Launch} {G : Gx} {S : PS} {x : Nat} {c : Nat → Nat} {D : Nat → Nat → Nat} {Z : ZT} (hr : RCD S Z x c D) (hZ : okZ Z) {j i t : Nat} (hj : j < 10) (hi : i < 10) (hp : zP Z j = t + 1) (hk : tK (zH Z t) = 6) : Ct lX yX10_share cX10_share 3 (Option.some Jvm.ClassFile.FieldType.int) rm_X10_share G [.ref x, .int (nI j), .int (nI i)] S (fun r S' => r = some (.int (A_share Z (nI j) (nI i))) ∧ RC S' (N_share Z (nI j) (nI i)) x ∧ Fk S S') := by
  obtain ⟨⟨⟨kx, r0, k0⟩, r1, r3, r5, ⟨r7, k7⟩, ⟨r8, k8⟩, ⟨r9, k9⟩, ⟨r10, k10⟩, ⟨r11, k11⟩, ⟨r12, k12⟩, r13⟩, hT, hP, hH, hRf, hW, hA, hL, hSep⟩ := id hr
  obtain ⟨⟨k1, r2, k2⟩, hu, htl, htf, ht255⟩ := id hT
  obtain ⟨⟨k3, r4⟩, ⟨k4, l4⟩, ws, wl, wv⟩ := id hW
  have hth := hH t ⟨j, hj, hp⟩
  have hok := (hZ.th hj hp).1
  have hk7 := hok.2.1
  have hk1 := hok.1
  have hb := hth.2.1 hk
  refine Ct.mk RX10 "share" hy_X10_share (Nat.le_of_ble_eq_true rfl) (fun X hX C => ?_)
  change Go X G _ 3 0 0 S 0 [(0, .ref x), (1, .int (nI j)), (2, .int (nI i))] []
  refine g_iload_n 1 1 C dX10_share_0 rfl rfl ?_
  refine g_callS (As := [.int (nI j)]) (rest := []) C dX10_share_1 (c_C_beyond_in hj) wC_X10_isBeyond wM_X10_63 wZ_X10_isBeyond wN_X10 hd_X10_isBeyond.2 ⟨by decide, by decide, by decide, by decide⟩ (Nat.le_of_ble_eq_true rfl) (fun r_ S_ h_ => ?_)
  obtain ⟨rfl, rfl⟩ := h_
  change Go X G _ 3 _ _ S 4 [(0, .ref x), (1, .int (nI j)), (2, .int (nI i))] [.int (nI 0)]
  refine g_nif_ne 14 (by decide) C dX10_share_4 (by decide) (fun c => absurd c (by decide)) (fun _ => ?_)
  refine g_iload_n 2 2 C dX10_share_7 rfl rfl ?_
  refine g_callS (As := [.int (nI i)]) (rest := []) C dX10_share_8 (c_C_beyond_in hi) wC_X10_isBeyond wM_X10_63 wZ_X10_isBeyond wN_X10 hd_X10_isBeyond.2 ⟨by decide, by decide, by decide, by decide⟩ (Nat.le_of_ble_eq_true rfl) (fun r_ S_ h_ => ?_)
  obtain ⟨rfl, rfl⟩ := h_
  change Go X G _ 3 _ _ S 11 [(0, .ref x), (1, .int (nI j)), (2, .int (nI i))] [.int (nI 0)]
  refine g_nif_eq 17 (by decide) C dX10_share_11 (by decide) (fun _ => ?_) (fun c => absurd c (by decide))
  refine g_aload_n 0 0 C dX10_share_17 rfl rfl ?_
  refine gr_ba_places C dX10_share_18 kx wF_X10_11 r0 ?_
  refine g_iload_n 1 1 C dX10_share_21 rfl rfl ?_
  refine gar_pl_a C dX10_share_22 k0 (by omega) (show pl_a S j = some (D t 0) from by rw [hP j hj, if_neg (by omega), hp]; rfl) ?_
  refine g_ifnonnull 29 C dX10_share_23 (by decide) ?_
  refine g_aload_n 0 0 C dX10_share_29 rfl rfl ?_
  refine gr_ba_places C dX10_share_30 kx wF_X10_11 r0 ?_
  refine g_iload_n 2 2 C dX10_share_33 rfl rfl ?_
  refine g_aload_n 0 0 C dX10_share_34 rfl rfl ?_
  refine gr_ba_places C dX10_share_35 kx wF_X10_11 r0 ?_
  refine g_iload_n 1 1 C dX10_share_38 rfl rfl ?_
  refine gar_pl_a C dX10_share_39 k0 (by omega) (show pl_a S j = some (D t 0) from by rw [hP j hj, if_neg (by omega), hp]; rfl) ?_
  refine gs_pl (r := (RX3, TX3, 2)) C dX10_share_40 k0 (by omega) (kne hb.1.1) (pf_4 hb.1.1) rfl C.2.2.2.2.2.1.2.2.2.1.2.2 ?_
  refine g_aload_n 0 0 C dX10_share_41 rfl rfl ?_
  refine g_iload_n 2 2 C dX10_share_42 rfl rfl ?_
  have hr2 : RCD (pl_a_ S (va_up (pl_a S) i (some (D t 0)))) (zP_ Z (setP (zP Z) i (t + 1))) x c D := hr.place (Or.inr ⟨j, hj, hp.symm⟩) (by rw [if_neg (by omega)]; rfl)
  have hZ2 : okZ (zP_ Z (setP (zP Z) i (t + 1))) := hZ.place (Or.inr ⟨j, hj, hp.symm⟩)
  have hp2 : zP (zP_ Z (setP (zP Z) i (t + 1))) i = t + 1 := by show setP (zP Z) i (t + 1) i = _; unfold setP; rw [if_pos rfl]
  refine g_callV (As := [.int (nI i)]) (rest := []) C dX10_share_43 (c_C_held_at hr2 hZ2 hi hp2) wC_X10_kindHeld wM_X10_80 wI_X10_kindHeld wS_X10_kindHeld wN_X10 (kne kx) (pf_10 kx) rfl hd_X10_kindHeld ⟨by decide, by decide, by decide, by decide⟩ (Nat.le_of_ble_eq_true rfl) (fun r_ S_ h_ => ?_)
  obtain ⟨rfl, rfl⟩ := h_
  change Go X G _ 3 _ _ (pl_a_ S (va_up (pl_a S) i (some (D t 0)))) 46 [(0, .ref x), (1, .int (nI j)), (2, .int (nI i))] [.int (nI (tK (zH Z t)))]
  exact g_iret C dX10_share_46 (by decide) (by decide) (⟨by unfold A_share; rw [if_neg (fun z => z.elim (nI_in10 hj) (nI_in10 hi)), look_at hj hp], ⟨c, D, by unfold N_share; rw [if_neg (fun z => z.elim (nI_in10 hj) (nI_in10 hi)), nI_clamp (by omega), nI_clamp (by omega), if_neg (by omega), hp]; exact hr2⟩, ⟨rfl, fun _ _ => rfl⟩⟩)
set_option maxRecDepth 100000 in
set_option maxHeartbeats 2000000 in
theorem c_C_share_atr {lX : Launch} {G : Gx} {S : PS} {x : Nat} {c : Nat → Nat} {D : Nat → Nat → Nat} {Z : ZT} (hr : RCD S Z x c D) (hZ : okZ Z) {j i t : Nat} (hj : j < 10) (hi : i < 10) (hp : zP Z j = t + 1) (hk : tK (zH Z t) = 7) : Ct lX yX10_share cX10_share 3 (Option.some Jvm.ClassFile.FieldType.int) rm_X10_share G [.ref x, .int (nI j), .int (nI i)] S (fun r S' => r = some (.int (A_share Z (nI j) (nI i))) ∧ RC S' (N_share Z (nI j) (nI i)) x ∧ Fk S S') := by
  obtain ⟨⟨⟨kx, r0, k0⟩, r1, r3, r5, ⟨r7, k7⟩, ⟨r8, k8⟩, ⟨r9, k9⟩, ⟨r10, k10⟩, ⟨r11, k11⟩, ⟨r12, k12⟩, r13⟩, hT, hP, hH, hRf, hW, hA, hL, hSep⟩ := id hr
  obtain ⟨⟨k1, r2, k2⟩, hu, htl, htf, ht255⟩ := id hT
  obtain ⟨⟨k3, r4⟩, ⟨k4, l4⟩, ws, wl, wv⟩ := id hW
  have hth := hH t ⟨j, hj, hp⟩
  have hok := (hZ.th hj hp).1
  have hk7 := hok.2.1
  have hk1 := hok.1
  have hb := hth.2.2 hk
  refine Ct.mk RX10 "share" hy_X10_share (Nat.le_of_ble_eq_true rfl) (fun X hX C => ?_)
  change Go X G _ 3 0 0 S 0 [(0, .ref x), (1, .int (nI j)), (2, .int (nI i))] []
  refine g_iload_n 1 1 C dX10_share_0 rfl rfl ?_
  refine g_callS (As := [.int (nI j)]) (rest := []) C dX10_share_1 (c_C_beyond_in hj) wC_X10_isBeyond wM_X10_63 wZ_X10_isBeyond wN_X10 hd_X10_isBeyond.2 ⟨by decide, by decide, by decide, by decide⟩ (Nat.le_of_ble_eq_true rfl) (fun r_ S_ h_ => ?_)
  obtain ⟨rfl, rfl⟩ := h_
  change Go X G _ 3 _ _ S 4 [(0, .ref x), (1, .int (nI j)), (2, .int (nI i))] [.int (nI 0)]
  refine g_nif_ne 14 (by decide) C dX10_share_4 (by decide) (fun c => absurd c (by decide)) (fun _ => ?_)
  refine g_iload_n 2 2 C dX10_share_7 rfl rfl ?_
  refine g_callS (As := [.int (nI i)]) (rest := []) C dX10_share_8 (c_C_beyond_in hi) wC_X10_isBeyond wM_X10_63 wZ_X10_isBeyond wN_X10 hd_X10_isBeyond.2 ⟨by decide, by decide, by decide, by decide⟩ (Nat.le_of_ble_eq_true rfl) (fun r_ S_ h_ => ?_)
  obtain ⟨rfl, rfl⟩ := h_
  change Go X G _ 3 _ _ S 11 [(0, .ref x), (1, .int (nI j)), (2, .int (nI i))] [.int (nI 0)]
  refine g_nif_eq 17 (by decide) C dX10_share_11 (by decide) (fun _ => ?_) (fun c => absurd c (by decide))
  refine g_aload_n 0 0 C dX10_share_17 rfl rfl ?_
  refine gr_ba_places C dX10_share_18 kx wF_X10_11 r0 ?_
  refine g_iload_n 1 1 C dX10_share_21 rfl rfl ?_
  refine gar_pl_a C dX10_share_22 k0 (by omega) (show pl_a S j = some (D t 0) from by rw [hP j hj, if_neg (by omega), hp]; rfl) ?_
  refine g_ifnonnull 29 C dX10_share_23 (by decide) ?_
  refine g_aload_n 0 0 C dX10_share_29 rfl rfl ?_
  refine gr_ba_places C dX10_share_30 kx wF_X10_11 r0 ?_
  refine g_iload_n 2 2 C dX10_share_33 rfl rfl ?_
  refine g_aload_n 0 0 C dX10_share_34 rfl rfl ?_
  refine gr_ba_places C dX10_share_35 kx wF_X10_11 r0 ?_
  refine g_iload_n 1 1 C dX10_share_38 rfl rfl ?_
  refine gar_pl_a C dX10_share_39 k0 (by omega) (show pl_a S j = some (D t 0) from by rw [hP j hj, if_neg (by omega), hp]; rfl) ?_
  refine gs_pl (r := (RX0, TX0, 2)) C dX10_share_40 k0 (by omega) (kne hb.1.1) (pf_1 hb.1.1) rfl C.2.2.2.2.2.1.2.2.2.1.1 ?_
  refine g_aload_n 0 0 C dX10_share_41 rfl rfl ?_
  refine g_iload_n 2 2 C dX10_share_42 rfl rfl ?_
  have hr2 : RCD (pl_a_ S (va_up (pl_a S) i (some (D t 0)))) (zP_ Z (setP (zP Z) i (t + 1))) x c D := hr.place (Or.inr ⟨j, hj, hp.symm⟩) (by rw [if_neg (by omega)]; rfl)
  have hZ2 : okZ (zP_ Z (setP (zP Z) i (t + 1))) := hZ.place (Or.inr ⟨j, hj, hp.symm⟩)
  have hp2 : zP (zP_ Z (setP (zP Z) i (t + 1))) i = t + 1 := by show setP (zP Z) i (t + 1) i = _; unfold setP; rw [if_pos rfl]
  refine g_callV (As := [.int (nI i)]) (rest := []) C dX10_share_43 (c_C_held_at hr2 hZ2 hi hp2) wC_X10_kindHeld wM_X10_80 wI_X10_kindHeld wS_X10_kindHeld wN_X10 (kne kx) (pf_10 kx) rfl hd_X10_kindHeld ⟨by decide, by decide, by decide, by decide⟩ (Nat.le_of_ble_eq_true rfl) (fun r_ S_ h_ => ?_)
  obtain ⟨rfl, rfl⟩ := h_
  change Go X G _ 3 _ _ (pl_a_ S (va_up (pl_a S) i (some (D t 0)))) 46 [(0, .ref x), (1, .int (nI j)), (2, .int (nI i))] [.int (nI (tK (zH Z t)))]
  exact g_iret C dX10_share_46 (by decide) (by decide) (⟨by unfold A_share; rw [if_neg (fun z => z.elim (nI_in10 hj) (nI_in10 hi)), look_at hj hp], ⟨c, D, by unfold N_share; rw [if_neg (fun z => z.elim (nI_in10 hj) (nI_in10 hi)), nI_clamp (by omega), nI_clamp (by omega), if_neg (by omega), hp]; exact hr2⟩, ⟨rfl, fun _ _ => rfl⟩⟩)
theorem c_C_share {lX : Launch} {G : Gx} {S : PS} {x : Nat} {c : Nat → Nat} {D : Nat → Nat → Nat} {Z : ZT} (hr : RCD S Z x c D) (hZ : okZ Z) {p q : Int32} : Ct lX yX10_share cX10_share 3 (Option.some Jvm.ClassFile.FieldType.int) rm_X10_share G [.ref x, .int p, .int q] S (fun r S' => r = some (.int (A_share Z p q)) ∧ RC S' (N_share Z p q) x ∧ Fk S S') := by
  rcases look_cases Z p with h | ⟨j, hj, rfl, h⟩
  · exact c_C_share_o1 hr hZ h
  · rcases look_cases Z q with h' | ⟨i, hi, rfl, -⟩
    · exact c_C_share_o2 hr hZ hj h'
    · rcases h with h | ⟨t, h⟩
      · exact c_C_share_no hr hZ hj hi h
      · have hok := (hZ.th hj h).1
        have h1 := hok.1
        have h2 := hok.2.1
        by_cases g : tK (zH Z t) ≤ 5
        · exact c_C_share_atb hr hZ hj hi h g
        · by_cases g2 : tK (zH Z t) = 6
          · exact c_C_share_atd hr hZ hj hi h g2
          · exact c_C_share_atr hr hZ hj hi h (by omega)
theorem img_le {l : List Ent} (hl : okL l) {K : Nat} (hK : K ≤ 5) : ∀ i, i < (imgL K l).length → (imgL K l).getD i 0 ≤ 255 := by
  intro i hi
  unfold imgL at hi ⊢
  rw [List.length_append] at hi
  have hi' : i < (imB K l).length + 1 := hi
  rw [getD_app]
  split
  · exact imB_le hl (by omega) i (by assumption)
  · rw [show i - (imB K l).length = 0 by omega]
    show csB _ ≤ 255
    unfold csB
    omega
set_option maxRecDepth 100000 in
set_option maxHeartbeats 2000000 in
theorem c_C_image_err {lX : Launch} {G : Gx} {S : PS} {x : Nat} {c : Nat → Nat} {D : Nat → Nat → Nat} {Z : ZT} (hr : RCD S Z x c D) (hZ : okZ Z) {p e : Int32} (he : bookE Z p = .inl e)  : Ct lX yX10_image cX10_image 3 (Option.some Jvm.ClassFile.FieldType.int) rm_X10_image G [.ref x, .int p] S (fun r S' => r = some (.int (A_image Z p)) ∧ RC S' (N_image Z p) x ∧ Fk S S') := by
  obtain ⟨⟨⟨kx, r0, k0⟩, r1, r3, r5, ⟨r7, k7⟩, ⟨r8, k8⟩, ⟨r9, k9⟩, ⟨r10, k10⟩, ⟨r11, k11⟩, ⟨r12, k12⟩, r13⟩, hT, hP, hH, hRf, hW, hA, hL, hSep⟩ := id hr
  obtain ⟨⟨k1, r2, k2⟩, hu, htl, htf, ht255⟩ := id hT
  obtain ⟨⟨k3, r4⟩, ⟨k4, l4⟩, ws, wl, wv⟩ := id hW
  refine Ct.mk RX10 "image" hy_X10_image (Nat.le_of_ble_eq_true rfl) (fun X hX C => ?_)
  change Go X G _ 3 0 0 S 0 [(0, .ref x), (1, .int p)] []
  refine g_aload_n 0 0 C dX10_image_0 rfl rfl ?_
  refine g_iload_n 1 1 C dX10_image_1 rfl rfl ?_
  refine g_callV (As := [.int p]) (rest := []) C dX10_image_2 (c_C_bookAt_err hr hZ he) wC_X10_bookAt wM_X10_114 wI_X10_bookAt wS_X10_bookAt wN_X10 (kne kx) (pf_10 kx) rfl hd_X10_bookAt ⟨by decide, by decide, by decide, by decide⟩ (Nat.le_of_ble_eq_true rfl) (fun r_ S_ h_ => ?_)
  obtain ⟨rfl, rfl⟩ := h_
  change Go X G _ 3 _ _ S 5 [(0, .ref x), (1, .int p)] [.null]
  refine g_astore_nN (lv' := [(2, .null), (0, .ref x), (1, .int p)]) C dX10_image_5 rfl (by decide) rfl ?_
  refine g_aload_nN 0 2 C dX10_image_6 rfl rfl ?_
  refine g_ifnonnullN C dX10_image_7 ?_
  refine g_aload_n 1 0 C dX10_image_10 rfl rfl ?_
  refine g_iload_n 2 1 C dX10_image_11 rfl rfl ?_
  refine g_callV (As := [.int p]) (rest := []) C dX10_image_12 (c_C_ref hr hZ) wC_X10_refusalAt wM_X10_88 wI_X10_refusalAt wS_X10_refusalAt wN_X10 (kne kx) (pf_10 kx) rfl hd_X10_refusalAt ⟨by decide, by decide, by decide, by decide⟩ (Nat.le_of_ble_eq_true rfl) (fun r_ S_ h_ => ?_)
  obtain ⟨rfl, rfl⟩ := h_
  change Go X G _ 3 _ _ S 15 [(2, .null), (0, .ref x), (1, .int p)] [.int (reA Z p)]
  exact g_iret C dX10_image_15 (by decide) (by decide) (⟨by unfold A_image; rw [he, ref_book he], ⟨c, D, by unfold N_image; rw [he]; exact hr⟩, Fk.refl S⟩)
set_option maxRecDepth 100000 in
set_option maxHeartbeats 2000000 in
theorem c_C_image_ok {lX : Launch} {G : Gx} {S : PS} {x : Nat} {c : Nat → Nat} {D : Nat → Nat → Nat} {Z : ZT} (hr : RCD S Z x c D) (hZ : okZ Z) {j t : Nat} (hj : j < 10) (hp : zP Z j = t + 1) (he : bookE Z (nI j) = .inr t)  : Ct lX yX10_image cX10_image 3 (Option.some Jvm.ClassFile.FieldType.int) rm_X10_image G [.ref x, .int (nI j)] S (fun r S' => r = some (.int (A_image Z (nI j))) ∧ RC S' (N_image Z (nI j)) x ∧ Fk S S') := by
  obtain ⟨⟨⟨kx, r0, k0⟩, r1, r3, r5, ⟨r7, k7⟩, ⟨r8, k8⟩, ⟨r9, k9⟩, ⟨r10, k10⟩, ⟨r11, k11⟩, ⟨r12, k12⟩, r13⟩, hT, hP, hH, hRf, hW, hA, hL, hSep⟩ := id hr
  obtain ⟨⟨k1, r2, k2⟩, hu, htl, htf, ht255⟩ := id hT
  obtain ⟨⟨k3, r4⟩, ⟨k4, l4⟩, ws, wl, wv⟩ := id hW
  have hok := (hZ.th hj hp).1
  have hk5 : tK (zH Z t) ≤ 5 := by obtain ⟨j2, _, e2, h2, h3⟩ := bookE_inr he; exact h3
  have hbk := (hH t ⟨j, hj, hp⟩).1 hk5
  have hbl := hbk.2.1
  have hla := hbk.2.1.2.2.2.2.1
  have hl100 := hok.2.2.1.1
  refine Ct.mk RX10 "image" hy_X10_image (Nat.le_of_ble_eq_true rfl) (fun X hX C => ?_)
  change Go X G _ 3 0 0 S 0 [(0, .ref x), (1, .int (nI j))] []
  refine g_aload_n 0 0 C dX10_image_0 rfl rfl ?_
  refine g_iload_n 1 1 C dX10_image_1 rfl rfl ?_
  refine g_callV (As := [.int (nI j)]) (rest := []) C dX10_image_2 (c_C_bookAt_ok hr hZ hj hp he) wC_X10_bookAt wM_X10_114 wI_X10_bookAt wS_X10_bookAt wN_X10 (kne kx) (pf_10 kx) rfl hd_X10_bookAt ⟨by decide, by decide, by decide, by decide⟩ (Nat.le_of_ble_eq_true rfl) (fun r_ S_ h_ => ?_)
  obtain ⟨rfl, rfl⟩ := h_
  change Go X G _ 3 _ _ S 5 [(0, .ref x), (1, .int (nI j))] [.ref ((D t 0))]
  refine g_astore_n (lv' := [(2, .ref ((D t 0))), (0, .ref x), (1, .int (nI j))]) C dX10_image_5 rfl (by decide) rfl ?_
  refine g_aload_n 0 2 C dX10_image_6 rfl rfl ?_
  refine g_ifnonnull 16 C dX10_image_7 (by decide) ?_
  refine g_aload_n 0 2 C dX10_image_16 rfl rfl ?_
  refine g_callV (As := []) (rest := []) C dX10_image_17 (c_K_lacks hbk hok) wC_X2_lacksTable wM_X10_118 wI_X2_lacksTable wS_X2_lacksTable wN_X2 (kne hbk.1.1) (pf_3 hbk.1.1) rfl hd_X2_lacksTable ⟨by decide, by decide, by decide, by decide⟩ (Nat.le_of_ble_eq_true rfl) (fun r_ S_ h_ => ?_)
  obtain ⟨rfl, rfl⟩ := h_
  change Go X G _ 3 _ _ S 20 [(2, .ref ((D t 0))), (0, .ref x), (1, .int (nI j))] [.int (bI (missT (zH Z t)))]
  refine g_if_eq 26 C dX10_image_20 (by decide) (fun c20 => ?_) (fun c20 => ?_)
  · have em := bI_f c20
    refine g_aload_n 0 2 C dX10_image_26 rfl rfl ?_
    refine g_callV (As := []) (rest := []) C dX10_image_27 (c_K_imageBytes hbk) wC_X2_imageBytes wM_X10_269 wI_X2_imageBytes wS_X2_imageBytes wN_X2 (kne hbk.1.1) (pf_3 hbk.1.1) rfl hd_X2_imageBytes ⟨by decide, by decide, by decide, by decide⟩ (Nat.le_of_ble_eq_true rfl) (fun r_ S_ h_ => ?_)
    obtain ⟨rfl, rfl⟩ := h_
    change Go X G _ 3 _ _ S 30 [(2, .ref ((D t 0))), (0, .ref x), (1, .int (nI j))] [.int (nI ((imgL (tK (zH Z t)) (tL (zH Z t))).length))]
    have hil : (imgL (tK (zH Z t)) (tL (zH Z t))).length ≤ 4000 := by
      rw [imgL_len]
      have := imK_le hok.2.2.1.2.1 (widthN_8 (tL (zH Z t))).2 (tL (zH Z t)).length (Nat.le_refl _)
      omega
    refine g_sipush (v := nI 1000) C dX10_image_30 (by decide) ?_
    refine g_ncmp_le 39 (by omega) (by omega) C dX10_image_33 (by decide) (fun c33 => ?_) (fun c33 => ?_)
    · refine g_aload_n 1 0 C dX10_image_39 rfl rfl ?_
      refine gr_ba_reel C dX10_image_40 kx wF_X10_18 r1 ?_
      refine g_aload_n 0 2 C dX10_image_43 rfl rfl ?_
      refine g_callV (As := [.ref ((D t 0))]) (rest := []) C dX10_image_44 (c_T_writeImage (S := S) k1 r2 k2 hbk.1.1 hbk.1.2.2 hbk.1.2.1 hk5 hbl hok.2.2.1 c33) wC_X7_writeImage wM_X10_272 wI_X7_writeImage wS_X7_writeImage wN_X7 (kne k1) (pf_8 k1) rfl hd_X7_writeImage ⟨by decide, by decide, by decide, by decide⟩ (Nat.le_of_ble_eq_true rfl) (fun r_ S_ h_ => ?_)
      obtain ⟨f2, rfl, rfl, hf2⟩ := h_
      change Go X G _ 3 _ _ (tpC S f2 (imgL (tK (zH Z t)) (tL (zH Z t)))) 47 [(2, .ref ((D t 0))), (0, .ref x), (1, .int (nI j))] []
      refine g_aload_n 1 0 C dX10_image_47 rfl rfl ?_
      refine gr_ba_reel C dX10_image_48 kx wF_X10_18 r1 ?_
      refine gf_tp_used C dX10_image_51 k1 wF_X10_52 ?_
      have hfr : Fr S (tpC S f2 (imgL (tK (zH Z t)) (tL (zH Z t)))) No := ((Fr.refl S No).s_tp_a).s_tp_used
      exact g_iret C dX10_image_54 (by decide) (by decide) ⟨by unfold A_image; rw [he]; simp only []; rw [em, if_neg (by decide), if_pos c33], ⟨c, D, by
        unfold N_image; rw [he]; simp only []; rw [em, if_neg (by decide), if_pos c33]
        exact hr.no (Z' := zT_ Z (imgL (tK (zH Z t)) (tL (zH Z t)))) hfr rfl rfl rfl ⟨⟨k1, r2, k2⟩, rfl, c33, hf2, img_le hok.2.2.1 hk5⟩ rfl hRf⟩, hfr.fk⟩
    · refine g_bipush (v := -7) C dX10_image_36 (by decide) ?_
      exact g_iret C dX10_image_38 (by decide) (by decide) (⟨by unfold A_image; rw [he]; simp only []; rw [em, if_neg (by decide), if_neg (by omega)], ⟨c, D, by unfold N_image; rw [he]; simp only []; rw [em, if_neg (by decide), if_neg (by omega)]; exact hr⟩, Fk.refl S⟩)
  · have em := bI_t c20
    refine g_bipush (v := -6) C dX10_image_23 (by decide) ?_
    exact g_iret C dX10_image_25 (by decide) (by decide) (⟨by unfold A_image; rw [he]; simp only []; rw [em, if_pos rfl], ⟨c, D, by unfold N_image; rw [he]; simp only []; rw [em, if_pos rfl]; exact hr⟩, Fk.refl S⟩)
theorem c_C_image {lX : Launch} {G : Gx} {S : PS} {x : Nat} {c : Nat → Nat} {D : Nat → Nat → Nat} {Z : ZT} (hr : RCD S Z x c D) (hZ : okZ Z) {p : Int32}  : Ct lX yX10_image cX10_image 3 (Option.some Jvm.ClassFile.FieldType.int) rm_X10_image G [.ref x, .int p] S (fun r S' => r = some (.int (A_image Z p)) ∧ RC S' (N_image Z p) x ∧ Fk S S') := by
  cases he : bookE Z p with
  | inl e => exact c_C_image_err hr hZ he
  | inr t =>
    obtain ⟨j, hj, rfl, hp, -⟩ := bookE_inr he
    exact c_C_image_ok hr hZ hj hp he
set_option maxRecDepth 100000 in
set_option maxHeartbeats 2000000 in
theorem c_C_unseal_o1 {lX : Launch} {G : Gx} {S : PS} {x : Nat} {c : Nat → Nat} {D : Nat → Nat → Nat} {Z : ZT} (hr : RCD S Z x c D) (hZ : okZ Z) {p q : Int32} (hp : p < 0 ∨ nI 10 ≤ p) : Ct lX yX10_unseal cX10_unseal 4 (Option.some Jvm.ClassFile.FieldType.int) rm_X10_unseal G [.ref x, .int p, .int q] S (fun r S' => r = some (.int (A_unseal Z p q)) ∧ RC S' (N_unseal Z p q) x ∧ Fk S S') := by
  obtain ⟨⟨⟨kx, r0, k0⟩, r1, r3, r5, ⟨r7, k7⟩, ⟨r8, k8⟩, ⟨r9, k9⟩, ⟨r10, k10⟩, ⟨r11, k11⟩, ⟨r12, k12⟩, r13⟩, hT, hP, hH, hRf, hW, hA, hL, hSep⟩ := id hr
  obtain ⟨⟨k1, r2, k2⟩, hu, htl, htf, ht255⟩ := id hT
  obtain ⟨⟨k3, r4⟩, ⟨k4, l4⟩, ws, wl, wv⟩ := id hW
  refine Ct.mk RX10 "unseal" hy_X10_unseal (Nat.le_of_ble_eq_true rfl) (fun X hX C => ?_)
  change Go X G _ 4 0 0 S 0 [(0, .ref x), (1, .int p), (2, .int q)] []
  refine g_iload_n 1 1 C dX10_unseal_0 rfl rfl ?_
  refine g_callS (As := [.int p]) (rest := []) C dX10_unseal_1 (c_C_beyond_out hp) wC_X10_isBeyond wM_X10_63 wZ_X10_isBeyond wN_X10 hd_X10_isBeyond.2 ⟨by decide, by decide, by decide, by decide⟩ (Nat.le_of_ble_eq_true rfl) (fun r_ S_ h_ => ?_)
  obtain ⟨rfl, rfl⟩ := h_
  change Go X G _ 4 _ _ S 4 [(0, .ref x), (1, .int p), (2, .int q)] [.int (nI 1)]
  refine g_nif_ne 14 (by decide) C dX10_unseal_4 (by decide) (fun _ => ?_) (fun c => absurd c (by decide))
  refine g_bipush (v := -2) C dX10_unseal_14 (by decide) ?_
  exact g_iret C dX10_unseal_16 (by decide) (by decide) (⟨by unfold A_unseal; rw [if_pos (Or.inl hp)], ⟨c, D, by unfold N_unseal; rw [if_pos (Or.inl hp)]; exact hr⟩, Fk.refl S⟩)
set_option maxRecDepth 100000 in
set_option maxHeartbeats 2000000 in
theorem c_C_unseal_o2 {lX : Launch} {G : Gx} {S : PS} {x : Nat} {c : Nat → Nat} {D : Nat → Nat → Nat} {Z : ZT} (hr : RCD S Z x c D) (hZ : okZ Z) {j : Nat} {q : Int32} (hj : j < 10) (hp : q < 0 ∨ nI 10 ≤ q) : Ct lX yX10_unseal cX10_unseal 4 (Option.some Jvm.ClassFile.FieldType.int) rm_X10_unseal G [.ref x, .int (nI j), .int q] S (fun r S' => r = some (.int (A_unseal Z (nI j) q)) ∧ RC S' (N_unseal Z (nI j) q) x ∧ Fk S S') := by
  obtain ⟨⟨⟨kx, r0, k0⟩, r1, r3, r5, ⟨r7, k7⟩, ⟨r8, k8⟩, ⟨r9, k9⟩, ⟨r10, k10⟩, ⟨r11, k11⟩, ⟨r12, k12⟩, r13⟩, hT, hP, hH, hRf, hW, hA, hL, hSep⟩ := id hr
  obtain ⟨⟨k1, r2, k2⟩, hu, htl, htf, ht255⟩ := id hT
  obtain ⟨⟨k3, r4⟩, ⟨k4, l4⟩, ws, wl, wv⟩ := id hW
  refine Ct.mk RX10 "unseal" hy_X10_unseal (Nat.le_of_ble_eq_true rfl) (fun X hX C => ?_)
  change Go X G _ 4 0 0 S 0 [(0, .ref x), (1, .int (nI j)), (2, .int q)] []
  refine g_iload_n 1 1 C dX10_unseal_0 rfl rfl ?_
  refine g_callS (As := [.int (nI j)]) (rest := []) C dX10_unseal_1 (c_C_beyond_in hj) wC_X10_isBeyond wM_X10_63 wZ_X10_isBeyond wN_X10 hd_X10_isBeyond.2 ⟨by decide, by decide, by decide, by decide⟩ (Nat.le_of_ble_eq_true rfl) (fun r_ S_ h_ => ?_)
  obtain ⟨rfl, rfl⟩ := h_
  change Go X G _ 4 _ _ S 4 [(0, .ref x), (1, .int (nI j)), (2, .int q)] [.int (nI 0)]
  refine g_nif_ne 14 (by decide) C dX10_unseal_4 (by decide) (fun c => absurd c (by decide)) (fun _ => ?_)
  refine g_iload_n 2 2 C dX10_unseal_7 rfl rfl ?_
  refine g_callS (As := [.int q]) (rest := []) C dX10_unseal_8 (c_C_beyond_out hp) wC_X10_isBeyond wM_X10_63 wZ_X10_isBeyond wN_X10 hd_X10_isBeyond.2 ⟨by decide, by decide, by decide, by decide⟩ (Nat.le_of_ble_eq_true rfl) (fun r_ S_ h_ => ?_)
  obtain ⟨rfl, rfl⟩ := h_
  change Go X G _ 4 _ _ S 11 [(0, .ref x), (1, .int (nI j)), (2, .int q)] [.int (nI 1)]
  refine g_nif_eq 17 (by decide) C dX10_unseal_11 (by decide) (fun c => absurd c (by decide)) (fun _ => ?_)
  refine g_bipush (v := -2) C dX10_unseal_14 (by decide) ?_
  exact g_iret C dX10_unseal_16 (by decide) (by decide) (⟨by unfold A_unseal; rw [if_pos (Or.inr hp)], ⟨c, D, by unfold N_unseal; rw [if_pos (Or.inr hp)]; exact hr⟩, Fk.refl S⟩)
set_option maxRecDepth 100000 in
set_option maxHeartbeats 2000000 in
theorem c_C_unseal_err {lX : Launch} {G : Gx} {S : PS} {x : Nat} {c : Nat → Nat} {D : Nat → Nat → Nat} {Z : ZT} (hr : RCD S Z x c D) (hZ : okZ Z) {j i : Nat} {e : Int32} (hj : j < 10) (hi : i < 10) (he : bookE Z (nI j) = .inl e) : Ct lX yX10_unseal cX10_unseal 4 (Option.some Jvm.ClassFile.FieldType.int) rm_X10_unseal G [.ref x, .int (nI j), .int (nI i)] S (fun r S' => r = some (.int (A_unseal Z (nI j) (nI i))) ∧ RC S' (N_unseal Z (nI j) (nI i)) x ∧ Fk S S') := by
  obtain ⟨⟨⟨kx, r0, k0⟩, r1, r3, r5, ⟨r7, k7⟩, ⟨r8, k8⟩, ⟨r9, k9⟩, ⟨r10, k10⟩, ⟨r11, k11⟩, ⟨r12, k12⟩, r13⟩, hT, hP, hH, hRf, hW, hA, hL, hSep⟩ := id hr
  obtain ⟨⟨k1, r2, k2⟩, hu, htl, htf, ht255⟩ := id hT
  obtain ⟨⟨k3, r4⟩, ⟨k4, l4⟩, ws, wl, wv⟩ := id hW
  refine Ct.mk RX10 "unseal" hy_X10_unseal (Nat.le_of_ble_eq_true rfl) (fun X hX C => ?_)
  change Go X G _ 4 0 0 S 0 [(0, .ref x), (1, .int (nI j)), (2, .int (nI i))] []
  refine g_iload_n 1 1 C dX10_unseal_0 rfl rfl ?_
  refine g_callS (As := [.int (nI j)]) (rest := []) C dX10_unseal_1 (c_C_beyond_in hj) wC_X10_isBeyond wM_X10_63 wZ_X10_isBeyond wN_X10 hd_X10_isBeyond.2 ⟨by decide, by decide, by decide, by decide⟩ (Nat.le_of_ble_eq_true rfl) (fun r_ S_ h_ => ?_)
  obtain ⟨rfl, rfl⟩ := h_
  change Go X G _ 4 _ _ S 4 [(0, .ref x), (1, .int (nI j)), (2, .int (nI i))] [.int (nI 0)]
  refine g_nif_ne 14 (by decide) C dX10_unseal_4 (by decide) (fun c => absurd c (by decide)) (fun _ => ?_)
  refine g_iload_n 2 2 C dX10_unseal_7 rfl rfl ?_
  refine g_callS (As := [.int (nI i)]) (rest := []) C dX10_unseal_8 (c_C_beyond_in hi) wC_X10_isBeyond wM_X10_63 wZ_X10_isBeyond wN_X10 hd_X10_isBeyond.2 ⟨by decide, by decide, by decide, by decide⟩ (Nat.le_of_ble_eq_true rfl) (fun r_ S_ h_ => ?_)
  obtain ⟨rfl, rfl⟩ := h_
  change Go X G _ 4 _ _ S 11 [(0, .ref x), (1, .int (nI j)), (2, .int (nI i))] [.int (nI 0)]
  refine g_nif_eq 17 (by decide) C dX10_unseal_11 (by decide) (fun _ => ?_) (fun c => absurd c (by decide))
  refine g_aload_n 0 0 C dX10_unseal_17 rfl rfl ?_
  refine g_iload_n 1 1 C dX10_unseal_18 rfl rfl ?_
  refine g_callV (As := [.int (nI j)]) (rest := []) C dX10_unseal_19 (c_C_bookAt_err hr hZ he) wC_X10_bookAt wM_X10_114 wI_X10_bookAt wS_X10_bookAt wN_X10 (kne kx) (pf_10 kx) rfl hd_X10_bookAt ⟨by decide, by decide, by decide, by decide⟩ (Nat.le_of_ble_eq_true rfl) (fun r_ S_ h_ => ?_)
  obtain ⟨rfl, rfl⟩ := h_
  change Go X G _ 4 _ _ S 22 [(0, .ref x), (1, .int (nI j)), (2, .int (nI i))] [.null]
  refine g_astore_nN (lv' := [(3, .null), (0, .ref x), (1, .int (nI j)), (2, .int (nI i))]) C dX10_unseal_22 rfl (by decide) rfl ?_
  refine g_aload_nN 0 3 C dX10_unseal_23 rfl rfl ?_
  refine g_ifnonnullN C dX10_unseal_24 ?_
  refine g_aload_n 1 0 C dX10_unseal_27 rfl rfl ?_
  refine g_iload_n 2 1 C dX10_unseal_28 rfl rfl ?_
  refine g_callV (As := [.int (nI j)]) (rest := []) C dX10_unseal_29 (c_C_ref hr hZ) wC_X10_refusalAt wM_X10_88 wI_X10_refusalAt wS_X10_refusalAt wN_X10 (kne kx) (pf_10 kx) rfl hd_X10_refusalAt ⟨by decide, by decide, by decide, by decide⟩ (Nat.le_of_ble_eq_true rfl) (fun r_ S_ h_ => ?_)
  obtain ⟨rfl, rfl⟩ := h_
  change Go X G _ 4 _ _ S 32 [(3, .null), (0, .ref x), (1, .int (nI j)), (2, .int (nI i))] [.int (reA Z (nI j))]
  exact g_iret C dX10_unseal_32 (by decide) (by decide) (⟨by unfold A_unseal; rw [if_neg (fun z => z.elim (nI_in10 hj) (nI_in10 hi)), he, ref_book he], ⟨c, D, by unfold N_unseal; rw [if_neg (fun z => z.elim (nI_in10 hj) (nI_in10 hi)), he]; exact hr⟩, Fk.refl S⟩)
set_option maxRecDepth 100000 in
set_option maxHeartbeats 2000000 in
theorem c_C_unseal_ok {lX : Launch} {G : Gx} {S : PS} {x : Nat} {c : Nat → Nat} {D : Nat → Nat → Nat} {Z : ZT} (hr : RCD S Z x c D) (hZ : okZ Z) {j t i : Nat} (hj : j < 10) (hi : i < 10) (hp : zP Z j = t + 1) (he : bookE Z (nI j) = .inr t) : Ct lX yX10_unseal cX10_unseal 4 (Option.some Jvm.ClassFile.FieldType.int) rm_X10_unseal G [.ref x, .int (nI j), .int (nI i)] S (fun r S' => r = some (.int (A_unseal Z (nI j) (nI i))) ∧ RC S' (N_unseal Z (nI j) (nI i)) x ∧ Fk S S') := by
  obtain ⟨⟨⟨kx, r0, k0⟩, r1, r3, r5, ⟨r7, k7⟩, ⟨r8, k8⟩, ⟨r9, k9⟩, ⟨r10, k10⟩, ⟨r11, k11⟩, ⟨r12, k12⟩, r13⟩, hT, hP, hH, hRf, hW, hA, hL, hSep⟩ := id hr
  obtain ⟨⟨k1, r2, k2⟩, hu, htl, htf, ht255⟩ := id hT
  obtain ⟨⟨k3, r4⟩, ⟨k4, l4⟩, ws, wl, wv⟩ := id hW
  have hok := (hZ.th hj hp).1
  have hk5 : tK (zH Z t) ≤ 5 := by obtain ⟨j2, _, e2, h2, h3⟩ := bookE_inr he; exact h3
  have hbk := (hH t ⟨j, hj, hp⟩).1 hk5
  have hbl := hbk.2.1
  have hla := hbk.2.1.2.2.2.2.1
  have hl100 := hok.2.2.1.1
  refine Ct.mk RX10 "unseal" hy_X10_unseal (Nat.le_of_ble_eq_true rfl) (fun X hX C => ?_)
  change Go X G _ 4 0 0 S 0 [(0, .ref x), (1, .int (nI j)), (2, .int (nI i))] []
  refine g_iload_n 1 1 C dX10_unseal_0 rfl rfl ?_
  refine g_callS (As := [.int (nI j)]) (rest := []) C dX10_unseal_1 (c_C_beyond_in hj) wC_X10_isBeyond wM_X10_63 wZ_X10_isBeyond wN_X10 hd_X10_isBeyond.2 ⟨by decide, by decide, by decide, by decide⟩ (Nat.le_of_ble_eq_true rfl) (fun r_ S_ h_ => ?_)
  obtain ⟨rfl, rfl⟩ := h_
  change Go X G _ 4 _ _ S 4 [(0, .ref x), (1, .int (nI j)), (2, .int (nI i))] [.int (nI 0)]
  refine g_nif_ne 14 (by decide) C dX10_unseal_4 (by decide) (fun c => absurd c (by decide)) (fun _ => ?_)
  refine g_iload_n 2 2 C dX10_unseal_7 rfl rfl ?_
  refine g_callS (As := [.int (nI i)]) (rest := []) C dX10_unseal_8 (c_C_beyond_in hi) wC_X10_isBeyond wM_X10_63 wZ_X10_isBeyond wN_X10 hd_X10_isBeyond.2 ⟨by decide, by decide, by decide, by decide⟩ (Nat.le_of_ble_eq_true rfl) (fun r_ S_ h_ => ?_)
  obtain ⟨rfl, rfl⟩ := h_
  change Go X G _ 4 _ _ S 11 [(0, .ref x), (1, .int (nI j)), (2, .int (nI i))] [.int (nI 0)]
  refine g_nif_eq 17 (by decide) C dX10_unseal_11 (by decide) (fun _ => ?_) (fun c => absurd c (by decide))
  refine g_aload_n 0 0 C dX10_unseal_17 rfl rfl ?_
  refine g_iload_n 1 1 C dX10_unseal_18 rfl rfl ?_
  refine g_callV (As := [.int (nI j)]) (rest := []) C dX10_unseal_19 (c_C_bookAt_ok hr hZ hj hp he) wC_X10_bookAt wM_X10_114 wI_X10_bookAt wS_X10_bookAt wN_X10 (kne kx) (pf_10 kx) rfl hd_X10_bookAt ⟨by decide, by decide, by decide, by decide⟩ (Nat.le_of_ble_eq_true rfl) (fun r_ S_ h_ => ?_)
  obtain ⟨rfl, rfl⟩ := h_
  change Go X G _ 4 _ _ S 22 [(0, .ref x), (1, .int (nI j)), (2, .int (nI i))] [.ref ((D t 0))]
  refine g_astore_n (lv' := [(3, .ref ((D t 0))), (0, .ref x), (1, .int (nI j)), (2, .int (nI i))]) C dX10_unseal_22 rfl (by decide) rfl ?_
  refine g_aload_n 0 3 C dX10_unseal_23 rfl rfl ?_
  refine g_ifnonnull 33 C dX10_unseal_24 (by decide) ?_
  refine g_aload_n 0 3 C dX10_unseal_33 rfl rfl ?_
  refine g_callV (As := []) (rest := []) C dX10_unseal_34 (c_K_lacks hbk hok) wC_X2_lacksTable wM_X10_118 wI_X2_lacksTable wS_X2_lacksTable wN_X2 (kne hbk.1.1) (pf_3 hbk.1.1) rfl hd_X2_lacksTable ⟨by decide, by decide, by decide, by decide⟩ (Nat.le_of_ble_eq_true rfl) (fun r_ S_ h_ => ?_)
  obtain ⟨rfl, rfl⟩ := h_
  change Go X G _ 4 _ _ S 37 [(3, .ref ((D t 0))), (0, .ref x), (1, .int (nI j)), (2, .int (nI i))] [.int (bI (missT (zH Z t)))]
  refine g_if_eq 43 C dX10_unseal_37 (by decide) (fun c37 => ?_) (fun c37 => ?_)
  · have em := bI_f c37
    refine g_aload_n 1 0 C dX10_unseal_43 rfl rfl ?_
    refine gr_ba_places C dX10_unseal_44 kx wF_X10_11 r0 ?_
    refine g_iload_n 3 2 C dX10_unseal_47 rfl rfl ?_
    refine gw_Draft C dX10_unseal_48 wK_X10_67 ⟨by decide, by decide⟩ (fun q1 h0_q1 => ?_)
    have f0 : Fr S (nw_Draft S q1) No := (Fr.refl S No).n_Draft h0_q1
    have hbl1 := hbl.fr f0 id id id
    have hbk1 := hbk.fr f0 (fun i hi z => z)
    refine g_dup C dX10_unseal_51 rfl ?_
    refine g_aload_n 0 3 C dX10_unseal_52 rfl rfl ?_
    refine gr_bk_list C dX10_unseal_53 hbk1.1.1 wF_X10_124 hbk1.1.2.2 ?_
    refine g_bipush (v := nI 100) C dX10_unseal_56 (by decide) ?_
    refine g_callV (As := [.int (nI 100)]) (rest := [.ref q1, .ref q1, .int (nI i), .ref ((c 0))]) C dX10_unseal_58 (c_L_copy (S := nw_Draft S q1) hbl1 (by decide)) wC_X4_copyWithRoom wM_X10_125 wI_X4_copyWithRoom wS_X4_copyWithRoom wN_X4 (kne hbk1.2.1.1.1) (pf_5 hbk1.2.1.1.1) rfl hd_X4_copyWithRoom ⟨by decide, by decide, by decide, by decide⟩ (Nat.le_of_ble_eq_true rfl) (fun r_ Sl h_ => ?_)
    obtain ⟨a2, nr2, va2, rfl, fl, hml, hll, g1, g2, g3⟩ := h_
    change Go X G _ 4 _ _ Sl 61 [(3, .ref ((D t 0))), (0, .ref x), (1, .int (nI j)), (2, .int (nI i))] [.ref a2, .ref q1, .ref q1, .int (nI i), .ref ((c 0))]
    have f2 : Fr S Sl No := f0.trans fl (fun _ _ z => z)
    have ha2 : kd S a2 = 0 := f0.new g1
    have hnr : kd S nr2 = 0 := f0.new g2
    have hva : kd S va2 = 0 := f0.new g3
    have kq1 : kd Sl q1 = 4 := fl.kd_ (S := nw_Draft S q1) (va_up_self _ _ _)
    have k0' := f2.kd_ k0
    have hbk2 := hbk.fr f2 (fun i hi z => z)
    rw [show max 100 (tL (zH Z t)).length = 100 by omega] at hll
    refine g_callI (As := [.ref a2]) (rest := [.ref q1, .int (nI i), .ref ((c 0))]) C dX10_unseal_61 (c_D_init (S := Sl) kq1) wC_X3_init wM_X10_69 wI_X3_init wN_X3 rfl hd_X3_init.2 ⟨by decide, by decide, by decide, by decide⟩ (Nat.le_of_ble_eq_true rfl) (fun r_ S_ h_ => ?_)
    obtain ⟨rfl, rfl⟩ := h_
    change Go X G _ 4 _ _ (dr_list_ (dr_kind_ Sl (va_up (dr_kind Sl) q1 (nI 6))) (va_up (dr_list Sl) q1 (some a2))) 64 [(3, .ref ((D t 0))), (0, .ref x), (1, .int (nI j)), (2, .int (nI i))] [.ref q1, .int (nI i), .ref ((c 0))]
    refine gs_pl (r := (RX3, TX3, 2)) C dX10_unseal_64 k0' (by omega) (kne kq1) (pf_4 kq1) rfl C.2.2.2.2.2.1.2.2.2.1.2.2 ?_
    refine g_aload_n 0 3 C dX10_unseal_65 rfl rfl ?_
    refine gr_bk_list C dX10_unseal_66 hbk2.1.1 wF_X10_124 hbk2.1.2.2 ?_
    refine gf_ls_size C dX10_unseal_69 hbk2.2.1.1.1 wF_X10_129 ?_
    refine g_topi (hbk2.2.1.2.2.2.1) ?_
    have ff : Fr S (dr_list_ (dr_kind_ Sl (va_up (dr_kind Sl) q1 (nI 6))) (va_up (dr_list Sl) q1 (some a2))) No := (f2.u_dr_kind (Or.inl h0_q1)).u_dr_list (Or.inl h0_q1)
    have hthc : thC (dr_list_ (dr_kind_ Sl (va_up (dr_kind Sl) q1 (nI 6))) (va_up (dr_list Sl) q1 (some a2))) (fun i => if i = 1 then a2 else if i = 2 then nr2 else if i = 3 then va2 else q1) (6, (tL (zH Z t)), [], false, false) := ⟨fun g => absurd g (show ¬ (6 : Nat) ≤ 5 by decide), fun _ => ⟨⟨kq1, va_up_self _ _ _, va_up_self _ _ _⟩, hll⟩, fun g => absurd g (show ¬ (6 : Nat) = 7 by decide)⟩
    have hnew := hr.new (j := i) (d := (fun i => if i = 1 then a2 else if i = 2 then nr2 else if i = 3 then va2 else q1)) (T := (6, (tL (zH Z t)), [], false, false)) ff (fun i hi => by
      show kd S (if i = 1 then a2 else if i = 2 then nr2 else if i = 3 then va2 else q1) = 0
      split
      · exact ha2
      · split
        · exact hnr
        · split
          · exact hva
          · exact h0_q1) (fun i hi => by
      show kd Sl (if i = 1 then a2 else if i = 2 then nr2 else if i = 3 then va2 else q1) ≠ 0
      split
      · rw [hll.1.1]; decide
      · split
        · rw [hll.2.1.1]; decide
        · split
          · rw [hll.2.2.1.1]; decide
          · rw [kq1]; decide) hthc ((show mu (dr_list_ (dr_kind_ Sl (va_up (dr_kind Sl) q1 (nI 6))) (va_up (dr_list Sl) q1 (some a2))) = mu Sl from rfl).trans hml)
    exact g_iret C dX10_unseal_72 (by decide) (by decide) ⟨by unfold A_unseal; rw [if_neg (fun z => z.elim (nI_in10 hj) (nI_in10 hi)), he]; simp only []; rw [em, if_neg (by decide)], ⟨c, _, by unfold N_unseal newZ; rw [if_neg (fun z => z.elim (nI_in10 hj) (nI_in10 hi)), he]; simp only []; rw [em, if_neg (by decide), nI_clamp (by omega)]; exact hnew⟩, ff.fk⟩
  · have em := bI_t c37
    refine g_bipush (v := -6) C dX10_unseal_40 (by decide) ?_
    exact g_iret C dX10_unseal_42 (by decide) (by decide) (⟨by unfold A_unseal; rw [if_neg (fun z => z.elim (nI_in10 hj) (nI_in10 hi)), he]; simp only []; rw [em, if_pos rfl], ⟨c, D, by unfold N_unseal; rw [if_neg (fun z => z.elim (nI_in10 hj) (nI_in10 hi)), he]; simp only []; rw [em, if_pos rfl]; exact hr⟩, Fk.refl S⟩)
theorem c_C_unseal {lX : Launch} {G : Gx} {S : PS} {x : Nat} {c : Nat → Nat} {D : Nat → Nat → Nat} {Z : ZT} (hr : RCD S Z x c D) (hZ : okZ Z) {p q : Int32} : Ct lX yX10_unseal cX10_unseal 4 (Option.some Jvm.ClassFile.FieldType.int) rm_X10_unseal G [.ref x, .int p, .int q] S (fun r S' => r = some (.int (A_unseal Z p q)) ∧ RC S' (N_unseal Z p q) x ∧ Fk S S') := by
  rcases look_cases Z p with h | ⟨j, hj, rfl, -⟩
  · exact c_C_unseal_o1 hr hZ h
  · rcases look_cases Z q with h' | ⟨i, hi, rfl, -⟩
    · exact c_C_unseal_o2 hr hZ hj h'
    · cases he : bookE Z (nI j) with
      | inl e => exact c_C_unseal_err hr hZ hj hi he
      | inr t =>
        obtain ⟨j', hj', e', hp, -⟩ := bookE_inr he
        have : j' = j := ((nI_eq (by omega) (by omega)).mp e').symm
        subst this
        exact c_C_unseal_ok hr hZ hj hi hp he
