set_option maxRecDepth 100000 in
set_option maxHeartbeats 2000000 in
theorem c_C_status {lX : Launch} {G : Gx} {S : PS} {x : Nat} {c : Nat → Nat} {D : Nat → Nat → Nat} {Z : ZT} (hr : RCD S Z x c D) (hZ : okZ Z)  : Ct lX yX10_status cX10_status 1 (Option.some Jvm.ClassFile.FieldType.int) rm_X10_status G [.ref x] S (fun r S' => r = some (.int (zS Z)) ∧ S = S') := by
  obtain ⟨⟨⟨kx, r0, k0⟩, r1, r3, r5, ⟨r7, k7⟩, ⟨r8, k8⟩, ⟨r9, k9⟩, ⟨r10, k10⟩, ⟨r11, k11⟩, ⟨r12, k12⟩, r13⟩, hT, hP, hH, hRf, hW, hA, hL, hSep⟩ := id hr
  obtain ⟨⟨k1, r2, k2⟩, hu, htl, htf, ht255⟩ := id hT
  obtain ⟨⟨k3, r4⟩, ⟨k4, l4⟩, ws, wl, wv⟩ := id hW
  refine Ct.mk RX10 "status" hy_X10_status (Nat.le_of_ble_eq_true rfl) (fun X hX C => ?_)
  change Go X G _ 1 0 0 S 0 [(0, .ref x)] []
  refine g_aload_n 0 0 C dX10_status_0 rfl rfl ?_
  refine gf_ba_refusal C dX10_status_1 kx wF_X10_48 ?_
  refine g_topi (hRf) ?_
  exact g_iret C dX10_status_4 (by decide) (by decide) (⟨rfl, rfl⟩)
set_option maxRecDepth 100000 in
set_option maxHeartbeats 2000000 in
theorem c_C_witnessed {lX : Launch} {G : Gx} {S : PS} {x : Nat} {c : Nat → Nat} {D : Nat → Nat → Nat} {Z : ZT} (hr : RCD S Z x c D) (hZ : okZ Z)  : Ct lX yX10_witnessed cX10_witnessed 1 (Option.some Jvm.ClassFile.FieldType.int) rm_X10_witnessed G [.ref x] S (fun r S' => r = some (.int (nI (zW Z).length)) ∧ S = S') := by
  obtain ⟨⟨⟨kx, r0, k0⟩, r1, r3, r5, ⟨r7, k7⟩, ⟨r8, k8⟩, ⟨r9, k9⟩, ⟨r10, k10⟩, ⟨r11, k11⟩, ⟨r12, k12⟩, r13⟩, hT, hP, hH, hRf, hW, hA, hL, hSep⟩ := id hr
  obtain ⟨⟨k1, r2, k2⟩, hu, htl, htf, ht255⟩ := id hT
  obtain ⟨⟨k3, r4⟩, ⟨k4, l4⟩, ws, wl, wv⟩ := id hW
  refine Ct.mk RX10 "witnessed" hy_X10_witnessed (Nat.le_of_ble_eq_true rfl) (fun X hX C => ?_)
  change Go X G _ 1 0 0 S 0 [(0, .ref x)] []
  refine g_aload_n 0 0 C dX10_witnessed_0 rfl rfl ?_
  refine gr_ba_shown C dX10_witnessed_1 kx wF_X10_25 r3 ?_
  refine gf_wi_size C dX10_witnessed_4 k3 wF_X10_260 ?_
  refine g_topi (ws) ?_
  exact g_iret C dX10_witnessed_7 (by decide) (by decide) (⟨rfl, rfl⟩)
set_option maxRecDepth 100000 in
set_option maxHeartbeats 2000000 in
theorem c_C_tape {lX : Launch} {G : Gx} {S : PS} {x : Nat} {c : Nat → Nat} {D : Nat → Nat → Nat} {Z : ZT} (hr : RCD S Z x c D) (hZ : okZ Z) {i : Int32} : Ct lX yX10_tape cX10_tape 2 (Option.some Jvm.ClassFile.FieldType.int) rm_X10_tape G [.ref x, .int i] S (fun r S' => r = some (.int (A_tape Z i)) ∧ S = S') := by
  obtain ⟨⟨⟨kx, r0, k0⟩, r1, r3, r5, ⟨r7, k7⟩, ⟨r8, k8⟩, ⟨r9, k9⟩, ⟨r10, k10⟩, ⟨r11, k11⟩, ⟨r12, k12⟩, r13⟩, hT, hP, hH, hRf, hW, hA, hL, hSep⟩ := id hr
  obtain ⟨⟨k1, r2, k2⟩, hu, htl, htf, ht255⟩ := id hT
  obtain ⟨⟨k3, r4⟩, ⟨k4, l4⟩, ws, wl, wv⟩ := id hW
  refine Ct.mk RX10 "tape" hy_X10_tape (Nat.le_of_ble_eq_true rfl) (fun X hX C => ?_)
  change Go X G _ 2 0 0 S 0 [(0, .ref x), (1, .int i)] []
  refine g_iload_n 1 1 C dX10_tape_0 rfl rfl ?_
  refine g_if_lt 27 C dX10_tape_1 (by decide) (fun c1 => ?_) (fun c1 => ?_)
  · have e : A_tape Z i = -1 := by unfold A_tape; rw [inR_neg c1]; rfl
    refine g_iconst (v := -1) C dX10_tape_27 (by decide) ?_
    exact g_iret C dX10_tape_28 (by decide) (by decide) (⟨by rw [e], rfl⟩)
  · refine g_iload_n 1 1 C dX10_tape_4 rfl rfl ?_
    refine g_aload_n 0 0 C dX10_tape_5 rfl rfl ?_
    refine gr_ba_reel C dX10_tape_6 kx wF_X10_18 r1 ?_
    refine gf_tp_used C dX10_tape_9 k1 wF_X10_52 ?_
    refine g_topi (hu) ?_
    refine g_icmp_ge 27 C dX10_tape_12 (by decide) (fun c12 => ?_) (fun c12 => ?_)
    · have e : A_tape Z i = -1 := by unfold A_tape; rw [inR_big (by omega) c12]; rfl
      refine g_iconst (v := -1) C dX10_tape_27 (by decide) ?_
      exact g_iret C dX10_tape_28 (by decide) (by decide) (⟨by rw [e], rfl⟩)
    · have ei := inR_in (n := (zT Z).length) (by omega) c1 c12
      obtain ⟨k, hk, rfl⟩ := inR_spec ei (by omega)
      have e : A_tape Z (nI k) = nI ((zT Z).getD k 0) := by unfold A_tape; rw [ei, nI_clamp (by omega)]; rfl
      refine g_aload_n 0 0 C dX10_tape_15 rfl rfl ?_
      refine gr_ba_reel C dX10_tape_16 kx wF_X10_18 r1 ?_
      refine gr_tp_bytes C dX10_tape_19 k1 wF_X10_59 r2 ?_
      refine g_iload_n 1 1 C dX10_tape_22 rfl rfl ?_
      refine ga_tp_a C dX10_tape_23 k2 (by omega) ?_
      refine g_topi (htf k (by omega)) ?_
      refine g_goto 28 C dX10_tape_24 (by decide) ?_
      exact g_iret C dX10_tape_28 (by decide) (by decide) (⟨by rw [e], rfl⟩)
set_option maxRecDepth 100000 in
set_option maxHeartbeats 2000000 in
theorem c_C_told {lX : Launch} {G : Gx} {S : PS} {x : Nat} {c : Nat → Nat} {D : Nat → Nat → Nat} {Z : ZT} (hr : RCD S Z x c D) (hZ : okZ Z) {i : Int32} : Ct lX yX10_told cX10_told 2 (Option.some Jvm.ClassFile.FieldType.int) rm_X10_told G [.ref x, .int i] S (fun r S' => r = some (.int (A_told Z i)) ∧ S = S') := by
  obtain ⟨⟨⟨kx, r0, k0⟩, r1, r3, r5, ⟨r7, k7⟩, ⟨r8, k8⟩, ⟨r9, k9⟩, ⟨r10, k10⟩, ⟨r11, k11⟩, ⟨r12, k12⟩, r13⟩, hT, hP, hH, hRf, hW, hA, hL, hSep⟩ := id hr
  obtain ⟨⟨k1, r2, k2⟩, hu, htl, htf, ht255⟩ := id hT
  obtain ⟨⟨k3, r4⟩, ⟨k4, l4⟩, ws, wl, wv⟩ := id hW
  refine Ct.mk RX10 "told" hy_X10_told (Nat.le_of_ble_eq_true rfl) (fun X hX C => ?_)
  change Go X G _ 2 0 0 S 0 [(0, .ref x), (1, .int i)] []
  refine g_aload_n 0 0 C dX10_told_0 rfl rfl ?_
  refine gr_ba_shown C dX10_told_1 kx wF_X10_25 r3 ?_
  refine g_iload_n 1 1 C dX10_told_4 rfl rfl ?_
  refine g_callV (As := [.int i]) (rest := []) C dX10_told_5 (c_W_hasNumber hW) wC_X9_hasNumber wM_X10_261 wI_X9_hasNumber wS_X9_hasNumber wN_X9 (kne k3) (pf_9 k3) rfl hd_X9_hasNumber ⟨by decide, by decide, by decide, by decide⟩ (Nat.le_of_ble_eq_true rfl) (fun r_ S_ h_ => ?_)
  obtain ⟨rfl, rfl⟩ := h_
  change Go X G _ 2 _ _ S 8 [(0, .ref x), (1, .int i)] [.int (bI (inR i (zW Z).length))]
  refine g_if_eq 23 C dX10_told_8 (by decide) (fun c8 => ?_) (fun c8 => ?_)
  · have e : A_told Z i = -2 := by unfold A_told; rw [bI_f c8]; rfl
    refine g_bipush (v := -2) C dX10_told_23 (by decide) ?_
    exact g_iret C dX10_told_25 (by decide) (by decide) (⟨by rw [e], rfl⟩)
  · have ei := bI_t c8
    obtain ⟨k, hk, rfl⟩ := inR_spec ei (by omega)
    have e : A_told Z (nI k) = (zW Z).getD k 0 := by unfold A_told; rw [ei, nI_clamp (by omega)]; rfl
    refine g_aload_n 0 0 C dX10_told_11 rfl rfl ?_
    refine gr_ba_shown C dX10_told_12 kx wF_X10_25 r3 ?_
    refine gr_wi_numbers C dX10_told_15 k3 wF_X10_262 r4 ?_
    refine g_iload_n 1 1 C dX10_told_18 rfl rfl ?_
    refine ga_wn_a C dX10_told_19 k4 (by omega) (by omega) ?_
    refine g_topi (wv k (by omega)) ?_
    refine g_goto 25 C dX10_told_20 (by decide) ?_
    exact g_iret C dX10_told_25 (by decide) (by decide) (⟨by rw [e], rfl⟩)
theorem RCD.wit {S S' : PS} {Z : ZT} {x : Nat} {c : Nat → Nat} {D : Nat → Nat → Nat} {W : List Int32} {A : Nat → Prop} (h : RCD S Z x c D) (hf : Fr S S' A) (hA : ∀ a, A a → a = c 3 ∨ a = c 4) (hw : witC S' (c 3) (c 4) W) {tp : List Nat} (hT : tapeC S' (c 1) (c 2) tp) (hpl : pl_a S' = pl_a S) (hs : ba_refusal S' = zS Z) : RCD S' (zW_ (zT_ Z tp) W) x c D := by
  obtain ⟨h1, h2, h3, h4, h5, h6, ⟨w, h7⟩, ⟨l, h8⟩, h9⟩ := h
  have hd : ∀ t, usedP (zP Z) t → ∀ i, i < 9 → ¬ A (D t i) := fun t ht i hi z => by
    rcases hA _ z with e | e
    · exact (h9.2.1 t ht i hi).2 3 (by unfold fixI; decide) e
    · exact (h9.2.1 t ht i hi).2 4 (by unfold fixI; decide) e
  have hk : ∀ a, (kd S a ≠ 9 ∧ kd S a ≠ 16) → ¬ A a := fun a ha z => by
    rcases hA a z with e | e
    · rw [e] at ha; exact ha.1 h6.1.1
    · rw [e] at ha; exact ha.2 h6.2.1.1
  refine ⟨h1.fr hf, hT, by rw [hpl]; exact h3, fun t ht => (h4 t ht).fr hf (hd t ht), hs, hw, ⟨w, h7.fr hf (fun z => ?_) (fun z => ?_)⟩, ⟨l, h8.fr hf (hk _ (by rw [h8.1.1]; decide)) (hk _ (by rw [h8.2.1.1]; decide)) (hk _ (by rw [h8.2.2.1.1]; decide))⟩, h9.fr hf⟩
  · rcases hA _ z with e | e
    · exact h9.2.2.1 e.symm
    · have := h7.1.1; rw [e, h6.2.1.1] at this; cases this
  · rcases hA _ z with e | e
    · have := h7.2.1.1; rw [e, h6.1.1] at this; cases this
    · exact h9.2.2.2 e.symm
set_option maxRecDepth 100000 in
set_option maxHeartbeats 2000000 in
theorem c_C_forge {lX : Launch} {G : Gx} {S : PS} {x : Nat} {c : Nat → Nat} {D : Nat → Nat → Nat} {Z : ZT} (hr : RCD S Z x c D) (hZ : okZ Z) {i v : Int32} : Ct lX yX10_forge cX10_forge 4 (Option.some Jvm.ClassFile.FieldType.int) rm_X10_forge G [.ref x, .int i, .int v] S (fun r S' => r = some (.int (A_forge Z i)) ∧ RC S' (N_forge Z i v) x ∧ Fk S S') := by
  obtain ⟨⟨⟨kx, r0, k0⟩, r1, r3, r5, ⟨r7, k7⟩, ⟨r8, k8⟩, ⟨r9, k9⟩, ⟨r10, k10⟩, ⟨r11, k11⟩, ⟨r12, k12⟩, r13⟩, hT, hP, hH, hRf, hW, hA, hL, hSep⟩ := id hr
  obtain ⟨⟨k1, r2, k2⟩, hu, htl, htf, ht255⟩ := id hT
  obtain ⟨⟨k3, r4⟩, ⟨k4, l4⟩, ws, wl, wv⟩ := id hW
  refine Ct.mk RX10 "forge" hy_X10_forge (Nat.le_of_ble_eq_true rfl) (fun X hX C => ?_)
  change Go X G _ 4 0 0 S 0 [(0, .ref x), (1, .int i), (2, .int v)] []
  refine g_aload_n 0 0 C dX10_forge_0 rfl rfl ?_
  refine gr_ba_shown C dX10_forge_1 kx wF_X10_25 r3 ?_
  refine g_iload_n 1 1 C dX10_forge_4 rfl rfl ?_
  refine g_callV (As := [.int i]) (rest := []) C dX10_forge_5 (c_W_hasNumber hW) wC_X9_hasNumber wM_X10_261 wI_X9_hasNumber wS_X9_hasNumber wN_X9 (kne k3) (pf_9 k3) rfl hd_X9_hasNumber ⟨by decide, by decide, by decide, by decide⟩ (Nat.le_of_ble_eq_true rfl) (fun r_ S_ h_ => ?_)
  obtain ⟨rfl, rfl⟩ := h_
  change Go X G _ 4 _ _ S 8 [(0, .ref x), (1, .int i), (2, .int v)] [.int (bI (inR i (zW Z).length))]
  refine g_if_ne 14 C dX10_forge_8 (by decide) (fun c8 => ?_) (fun c8 => ?_)
  · have ei := bI_t c8
    obtain ⟨k, hk, rfl⟩ := inR_spec ei (by omega)
    refine g_aload_n 0 0 C dX10_forge_14 rfl rfl ?_
    refine gr_ba_shown C dX10_forge_15 kx wF_X10_25 r3 ?_
    refine gr_wi_numbers C dX10_forge_18 k3 wF_X10_262 r4 ?_
    refine g_iload_n 1 1 C dX10_forge_21 rfl rfl ?_
    refine ga_wn_a C dX10_forge_22 k4 (by omega) (by omega) ?_
    refine g_topi (wv k (by omega)) ?_
    refine g_istore_n (lv' := [(3, .int ((zW Z).getD k 0)), (0, .ref x), (1, .int (nI k)), (2, .int v)]) C dX10_forge_23 rfl (by decide) rfl ?_
    refine g_aload_n 1 0 C dX10_forge_24 rfl rfl ?_
    refine gr_ba_shown C dX10_forge_25 kx wF_X10_25 r3 ?_
    refine gr_wi_numbers C dX10_forge_28 k3 wF_X10_262 r4 ?_
    refine g_iload_n 2 1 C dX10_forge_31 rfl rfl ?_
    refine g_iload_n 3 2 C dX10_forge_32 rfl rfl ?_
    refine gs_wn_a C dX10_forge_33 k4 (by omega) (by omega) ?_
    refine g_iload_n 0 3 C dX10_forge_34 rfl rfl ?_
    have hf : Fr S (wn_a_ S (va_up (wn_a S) (c 4) (upd (wn_a S (c 4)) k v))) (fun a => a = c 4) := (Fr.refl S _).u_wn_a (Fb.of k4 rfl)
    exact g_iret C dX10_forge_35 (by decide) (by decide) ⟨by unfold A_forge; rw [ei, nI_clamp (by omega)]; rfl, ⟨c, D, by
      unfold N_forge; rw [ei, if_pos rfl, nI_clamp (by omega)]
      refine hr.wit (tp := zT Z) hf (fun a h => Or.inr h) ⟨⟨k3, r4⟩, ⟨k4, l4⟩, by rw [List.length_set]; exact ws, by rw [List.length_set]; exact wl, fun q hq => ?_⟩ (hT.fr hf rfl) rfl hRf
      rw [List.length_set] at hq
      refine (congrFun (va_up_self _ _ _) q).trans ?_
      rw [getD_set]
      by_cases e : k = q
      · rw [if_pos ⟨e, hq⟩, e]; exact pk_us
      · rw [if_neg (fun z => e z.1)]; exact (pk_un (fun z => e z.symm)).trans (wv q hq)⟩, hf.fk⟩
  · have ei := bI_f c8
    refine g_bipush (v := -5) C dX10_forge_11 (by decide) ?_
    exact g_iret C dX10_forge_13 (by decide) (by decide) (⟨by unfold A_forge; rw [ei]; rfl, ⟨c, D, by unfold N_forge; rw [ei]; exact hr⟩, Fk.refl S⟩)
set_option maxRecDepth 100000 in
set_option maxHeartbeats 2000000 in
theorem c_C_cut {lX : Launch} {G : Gx} {S : PS} {x : Nat} {c : Nat → Nat} {D : Nat → Nat → Nat} {Z : ZT} (hr : RCD S Z x c D) (hZ : okZ Z) {n : Int32} : Ct lX yX10_cut cX10_cut 2 (Option.some Jvm.ClassFile.FieldType.int) rm_X10_cut G [.ref x, .int n] S (fun r S' => r = some (.int (A_cut Z n)) ∧ RC S' (N_cut Z n) x ∧ Fk S S') := by
  obtain ⟨⟨⟨kx, r0, k0⟩, r1, r3, r5, ⟨r7, k7⟩, ⟨r8, k8⟩, ⟨r9, k9⟩, ⟨r10, k10⟩, ⟨r11, k11⟩, ⟨r12, k12⟩, r13⟩, hT, hP, hH, hRf, hW, hA, hL, hSep⟩ := id hr
  obtain ⟨⟨k1, r2, k2⟩, hu, htl, htf, ht255⟩ := id hT
  obtain ⟨⟨k3, r4⟩, ⟨k4, l4⟩, ws, wl, wv⟩ := id hW
  refine Ct.mk RX10 "cut" hy_X10_cut (Nat.le_of_ble_eq_true rfl) (fun X hX C => ?_)
  change Go X G _ 2 0 0 S 0 [(0, .ref x), (1, .int n)] []
  refine g_iload_n 1 1 C dX10_cut_0 rfl rfl ?_
  refine g_if_lt 15 C dX10_cut_1 (by decide) (fun c1 => ?_) (fun c1 => ?_)
  · have e := inR_neg (n := (zT Z).length + 1) c1
    refine g_bipush (v := -5) C dX10_cut_15 (by decide) ?_
    exact g_iret C dX10_cut_17 (by decide) (by decide) (⟨by unfold A_cut; rw [e]; rfl, ⟨c, D, by unfold N_cut; rw [e]; exact hr⟩, Fk.refl S⟩)
  · refine g_iload_n 1 1 C dX10_cut_4 rfl rfl ?_
    refine g_aload_n 0 0 C dX10_cut_5 rfl rfl ?_
    refine gr_ba_reel C dX10_cut_6 kx wF_X10_18 r1 ?_
    refine gf_tp_used C dX10_cut_9 k1 wF_X10_52 ?_
    refine g_topi (hu) ?_
    refine g_icmp_le 18 C dX10_cut_12 (by decide) (fun c12 => ?_) (fun c12 => ?_)
    · have e := inR_in1 (n := (zT Z).length) (by omega) c1 c12
      obtain ⟨k, hk, rfl⟩ := inR_spec e (by omega)
      refine g_aload_n 0 0 C dX10_cut_18 rfl rfl ?_
      refine gr_ba_reel C dX10_cut_19 kx wF_X10_18 r1 ?_
      refine g_iload_n 1 1 C dX10_cut_22 rfl rfl ?_
      refine pp_tp_used C dX10_cut_23 k1 wF_X10_52 (Or.inl rfl) ?_
      refine g_iload_n 1 1 C dX10_cut_26 rfl rfl ?_
      have hlk : ((zT Z).take k).length = k := by rw [List.length_take]; omega
      exact g_iret C dX10_cut_27 (by decide) (by decide) ⟨by unfold A_cut; rw [e]; rfl, ⟨c, D, by
        unfold N_cut; rw [e, if_pos rfl, nI_clamp (by omega)]
        exact hr.no (Z' := zT_ Z ((zT Z).take k)) ((Fr.refl S No).s_tp_used) rfl rfl rfl ⟨⟨k1, r2, k2⟩, by rw [hlk], by rw [hlk]; omega, fun i hi => by rw [hlk] at hi; rw [getD_take hi]; exact htf i (by omega), fun i hi => by rw [hlk] at hi; rw [getD_take hi]; exact ht255 i (by omega)⟩ rfl hRf⟩, ((Fr.refl S No).s_tp_used).fk⟩
    · have e := inR_big1 (n := (zT Z).length) (by omega) c12
      refine g_bipush (v := -5) C dX10_cut_15 (by decide) ?_
      exact g_iret C dX10_cut_17 (by decide) (by decide) (⟨by unfold A_cut; rw [e]; rfl, ⟨c, D, by unfold N_cut; rw [e]; exact hr⟩, Fk.refl S⟩)
set_option maxRecDepth 100000 in
set_option maxHeartbeats 2000000 in
theorem c_C_feed {lX : Launch} {G : Gx} {S : PS} {x : Nat} {c : Nat → Nat} {D : Nat → Nat → Nat} {Z : ZT} (hr : RCD S Z x c D) (hZ : okZ Z) {v : Int64} {n : Int32} : Ct lX yX10_feed cX10_feed 4 (Option.some Jvm.ClassFile.FieldType.int) rm_X10_feed G [.ref x, .long v, .int n] S (fun r S' => r = some (.int (A_feed Z n)) ∧ RC S' (N_feed Z v n) x ∧ Fk S S') := by
  obtain ⟨⟨⟨kx, r0, k0⟩, r1, r3, r5, ⟨r7, k7⟩, ⟨r8, k8⟩, ⟨r9, k9⟩, ⟨r10, k10⟩, ⟨r11, k11⟩, ⟨r12, k12⟩, r13⟩, hT, hP, hH, hRf, hW, hA, hL, hSep⟩ := id hr
  obtain ⟨⟨k1, r2, k2⟩, hu, htl, htf, ht255⟩ := id hT
  obtain ⟨⟨k3, r4⟩, ⟨k4, l4⟩, ws, wl, wv⟩ := id hW
  refine Ct.mk RX10 "feed" hy_X10_feed (Nat.le_of_ble_eq_true rfl) (fun X hX C => ?_)
  change Go X G _ 4 0 0 S 0 [(0, .ref x), (1, .long v), (3, .int n)] []
  refine g_iload_n 2 3 C dX10_feed_0 rfl rfl ?_
  refine g_iconst (v := nI 1) C dX10_feed_1 (by decide) ?_
  refine g_icmp_lt 11 C dX10_feed_2 (by decide) (fun c2 => ?_) (fun c2 => ?_)
  · have e : (inR n 9 && !inR n 1) = false := by
      by_cases g : n < 0
      · rw [inR_neg g]; rfl
      · rw [inR_in' (n := 1) (by decide) g c2, Bool.not_true, Bool.and_false]
    refine g_bipush (v := -5) C dX10_feed_11 (by decide) ?_
    exact g_iret C dX10_feed_13 (by decide) (by decide) (⟨by unfold A_feed; rw [e]; rfl, ⟨c, D, by unfold N_feed; rw [e]; exact hr⟩, Fk.refl S⟩)
  · refine g_iload_n 2 3 C dX10_feed_5 rfl rfl ?_
    refine g_bipush (v := nI 8) C dX10_feed_6 (by decide) ?_
    refine g_icmp_le 14 C dX10_feed_8 (by decide) (fun c8 => ?_) (fun c8 => ?_)
    · have e9 := inR_in1 (n := 8) (by decide) (fun z => c2 (Int32.lt_trans z (by decide))) c8
      obtain ⟨k, hk, rfl⟩ := inR_spec e9 (by omega)
      have hk1 : 1 ≤ k := by
        rcases Nat.eq_zero_or_pos k with z | z
        · subst z; exact absurd (by decide) c2
        · exact z
      have e : (inR (nI k) 9 && !inR (nI k) 1) = true := by rw [e9, inR_nI (by omega), decide_eq_false (by omega)]; rfl
      refine g_aload_n 0 0 C dX10_feed_14 rfl rfl ?_
      refine gr_ba_reel C dX10_feed_15 kx wF_X10_18 r1 ?_
      refine gf_tp_used C dX10_feed_18 k1 wF_X10_52 ?_
      refine g_topi (hu) ?_
      refine g_iload_n 2 3 C dX10_feed_21 rfl rfl ?_
      refine g_iadd C dX10_feed_22 ?_
      refine g_topi (nI_add _ _ : _ = nI ((zT Z).length + k)) ?_
      refine g_sipush (v := nI 1000) C dX10_feed_23 (by decide) ?_
      refine g_ncmp_le 32 (by omega) (by omega) C dX10_feed_26 (by decide) (fun c26 => ?_) (fun c26 => ?_)
      · refine g_aload_n 0 0 C dX10_feed_32 rfl rfl ?_
        refine gr_ba_reel C dX10_feed_33 kx wF_X10_18 r1 ?_
        refine g_lload_n 1 1 C dX10_feed_36 rfl rfl ?_
        refine g_iload_n 2 3 C dX10_feed_37 rfl rfl ?_
        refine g_st (S' := tpC S (tp_a S) (zT Z)) (by rw [show tpC S (tp_a S) (zT Z) = tp_used_ S (nI (zT Z).length) from rfl, ← hu]) ?_
        refine g_callV (As := [.long v, .int (nI k)]) (rest := []) C dX10_feed_38 (c_T_addNumber (f := tp_a S) (tp := zT Z) (x := v) k1 r2 k2 (by omega) (by omega) htf) wC_X7_addNumber wM_X10_55 wI_X7_addNumber wS_X7_addNumber wN_X7 (kne k1) (pf_8 k1) rfl hd_X7_addNumber ⟨by decide, by decide, by decide, by decide⟩ (Nat.le_of_ble_eq_true rfl) (fun r_ S_ h_ => ?_)
        obtain ⟨f2, rfl, rfl, hf2⟩ := h_
        change Go X G _ 4 _ _ (tpC S f2 (zT Z ++ bytesL v k)) 41 [(0, .ref x), (1, .long v), (3, .int (nI k))] []
        refine g_aload_n 0 0 C dX10_feed_41 rfl rfl ?_
        refine gr_ba_reel C dX10_feed_42 kx wF_X10_18 r1 ?_
        refine gf_tp_used C dX10_feed_45 k1 wF_X10_52 ?_
        have hlk : (zT Z ++ bytesL v k).length = (zT Z).length + k := by rw [List.length_append, bytesL_len]
        have hfr : Fr S (tpC S f2 (zT Z ++ bytesL v k)) No := ((Fr.refl S No).s_tp_a).s_tp_used
        exact g_iret C dX10_feed_48 (by decide) (by decide) ⟨by unfold A_feed; rw [e, if_pos rfl, nI_clamp (by omega), if_pos (by omega), ← hlk], ⟨c, D, by
          unfold N_feed; rw [e, if_pos rfl, nI_clamp (by omega), if_pos (by omega)]
          exact hr.no (Z' := zT_ Z (zT Z ++ bytesL v k)) hfr rfl rfl rfl ⟨⟨k1, r2, k2⟩, rfl, by rw [hlk]; omega, hf2, fun i hi => by
            rw [hlk] at hi
            rw [getD_app]
            split
            · exact ht255 i (by assumption)
            · rw [bytesL_get _ (by omega)]; exact byteN_le _ _⟩ rfl hRf⟩, hfr.fk⟩
      · refine g_bipush (v := -7) C dX10_feed_29 (by decide) ?_
        exact g_iret C dX10_feed_31 (by decide) (by decide) (⟨by unfold A_feed; rw [e, if_pos rfl, nI_clamp (by omega), if_neg (by omega)], ⟨c, D, by unfold N_feed; rw [e, if_pos rfl, nI_clamp (by omega), if_neg (by omega)]; exact hr⟩, Fk.refl S⟩)
    · have e : (inR n 9 && !inR n 1) = false := by rw [inR_big1 (n := 8) (by decide) c8]; rfl
      refine g_bipush (v := -5) C dX10_feed_11 (by decide) ?_
      exact g_iret C dX10_feed_13 (by decide) (by decide) (⟨by unfold A_feed; rw [e]; rfl, ⟨c, D, by unfold N_feed; rw [e]; exact hr⟩, Fk.refl S⟩)
set_option maxRecDepth 100000 in
set_option maxHeartbeats 2000000 in
theorem c_C_kind_out {lX : Launch} {G : Gx} {S : PS} {x : Nat} {c : Nat → Nat} {D : Nat → Nat → Nat} {Z : ZT} (hr : RCD S Z x c D) (hZ : okZ Z) {p : Int32} (hp : p < 0 ∨ nI 10 ≤ p) : Ct lX yX10_kind cX10_kind 2 (Option.some Jvm.ClassFile.FieldType.int) rm_X10_kind G [.ref x, .int p] S (fun r S' => r = some (.int (A_kind Z p)) ∧ S = S') := by
  obtain ⟨⟨⟨kx, r0, k0⟩, r1, r3, r5, ⟨r7, k7⟩, ⟨r8, k8⟩, ⟨r9, k9⟩, ⟨r10, k10⟩, ⟨r11, k11⟩, ⟨r12, k12⟩, r13⟩, hT, hP, hH, hRf, hW, hA, hL, hSep⟩ := id hr
  obtain ⟨⟨k1, r2, k2⟩, hu, htl, htf, ht255⟩ := id hT
  obtain ⟨⟨k3, r4⟩, ⟨k4, l4⟩, ws, wl, wv⟩ := id hW
  refine Ct.mk RX10 "kind" hy_X10_kind (Nat.le_of_ble_eq_true rfl) (fun X hX C => ?_)
  change Go X G _ 2 0 0 S 0 [(0, .ref x), (1, .int p)] []
  refine g_iload_n 1 1 C dX10_kind_0 rfl rfl ?_
  refine g_callS (As := [.int p]) (rest := []) C dX10_kind_1 (c_C_beyond_out hp) wC_X10_isBeyond wM_X10_63 wZ_X10_isBeyond wN_X10 hd_X10_isBeyond.2 ⟨by decide, by decide, by decide, by decide⟩ (Nat.le_of_ble_eq_true rfl) (fun r_ S_ h_ => ?_)
  obtain ⟨rfl, rfl⟩ := h_
  change Go X G _ 2 _ _ S 4 [(0, .ref x), (1, .int p)] [.int (nI 1)]
  refine g_nif_eq 12 (by decide) C dX10_kind_4 (by decide) (fun c => absurd c (by decide)) (fun _ => ?_)
  refine g_bipush (v := -2) C dX10_kind_7 (by decide) ?_
  refine g_goto 17 C dX10_kind_9 (by decide) ?_
  exact g_iret C dX10_kind_17 (by decide) (by decide) (⟨by unfold A_kind; rw [look_out hp]; rfl, rfl⟩)
set_option maxRecDepth 100000 in
set_option maxHeartbeats 2000000 in
theorem c_C_kind_no {lX : Launch} {G : Gx} {S : PS} {x : Nat} {c : Nat → Nat} {D : Nat → Nat → Nat} {Z : ZT} (hr : RCD S Z x c D) (hZ : okZ Z) {j : Nat} (hj : j < 10) (hp : zP Z j = 0) : Ct lX yX10_kind cX10_kind 2 (Option.some Jvm.ClassFile.FieldType.int) rm_X10_kind G [.ref x, .int (nI j)] S (fun r S' => r = some (.int (A_kind Z (nI j))) ∧ S = S') := by
  obtain ⟨⟨⟨kx, r0, k0⟩, r1, r3, r5, ⟨r7, k7⟩, ⟨r8, k8⟩, ⟨r9, k9⟩, ⟨r10, k10⟩, ⟨r11, k11⟩, ⟨r12, k12⟩, r13⟩, hT, hP, hH, hRf, hW, hA, hL, hSep⟩ := id hr
  obtain ⟨⟨k1, r2, k2⟩, hu, htl, htf, ht255⟩ := id hT
  obtain ⟨⟨k3, r4⟩, ⟨k4, l4⟩, ws, wl, wv⟩ := id hW
  refine Ct.mk RX10 "kind" hy_X10_kind (Nat.le_of_ble_eq_true rfl) (fun X hX C => ?_)
  change Go X G _ 2 0 0 S 0 [(0, .ref x), (1, .int (nI j))] []
  refine g_iload_n 1 1 C dX10_kind_0 rfl rfl ?_
  refine g_callS (As := [.int (nI j)]) (rest := []) C dX10_kind_1 (c_C_beyond_in hj) wC_X10_isBeyond wM_X10_63 wZ_X10_isBeyond wN_X10 hd_X10_isBeyond.2 ⟨by decide, by decide, by decide, by decide⟩ (Nat.le_of_ble_eq_true rfl) (fun r_ S_ h_ => ?_)
  obtain ⟨rfl, rfl⟩ := h_
  change Go X G _ 2 _ _ S 4 [(0, .ref x), (1, .int (nI j))] [.int (nI 0)]
  refine g_nif_eq 12 (by decide) C dX10_kind_4 (by decide) (fun _ => ?_) (fun c => absurd c (by decide))
  refine g_aload_n 0 0 C dX10_kind_12 rfl rfl ?_
  refine g_iload_n 1 1 C dX10_kind_13 rfl rfl ?_
  refine g_callV (As := [.int (nI j)]) (rest := []) C dX10_kind_14 (c_C_held_no hr hZ hj hp) wC_X10_kindHeld wM_X10_80 wI_X10_kindHeld wS_X10_kindHeld wN_X10 (kne kx) (pf_10 kx) rfl hd_X10_kindHeld ⟨by decide, by decide, by decide, by decide⟩ (Nat.le_of_ble_eq_true rfl) (fun r_ S_ h_ => ?_)
  obtain ⟨rfl, rfl⟩ := h_
  change Go X G _ 2 _ _ S 17 [(0, .ref x), (1, .int (nI j))] [.int (A_kind Z (nI j))]
  exact g_iret C dX10_kind_17 (by decide) (by decide) (⟨rfl, rfl⟩)
set_option maxRecDepth 100000 in
set_option maxHeartbeats 2000000 in
theorem c_C_kind_at {lX : Launch} {G : Gx} {S : PS} {x : Nat} {c : Nat → Nat} {D : Nat → Nat → Nat} {Z : ZT} (hr : RCD S Z x c D) (hZ : okZ Z) {j t : Nat} (hj : j < 10) (hp : zP Z j = t + 1) : Ct lX yX10_kind cX10_kind 2 (Option.some Jvm.ClassFile.FieldType.int) rm_X10_kind G [.ref x, .int (nI j)] S (fun r S' => r = some (.int (A_kind Z (nI j))) ∧ S = S') := by
  obtain ⟨⟨⟨kx, r0, k0⟩, r1, r3, r5, ⟨r7, k7⟩, ⟨r8, k8⟩, ⟨r9, k9⟩, ⟨r10, k10⟩, ⟨r11, k11⟩, ⟨r12, k12⟩, r13⟩, hT, hP, hH, hRf, hW, hA, hL, hSep⟩ := id hr
  obtain ⟨⟨k1, r2, k2⟩, hu, htl, htf, ht255⟩ := id hT
  obtain ⟨⟨k3, r4⟩, ⟨k4, l4⟩, ws, wl, wv⟩ := id hW
  refine Ct.mk RX10 "kind" hy_X10_kind (Nat.le_of_ble_eq_true rfl) (fun X hX C => ?_)
  change Go X G _ 2 0 0 S 0 [(0, .ref x), (1, .int (nI j))] []
  refine g_iload_n 1 1 C dX10_kind_0 rfl rfl ?_
  refine g_callS (As := [.int (nI j)]) (rest := []) C dX10_kind_1 (c_C_beyond_in hj) wC_X10_isBeyond wM_X10_63 wZ_X10_isBeyond wN_X10 hd_X10_isBeyond.2 ⟨by decide, by decide, by decide, by decide⟩ (Nat.le_of_ble_eq_true rfl) (fun r_ S_ h_ => ?_)
  obtain ⟨rfl, rfl⟩ := h_
  change Go X G _ 2 _ _ S 4 [(0, .ref x), (1, .int (nI j))] [.int (nI 0)]
  refine g_nif_eq 12 (by decide) C dX10_kind_4 (by decide) (fun _ => ?_) (fun c => absurd c (by decide))
  refine g_aload_n 0 0 C dX10_kind_12 rfl rfl ?_
  refine g_iload_n 1 1 C dX10_kind_13 rfl rfl ?_
  refine g_callV (As := [.int (nI j)]) (rest := []) C dX10_kind_14 (c_C_held_at hr hZ hj hp) wC_X10_kindHeld wM_X10_80 wI_X10_kindHeld wS_X10_kindHeld wN_X10 (kne kx) (pf_10 kx) rfl hd_X10_kindHeld ⟨by decide, by decide, by decide, by decide⟩ (Nat.le_of_ble_eq_true rfl) (fun r_ S_ h_ => ?_)
  obtain ⟨rfl, rfl⟩ := h_
  change Go X G _ 2 _ _ S 17 [(0, .ref x), (1, .int (nI j))] [.int (nI (tK (zH Z t)))]
  exact g_iret C dX10_kind_17 (by decide) (by decide) (⟨by unfold A_kind; rw [look_at hj hp], rfl⟩)
theorem c_C_kind {lX : Launch} {G : Gx} {S : PS} {x : Nat} {c : Nat → Nat} {D : Nat → Nat → Nat} {Z : ZT} (hr : RCD S Z x c D) (hZ : okZ Z) {p : Int32}  : Ct lX yX10_kind cX10_kind 2 (Option.some Jvm.ClassFile.FieldType.int) rm_X10_kind G [.ref x, .int p] S (fun r S' => r = some (.int (A_kind Z p)) ∧ S = S') := by
  rcases look_cases Z p with h | ⟨j, hj, rfl, h | ⟨t, h⟩⟩
  · exact c_C_kind_out hr hZ h
  · exact c_C_kind_no hr hZ hj h
  · exact c_C_kind_at hr hZ hj h
set_option maxRecDepth 100000 in
set_option maxHeartbeats 2000000 in
theorem c_C_clear_out {lX : Launch} {G : Gx} {S : PS} {x : Nat} {c : Nat → Nat} {D : Nat → Nat → Nat} {Z : ZT} (hr : RCD S Z x c D) (hZ : okZ Z) {p : Int32} (hp : p < 0 ∨ nI 10 ≤ p) : Ct lX yX10_clear cX10_clear 3 (Option.some Jvm.ClassFile.FieldType.int) rm_X10_clear G [.ref x, .int p] S (fun r S' => r = some (.int (A_kind Z p)) ∧ RC S' (N_clear Z p) x ∧ Fk S S') := by
  obtain ⟨⟨⟨kx, r0, k0⟩, r1, r3, r5, ⟨r7, k7⟩, ⟨r8, k8⟩, ⟨r9, k9⟩, ⟨r10, k10⟩, ⟨r11, k11⟩, ⟨r12, k12⟩, r13⟩, hT, hP, hH, hRf, hW, hA, hL, hSep⟩ := id hr
  obtain ⟨⟨k1, r2, k2⟩, hu, htl, htf, ht255⟩ := id hT
  obtain ⟨⟨k3, r4⟩, ⟨k4, l4⟩, ws, wl, wv⟩ := id hW
  refine Ct.mk RX10 "clear" hy_X10_clear (Nat.le_of_ble_eq_true rfl) (fun X hX C => ?_)
  change Go X G _ 3 0 0 S 0 [(0, .ref x), (1, .int p)] []
  refine g_iload_n 1 1 C dX10_clear_0 rfl rfl ?_
  refine g_callS (As := [.int p]) (rest := []) C dX10_clear_1 (c_C_beyond_out hp) wC_X10_isBeyond wM_X10_63 wZ_X10_isBeyond wN_X10 hd_X10_isBeyond.2 ⟨by decide, by decide, by decide, by decide⟩ (Nat.le_of_ble_eq_true rfl) (fun r_ S_ h_ => ?_)
  obtain ⟨rfl, rfl⟩ := h_
  change Go X G _ 3 _ _ S 4 [(0, .ref x), (1, .int p)] [.int (nI 1)]
  refine g_nif_eq 10 (by decide) C dX10_clear_4 (by decide) (fun c => absurd c (by decide)) (fun _ => ?_)
  refine g_bipush (v := -2) C dX10_clear_7 (by decide) ?_
  exact g_iret C dX10_clear_9 (by decide) (by decide) (⟨by unfold A_kind; rw [look_out hp]; rfl, ⟨c, D, by unfold N_clear; rw [if_pos hp]; exact hr⟩, Fk.refl S⟩)
set_option maxRecDepth 100000 in
set_option maxHeartbeats 2000000 in
theorem c_C_clear_no {lX : Launch} {G : Gx} {S : PS} {x : Nat} {c : Nat → Nat} {D : Nat → Nat → Nat} {Z : ZT} (hr : RCD S Z x c D) (hZ : okZ Z) {j : Nat} (hj : j < 10) (hp : zP Z j = 0) : Ct lX yX10_clear cX10_clear 3 (Option.some Jvm.ClassFile.FieldType.int) rm_X10_clear G [.ref x, .int (nI j)] S (fun r S' => r = some (.int (A_kind Z (nI j))) ∧ RC S' (N_clear Z (nI j)) x ∧ Fk S S') := by
  obtain ⟨⟨⟨kx, r0, k0⟩, r1, r3, r5, ⟨r7, k7⟩, ⟨r8, k8⟩, ⟨r9, k9⟩, ⟨r10, k10⟩, ⟨r11, k11⟩, ⟨r12, k12⟩, r13⟩, hT, hP, hH, hRf, hW, hA, hL, hSep⟩ := id hr
  obtain ⟨⟨k1, r2, k2⟩, hu, htl, htf, ht255⟩ := id hT
  obtain ⟨⟨k3, r4⟩, ⟨k4, l4⟩, ws, wl, wv⟩ := id hW
  refine Ct.mk RX10 "clear" hy_X10_clear (Nat.le_of_ble_eq_true rfl) (fun X hX C => ?_)
  change Go X G _ 3 0 0 S 0 [(0, .ref x), (1, .int (nI j))] []
  refine g_iload_n 1 1 C dX10_clear_0 rfl rfl ?_
  refine g_callS (As := [.int (nI j)]) (rest := []) C dX10_clear_1 (c_C_beyond_in hj) wC_X10_isBeyond wM_X10_63 wZ_X10_isBeyond wN_X10 hd_X10_isBeyond.2 ⟨by decide, by decide, by decide, by decide⟩ (Nat.le_of_ble_eq_true rfl) (fun r_ S_ h_ => ?_)
  obtain ⟨rfl, rfl⟩ := h_
  change Go X G _ 3 _ _ S 4 [(0, .ref x), (1, .int (nI j))] [.int (nI 0)]
  refine g_nif_eq 10 (by decide) C dX10_clear_4 (by decide) (fun _ => ?_) (fun c => absurd c (by decide))
  refine g_aload_n 0 0 C dX10_clear_10 rfl rfl ?_
  refine g_iload_n 1 1 C dX10_clear_11 rfl rfl ?_
  refine g_callV (As := [.int (nI j)]) (rest := []) C dX10_clear_12 (c_C_held_no hr hZ hj hp) wC_X10_kindHeld wM_X10_80 wI_X10_kindHeld wS_X10_kindHeld wN_X10 (kne kx) (pf_10 kx) rfl hd_X10_kindHeld ⟨by decide, by decide, by decide, by decide⟩ (Nat.le_of_ble_eq_true rfl) (fun r_ S_ h_ => ?_)
  obtain ⟨rfl, rfl⟩ := h_
  change Go X G _ 3 _ _ S 15 [(0, .ref x), (1, .int (nI j))] [.int (A_kind Z (nI j))]
  refine g_istore_n (lv' := [(2, .int (A_kind Z (nI j))), (0, .ref x), (1, .int (nI j))]) C dX10_clear_15 rfl (by decide) rfl ?_
  refine g_aload_n 1 0 C dX10_clear_16 rfl rfl ?_
  refine gr_ba_places C dX10_clear_17 kx wF_X10_11 r0 ?_
  refine g_iload_n 2 1 C dX10_clear_20 rfl rfl ?_
  refine g_null C dX10_clear_21 ?_
  refine gs_pl_aN C dX10_clear_22 k0 (by omega) ?_
  refine g_iload_n 0 2 C dX10_clear_23 rfl rfl ?_
  exact g_iret C dX10_clear_24 (by decide) (by decide) ⟨rfl, ⟨c, D, by unfold N_clear; rw [if_neg (nI_in10 hj), nI_clamp (by omega)]; exact hr.place (Or.inl rfl) rfl⟩, ⟨rfl, fun _ _ => rfl⟩⟩
set_option maxRecDepth 100000 in
set_option maxHeartbeats 2000000 in
theorem c_C_clear_at {lX : Launch} {G : Gx} {S : PS} {x : Nat} {c : Nat → Nat} {D : Nat → Nat → Nat} {Z : ZT} (hr : RCD S Z x c D) (hZ : okZ Z) {j t : Nat} (hj : j < 10) (hp : zP Z j = t + 1) : Ct lX yX10_clear cX10_clear 3 (Option.some Jvm.ClassFile.FieldType.int) rm_X10_clear G [.ref x, .int (nI j)] S (fun r S' => r = some (.int (A_kind Z (nI j))) ∧ RC S' (N_clear Z (nI j)) x ∧ Fk S S') := by
  obtain ⟨⟨⟨kx, r0, k0⟩, r1, r3, r5, ⟨r7, k7⟩, ⟨r8, k8⟩, ⟨r9, k9⟩, ⟨r10, k10⟩, ⟨r11, k11⟩, ⟨r12, k12⟩, r13⟩, hT, hP, hH, hRf, hW, hA, hL, hSep⟩ := id hr
  obtain ⟨⟨k1, r2, k2⟩, hu, htl, htf, ht255⟩ := id hT
  obtain ⟨⟨k3, r4⟩, ⟨k4, l4⟩, ws, wl, wv⟩ := id hW
  refine Ct.mk RX10 "clear" hy_X10_clear (Nat.le_of_ble_eq_true rfl) (fun X hX C => ?_)
  change Go X G _ 3 0 0 S 0 [(0, .ref x), (1, .int (nI j))] []
  refine g_iload_n 1 1 C dX10_clear_0 rfl rfl ?_
  refine g_callS (As := [.int (nI j)]) (rest := []) C dX10_clear_1 (c_C_beyond_in hj) wC_X10_isBeyond wM_X10_63 wZ_X10_isBeyond wN_X10 hd_X10_isBeyond.2 ⟨by decide, by decide, by decide, by decide⟩ (Nat.le_of_ble_eq_true rfl) (fun r_ S_ h_ => ?_)
  obtain ⟨rfl, rfl⟩ := h_
  change Go X G _ 3 _ _ S 4 [(0, .ref x), (1, .int (nI j))] [.int (nI 0)]
  refine g_nif_eq 10 (by decide) C dX10_clear_4 (by decide) (fun _ => ?_) (fun c => absurd c (by decide))
  refine g_aload_n 0 0 C dX10_clear_10 rfl rfl ?_
  refine g_iload_n 1 1 C dX10_clear_11 rfl rfl ?_
  refine g_callV (As := [.int (nI j)]) (rest := []) C dX10_clear_12 (c_C_held_at hr hZ hj hp) wC_X10_kindHeld wM_X10_80 wI_X10_kindHeld wS_X10_kindHeld wN_X10 (kne kx) (pf_10 kx) rfl hd_X10_kindHeld ⟨by decide, by decide, by decide, by decide⟩ (Nat.le_of_ble_eq_true rfl) (fun r_ S_ h_ => ?_)
  obtain ⟨rfl, rfl⟩ := h_
  change Go X G _ 3 _ _ S 15 [(0, .ref x), (1, .int (nI j))] [.int (nI (tK (zH Z t)))]
  refine g_istore_n (lv' := [(2, .int (nI (tK (zH Z t)))), (0, .ref x), (1, .int (nI j))]) C dX10_clear_15 rfl (by decide) rfl ?_
  refine g_aload_n 1 0 C dX10_clear_16 rfl rfl ?_
  refine gr_ba_places C dX10_clear_17 kx wF_X10_11 r0 ?_
  refine g_iload_n 2 1 C dX10_clear_20 rfl rfl ?_
  refine g_null C dX10_clear_21 ?_
  refine gs_pl_aN C dX10_clear_22 k0 (by omega) ?_
  refine g_iload_n 0 2 C dX10_clear_23 rfl rfl ?_
  exact g_iret C dX10_clear_24 (by decide) (by decide) ⟨by unfold A_kind; rw [look_at hj hp], ⟨c, D, by unfold N_clear; rw [if_neg (nI_in10 hj), nI_clamp (by omega)]; exact hr.place (Or.inl rfl) rfl⟩, ⟨rfl, fun _ _ => rfl⟩⟩
theorem c_C_clear {lX : Launch} {G : Gx} {S : PS} {x : Nat} {c : Nat → Nat} {D : Nat → Nat → Nat} {Z : ZT} (hr : RCD S Z x c D) (hZ : okZ Z) {p : Int32}  : Ct lX yX10_clear cX10_clear 3 (Option.some Jvm.ClassFile.FieldType.int) rm_X10_clear G [.ref x, .int p] S (fun r S' => r = some (.int (A_kind Z p)) ∧ RC S' (N_clear Z p) x ∧ Fk S S') := by
  rcases look_cases Z p with h | ⟨j, hj, rfl, h | ⟨t, h⟩⟩
  · exact c_C_clear_out hr hZ h
  · exact c_C_clear_no hr hZ hj h
  · exact c_C_clear_at hr hZ hj h
set_option maxRecDepth 100000 in
set_option maxHeartbeats 2000000 in
theorem c_C_same_out {lX : Launch} {G : Gx} {S : PS} {x : Nat} {c : Nat → Nat} {D : Nat → Nat → Nat} {Z : ZT} (hr : RCD S Z x c D) (hZ : okZ Z) {p : Int32} (hp : p < 0 ∨ nI 10 ≤ p) : Ct lX yX10_same cX10_same 4 (Option.some Jvm.ClassFile.FieldType.int) rm_X10_same G [.ref x, .int p] S (fun r S' => r = some (.int (A_same Z p)) ∧ S = S') := by
  obtain ⟨⟨⟨kx, r0, k0⟩, r1, r3, r5, ⟨r7, k7⟩, ⟨r8, k8⟩, ⟨r9, k9⟩, ⟨r10, k10⟩, ⟨r11, k11⟩, ⟨r12, k12⟩, r13⟩, hT, hP, hH, hRf, hW, hA, hL, hSep⟩ := id hr
  obtain ⟨⟨k1, r2, k2⟩, hu, htl, htf, ht255⟩ := id hT
  obtain ⟨⟨k3, r4⟩, ⟨k4, l4⟩, ws, wl, wv⟩ := id hW
  refine Ct.mk RX10 "same" hy_X10_same (Nat.le_of_ble_eq_true rfl) (fun X hX C => ?_)
  change Go X G _ 4 0 0 S 0 [(0, .ref x), (1, .int p)] []
  refine g_iload_n 1 1 C dX10_same_0 rfl rfl ?_
  refine g_callS (As := [.int p]) (rest := []) C dX10_same_1 (c_C_beyond_out hp) wC_X10_isBeyond wM_X10_63 wZ_X10_isBeyond wN_X10 hd_X10_isBeyond.2 ⟨by decide, by decide, by decide, by decide⟩ (Nat.le_of_ble_eq_true rfl) (fun r_ S_ h_ => ?_)
  obtain ⟨rfl, rfl⟩ := h_
  change Go X G _ 4 _ _ S 4 [(0, .ref x), (1, .int p)] [.int (nI 1)]
  refine g_nif_eq 10 (by decide) C dX10_same_4 (by decide) (fun c => absurd c (by decide)) (fun _ => ?_)
  refine g_bipush (v := -2) C dX10_same_7 (by decide) ?_
  exact g_iret C dX10_same_9 (by decide) (by decide) (⟨by unfold A_same; rw [look_out hp]; rfl, rfl⟩)
set_option maxRecDepth 100000 in
set_option maxHeartbeats 2000000 in
theorem c_C_same_at {lX : Launch} {G : Gx} {S : PS} {x : Nat} {c : Nat → Nat} {D : Nat → Nat → Nat} {Z : ZT} (hr : RCD S Z x c D) (hZ : okZ Z) {j t : Nat} (hj : j < 10) (hp : zP Z j = t + 1) : Ct lX yX10_same cX10_same 4 (Option.some Jvm.ClassFile.FieldType.int) rm_X10_same G [.ref x, .int (nI j)] S (fun r S' => r = some (.int (A_same Z (nI j))) ∧ S = S') := by
  obtain ⟨⟨⟨kx, r0, k0⟩, r1, r3, r5, ⟨r7, k7⟩, ⟨r8, k8⟩, ⟨r9, k9⟩, ⟨r10, k10⟩, ⟨r11, k11⟩, ⟨r12, k12⟩, r13⟩, hT, hP, hH, hRf, hW, hA, hL, hSep⟩ := id hr
  obtain ⟨⟨k1, r2, k2⟩, hu, htl, htf, ht255⟩ := id hT
  obtain ⟨⟨k3, r4⟩, ⟨k4, l4⟩, ws, wl, wv⟩ := id hW
  have hPj : pl_a S j = some (D t 0) := by rw [hP j hj, if_neg (by omega), hp]; rfl
  have hin : ∀ {q : Nat}, q < 10 → pl_a S q = some (D t 0) → zP Z q = t + 1 := fun {q} hq h => by
    rw [hP q hq] at h
    by_cases g : zP Z q = 0
    · rw [if_pos g] at h; cases h
    · rw [if_neg g] at h
      by_cases e : zP Z q - 1 = t
      · omega
      · exact absurd (Option.some.inj h) (hSep.1 (zP Z q - 1) t ⟨q, hq, by omega⟩ ⟨j, hj, hp⟩ e 0 0 (by decide) (by decide))
  refine Ct.mk RX10 "same" hy_X10_same (Nat.le_of_ble_eq_true rfl) (fun X hX C => ?_)
  change Go X G _ 4 0 0 S 0 [(0, .ref x), (1, .int (nI j))] []
  refine g_iload_n 1 1 C dX10_same_0 rfl rfl ?_
  refine g_callS (As := [.int (nI j)]) (rest := []) C dX10_same_1 (c_C_beyond_in hj) wC_X10_isBeyond wM_X10_63 wZ_X10_isBeyond wN_X10 hd_X10_isBeyond.2 ⟨by decide, by decide, by decide, by decide⟩ (Nat.le_of_ble_eq_true rfl) (fun r_ S_ h_ => ?_)
  obtain ⟨rfl, rfl⟩ := h_
  change Go X G _ 4 _ _ S 4 [(0, .ref x), (1, .int (nI j))] [.int (nI 0)]
  refine g_nif_eq 10 (by decide) C dX10_same_4 (by decide) (fun _ => ?_) (fun c => absurd c (by decide))
  refine g_iconst (v := nI 0) C dX10_same_10 (by decide) ?_
  refine g_istore_n (lv' := [(2, .int (nI 0)), (0, .ref x), (1, .int (nI j))]) C dX10_same_11 rfl (by decide) rfl ?_
  refine g_iconst (v := nI 0) C dX10_same_12 (by decide) ?_
  refine g_istore_n (lv' := [(3, .int (nI 0)), (2, .int (nI 0)), (0, .ref x), (1, .int (nI j))]) C dX10_same_13 rfl (by decide) rfl ?_
  have lp : ∀ (n_ : Nat) (q : Nat), 10 - q < n_ → (q ≤ 10) → Go X G (Qe X G (fun r S' => r = some (.int (A_same Z (nI j))) ∧ S = S') rm_X10_same.cells rm_X10_same.slots) 4 0 0 S 14 [(3, .int (nI q)), (2, .int (nI (sumN (fun q => if zP Z q = t + 1 then 1 else 0) q))), (0, .ref x), (1, .int (nI j))] [] := by
    intro n_
    induction n_ with
    | zero => intro q hm_; exact absurd hm_ (Nat.not_lt_zero _)
    | succ n_ ih_ =>
      intro q hm_ hq
      have hbd := sumN_if_le (fun q => zP Z q = t + 1) q
      refine g_iload_n 0 3 C dX10_same_14 rfl rfl ?_
      refine g_bipush (v := nI 10) C dX10_same_15 (by decide) ?_
      refine g_ncmp_ge 53 (by omega) (by omega) C dX10_same_17 (by decide) (fun c17 => ?_) (fun c17 => ?_)
      · have e : q = 10 := by omega
        refine g_iload_n 1 2 C dX10_same_53 rfl rfl ?_
        exact g_iret C dX10_same_54 (by decide) (by decide) (⟨by unfold A_same; rw [look_at hj hp, e], rfl⟩)
      · refine g_aload_n 2 0 C dX10_same_20 rfl rfl ?_
        refine gr_ba_places C dX10_same_21 kx wF_X10_11 r0 ?_
        refine g_iload_n 0 3 C dX10_same_24 rfl rfl ?_
        by_cases g : zP Z q = 0
        · have hq0 : pl_a S q = none := by rw [hP q (by omega), if_pos g]
          refine ga_pl_a C dX10_same_25 k0 (by omega) ?_
          refine g_topv (show va_rf (pl_a S q) = .null by rw [hq0]; rfl) ?_
          refine g_ifnullN 47 C dX10_same_26 (by decide) ?_
          refine g_iinc (v := nI (q + 1)) (lv' := [(3, .int (nI (q + 1))), (2, .int (nI (sumN (fun q => if zP Z q = t + 1 then 1 else 0) q))), (0, .ref x), (1, .int (nI j))]) 0 C dX10_same_47 rfl (nI_add _ 1) (by decide) rfl ?_
          refine g_goto 14 C dX10_same_50 (by decide) ?_
          rw [show sumN (fun q => if zP Z q = t + 1 then 1 else 0) q = sumN (fun q => if zP Z q = t + 1 then 1 else 0) (q + 1) from by show _ = sumN (fun q => if zP Z q = t + 1 then 1 else 0) q + (if zP Z q = t + 1 then 1 else 0); rw [if_neg (by omega)]; rfl]
          exact ih_ (q + 1) (by omega) (by omega)
        · have hq0 : pl_a S q = some (D (zP Z q - 1) 0) := by rw [hP q (by omega), if_neg g]
          refine gar_pl_a C dX10_same_25 k0 (by omega) hq0 ?_
          refine g_ifnull C dX10_same_26 ?_
          refine g_aload_n 2 0 C dX10_same_29 rfl rfl ?_
          refine gr_ba_places C dX10_same_30 kx wF_X10_11 r0 ?_
          refine g_iload_n 0 3 C dX10_same_33 rfl rfl ?_
          refine ga_pl_a C dX10_same_34 k0 (by omega) ?_
          refine g_aload_n 2 0 C dX10_same_35 rfl rfl ?_
          refine gr_ba_places C dX10_same_36 kx wF_X10_11 r0 ?_
          refine g_iload_n 3 1 C dX10_same_39 rfl rfl ?_
          refine ga_pl_a C dX10_same_40 k0 (by omega) ?_
          refine g_acmp_ne 47 C dX10_same_41 (by decide) (fun c41 => ?_) (fun c41 => ?_)
          · refine g_iinc (v := nI (q + 1)) (lv' := [(3, .int (nI (q + 1))), (2, .int (nI (sumN (fun q => if zP Z q = t + 1 then 1 else 0) q))), (0, .ref x), (1, .int (nI j))]) 0 C dX10_same_47 rfl (nI_add _ 1) (by decide) rfl ?_
            refine g_goto 14 C dX10_same_50 (by decide) ?_
            rw [show sumN (fun q => if zP Z q = t + 1 then 1 else 0) q = sumN (fun q => if zP Z q = t + 1 then 1 else 0) (q + 1) from by show _ = sumN (fun q => if zP Z q = t + 1 then 1 else 0) q + (if zP Z q = t + 1 then 1 else 0); rw [if_neg (fun z => c41 (by rw [hq0, hPj, z]; rfl))]; rfl]
            exact ih_ (q + 1) (by omega) (by omega)
          · refine g_iinc (v := nI (sumN (fun q => if zP Z q = t + 1 then 1 else 0) q + 1)) (lv' := [(2, .int (nI (sumN (fun q => if zP Z q = t + 1 then 1 else 0) q + 1))), (3, .int (nI q)), (0, .ref x), (1, .int (nI j))]) 1 C dX10_same_44 rfl (nI_add _ 1) (by decide) rfl ?_
            refine g_iinc (v := nI (q + 1)) (lv' := [(3, .int (nI (q + 1))), (2, .int (nI (sumN (fun q => if zP Z q = t + 1 then 1 else 0) q + 1))), (0, .ref x), (1, .int (nI j))]) 1 C dX10_same_47 rfl (nI_add _ 1) (by decide) rfl ?_
            refine g_goto 14 C dX10_same_50 (by decide) ?_
            rw [show sumN (fun q => if zP Z q = t + 1 then 1 else 0) q + 1 = sumN (fun q => if zP Z q = t + 1 then 1 else 0) (q + 1) from by show _ = sumN (fun q => if zP Z q = t + 1 then 1 else 0) q + (if zP Z q = t + 1 then 1 else 0); rw [if_pos (hin (by omega) (c41.trans hPj))]]
            exact ih_ (q + 1) (by omega) (by omega)
  exact lp 11 0 (by omega) (Nat.zero_le _)
set_option maxRecDepth 100000 in
set_option maxHeartbeats 2000000 in
theorem c_C_same_no {lX : Launch} {G : Gx} {S : PS} {x : Nat} {c : Nat → Nat} {D : Nat → Nat → Nat} {Z : ZT} (hr : RCD S Z x c D) (hZ : okZ Z) {j : Nat} (hj : j < 10) (hp : zP Z j = 0) : Ct lX yX10_same cX10_same 4 (Option.some Jvm.ClassFile.FieldType.int) rm_X10_same G [.ref x, .int (nI j)] S (fun r S' => r = some (.int (A_same Z (nI j))) ∧ S = S') := by
  obtain ⟨⟨⟨kx, r0, k0⟩, r1, r3, r5, ⟨r7, k7⟩, ⟨r8, k8⟩, ⟨r9, k9⟩, ⟨r10, k10⟩, ⟨r11, k11⟩, ⟨r12, k12⟩, r13⟩, hT, hP, hH, hRf, hW, hA, hL, hSep⟩ := id hr
  obtain ⟨⟨k1, r2, k2⟩, hu, htl, htf, ht255⟩ := id hT
  obtain ⟨⟨k3, r4⟩, ⟨k4, l4⟩, ws, wl, wv⟩ := id hW
  have hPj : pl_a S j = none := by rw [hP j hj, if_pos hp]
  refine Ct.mk RX10 "same" hy_X10_same (Nat.le_of_ble_eq_true rfl) (fun X hX C => ?_)
  change Go X G _ 4 0 0 S 0 [(0, .ref x), (1, .int (nI j))] []
  refine g_iload_n 1 1 C dX10_same_0 rfl rfl ?_
  refine g_callS (As := [.int (nI j)]) (rest := []) C dX10_same_1 (c_C_beyond_in hj) wC_X10_isBeyond wM_X10_63 wZ_X10_isBeyond wN_X10 hd_X10_isBeyond.2 ⟨by decide, by decide, by decide, by decide⟩ (Nat.le_of_ble_eq_true rfl) (fun r_ S_ h_ => ?_)
  obtain ⟨rfl, rfl⟩ := h_
  change Go X G _ 4 _ _ S 4 [(0, .ref x), (1, .int (nI j))] [.int (nI 0)]
  refine g_nif_eq 10 (by decide) C dX10_same_4 (by decide) (fun _ => ?_) (fun c => absurd c (by decide))
  refine g_iconst (v := nI 0) C dX10_same_10 (by decide) ?_
  refine g_istore_n (lv' := [(2, .int (nI 0)), (0, .ref x), (1, .int (nI j))]) C dX10_same_11 rfl (by decide) rfl ?_
  refine g_iconst (v := nI 0) C dX10_same_12 (by decide) ?_
  refine g_istore_n (lv' := [(3, .int (nI 0)), (2, .int (nI 0)), (0, .ref x), (1, .int (nI j))]) C dX10_same_13 rfl (by decide) rfl ?_
  have lp : ∀ (n_ : Nat) (q : Nat), 10 - q < n_ → (q ≤ 10) → Go X G (Qe X G (fun r S' => r = some (.int (A_same Z (nI j))) ∧ S = S') rm_X10_same.cells rm_X10_same.slots) 4 0 0 S 14 [(3, .int (nI q)), (2, .int (nI 0)), (0, .ref x), (1, .int (nI j))] [] := by
    intro n_
    induction n_ with
    | zero => intro q hm_; exact absurd hm_ (Nat.not_lt_zero _)
    | succ n_ ih_ =>
      intro q hm_ hq
      refine g_iload_n 0 3 C dX10_same_14 rfl rfl ?_
      refine g_bipush (v := nI 10) C dX10_same_15 (by decide) ?_
      refine g_ncmp_ge 53 (by omega) (by omega) C dX10_same_17 (by decide) (fun c17 => ?_) (fun c17 => ?_)
      · refine g_iload_n 1 2 C dX10_same_53 rfl rfl ?_
        exact g_iret C dX10_same_54 (by decide) (by decide) (⟨by unfold A_same; rw [look_no hj hp]; rfl, rfl⟩)
      · refine g_aload_n 2 0 C dX10_same_20 rfl rfl ?_
        refine gr_ba_places C dX10_same_21 kx wF_X10_11 r0 ?_
        refine g_iload_n 0 3 C dX10_same_24 rfl rfl ?_
        by_cases g : zP Z q = 0
        · have hq0 : pl_a S q = none := by rw [hP q (by omega), if_pos g]
          refine ga_pl_a C dX10_same_25 k0 (by omega) ?_
          refine g_topv (show va_rf (pl_a S q) = .null by rw [hq0]; rfl) ?_
          refine g_ifnullN 47 C dX10_same_26 (by decide) ?_
          refine g_iinc (v := nI (q + 1)) (lv' := [(3, .int (nI (q + 1))), (2, .int (nI 0)), (0, .ref x), (1, .int (nI j))]) 0 C dX10_same_47 rfl (nI_add _ 1) (by decide) rfl ?_
          refine g_goto 14 C dX10_same_50 (by decide) ?_
          exact ih_ (q + 1) (by omega) (by omega)
        · have hq0 : pl_a S q = some (D (zP Z q - 1) 0) := by rw [hP q (by omega), if_neg g]
          refine gar_pl_a C dX10_same_25 k0 (by omega) hq0 ?_
          refine g_ifnull C dX10_same_26 ?_
          refine g_aload_n 2 0 C dX10_same_29 rfl rfl ?_
          refine gr_ba_places C dX10_same_30 kx wF_X10_11 r0 ?_
          refine g_iload_n 0 3 C dX10_same_33 rfl rfl ?_
          refine ga_pl_a C dX10_same_34 k0 (by omega) ?_
          refine g_aload_n 2 0 C dX10_same_35 rfl rfl ?_
          refine gr_ba_places C dX10_same_36 kx wF_X10_11 r0 ?_
          refine g_iload_n 3 1 C dX10_same_39 rfl rfl ?_
          refine ga_pl_a C dX10_same_40 k0 (by omega) ?_
          refine g_acmp_ne 47 C dX10_same_41 (by decide) (fun c41 => ?_) (fun c41 => ?_)
          · refine g_iinc (v := nI (q + 1)) (lv' := [(3, .int (nI (q + 1))), (2, .int (nI 0)), (0, .ref x), (1, .int (nI j))]) 0 C dX10_same_47 rfl (nI_add _ 1) (by decide) rfl ?_
            refine g_goto 14 C dX10_same_50 (by decide) ?_
            exact ih_ (q + 1) (by omega) (by omega)
          · exact absurd (c41.trans hPj) (by rw [hq0]; exact Option.some_ne_none _)
  exact lp 11 0 (by omega) (Nat.zero_le _)
theorem c_C_same {lX : Launch} {G : Gx} {S : PS} {x : Nat} {c : Nat → Nat} {D : Nat → Nat → Nat} {Z : ZT} (hr : RCD S Z x c D) (hZ : okZ Z) {p : Int32}  : Ct lX yX10_same cX10_same 4 (Option.some Jvm.ClassFile.FieldType.int) rm_X10_same G [.ref x, .int p] S (fun r S' => r = some (.int (A_same Z p)) ∧ S = S') := by
  rcases look_cases Z p with h | ⟨j, hj, rfl, h | ⟨t, h⟩⟩
  · exact c_C_same_out hr hZ h
  · exact c_C_same_no hr hZ hj h
  · exact c_C_same_at hr hZ hj h
