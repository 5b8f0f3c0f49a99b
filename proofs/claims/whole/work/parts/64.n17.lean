theorem mk_no {K : Nat} {l : List Ent} (h : K = 1 ∨ K = 5) : marksN K l = 0 := by unfold marksN; rw [if_pos h]
set_option maxRecDepth 100000 in
set_option maxHeartbeats 2000000 in
theorem c_C_about_k1 {lX : Launch} {G : Gx} {S : PS} {x : Nat} {c : Nat → Nat} {D : Nat → Nat → Nat} {Z : ZT} (hr : RCD S Z x c D) (hZ : okZ Z) {j t : Nat} (hj : j < 10) (hp : zP Z j = t + 1) (he : bookE Z (nI j) = .inr t) {what : Int32} (hk1 : tK (zH Z t) = 1) : Ct lX yX10_about cX10_about 4 (Option.some Jvm.ClassFile.FieldType.int) rm_X10_about G [.ref x, .int (nI j), .int what] S (fun r S' => r = some (.int (A_about Z (nI j) what)) ∧ RC S' (Z) x ∧ Fk S S') := by
  obtain ⟨⟨⟨kx, r0, k0⟩, r1, r3, r5, ⟨r7, k7⟩, ⟨r8, k8⟩, ⟨r9, k9⟩, ⟨r10, k10⟩, ⟨r11, k11⟩, ⟨r12, k12⟩, r13⟩, hT, hP, hH, hRf, hW, hA, hL, hSep⟩ := id hr
  obtain ⟨⟨k1, r2, k2⟩, hu, htl, htf, ht255⟩ := id hT
  obtain ⟨⟨k3, r4⟩, ⟨k4, l4⟩, ws, wl, wv⟩ := id hW
  have hok := (hZ.th hj hp).1
  have hk5 : tK (zH Z t) ≤ 5 := by obtain ⟨j2, _, e2, h2, h3⟩ := bookE_inr he; exact h3
  have hbk := (hH t ⟨j, hj, hp⟩).1 hk5
  have hbl := hbk.2.1
  have hla := hbk.2.1.2.2.2.2.1
  have hl100 := hok.2.2.1.1
  have hpos := (hok.2.2.2.2.2.1 hk5).1
  have hB1 : tB (zH Z t) = [] := by rw [(hok.2.2.2.2.2.1 hk5).2, hk1]; rfl
  refine Ct.mk RX10 "about" hy_X10_about (Nat.le_of_ble_eq_true rfl) (fun X hX C => ?_)
  change Go X G _ 4 0 0 S 0 [(0, .ref x), (1, .int (nI j)), (2, .int what)] []
  refine g_aload_n 0 0 C dX10_about_0 rfl rfl ?_
  refine g_iload_n 1 1 C dX10_about_1 rfl rfl ?_
  refine g_callV (As := [.int (nI j)]) (rest := []) C dX10_about_2 (c_C_bookAt_ok hr hZ hj hp he) wC_X10_bookAt wM_X10_114 wI_X10_bookAt wS_X10_bookAt wN_X10 (kne kx) (pf_10 kx) rfl hd_X10_bookAt ⟨by decide, by decide, by decide, by decide⟩ (Nat.le_of_ble_eq_true rfl) (fun r_ S_ h_ => ?_)
  obtain ⟨rfl, rfl⟩ := h_
  change Go X G _ 4 _ _ S 5 [(0, .ref x), (1, .int (nI j)), (2, .int what)] [.ref ((D t 0))]
  refine g_astore_n (lv' := [(3, .ref ((D t 0))), (0, .ref x), (1, .int (nI j)), (2, .int what)]) C dX10_about_5 rfl (by decide) rfl ?_
  refine g_aload_n 0 3 C dX10_about_6 rfl rfl ?_
  refine g_ifnonnull 16 C dX10_about_7 (by decide) ?_
  refine g_iload_n 3 2 C dX10_about_16 rfl rfl ?_
  rcases pk_ix what (n := 8) (by decide) with h | h | ⟨i1, hi1, rfl⟩
  rotate_left 2
  rcases (show i1 = 0 ∨ i1 = 1 ∨ i1 = 2 ∨ i1 = 3 ∨ i1 = 4 ∨ i1 = 5 ∨ i1 = 6 ∨ i1 = 7 by omega) with rfl | rfl | rfl | rfl | rfl | rfl | rfl | rfl
  · refine g_table (off := 47) 64 C dX10_about_17 (by decide) (by decide) (by decide) rfl (by decide) ?_
    refine g_aload_n 0 3 C dX10_about_64 rfl rfl ?_
    refine gf_bk_kindS C dX10_about_65 hbk.1.1 wF_X10_221 ?_
    refine g_topi (hbk.1.2.1) ?_
    exact g_iret C dX10_about_68 (by decide) (by decide) (⟨by unfold A_about; rw [he]; simp only []; rw [inR_nI (by decide), decide_eq_true (by decide), if_pos rfl, nI_clamp (by decide)]; unfold abV; rfl, ⟨c, D, hr⟩, Fk.refl S⟩)
  · refine g_table (off := 52) 69 C dX10_about_17 (by decide) (by decide) (by decide) rfl (by decide) ?_
    refine g_aload_n 0 3 C dX10_about_69 rfl rfl ?_
    refine gn_bk_row C dX10_about_70 hbk.1.1 wF_X10_224 (hbk.2.2.2.2.1 hk1) ?_
    refine g_ifnonnullN C dX10_about_73 ?_
    refine g_iconst (v := nI 0) C dX10_about_76 (by decide) ?_
    refine g_goto 87 C dX10_about_77 (by decide) ?_
    exact g_iret C dX10_about_87 (by decide) (by decide) (⟨by unfold A_about; rw [he]; simp only []; rw [inR_nI (by decide), decide_eq_true (by decide), if_pos rfl, nI_clamp (by decide)]; unfold abV; rw [hB1]; rfl, ⟨c, D, hr⟩, Fk.refl S⟩)
  · refine g_table (off := 71) 88 C dX10_about_17 (by decide) (by decide) (by decide) rfl (by decide) ?_
    refine g_aload_n 0 3 C dX10_about_88 rfl rfl ?_
    refine gf_bk_edges C dX10_about_89 hbk.1.1 wF_X10_228 ?_
    refine g_topi (hbk.2.2.1.1) ?_
    exact g_iret C dX10_about_92 (by decide) (by decide) (⟨by unfold A_about; rw [he]; simp only []; rw [inR_nI (by decide), decide_eq_true (by decide), if_pos rfl, nI_clamp (by decide)]; unfold abV; rfl, ⟨c, D, hr⟩, Fk.refl S⟩)
  · refine g_table (off := 76) 93 C dX10_about_17 (by decide) (by decide) (by decide) rfl (by decide) ?_
    refine g_aload_n 0 3 C dX10_about_93 rfl rfl ?_
    refine gf_bk_part C dX10_about_94 hbk.1.1 wF_X10_231 ?_
    refine g_topi (hbk.2.2.1.2) ?_
    exact g_iret C dX10_about_97 (by decide) (by decide) (⟨by unfold A_about; rw [he]; simp only []; rw [inR_nI (by decide), decide_eq_true (by decide), if_pos rfl, nI_clamp (by decide)]; unfold abV; rfl, ⟨c, D, hr⟩, Fk.refl S⟩)
  · refine g_table (off := 81) 98 C dX10_about_17 (by decide) (by decide) (by decide) rfl (by decide) ?_
    refine g_aload_n 0 3 C dX10_about_98 rfl rfl ?_
    refine g_callV (As := []) (rest := []) C dX10_about_99 (c_K_isTree hbk hok.2.1) wC_X2_isTree wM_X10_234 wI_X2_isTree wS_X2_isTree wN_X2 (kne hbk.1.1) (pf_3 hbk.1.1) rfl hd_X2_isTree ⟨by decide, by decide, by decide, by decide⟩ (Nat.le_of_ble_eq_true rfl) (fun r_ S_ h_ => ?_)
    obtain ⟨rfl, rfl⟩ := h_
    change Go X G _ 4 _ _ S 102 [(3, .ref ((D t 0))), (0, .ref x), (1, .int (nI j)), (2, .int (nI 4))] [.int (bI (decide (2 ≤ tK (zH Z t) ∧ tK (zH Z t) ≤ 4)))]
    refine g_if_eq 115 C dX10_about_102 (by decide) (fun c102 => ?_) (fun c102 => ?_)
    · have hnt := of_decide_eq_false (bI_f c102)
      have hk1b := hok.1
      refine g_iconst (v := nI 0) C dX10_about_115 (by decide) ?_
      exact g_iret C dX10_about_116 (by decide) (by decide) (⟨by unfold A_about; rw [he]; simp only []; rw [inR_nI (by decide), decide_eq_true (by decide), if_pos rfl, nI_clamp (by decide)]; unfold abV; show _ = some (Value.int (nI (marksN (tK (zH Z t)) (tL (zH Z t))))); rw [mk_no (by omega)], ⟨c, D, hr⟩, Fk.refl S⟩)
    · refine g_aload_n 0 3 C dX10_about_105 rfl rfl ?_
      refine gr_bk_list C dX10_about_106 hbk.1.1 wF_X10_124 hbk.1.2.2 ?_
      refine gf_ls_size C dX10_about_109 hbk.2.1.1.1 wF_X10_129 ?_
      refine g_topi (hbk.2.1.2.2.2.1) ?_
      refine g_goto 116 C dX10_about_112 (by decide) ?_
      exact g_iret C dX10_about_116 (by decide) (by decide) (⟨by unfold A_about; rw [he]; simp only []; rw [inR_nI (by decide), decide_eq_true (by decide), if_pos rfl, nI_clamp (by decide)]; unfold abV; show _ = some (Value.int (nI (marksN (tK (zH Z t)) (tL (zH Z t))))); rw [marks_len hok.2.2.1 (by omega) (of_decide_eq_true (bI_t c102))], ⟨c, D, hr⟩, Fk.refl S⟩)
  · refine g_table (off := 100) 117 C dX10_about_17 (by decide) (by decide) (by decide) rfl (by decide) ?_
    refine g_aload_n 0 3 C dX10_about_117 rfl rfl ?_
    refine g_callV (As := []) (rest := []) C dX10_about_118 (c_K_lowBits hbk hok.2.1) wC_X2_lowBits wM_X10_237 wI_X2_lowBits wS_X2_lowBits wN_X2 (kne hbk.1.1) (pf_3 hbk.1.1) rfl hd_X2_lowBits ⟨by decide, by decide, by decide, by decide⟩ (Nat.le_of_ble_eq_true rfl) (fun r_ S_ h_ => ?_)
    obtain ⟨rfl, rfl⟩ := h_
    change Go X G _ 4 _ _ S 121 [(3, .ref ((D t 0))), (0, .ref x), (1, .int (nI j)), (2, .int (nI 5))] [.int (nI (if tK (zH Z t) = 5 then (tL (zH Z t)).length * (64 - hbN (tL (zH Z t)).length) else 0))]
    exact g_iret C dX10_about_121 (by decide) (by decide) (⟨by unfold A_about; rw [he]; simp only []; rw [inR_nI (by decide), decide_eq_true (by decide), if_pos rfl, nI_clamp (by decide)]; unfold abV; rfl, ⟨c, D, hr⟩, Fk.refl S⟩)
  · refine g_table (off := 105) 122 C dX10_about_17 (by decide) (by decide) (by decide) rfl (by decide) ?_
    refine g_aload_n 0 3 C dX10_about_122 rfl rfl ?_
    refine gr_bk_list C dX10_about_123 hbk.1.1 wF_X10_124 hbk.1.2.2 ?_
    refine g_callV (As := []) (rest := []) C dX10_about_126 (c_L_width hbl) wC_X4_width wM_X10_240 wI_X4_width wS_X4_width wN_X4 (kne hbk.2.1.1.1) (pf_5 hbk.2.1.1.1) rfl hd_X4_width ⟨by decide, by decide, by decide, by decide⟩ (Nat.le_of_ble_eq_true rfl) (fun r_ S_ h_ => ?_)
    obtain ⟨rfl, rfl⟩ := h_
    change Go X G _ 4 _ _ S 129 [(3, .ref ((D t 0))), (0, .ref x), (1, .int (nI j)), (2, .int (nI 6))] [.int (nI (widthN (tL (zH Z t))))]
    exact g_iret C dX10_about_129 (by decide) (by decide) (⟨by unfold A_about; rw [he]; simp only []; rw [inR_nI (by decide), decide_eq_true (by decide), if_pos rfl, nI_clamp (by decide)]; unfold abV; rfl, ⟨c, D, hr⟩, Fk.refl S⟩)
  · refine g_table (off := 113) 130 C dX10_about_17 (by decide) (by decide) (by decide) rfl (by decide) ?_
    refine g_aload_n 0 3 C dX10_about_130 rfl rfl ?_
    refine gn_bk_row C dX10_about_131 hbk.1.1 wF_X10_224 (hbk.2.2.2.2.1 hk1) ?_
    refine g_ifnonnullN C dX10_about_134 ?_
    refine g_iconst (v := nI 0) C dX10_about_137 (by decide) ?_
    refine g_goto 148 C dX10_about_138 (by decide) ?_
    exact g_iret C dX10_about_148 (by decide) (by decide) (⟨by unfold A_about; rw [he]; simp only []; rw [inR_nI (by decide), decide_eq_true (by decide), if_pos rfl, nI_clamp (by decide)]; unfold abV; rw [if_pos hk1]; rfl, ⟨c, D, hr⟩, Fk.refl S⟩)
  · refine g_tableOut 149 C dX10_about_17 (Or.inl (by rw [Int32.lt_iff_toInt_lt, Int32.toInt_zero] at h; exact h)) (by decide) ?_
    refine g_bipush (v := -5) C dX10_about_149 (by decide) ?_
    exact g_iret C dX10_about_151 (by decide) (by decide) (⟨by unfold A_about; rw [he]; simp only []; rw [show inR what 8 = false from by first | exact inR_neg h | exact inR_big (by decide) h]; rfl, ⟨c, D, hr⟩, Fk.refl S⟩)
  · refine g_tableOut 149 C dX10_about_17 (Or.inr (by rw [Int32.le_iff_toInt_le, nI_toInt (by decide)] at h; omega)) (by decide) ?_
    refine g_bipush (v := -5) C dX10_about_149 (by decide) ?_
    exact g_iret C dX10_about_151 (by decide) (by decide) (⟨by unfold A_about; rw [he]; simp only []; rw [show inR what 8 = false from by first | exact inR_neg h | exact inR_big (by decide) h]; rfl, ⟨c, D, hr⟩, Fk.refl S⟩)
set_option maxRecDepth 100000 in
set_option maxHeartbeats 2000000 in
theorem c_C_about_kr {lX : Launch} {G : Gx} {S : PS} {x : Nat} {c : Nat → Nat} {D : Nat → Nat → Nat} {Z : ZT} (hr : RCD S Z x c D) (hZ : okZ Z) {j t : Nat} (hj : j < 10) (hp : zP Z j = t + 1) (he : bookE Z (nI j) = .inr t) {what : Int32} (hk1 : tK (zH Z t) ≠ 1) : Ct lX yX10_about cX10_about 4 (Option.some Jvm.ClassFile.FieldType.int) rm_X10_about G [.ref x, .int (nI j), .int what] S (fun r S' => r = some (.int (A_about Z (nI j) what)) ∧ RC S' (Z) x ∧ Fk S S') := by
  obtain ⟨⟨⟨kx, r0, k0⟩, r1, r3, r5, ⟨r7, k7⟩, ⟨r8, k8⟩, ⟨r9, k9⟩, ⟨r10, k10⟩, ⟨r11, k11⟩, ⟨r12, k12⟩, r13⟩, hT, hP, hH, hRf, hW, hA, hL, hSep⟩ := id hr
  obtain ⟨⟨k1, r2, k2⟩, hu, htl, htf, ht255⟩ := id hT
  obtain ⟨⟨k3, r4⟩, ⟨k4, l4⟩, ws, wl, wv⟩ := id hW
  have hok := (hZ.th hj hp).1
  have hk5 : tK (zH Z t) ≤ 5 := by obtain ⟨j2, _, e2, h2, h3⟩ := bookE_inr he; exact h3
  have hbk := (hH t ⟨j, hj, hp⟩).1 hk5
  have hbl := hbk.2.1
  have hla := hbk.2.1.2.2.2.2.1
  have hl100 := hok.2.2.1.1
  have hpos := (hok.2.2.2.2.2.1 hk5).1
  refine Ct.mk RX10 "about" hy_X10_about (Nat.le_of_ble_eq_true rfl) (fun X hX C => ?_)
  change Go X G _ 4 0 0 S 0 [(0, .ref x), (1, .int (nI j)), (2, .int what)] []
  refine g_aload_n 0 0 C dX10_about_0 rfl rfl ?_
  refine g_iload_n 1 1 C dX10_about_1 rfl rfl ?_
  refine g_callV (As := [.int (nI j)]) (rest := []) C dX10_about_2 (c_C_bookAt_ok hr hZ hj hp he) wC_X10_bookAt wM_X10_114 wI_X10_bookAt wS_X10_bookAt wN_X10 (kne kx) (pf_10 kx) rfl hd_X10_bookAt ⟨by decide, by decide, by decide, by decide⟩ (Nat.le_of_ble_eq_true rfl) (fun r_ S_ h_ => ?_)
  obtain ⟨rfl, rfl⟩ := h_
  change Go X G _ 4 _ _ S 5 [(0, .ref x), (1, .int (nI j)), (2, .int what)] [.ref ((D t 0))]
  refine g_astore_n (lv' := [(3, .ref ((D t 0))), (0, .ref x), (1, .int (nI j)), (2, .int what)]) C dX10_about_5 rfl (by decide) rfl ?_
  refine g_aload_n 0 3 C dX10_about_6 rfl rfl ?_
  refine g_ifnonnull 16 C dX10_about_7 (by decide) ?_
  refine g_iload_n 3 2 C dX10_about_16 rfl rfl ?_
  rcases pk_ix what (n := 8) (by decide) with h | h | ⟨i1, hi1, rfl⟩
  rotate_left 2
  rcases (show i1 = 0 ∨ i1 = 1 ∨ i1 = 2 ∨ i1 = 3 ∨ i1 = 4 ∨ i1 = 5 ∨ i1 = 6 ∨ i1 = 7 by omega) with rfl | rfl | rfl | rfl | rfl | rfl | rfl | rfl
  · refine g_table (off := 47) 64 C dX10_about_17 (by decide) (by decide) (by decide) rfl (by decide) ?_
    refine g_aload_n 0 3 C dX10_about_64 rfl rfl ?_
    refine gf_bk_kindS C dX10_about_65 hbk.1.1 wF_X10_221 ?_
    refine g_topi (hbk.1.2.1) ?_
    exact g_iret C dX10_about_68 (by decide) (by decide) (⟨by unfold A_about; rw [he]; simp only []; rw [inR_nI (by decide), decide_eq_true (by decide), if_pos rfl, nI_clamp (by decide)]; unfold abV; rfl, ⟨c, D, hr⟩, Fk.refl S⟩)
  · refine g_table (off := 52) 69 C dX10_about_17 (by decide) (by decide) (by decide) rfl (by decide) ?_
    refine g_aload_n 0 3 C dX10_about_69 rfl rfl ?_
    refine gr_bk_row C dX10_about_70 hbk.1.1 wF_X10_224 (hbk.2.2.2.2.2 hk1).1 ?_
    refine g_ifnonnull 80 C dX10_about_73 (by decide) ?_
    refine g_aload_n 0 3 C dX10_about_80 rfl rfl ?_
    refine gr_bk_row C dX10_about_81 hbk.1.1 wF_X10_224 (hbk.2.2.2.2.2 hk1).1 ?_
    refine gf_rw_bits C dX10_about_84 (hbk.2.2.2.2.2 hk1).2.1.1.1 wF_X10_192 ?_
    refine g_topi ((hbk.2.2.2.2.2 hk1).2.1.1.2.1) ?_
    exact g_iret C dX10_about_87 (by decide) (by decide) (⟨by unfold A_about; rw [he]; simp only []; rw [inR_nI (by decide), decide_eq_true (by decide), if_pos rfl, nI_clamp (by decide)]; unfold abV; rfl, ⟨c, D, hr⟩, Fk.refl S⟩)
  · refine g_table (off := 71) 88 C dX10_about_17 (by decide) (by decide) (by decide) rfl (by decide) ?_
    refine g_aload_n 0 3 C dX10_about_88 rfl rfl ?_
    refine gf_bk_edges C dX10_about_89 hbk.1.1 wF_X10_228 ?_
    refine g_topi (hbk.2.2.1.1) ?_
    exact g_iret C dX10_about_92 (by decide) (by decide) (⟨by unfold A_about; rw [he]; simp only []; rw [inR_nI (by decide), decide_eq_true (by decide), if_pos rfl, nI_clamp (by decide)]; unfold abV; rfl, ⟨c, D, hr⟩, Fk.refl S⟩)
  · refine g_table (off := 76) 93 C dX10_about_17 (by decide) (by decide) (by decide) rfl (by decide) ?_
    refine g_aload_n 0 3 C dX10_about_93 rfl rfl ?_
    refine gf_bk_part C dX10_about_94 hbk.1.1 wF_X10_231 ?_
    refine g_topi (hbk.2.2.1.2) ?_
    exact g_iret C dX10_about_97 (by decide) (by decide) (⟨by unfold A_about; rw [he]; simp only []; rw [inR_nI (by decide), decide_eq_true (by decide), if_pos rfl, nI_clamp (by decide)]; unfold abV; rfl, ⟨c, D, hr⟩, Fk.refl S⟩)
  · refine g_table (off := 81) 98 C dX10_about_17 (by decide) (by decide) (by decide) rfl (by decide) ?_
    refine g_aload_n 0 3 C dX10_about_98 rfl rfl ?_
    refine g_callV (As := []) (rest := []) C dX10_about_99 (c_K_isTree hbk hok.2.1) wC_X2_isTree wM_X10_234 wI_X2_isTree wS_X2_isTree wN_X2 (kne hbk.1.1) (pf_3 hbk.1.1) rfl hd_X2_isTree ⟨by decide, by decide, by decide, by decide⟩ (Nat.le_of_ble_eq_true rfl) (fun r_ S_ h_ => ?_)
    obtain ⟨rfl, rfl⟩ := h_
    change Go X G _ 4 _ _ S 102 [(3, .ref ((D t 0))), (0, .ref x), (1, .int (nI j)), (2, .int (nI 4))] [.int (bI (decide (2 ≤ tK (zH Z t) ∧ tK (zH Z t) ≤ 4)))]
    refine g_if_eq 115 C dX10_about_102 (by decide) (fun c102 => ?_) (fun c102 => ?_)
    · have hnt := of_decide_eq_false (bI_f c102)
      have hk1b := hok.1
      refine g_iconst (v := nI 0) C dX10_about_115 (by decide) ?_
      exact g_iret C dX10_about_116 (by decide) (by decide) (⟨by unfold A_about; rw [he]; simp only []; rw [inR_nI (by decide), decide_eq_true (by decide), if_pos rfl, nI_clamp (by decide)]; unfold abV; show _ = some (Value.int (nI (marksN (tK (zH Z t)) (tL (zH Z t))))); rw [mk_no (by omega)], ⟨c, D, hr⟩, Fk.refl S⟩)
    · refine g_aload_n 0 3 C dX10_about_105 rfl rfl ?_
      refine gr_bk_list C dX10_about_106 hbk.1.1 wF_X10_124 hbk.1.2.2 ?_
      refine gf_ls_size C dX10_about_109 hbk.2.1.1.1 wF_X10_129 ?_
      refine g_topi (hbk.2.1.2.2.2.1) ?_
      refine g_goto 116 C dX10_about_112 (by decide) ?_
      exact g_iret C dX10_about_116 (by decide) (by decide) (⟨by unfold A_about; rw [he]; simp only []; rw [inR_nI (by decide), decide_eq_true (by decide), if_pos rfl, nI_clamp (by decide)]; unfold abV; show _ = some (Value.int (nI (marksN (tK (zH Z t)) (tL (zH Z t))))); rw [marks_len hok.2.2.1 (by omega) (of_decide_eq_true (bI_t c102))], ⟨c, D, hr⟩, Fk.refl S⟩)
  · refine g_table (off := 100) 117 C dX10_about_17 (by decide) (by decide) (by decide) rfl (by decide) ?_
    refine g_aload_n 0 3 C dX10_about_117 rfl rfl ?_
    refine g_callV (As := []) (rest := []) C dX10_about_118 (c_K_lowBits hbk hok.2.1) wC_X2_lowBits wM_X10_237 wI_X2_lowBits wS_X2_lowBits wN_X2 (kne hbk.1.1) (pf_3 hbk.1.1) rfl hd_X2_lowBits ⟨by decide, by decide, by decide, by decide⟩ (Nat.le_of_ble_eq_true rfl) (fun r_ S_ h_ => ?_)
    obtain ⟨rfl, rfl⟩ := h_
    change Go X G _ 4 _ _ S 121 [(3, .ref ((D t 0))), (0, .ref x), (1, .int (nI j)), (2, .int (nI 5))] [.int (nI (if tK (zH Z t) = 5 then (tL (zH Z t)).length * (64 - hbN (tL (zH Z t)).length) else 0))]
    exact g_iret C dX10_about_121 (by decide) (by decide) (⟨by unfold A_about; rw [he]; simp only []; rw [inR_nI (by decide), decide_eq_true (by decide), if_pos rfl, nI_clamp (by decide)]; unfold abV; rfl, ⟨c, D, hr⟩, Fk.refl S⟩)
  · refine g_table (off := 105) 122 C dX10_about_17 (by decide) (by decide) (by decide) rfl (by decide) ?_
    refine g_aload_n 0 3 C dX10_about_122 rfl rfl ?_
    refine gr_bk_list C dX10_about_123 hbk.1.1 wF_X10_124 hbk.1.2.2 ?_
    refine g_callV (As := []) (rest := []) C dX10_about_126 (c_L_width hbl) wC_X4_width wM_X10_240 wI_X4_width wS_X4_width wN_X4 (kne hbk.2.1.1.1) (pf_5 hbk.2.1.1.1) rfl hd_X4_width ⟨by decide, by decide, by decide, by decide⟩ (Nat.le_of_ble_eq_true rfl) (fun r_ S_ h_ => ?_)
    obtain ⟨rfl, rfl⟩ := h_
    change Go X G _ 4 _ _ S 129 [(3, .ref ((D t 0))), (0, .ref x), (1, .int (nI j)), (2, .int (nI 6))] [.int (nI (widthN (tL (zH Z t))))]
    exact g_iret C dX10_about_129 (by decide) (by decide) (⟨by unfold A_about; rw [he]; simp only []; rw [inR_nI (by decide), decide_eq_true (by decide), if_pos rfl, nI_clamp (by decide)]; unfold abV; rfl, ⟨c, D, hr⟩, Fk.refl S⟩)
  · refine g_table (off := 113) 130 C dX10_about_17 (by decide) (by decide) (by decide) rfl (by decide) ?_
    refine g_aload_n 0 3 C dX10_about_130 rfl rfl ?_
    refine gr_bk_row C dX10_about_131 hbk.1.1 wF_X10_224 (hbk.2.2.2.2.2 hk1).1 ?_
    refine g_ifnonnull 141 C dX10_about_134 (by decide) ?_
    refine g_aload_n 0 3 C dX10_about_141 rfl rfl ?_
    refine gr_bk_row C dX10_about_142 hbk.1.1 wF_X10_224 (hbk.2.2.2.2.2 hk1).1 ?_
    refine g_callV (As := []) (rest := []) C dX10_about_145 (c_R_tableN (hbk.2.2.2.2.2 hk1).2.1) wC_X6_tableNumbers wM_X10_243 wI_X6_tableNumbers wS_X6_tableNumbers wN_X6 (kne (hbk.2.2.2.2.2 hk1).2.1.1.1) (pf_7 (hbk.2.2.2.2.2 hk1).2.1.1.1) rfl hd_X6_tableNumbers ⟨by decide, by decide, by decide, by decide⟩ (Nat.le_of_ble_eq_true rfl) (fun r_ S_ h_ => ?_)
    obtain ⟨rfl, rfl⟩ := h_
    change Go X G _ 4 _ _ S 148 [(3, .ref ((D t 0))), (0, .ref x), (1, .int (nI j)), (2, .int (nI 7))] [.int (nI ((if tA (zH Z t) = true then 0 else (tB (zH Z t)).length / 512 + 1) + (if tC (zH Z t) = true then 0 else (tB (zH Z t)).length / 64 + 1)))]
    exact g_iret C dX10_about_148 (by decide) (by decide) (⟨by unfold A_about; rw [he]; simp only []; rw [inR_nI (by decide), decide_eq_true (by decide), if_pos rfl, nI_clamp (by decide)]; unfold abV; rw [if_neg hk1]; rfl, ⟨c, D, hr⟩, Fk.refl S⟩)
  · refine g_tableOut 149 C dX10_about_17 (Or.inl (by rw [Int32.lt_iff_toInt_lt, Int32.toInt_zero] at h; exact h)) (by decide) ?_
    refine g_bipush (v := -5) C dX10_about_149 (by decide) ?_
    exact g_iret C dX10_about_151 (by decide) (by decide) (⟨by unfold A_about; rw [he]; simp only []; rw [show inR what 8 = false from by first | exact inR_neg h | exact inR_big (by decide) h]; rfl, ⟨c, D, hr⟩, Fk.refl S⟩)
  · refine g_tableOut 149 C dX10_about_17 (Or.inr (by rw [Int32.le_iff_toInt_le, nI_toInt (by decide)] at h; omega)) (by decide) ?_
    refine g_bipush (v := -5) C dX10_about_149 (by decide) ?_
    exact g_iret C dX10_about_151 (by decide) (by decide) (⟨by unfold A_about; rw [he]; simp only []; rw [show inR what 8 = false from by first | exact inR_neg h | exact inR_big (by decide) h]; rfl, ⟨c, D, hr⟩, Fk.refl S⟩)
set_option maxRecDepth 100000 in
set_option maxHeartbeats 2000000 in
theorem c_C_about_err {lX : Launch} {G : Gx} {S : PS} {x : Nat} {c : Nat → Nat} {D : Nat → Nat → Nat} {Z : ZT} (hr : RCD S Z x c D) (hZ : okZ Z) {p e : Int32} (he : bookE Z p = .inl e) {what : Int32} : Ct lX yX10_about cX10_about 4 (Option.some Jvm.ClassFile.FieldType.int) rm_X10_about G [.ref x, .int p, .int what] S (fun r S' => r = some (.int (A_about Z p what)) ∧ RC S' (Z) x ∧ Fk S S') := by
  obtain ⟨⟨⟨kx, r0, k0⟩, r1, r3, r5, ⟨r7, k7⟩, ⟨r8, k8⟩, ⟨r9, k9⟩, ⟨r10, k10⟩, ⟨r11, k11⟩, ⟨r12, k12⟩, r13⟩, hT, hP, hH, hRf, hW, hA, hL, hSep⟩ := id hr
  obtain ⟨⟨k1, r2, k2⟩, hu, htl, htf, ht255⟩ := id hT
  obtain ⟨⟨k3, r4⟩, ⟨k4, l4⟩, ws, wl, wv⟩ := id hW
  refine Ct.mk RX10 "about" hy_X10_about (Nat.le_of_ble_eq_true rfl) (fun X hX C => ?_)
  change Go X G _ 4 0 0 S 0 [(0, .ref x), (1, .int p), (2, .int what)] []
  refine g_aload_n 0 0 C dX10_about_0 rfl rfl ?_
  refine g_iload_n 1 1 C dX10_about_1 rfl rfl ?_
  refine g_callV (As := [.int p]) (rest := []) C dX10_about_2 (c_C_bookAt_err hr hZ he) wC_X10_bookAt wM_X10_114 wI_X10_bookAt wS_X10_bookAt wN_X10 (kne kx) (pf_10 kx) rfl hd_X10_bookAt ⟨by decide, by decide, by decide, by decide⟩ (Nat.le_of_ble_eq_true rfl) (fun r_ S_ h_ => ?_)
  obtain ⟨rfl, rfl⟩ := h_
  change Go X G _ 4 _ _ S 5 [(0, .ref x), (1, .int p), (2, .int what)] [.null]
  refine g_astore_nN (lv' := [(3, .null), (0, .ref x), (1, .int p), (2, .int what)]) C dX10_about_5 rfl (by decide) rfl ?_
  refine g_aload_nN 0 3 C dX10_about_6 rfl rfl ?_
  refine g_ifnonnullN C dX10_about_7 ?_
  refine g_aload_n 1 0 C dX10_about_10 rfl rfl ?_
  refine g_iload_n 2 1 C dX10_about_11 rfl rfl ?_
  refine g_callV (As := [.int p]) (rest := []) C dX10_about_12 (c_C_ref hr hZ) wC_X10_refusalAt wM_X10_88 wI_X10_refusalAt wS_X10_refusalAt wN_X10 (kne kx) (pf_10 kx) rfl hd_X10_refusalAt ⟨by decide, by decide, by decide, by decide⟩ (Nat.le_of_ble_eq_true rfl) (fun r_ S_ h_ => ?_)
  obtain ⟨rfl, rfl⟩ := h_
  change Go X G _ 4 _ _ S 15 [(3, .null), (0, .ref x), (1, .int p), (2, .int what)] [.int (reA Z p)]
  exact g_iret C dX10_about_15 (by decide) (by decide) (⟨by unfold A_about; rw [he, ref_book he], ⟨c, D, hr⟩, Fk.refl S⟩)
theorem c_C_about {lX : Launch} {G : Gx} {S : PS} {x : Nat} {c : Nat → Nat} {D : Nat → Nat → Nat} {Z : ZT} (hr : RCD S Z x c D) (hZ : okZ Z) {p what : Int32} : Ct lX yX10_about cX10_about 4 (Option.some Jvm.ClassFile.FieldType.int) rm_X10_about G [.ref x, .int p, .int what] S (fun r S' => r = some (.int (A_about Z p what)) ∧ RC S' (Z) x ∧ Fk S S') := by
  cases he : bookE Z p with
  | inl e => exact c_C_about_err hr hZ he
  | inr t =>
    obtain ⟨j, hj, rfl, hp, -⟩ := bookE_inr he
    by_cases hk : tK (zH Z t) = 1
    · exact c_C_about_k1 hr hZ hj hp he hk
    · exact c_C_about_kr hr hZ hj hp he hk
