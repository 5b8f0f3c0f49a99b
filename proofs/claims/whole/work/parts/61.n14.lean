set_option maxRecDepth 100000 in
set_option maxHeartbeats 2000000 in
theorem c_C_prefix_err {lX : Launch} {G : Gx} {S : PS} {x : Nat} {c : Nat → Nat} {D : Nat → Nat → Nat} {Z : ZT} (hr : RCD S Z x c D) (hZ : okZ Z) {p e : Int32} (he : bookE Z p = .inl e) {last : Bool} : Ct lX yX10_prefix cX10_prefix 7 (Option.some Jvm.ClassFile.FieldType.int) rm_X10_prefix G [.ref x, .int p, .int (bI last)] S (fun r S' => r = some (.int (A_prefix Z p last)) ∧ RC S' (askZ Z p) x ∧ Fk S S') := by
  obtain ⟨⟨⟨kx, r0, k0⟩, r1, r3, r5, ⟨r7, k7⟩, ⟨r8, k8⟩, ⟨r9, k9⟩, ⟨r10, k10⟩, ⟨r11, k11⟩, ⟨r12, k12⟩, r13⟩, hT, hP, hH, hRf, hW, hA, hL, hSep⟩ := id hr
  obtain ⟨⟨k1, r2, k2⟩, hu, htl, htf, ht255⟩ := id hT
  obtain ⟨⟨k3, r4⟩, ⟨k4, l4⟩, ws, wl, wv⟩ := id hW
  obtain ⟨ha, hz⟩ := askE_no he
  have hre := ref_book he
  refine Ct.mk RX10 "prefix" hy_X10_prefix (Nat.le_of_ble_eq_true rfl) (fun X hX C => ?_)
  change Go X G _ 7 0 0 S 0 [(0, .ref x), (1, .int p), (2, .int (bI last))] []
  refine g_aload_n 0 0 C dX10_prefix_0 rfl rfl ?_
  refine g_iload_n 1 1 C dX10_prefix_1 rfl rfl ?_
  refine g_callV (As := [.int p]) (rest := []) C dX10_prefix_2 (c_C_bookAt_err hr hZ he) wC_X10_bookAt wM_X10_114 wI_X10_bookAt wS_X10_bookAt wN_X10 (kne kx) (pf_10 kx) rfl hd_X10_bookAt ⟨by decide, by decide, by decide, by decide⟩ (Nat.le_of_ble_eq_true rfl) (fun r_ S_ h_ => ?_)
  obtain ⟨rfl, rfl⟩ := h_
  change Go X G _ 7 _ _ S 5 [(0, .ref x), (1, .int p), (2, .int (bI last))] [.null]
  refine g_astore_nN (lv' := [(3, .null), (0, .ref x), (1, .int p), (2, .int (bI last))]) C dX10_prefix_5 rfl (by decide) rfl ?_
  refine g_aload_n 1 0 C dX10_prefix_6 rfl rfl ?_
  refine g_aload_nN 0 3 C dX10_prefix_7 rfl rfl ?_
  refine g_callV (As := [.null]) (rest := []) C dX10_prefix_8 (c_C_nameFor_no hr hZ) wC_X10_nameFor wM_X10_146 wI_X10_nameFor wS_X10_nameFor wN_X10 (kne kx) (pf_10 kx) rfl hd_X10_nameFor ⟨by decide, by decide, by decide, by decide⟩ (Nat.le_of_ble_eq_true rfl) (fun r_ S_ h_ => ?_)
  obtain ⟨rfl, rfl⟩ := h_
  change Go X G _ 7 _ _ S 11 [(3, .null), (0, .ref x), (1, .int p), (2, .int (bI last))] [.null]
  refine g_astoreN (lv' := [(4, .null), (3, .null), (0, .ref x), (1, .int p), (2, .int (bI last))]) C dX10_prefix_11 (by decide) rfl ?_
  refine g_aload_nN 1 3 C dX10_prefix_13 rfl rfl ?_
  refine g_ifnullN 29 C dX10_prefix_14 (by decide) ?_
  refine g_aload_n 2 0 C dX10_prefix_29 rfl rfl ?_
  refine g_iload_n 3 1 C dX10_prefix_30 rfl rfl ?_
  refine g_aload_nN 1 3 C dX10_prefix_31 rfl rfl ?_
  refine g_aloadN 0 C dX10_prefix_32 rfl ?_
  refine g_callV (As := [.int p, .null, .null]) (rest := []) C dX10_prefix_34 (c_C_roa_no hr hZ) wC_X10_refusalOfAsking wM_X10_150 wI_X10_refusalOfAsking wS_X10_refusalOfAsking wN_X10 (kne kx) (pf_10 kx) rfl hd_X10_refusalOfAsking ⟨by decide, by decide, by decide, by decide⟩ (Nat.le_of_ble_eq_true rfl) (fun r_ S_ h_ => ?_)
  obtain ⟨rfl, rfl⟩ := h_
  change Go X G _ 7 _ _ S 37 [(4, .null), (3, .null), (0, .ref x), (1, .int p), (2, .int (bI last))] [.int (reA Z p)]
  exact g_iret C dX10_prefix_37 (by decide) (by decide) (⟨by unfold A_prefix; rw [ha, hre], ⟨c, D, by rw [hz]; exact hr⟩, Fk.refl S⟩)
set_option maxRecDepth 100000 in
set_option maxHeartbeats 2000000 in
theorem c_C_prefix_ok {lX : Launch} {G : Gx} {S : PS} {x : Nat} {c : Nat → Nat} {D : Nat → Nat → Nat} {Z : ZT} (hr : RCD S Z x c D) (hZ : okZ Z) {j t : Nat} (hj : j < 10) (hp : zP Z j = t + 1) (he : bookE Z (nI j) = .inr t) {last : Bool} : Ct lX yX10_prefix cX10_prefix 7 (Option.some Jvm.ClassFile.FieldType.int) rm_X10_prefix G [.ref x, .int (nI j), .int (bI last)] S (fun r S' => r = some (.int (A_prefix Z (nI j) last)) ∧ RC S' (askZ Z (nI j)) x ∧ Fk S S') := by
  obtain ⟨⟨⟨kx, r0, k0⟩, r1, r3, r5, ⟨r7, k7⟩, ⟨r8, k8⟩, ⟨r9, k9⟩, ⟨r10, k10⟩, ⟨r11, k11⟩, ⟨r12, k12⟩, r13⟩, hT, hP, hH, hRf, hW, hA, hL, hSep⟩ := id hr
  obtain ⟨⟨k1, r2, k2⟩, hu, htl, htf, ht255⟩ := id hT
  obtain ⟨⟨k3, r4⟩, ⟨k4, l4⟩, ws, wl, wv⟩ := id hW
  have hok := (hZ.th hj hp).1
  have hk5 : tK (zH Z t) ≤ 5 := by obtain ⟨j2, _, e2, h2, h3⟩ := bookE_inr he; exact h3
  have hbk := (hH t ⟨j, hj, hp⟩).1 hk5
  refine Ct.mk RX10 "prefix" hy_X10_prefix (Nat.le_of_ble_eq_true rfl) (fun X hX C => ?_)
  change Go X G _ 7 0 0 S 0 [(0, .ref x), (1, .int (nI j)), (2, .int (bI last))] []
  refine g_aload_n 0 0 C dX10_prefix_0 rfl rfl ?_
  refine g_iload_n 1 1 C dX10_prefix_1 rfl rfl ?_
  refine g_callV (As := [.int (nI j)]) (rest := []) C dX10_prefix_2 (c_C_bookAt_ok hr hZ hj hp he) wC_X10_bookAt wM_X10_114 wI_X10_bookAt wS_X10_bookAt wN_X10 (kne kx) (pf_10 kx) rfl hd_X10_bookAt ⟨by decide, by decide, by decide, by decide⟩ (Nat.le_of_ble_eq_true rfl) (fun r_ S_ h_ => ?_)
  obtain ⟨rfl, rfl⟩ := h_
  change Go X G _ 7 _ _ S 5 [(0, .ref x), (1, .int (nI j)), (2, .int (bI last))] [.ref ((D t 0))]
  refine g_astore_n (lv' := [(3, .ref ((D t 0))), (0, .ref x), (1, .int (nI j)), (2, .int (bI last))]) C dX10_prefix_5 rfl (by decide) rfl ?_
  refine g_aload_n 1 0 C dX10_prefix_6 rfl rfl ?_
  refine g_aload_n 0 3 C dX10_prefix_7 rfl rfl ?_
  refine g_callV (As := [.ref ((D t 0))]) (rest := []) C dX10_prefix_8 (c_C_nameFor hr hZ) wC_X10_nameFor wM_X10_146 wI_X10_nameFor wS_X10_nameFor wN_X10 (kne kx) (pf_10 kx) rfl hd_X10_nameFor ⟨by decide, by decide, by decide, by decide⟩ (Nat.le_of_ble_eq_true rfl) (fun r_ Sa h_ => ?_)
  rcases h_ with ⟨hn, m_, rfl, f1, hm1, hnm, hm0⟩ | ⟨hn, rfl, f1, hm1⟩
  · change Go X G _ 7 _ _ Sa 11 [(3, .ref ((D t 0))), (0, .ref x), (1, .int (nI j)), (2, .int (bI last))] [.ref m_]
    have hr1 := hr.ask f1 hm1
    have hZ1 := hZ.ask
    have hb1 : bookC Sa (D t) (zH Z t) := (hr1.2.2.2.1 t ⟨j, hj, hp⟩).1 hk5
    have hoc := nameB_ok hn hZ.1.2
    have hla := hb1.2.1.2.2.2.2.1
    have hl100 := hok.2.2.1.1
    refine g_astore (lv' := [(4, .ref m_), (3, .ref ((D t 0))), (0, .ref x), (1, .int (nI j)), (2, .int (bI last))]) C dX10_prefix_11 (by decide) rfl ?_
    refine g_aload_n 1 3 C dX10_prefix_13 rfl rfl ?_
    refine g_ifnull C dX10_prefix_14 ?_
    refine g_aload 0 C dX10_prefix_17 rfl ?_
    refine g_ifnull C dX10_prefix_19 ?_
    refine g_aload_n 1 3 C dX10_prefix_22 rfl rfl ?_
    refine g_callV (As := []) (rest := []) C dX10_prefix_23 (c_K_lacks hb1 hok) wC_X2_lacksTable wM_X10_118 wI_X2_lacksTable wS_X2_lacksTable wN_X2 (kne hb1.1.1) (pf_3 hb1.1.1) rfl hd_X2_lacksTable ⟨by decide, by decide, by decide, by decide⟩ (Nat.le_of_ble_eq_true rfl) (fun r_ S_ h_ => ?_)
    obtain ⟨rfl, rfl⟩ := h_
    change Go X G _ 7 _ _ Sa 26 [(4, .ref m_), (3, .ref ((D t 0))), (0, .ref x), (1, .int (nI j)), (2, .int (bI last))] [.int (bI (missT (zH Z t)))]
    refine g_if_eq 38 C dX10_prefix_26 (by decide) (fun c26 => ?_) (fun c26 => ?_)
    · have hms := bI_f c26
      have ha : askE Z (nI j) = .inr t := by rw [askE_miss he hn, hms, if_neg (by decide)]
      refine g_aload_n 1 3 C dX10_prefix_38 rfl rfl ?_
      refine gr_bk_list C dX10_prefix_39 hb1.1.1 wF_X10_124 hb1.1.2.2 ?_
      refine g_aload 0 C dX10_prefix_42 rfl ?_
      refine g_callV (As := [.ref m_]) (rest := []) C dX10_prefix_44 (c_L_ahead hb1.2.1 hnm hoc) wC_X4_ahead wM_X10_154 wI_X4_ahead wS_X4_ahead wN_X4 (kne hb1.2.1.1.1) (pf_5 hb1.2.1.1.1) rfl hd_X4_ahead ⟨by decide, by decide, by decide, by decide⟩ (Nat.le_of_ble_eq_true rfl) (fun r_ S_ h_ => ?_)
      obtain ⟨rfl, rfl⟩ := h_
      change Go X G _ 7 _ _ Sa 47 [(4, .ref m_), (3, .ref ((D t 0))), (0, .ref x), (1, .int (nI j)), (2, .int (bI last))] [.int (nI (aheadN (tL (zH Z t)) (zT Z)))]
      have hah : aheadN (tL (zH Z t)) (zT Z) ≤ (tL (zH Z t)).length := ahead_le _ _
      refine g_istore (lv' := [(5, .int (nI (aheadN (tL (zH Z t)) (zT Z)))), (4, .ref m_), (3, .ref ((D t 0))), (0, .ref x), (1, .int (nI j)), (2, .int (bI last))]) C dX10_prefix_47 (by decide) rfl ?_
      refine g_aload_n 2 3 C dX10_prefix_49 rfl rfl ?_
      refine gr_bk_list C dX10_prefix_50 hb1.1.1 wF_X10_124 hb1.1.2.2 ?_
      refine g_iload 0 C dX10_prefix_53 rfl ?_
      refine g_aload 1 C dX10_prefix_55 rfl ?_
      refine g_callV (As := [.int (nI (aheadN (tL (zH Z t)) (zT Z))), .ref m_]) (rest := []) C dX10_prefix_57 (c_L_past hb1.2.1 hnm hoc hah) wC_X4_pastBeginningWith wM_X10_176 wI_X4_pastBeginningWith wS_X4_pastBeginningWith wN_X4 (kne hb1.2.1.1.1) (pf_5 hb1.2.1.1.1) rfl hd_X4_pastBeginningWith ⟨by decide, by decide, by decide, by decide⟩ (Nat.le_of_ble_eq_true rfl) (fun r_ S_ h_ => ?_)
      obtain ⟨rfl, rfl⟩ := h_
      change Go X G _ 7 _ _ Sa 60 [(5, .int (nI (aheadN (tL (zH Z t)) (zT Z)))), (4, .ref m_), (3, .ref ((D t 0))), (0, .ref x), (1, .int (nI j)), (2, .int (bI last))] [.int (nI (pastN (tL (zH Z t)) (zT Z)))]
      have hpl : pastN (tL (zH Z t)) (zT Z) ≤ (tL (zH Z t)).length := by unfold pastN; have := fN_le (fun i => decide (lcp (zT Z) (nm (tL (zH Z t)) (aheadN (tL (zH Z t)) (zT Z) + i)) = (zT Z).length)) ((tL (zH Z t)).length - aheadN (tL (zH Z t)) (zT Z)); omega
      have hpg : aheadN (tL (zH Z t)) (zT Z) ≤ pastN (tL (zH Z t)) (zT Z) := Nat.le_add_right _ _
      refine g_istore (lv' := [(6, .int (nI (pastN (tL (zH Z t)) (zT Z)))), (5, .int (nI (aheadN (tL (zH Z t)) (zT Z)))), (4, .ref m_), (3, .ref ((D t 0))), (0, .ref x), (1, .int (nI j)), (2, .int (bI last))]) C dX10_prefix_60 (by decide) rfl ?_
      refine g_iload 0 C dX10_prefix_62 rfl ?_
      refine g_iload 1 C dX10_prefix_64 rfl ?_
      refine g_ncmp_ne 75 (by omega) (by omega) C dX10_prefix_66 (by decide) (fun c66 => ?_) (fun c66 => ?_)
      · refine g_iload_n 6 2 C dX10_prefix_75 rfl rfl ?_
        refine g_if_eq 86 C dX10_prefix_76 (by decide) (fun c76 => ?_) (fun c76 => ?_)
        · have el := bI_f c76
          refine g_iload 1 C dX10_prefix_86 rfl ?_
          exact g_iret C dX10_prefix_88 (by decide) (by decide) (⟨by unfold A_prefix; rw [ha]; simp only []; rw [if_neg c66, el]; rfl, ⟨c, D, by rw [askZ_in he]; exact hr1⟩, f1.fk⟩)
        · have el := bI_t c76
          refine g_iload 0 C dX10_prefix_79 rfl ?_
          refine g_iconst (v := nI 1) C dX10_prefix_81 (by decide) ?_
          refine g_isub C dX10_prefix_82 ?_
          refine g_topi (pk_sub (by omega) : _ = nI (pastN (tL (zH Z t)) (zT Z) - 1)) ?_
          refine g_goto 88 C dX10_prefix_83 (by decide) ?_
          exact g_iret C dX10_prefix_88 (by decide) (by decide) (⟨by unfold A_prefix; rw [ha]; simp only []; rw [if_neg c66, el]; rfl, ⟨c, D, by rw [askZ_in he]; exact hr1⟩, f1.fk⟩)
      · refine g_bipush (v := -10) C dX10_prefix_69 (by decide) ?_
        refine g_iload 1 C dX10_prefix_71 rfl ?_
        refine g_isub C dX10_prefix_73 ?_
        exact g_iret C dX10_prefix_74 (by decide) (by decide) ⟨by unfold A_prefix; rw [ha]; simp only []; rw [if_pos c66], ⟨c, D, by rw [askZ_in he]; exact hr1⟩, f1.fk⟩
    · have hms := bI_t c26
      refine g_aload_n 2 0 C dX10_prefix_29 rfl rfl ?_
      refine g_iload_n 3 1 C dX10_prefix_30 rfl rfl ?_
      refine g_aload_n 1 3 C dX10_prefix_31 rfl rfl ?_
      refine g_aload 0 C dX10_prefix_32 rfl ?_
      refine g_callV (As := [.int (nI j), .ref ((D t 0)), .ref m_]) (rest := []) C dX10_prefix_34 (c_C_roa_mis hr1 hZ1) wC_X10_refusalOfAsking wM_X10_150 wI_X10_refusalOfAsking wS_X10_refusalOfAsking wN_X10 (kne hr1.1.1.1) (pf_10 hr1.1.1.1) rfl hd_X10_refusalOfAsking ⟨by decide, by decide, by decide, by decide⟩ (Nat.le_of_ble_eq_true rfl) (fun r_ S_ h_ => ?_)
      obtain ⟨rfl, rfl⟩ := h_
      change Go X G _ 7 _ _ Sa 37 [(4, .ref m_), (3, .ref ((D t 0))), (0, .ref x), (1, .int (nI j)), (2, .int (bI last))] [.int (-6)]
      exact g_iret C dX10_prefix_37 (by decide) (by decide) (⟨by unfold A_prefix; rw [askE_miss he hn, hms, if_pos rfl], ⟨c, D, by rw [askZ_in he]; exact hr1⟩, f1.fk⟩)
  · change Go X G _ 7 _ _ Sa 11 [(3, .ref ((D t 0))), (0, .ref x), (1, .int (nI j)), (2, .int (bI last))] [.null]
    have hr1 := hr.ask f1 hm1
    have hZ1 := hZ.ask
    refine g_astoreN (lv' := [(4, .null), (3, .ref ((D t 0))), (0, .ref x), (1, .int (nI j)), (2, .int (bI last))]) C dX10_prefix_11 (by decide) rfl ?_
    refine g_aload_n 1 3 C dX10_prefix_13 rfl rfl ?_
    refine g_ifnull C dX10_prefix_14 ?_
    refine g_aloadN 0 C dX10_prefix_17 rfl ?_
    refine g_ifnullN 29 C dX10_prefix_19 (by decide) ?_
    refine g_aload_n 2 0 C dX10_prefix_29 rfl rfl ?_
    refine g_iload_n 3 1 C dX10_prefix_30 rfl rfl ?_
    refine g_aload_n 1 3 C dX10_prefix_31 rfl rfl ?_
    refine g_aloadN 0 C dX10_prefix_32 rfl ?_
    refine g_callV (As := [.int (nI j), .ref ((D t 0)), .null]) (rest := []) C dX10_prefix_34 (c_C_roa_bad hr1 hZ1) wC_X10_refusalOfAsking wM_X10_150 wI_X10_refusalOfAsking wS_X10_refusalOfAsking wN_X10 (kne hr1.1.1.1) (pf_10 hr1.1.1.1) rfl hd_X10_refusalOfAsking ⟨by decide, by decide, by decide, by decide⟩ (Nat.le_of_ble_eq_true rfl) (fun r_ S_ h_ => ?_)
    obtain ⟨rfl, rfl⟩ := h_
    change Go X G _ 7 _ _ Sa 37 [(4, .null), (3, .ref ((D t 0))), (0, .ref x), (1, .int (nI j)), (2, .int (bI last))] [.int (-5)]
    exact g_iret C dX10_prefix_37 (by decide) (by decide) (⟨by unfold A_prefix; rw [askE_bad he hn], ⟨c, D, by rw [askZ_in he]; exact hr1⟩, f1.fk⟩)
theorem c_C_prefix {lX : Launch} {G : Gx} {S : PS} {x : Nat} {c : Nat → Nat} {D : Nat → Nat → Nat} {Z : ZT} (hr : RCD S Z x c D) (hZ : okZ Z) {p : Int32} {last : Bool} : Ct lX yX10_prefix cX10_prefix 7 (Option.some Jvm.ClassFile.FieldType.int) rm_X10_prefix G [.ref x, .int p, .int (bI last)] S (fun r S' => r = some (.int (A_prefix Z p last)) ∧ RC S' (askZ Z p) x ∧ Fk S S') := by
  cases he : bookE Z p with
  | inl e => exact c_C_prefix_err hr hZ he
  | inr t =>
    obtain ⟨j, hj, rfl, hp, -⟩ := bookE_inr he
    exact c_C_prefix_ok hr hZ hj hp he
set_option maxRecDepth 100000 in
set_option maxHeartbeats 2000000 in
theorem c_C_common_err {lX : Launch} {G : Gx} {S : PS} {x : Nat} {c : Nat → Nat} {D : Nat → Nat → Nat} {Z : ZT} (hr : RCD S Z x c D) (hZ : okZ Z) {p e : Int32} (he : bookE Z p = .inl e) {a b : Int32} : Ct lX yX10_common cX10_common 5 (Option.some Jvm.ClassFile.FieldType.int) rm_X10_common G [.ref x, .int p, .int a, .int b] S (fun r S' => r = some (.int (A_common Z p a b)) ∧ RC S' (Z) x ∧ Fk S S') := by
  obtain ⟨⟨⟨kx, r0, k0⟩, r1, r3, r5, ⟨r7, k7⟩, ⟨r8, k8⟩, ⟨r9, k9⟩, ⟨r10, k10⟩, ⟨r11, k11⟩, ⟨r12, k12⟩, r13⟩, hT, hP, hH, hRf, hW, hA, hL, hSep⟩ := id hr
  obtain ⟨⟨k1, r2, k2⟩, hu, htl, htf, ht255⟩ := id hT
  obtain ⟨⟨k3, r4⟩, ⟨k4, l4⟩, ws, wl, wv⟩ := id hW
  refine Ct.mk RX10 "common" hy_X10_common (Nat.le_of_ble_eq_true rfl) (fun X hX C => ?_)
  change Go X G _ 5 0 0 S 0 [(0, .ref x), (1, .int p), (2, .int a), (3, .int b)] []
  refine g_aload_n 0 0 C dX10_common_0 rfl rfl ?_
  refine g_iload_n 1 1 C dX10_common_1 rfl rfl ?_
  refine g_callV (As := [.int p]) (rest := []) C dX10_common_2 (c_C_bookAt_err hr hZ he) wC_X10_bookAt wM_X10_114 wI_X10_bookAt wS_X10_bookAt wN_X10 (kne kx) (pf_10 kx) rfl hd_X10_bookAt ⟨by decide, by decide, by decide, by decide⟩ (Nat.le_of_ble_eq_true rfl) (fun r_ S_ h_ => ?_)
  obtain ⟨rfl, rfl⟩ := h_
  change Go X G _ 5 _ _ S 5 [(0, .ref x), (1, .int p), (2, .int a), (3, .int b)] [.null]
  refine g_astoreN (lv' := [(4, .null), (0, .ref x), (1, .int p), (2, .int a), (3, .int b)]) C dX10_common_5 (by decide) rfl ?_
  refine g_aloadN 0 C dX10_common_7 rfl ?_
  refine g_ifnonnullN C dX10_common_9 ?_
  refine g_aload_n 1 0 C dX10_common_12 rfl rfl ?_
  refine g_iload_n 2 1 C dX10_common_13 rfl rfl ?_
  refine g_callV (As := [.int p]) (rest := []) C dX10_common_14 (c_C_ref hr hZ) wC_X10_refusalAt wM_X10_88 wI_X10_refusalAt wS_X10_refusalAt wN_X10 (kne kx) (pf_10 kx) rfl hd_X10_refusalAt ⟨by decide, by decide, by decide, by decide⟩ (Nat.le_of_ble_eq_true rfl) (fun r_ S_ h_ => ?_)
  obtain ⟨rfl, rfl⟩ := h_
  change Go X G _ 5 _ _ S 17 [(4, .null), (0, .ref x), (1, .int p), (2, .int a), (3, .int b)] [.int (reA Z p)]
  exact g_iret C dX10_common_17 (by decide) (by decide) (⟨by unfold A_common; rw [he, ref_book he], ⟨c, D, by exact hr⟩, Fk.refl S⟩)
set_option maxRecDepth 100000 in
set_option maxHeartbeats 2000000 in
theorem c_C_common_ok {lX : Launch} {G : Gx} {S : PS} {x : Nat} {c : Nat → Nat} {D : Nat → Nat → Nat} {Z : ZT} (hr : RCD S Z x c D) (hZ : okZ Z) {j t : Nat} (hj : j < 10) (hp : zP Z j = t + 1) (he : bookE Z (nI j) = .inr t) {a b : Int32} : Ct lX yX10_common cX10_common 5 (Option.some Jvm.ClassFile.FieldType.int) rm_X10_common G [.ref x, .int (nI j), .int a, .int b] S (fun r S' => r = some (.int (A_common Z (nI j) a b)) ∧ RC S' (Z) x ∧ Fk S S') := by
  obtain ⟨⟨⟨kx, r0, k0⟩, r1, r3, r5, ⟨r7, k7⟩, ⟨r8, k8⟩, ⟨r9, k9⟩, ⟨r10, k10⟩, ⟨r11, k11⟩, ⟨r12, k12⟩, r13⟩, hT, hP, hH, hRf, hW, hA, hL, hSep⟩ := id hr
  obtain ⟨⟨k1, r2, k2⟩, hu, htl, htf, ht255⟩ := id hT
  obtain ⟨⟨k3, r4⟩, ⟨k4, l4⟩, ws, wl, wv⟩ := id hW
  have hok := (hZ.th hj hp).1
  have hk5 : tK (zH Z t) ≤ 5 := by obtain ⟨j2, _, e2, h2, h3⟩ := bookE_inr he; exact h3
  have hbk := (hH t ⟨j, hj, hp⟩).1 hk5
  have hbl := hbk.2.1
  have hla := hbk.2.1.2.2.2.2.1
  have hl100 := hok.2.2.1.1
  refine Ct.mk RX10 "common" hy_X10_common (Nat.le_of_ble_eq_true rfl) (fun X hX C => ?_)
  change Go X G _ 5 0 0 S 0 [(0, .ref x), (1, .int (nI j)), (2, .int a), (3, .int b)] []
  refine g_aload_n 0 0 C dX10_common_0 rfl rfl ?_
  refine g_iload_n 1 1 C dX10_common_1 rfl rfl ?_
  refine g_callV (As := [.int (nI j)]) (rest := []) C dX10_common_2 (c_C_bookAt_ok hr hZ hj hp he) wC_X10_bookAt wM_X10_114 wI_X10_bookAt wS_X10_bookAt wN_X10 (kne kx) (pf_10 kx) rfl hd_X10_bookAt ⟨by decide, by decide, by decide, by decide⟩ (Nat.le_of_ble_eq_true rfl) (fun r_ S_ h_ => ?_)
  obtain ⟨rfl, rfl⟩ := h_
  change Go X G _ 5 _ _ S 5 [(0, .ref x), (1, .int (nI j)), (2, .int a), (3, .int b)] [.ref ((D t 0))]
  refine g_astore (lv' := [(4, .ref ((D t 0))), (0, .ref x), (1, .int (nI j)), (2, .int a), (3, .int b)]) C dX10_common_5 (by decide) rfl ?_
  refine g_aload 0 C dX10_common_7 rfl ?_
  refine g_ifnonnull 18 C dX10_common_9 (by decide) ?_
  refine g_aload 0 C dX10_common_18 rfl ?_
  refine gr_bk_list C dX10_common_20 hbk.1.1 wF_X10_124 hbk.1.2.2 ?_
  refine g_iload_n 3 2 C dX10_common_23 rfl rfl ?_
  refine g_callV (As := [.int a]) (rest := []) C dX10_common_24 (c_L_hasNumber hbl) wC_X4_hasNumber wM_X10_161 wI_X4_hasNumber wS_X4_hasNumber wN_X4 (kne hbk.2.1.1.1) (pf_5 hbk.2.1.1.1) rfl hd_X4_hasNumber ⟨by decide, by decide, by decide, by decide⟩ (Nat.le_of_ble_eq_true rfl) (fun r_ S_ h_ => ?_)
  obtain ⟨rfl, rfl⟩ := h_
  change Go X G _ 5 _ _ S 27 [(4, .ref ((D t 0))), (0, .ref x), (1, .int (nI j)), (2, .int a), (3, .int b)] [.int (bI (inR a (tL (zH Z t)).length))]
  refine g_if_eq 42 C dX10_common_27 (by decide) (fun c27 => ?_) (fun c27 => ?_)
  · have e9 : (inR a (tL (zH Z t)).length && inR b (tL (zH Z t)).length) = false := by rw [bI_f c27]; rfl
    refine g_bipush (v := -5) C dX10_common_42 (by decide) ?_
    exact g_iret C dX10_common_44 (by decide) (by decide) (⟨by unfold A_common; rw [he]; simp only []; rw [e9, if_neg (by decide)], ⟨c, D, hr⟩, Fk.refl S⟩)
  · refine g_aload 0 C dX10_common_30 rfl ?_
    refine gr_bk_list C dX10_common_32 hbk.1.1 wF_X10_124 hbk.1.2.2 ?_
    refine g_iload_n 4 3 C dX10_common_35 rfl rfl ?_
    refine g_callV (As := [.int b]) (rest := []) C dX10_common_36 (c_L_hasNumber hbl) wC_X4_hasNumber wM_X10_161 wI_X4_hasNumber wS_X4_hasNumber wN_X4 (kne hbk.2.1.1.1) (pf_5 hbk.2.1.1.1) rfl hd_X4_hasNumber ⟨by decide, by decide, by decide, by decide⟩ (Nat.le_of_ble_eq_true rfl) (fun r_ S_ h_ => ?_)
    obtain ⟨rfl, rfl⟩ := h_
    change Go X G _ 5 _ _ S 39 [(4, .ref ((D t 0))), (0, .ref x), (1, .int (nI j)), (2, .int a), (3, .int b)] [.int (bI (inR b (tL (zH Z t)).length))]
    refine g_if_ne 45 C dX10_common_39 (by decide) (fun c39 => ?_) (fun c39 => ?_)
    · have ea := bI_t c27
      have eb := bI_t c39
      obtain ⟨u, hu2, rfl⟩ := inR_spec ea (by omega)
      obtain ⟨v, hv2, rfl⟩ := inR_spec eb (by omega)
      refine g_aload 0 C dX10_common_45 rfl ?_
      refine g_callV (As := []) (rest := []) C dX10_common_47 (c_K_lacks hbk hok) wC_X2_lacksTable wM_X10_118 wI_X2_lacksTable wS_X2_lacksTable wN_X2 (kne hbk.1.1) (pf_3 hbk.1.1) rfl hd_X2_lacksTable ⟨by decide, by decide, by decide, by decide⟩ (Nat.le_of_ble_eq_true rfl) (fun r_ S_ h_ => ?_)
      obtain ⟨rfl, rfl⟩ := h_
      change Go X G _ 5 _ _ S 50 [(4, .ref ((D t 0))), (0, .ref x), (1, .int (nI j)), (2, .int (nI u)), (3, .int (nI v))] [.int (bI (missT (zH Z t)))]
      refine g_if_eq 56 C dX10_common_50 (by decide) (fun c50 => ?_) (fun c50 => ?_)
      · have em := bI_f c50
        obtain ⟨m_, e1, e2, e3, e4⟩ := hbl.2.2.2.2.2.2 u (by omega)
        obtain ⟨n_, g1, g2, g3, g4⟩ := hbl.2.2.2.2.2.2 v (by omega)
        refine g_aload 0 C dX10_common_56 rfl ?_
        refine gr_bk_list C dX10_common_58 hbk.1.1 wF_X10_124 hbk.1.2.2 ?_
        refine gr_ls_names C dX10_common_61 hbk.2.1.1.1 wF_X10_164 hbk.2.1.1.2.1 ?_
        refine g_iload_n 3 2 C dX10_common_64 rfl rfl ?_
        refine gar_nr_a C dX10_common_65 hbk.2.1.2.1.1 (by have h_ : ln S ((D t 2)) = (tL (zH Z t)).length := hbk.2.1.2.1.2; omega) (by have h_ : ln S ((D t 2)) = (tL (zH Z t)).length := hbk.2.1.2.1.2; omega) e1 ?_
        refine g_aload 0 C dX10_common_66 rfl ?_
        refine gr_bk_list C dX10_common_68 hbk.1.1 wF_X10_124 hbk.1.2.2 ?_
        refine gr_ls_names C dX10_common_71 hbk.2.1.1.1 wF_X10_164 hbk.2.1.1.2.1 ?_
        refine g_iload_n 4 3 C dX10_common_74 rfl rfl ?_
        refine gar_nr_a C dX10_common_75 hbk.2.1.2.1.1 (by have h_ : ln S ((D t 2)) = (tL (zH Z t)).length := hbk.2.1.2.1.2; omega) (by have h_ : ln S ((D t 2)) = (tL (zH Z t)).length := hbk.2.1.2.1.2; omega) g1 ?_
        refine g_callV (As := [.ref n_]) (rest := []) C dX10_common_76 (c_N_alike e2 g2 e3 g3) wC_X5_alike wM_X10_183 wI_X5_alike wS_X5_alike wN_X5 (kne e2.1) (pf_6 e2.1) rfl hd_X5_alike ⟨by decide, by decide, by decide, by decide⟩ (Nat.le_of_ble_eq_true rfl) (fun r_ S_ h_ => ?_)
        obtain ⟨rfl, rfl⟩ := h_
        change Go X G _ 5 _ _ S 79 [(4, .ref ((D t 0))), (0, .ref x), (1, .int (nI j)), (2, .int (nI u)), (3, .int (nI v))] [.int (nI (lcp (nm (tL (zH Z t)) u) (nm (tL (zH Z t)) v)))]
        exact g_iret C dX10_common_79 (by decide) (by decide) (⟨by unfold A_common; rw [he]; simp only []; rw [ea, eb, if_pos (show (true && true) = true from rfl), em, if_neg (by decide), nI_clamp (by omega), nI_clamp (by omega)], ⟨c, D, hr⟩, Fk.refl S⟩)
      · have em := bI_t c50
        refine g_bipush (v := -6) C dX10_common_53 (by decide) ?_
        exact g_iret C dX10_common_55 (by decide) (by decide) (⟨by unfold A_common; rw [he]; simp only []; rw [ea, eb, if_pos (show (true && true) = true from rfl), em, if_pos rfl], ⟨c, D, hr⟩, Fk.refl S⟩)
    · have e9 : (inR a (tL (zH Z t)).length && inR b (tL (zH Z t)).length) = false := by rw [bI_f c39]; exact Bool.and_false _
      refine g_bipush (v := -5) C dX10_common_42 (by decide) ?_
      exact g_iret C dX10_common_44 (by decide) (by decide) (⟨by unfold A_common; rw [he]; simp only []; rw [e9, if_neg (by decide)], ⟨c, D, hr⟩, Fk.refl S⟩)
theorem c_C_common {lX : Launch} {G : Gx} {S : PS} {x : Nat} {c : Nat → Nat} {D : Nat → Nat → Nat} {Z : ZT} (hr : RCD S Z x c D) (hZ : okZ Z) {p : Int32} {a b : Int32} : Ct lX yX10_common cX10_common 5 (Option.some Jvm.ClassFile.FieldType.int) rm_X10_common G [.ref x, .int p, .int a, .int b] S (fun r S' => r = some (.int (A_common Z p a b)) ∧ RC S' (Z) x ∧ Fk S S') := by
  cases he : bookE Z p with
  | inl e => exact c_C_common_err hr hZ he
  | inr t =>
    obtain ⟨j, hj, rfl, hp, -⟩ := bookE_inr he
    exact c_C_common_ok hr hZ hj hp he
set_option maxRecDepth 100000 in
set_option maxHeartbeats 2000000 in
theorem c_C_value_err {lX : Launch} {G : Gx} {S : PS} {x : Nat} {c : Nat → Nat} {D : Nat → Nat → Nat} {Z : ZT} (hr : RCD S Z x c D) (hZ : okZ Z) {p e : Int32} (he : bookE Z p = .inl e) {i : Int32} : Ct lX yX10_value cX10_value 4 (Option.some Jvm.ClassFile.FieldType.long) rm_X10_value G [.ref x, .int p, .int i] S (fun r S' => r = some (.long (A_value Z p i)) ∧ RC S' (N_value Z p i) x ∧ Fk S S') := by
  obtain ⟨⟨⟨kx, r0, k0⟩, r1, r3, r5, ⟨r7, k7⟩, ⟨r8, k8⟩, ⟨r9, k9⟩, ⟨r10, k10⟩, ⟨r11, k11⟩, ⟨r12, k12⟩, r13⟩, hT, hP, hH, hRf, hW, hA, hL, hSep⟩ := id hr
  obtain ⟨⟨k1, r2, k2⟩, hu, htl, htf, ht255⟩ := id hT
  obtain ⟨⟨k3, r4⟩, ⟨k4, l4⟩, ws, wl, wv⟩ := id hW
  refine Ct.mk RX10 "value" hy_X10_value (Nat.le_of_ble_eq_true rfl) (fun X hX C => ?_)
  change Go X G _ 4 0 0 S 0 [(0, .ref x), (1, .int p), (2, .int i)] []
  refine g_aload_n 0 0 C dX10_value_0 rfl rfl ?_
  refine g_iload_n 1 1 C dX10_value_1 rfl rfl ?_
  refine g_callV (As := [.int p]) (rest := []) C dX10_value_2 (c_C_bookAt_err hr hZ he) wC_X10_bookAt wM_X10_114 wI_X10_bookAt wS_X10_bookAt wN_X10 (kne kx) (pf_10 kx) rfl hd_X10_bookAt ⟨by decide, by decide, by decide, by decide⟩ (Nat.le_of_ble_eq_true rfl) (fun r_ S_ h_ => ?_)
  obtain ⟨rfl, rfl⟩ := h_
  change Go X G _ 4 _ _ S 5 [(0, .ref x), (1, .int p), (2, .int i)] [.null]
  refine g_astore_nN (lv' := [(3, .null), (0, .ref x), (1, .int p), (2, .int i)]) C dX10_value_5 rfl (by decide) rfl ?_
  refine g_aload_nN 0 3 C dX10_value_6 rfl rfl ?_
  refine g_ifnonnullN C dX10_value_7 ?_
  refine g_aload_n 1 0 C dX10_value_10 rfl rfl ?_
  refine g_aload_n 1 0 C dX10_value_11 rfl rfl ?_
  refine g_iload_n 2 1 C dX10_value_12 rfl rfl ?_
  refine g_callV (As := [.int p]) (rest := [.ref x]) C dX10_value_13 (c_C_ref hr hZ) wC_X10_refusalAt wM_X10_88 wI_X10_refusalAt wS_X10_refusalAt wN_X10 (kne kx) (pf_10 kx) rfl hd_X10_refusalAt ⟨by decide, by decide, by decide, by decide⟩ (Nat.le_of_ble_eq_true rfl) (fun r_ S_ h_ => ?_)
  obtain ⟨rfl, rfl⟩ := h_
  change Go X G _ 4 _ _ S 16 [(3, .null), (0, .ref x), (1, .int p), (2, .int i)] [.int (reA Z p), .ref x]
  refine pp_ba_refusal C dX10_value_16 kx wF_X10_48 (Or.inl rfl) ?_
  refine g_lconst (v := 0) C dX10_value_19 (by decide) ?_
  exact g_lret C dX10_value_20 (by decide) (by decide) ⟨by unfold A_value; rw [he], ⟨c, D, by unfold N_value; rw [he]; simp only []; rw [← ref_book he]; exact hr.no (Z' := zS_ Z (reA Z p)) ((Fr.refl S No).s_ba_refusal) rfl rfl rfl hT rfl rfl⟩, ((Fr.refl S No).s_ba_refusal).fk⟩
set_option maxRecDepth 100000 in
set_option maxHeartbeats 2000000 in
theorem c_C_value_ok {lX : Launch} {G : Gx} {S : PS} {x : Nat} {c : Nat → Nat} {D : Nat → Nat → Nat} {Z : ZT} (hr : RCD S Z x c D) (hZ : okZ Z) {j t : Nat} (hj : j < 10) (hp : zP Z j = t + 1) (he : bookE Z (nI j) = .inr t) {i : Int32} : Ct lX yX10_value cX10_value 4 (Option.some Jvm.ClassFile.FieldType.long) rm_X10_value G [.ref x, .int (nI j), .int i] S (fun r S' => r = some (.long (A_value Z (nI j) i)) ∧ RC S' (N_value Z (nI j) i) x ∧ Fk S S') := by
  obtain ⟨⟨⟨kx, r0, k0⟩, r1, r3, r5, ⟨r7, k7⟩, ⟨r8, k8⟩, ⟨r9, k9⟩, ⟨r10, k10⟩, ⟨r11, k11⟩, ⟨r12, k12⟩, r13⟩, hT, hP, hH, hRf, hW, hA, hL, hSep⟩ := id hr
  obtain ⟨⟨k1, r2, k2⟩, hu, htl, htf, ht255⟩ := id hT
  obtain ⟨⟨k3, r4⟩, ⟨k4, l4⟩, ws, wl, wv⟩ := id hW
  have hok := (hZ.th hj hp).1
  have hk5 : tK (zH Z t) ≤ 5 := by obtain ⟨j2, _, e2, h2, h3⟩ := bookE_inr he; exact h3
  have hbk := (hH t ⟨j, hj, hp⟩).1 hk5
  have hbl := hbk.2.1
  have hla := hbk.2.1.2.2.2.2.1
  have hl100 := hok.2.2.1.1
  refine Ct.mk RX10 "value" hy_X10_value (Nat.le_of_ble_eq_true rfl) (fun X hX C => ?_)
  change Go X G _ 4 0 0 S 0 [(0, .ref x), (1, .int (nI j)), (2, .int i)] []
  refine g_aload_n 0 0 C dX10_value_0 rfl rfl ?_
  refine g_iload_n 1 1 C dX10_value_1 rfl rfl ?_
  refine g_callV (As := [.int (nI j)]) (rest := []) C dX10_value_2 (c_C_bookAt_ok hr hZ hj hp he) wC_X10_bookAt wM_X10_114 wI_X10_bookAt wS_X10_bookAt wN_X10 (kne kx) (pf_10 kx) rfl hd_X10_bookAt ⟨by decide, by decide, by decide, by decide⟩ (Nat.le_of_ble_eq_true rfl) (fun r_ S_ h_ => ?_)
  obtain ⟨rfl, rfl⟩ := h_
  change Go X G _ 4 _ _ S 5 [(0, .ref x), (1, .int (nI j)), (2, .int i)] [.ref ((D t 0))]
  refine g_astore_n (lv' := [(3, .ref ((D t 0))), (0, .ref x), (1, .int (nI j)), (2, .int i)]) C dX10_value_5 rfl (by decide) rfl ?_
  refine g_aload_n 0 3 C dX10_value_6 rfl rfl ?_
  refine g_ifnonnull 21 C dX10_value_7 (by decide) ?_
  refine g_aload_n 0 3 C dX10_value_21 rfl rfl ?_
  refine gr_bk_list C dX10_value_22 hbk.1.1 wF_X10_124 hbk.1.2.2 ?_
  refine g_iload_n 3 2 C dX10_value_25 rfl rfl ?_
  refine g_callV (As := [.int i]) (rest := []) C dX10_value_26 (c_L_hasNumber hbl) wC_X4_hasNumber wM_X10_161 wI_X4_hasNumber wS_X4_hasNumber wN_X4 (kne hbk.2.1.1.1) (pf_5 hbk.2.1.1.1) rfl hd_X4_hasNumber ⟨by decide, by decide, by decide, by decide⟩ (Nat.le_of_ble_eq_true rfl) (fun r_ S_ h_ => ?_)
  obtain ⟨rfl, rfl⟩ := h_
  change Go X G _ 4 _ _ S 29 [(3, .ref ((D t 0))), (0, .ref x), (1, .int (nI j)), (2, .int i)] [.int (bI (inR i (tL (zH Z t)).length))]
  refine g_if_ne 40 C dX10_value_29 (by decide) (fun c29 => ?_) (fun c29 => ?_)
  · have ei := bI_t c29
    obtain ⟨k, hk, rfl⟩ := inR_spec ei (by omega)
    obtain ⟨m_, e1, e2, e3, e4⟩ := hbl.2.2.2.2.2.2 k (by omega)
    refine g_aload_n 1 0 C dX10_value_40 rfl rfl ?_
    refine g_iconst (v := nI 0) C dX10_value_41 (by decide) ?_
    refine pp_ba_refusal C dX10_value_42 kx wF_X10_48 (Or.inl rfl) ?_
    refine g_aload_n 0 3 C dX10_value_45 rfl rfl ?_
    refine gr_bk_list C dX10_value_46 hbk.1.1 wF_X10_124 hbk.1.2.2 ?_
    refine gr_ls_values C dX10_value_49 hbk.2.1.1.1 wF_X10_172 hbk.2.1.1.2.2 ?_
    refine g_iload_n 3 2 C dX10_value_52 rfl rfl ?_
    refine ga_vl_a C dX10_value_53 hbk.2.1.2.2.1.1 (by have h_ : ln (ba_refusal_ S (nI 0)) ((D t 3)) = (tL (zH Z t)).length := hbk.2.1.2.2.1.2; omega) (by have h_ : ln (ba_refusal_ S (nI 0)) ((D t 3)) = (tL (zH Z t)).length := hbk.2.1.2.2.1.2; omega) ?_
    refine g_topl (e4) ?_
    exact g_lret C dX10_value_54 (by decide) (by decide) ⟨by unfold A_value; rw [he]; simp only []; rw [ei, if_pos rfl, nI_clamp (by omega)]; rfl, ⟨c, D, by unfold N_value; rw [he]; simp only []; rw [ei, if_pos rfl]; exact hr.no (Z' := zS_ Z 0) ((Fr.refl S No).s_ba_refusal) rfl rfl rfl hT rfl rfl⟩, ((Fr.refl S No).s_ba_refusal).fk⟩
  · have ei := bI_f c29
    refine g_aload_n 1 0 C dX10_value_32 rfl rfl ?_
    refine g_bipush (v := -5) C dX10_value_33 (by decide) ?_
    refine pp_ba_refusal C dX10_value_35 kx wF_X10_48 (Or.inl rfl) ?_
    refine g_lconst (v := 0) C dX10_value_38 (by decide) ?_
    exact g_lret C dX10_value_39 (by decide) (by decide) ⟨by unfold A_value; rw [he]; simp only []; rw [ei, if_neg (by decide)], ⟨c, D, by unfold N_value; rw [he]; simp only []; rw [ei, if_neg (by decide)]; exact hr.no (Z' := zS_ Z (-5)) ((Fr.refl S No).s_ba_refusal) rfl rfl rfl hT rfl rfl⟩, ((Fr.refl S No).s_ba_refusal).fk⟩
theorem c_C_value {lX : Launch} {G : Gx} {S : PS} {x : Nat} {c : Nat → Nat} {D : Nat → Nat → Nat} {Z : ZT} (hr : RCD S Z x c D) (hZ : okZ Z) {p : Int32} {i : Int32} : Ct lX yX10_value cX10_value 4 (Option.some Jvm.ClassFile.FieldType.long) rm_X10_value G [.ref x, .int p, .int i] S (fun r S' => r = some (.long (A_value Z p i)) ∧ RC S' (N_value Z p i) x ∧ Fk S S') := by
  cases he : bookE Z p with
  | inl e => exact c_C_value_err hr hZ he
  | inr t =>
    obtain ⟨j, hj, rfl, hp, -⟩ := bookE_inr he
    exact c_C_value_ok hr hZ hj hp he
set_option maxRecDepth 100000 in
set_option maxHeartbeats 2000000 in
theorem c_C_name_err {lX : Launch} {G : Gx} {S : PS} {x : Nat} {c : Nat → Nat} {D : Nat → Nat → Nat} {Z : ZT} (hr : RCD S Z x c D) (hZ : okZ Z) {p e : Int32} (he : bookE Z p = .inl e) {i : Int32} : Ct lX yX10_name cX10_name 4 (Option.some Jvm.ClassFile.FieldType.int) rm_X10_name G [.ref x, .int p, .int i] S (fun r S' => r = some (.int (A_name Z p i)) ∧ RC S' (N_name Z p i) x ∧ Fk S S') := by
  obtain ⟨⟨⟨kx, r0, k0⟩, r1, r3, r5, ⟨r7, k7⟩, ⟨r8, k8⟩, ⟨r9, k9⟩, ⟨r10, k10⟩, ⟨r11, k11⟩, ⟨r12, k12⟩, r13⟩, hT, hP, hH, hRf, hW, hA, hL, hSep⟩ := id hr
  obtain ⟨⟨k1, r2, k2⟩, hu, htl, htf, ht255⟩ := id hT
  obtain ⟨⟨k3, r4⟩, ⟨k4, l4⟩, ws, wl, wv⟩ := id hW
  refine Ct.mk RX10 "name" hy_X10_name (Nat.le_of_ble_eq_true rfl) (fun X hX C => ?_)
  change Go X G _ 4 0 0 S 0 [(0, .ref x), (1, .int p), (2, .int i)] []
  refine g_aload_n 0 0 C dX10_name_0 rfl rfl ?_
  refine g_iload_n 1 1 C dX10_name_1 rfl rfl ?_
  refine g_callV (As := [.int p]) (rest := []) C dX10_name_2 (c_C_bookAt_err hr hZ he) wC_X10_bookAt wM_X10_114 wI_X10_bookAt wS_X10_bookAt wN_X10 (kne kx) (pf_10 kx) rfl hd_X10_bookAt ⟨by decide, by decide, by decide, by decide⟩ (Nat.le_of_ble_eq_true rfl) (fun r_ S_ h_ => ?_)
  obtain ⟨rfl, rfl⟩ := h_
  change Go X G _ 4 _ _ S 5 [(0, .ref x), (1, .int p), (2, .int i)] [.null]
  refine g_astore_nN (lv' := [(3, .null), (0, .ref x), (1, .int p), (2, .int i)]) C dX10_name_5 rfl (by decide) rfl ?_
  refine g_aload_nN 0 3 C dX10_name_6 rfl rfl ?_
  refine g_ifnonnullN C dX10_name_7 ?_
  refine g_aload_n 1 0 C dX10_name_10 rfl rfl ?_
  refine g_iload_n 2 1 C dX10_name_11 rfl rfl ?_
  refine g_callV (As := [.int p]) (rest := []) C dX10_name_12 (c_C_ref hr hZ) wC_X10_refusalAt wM_X10_88 wI_X10_refusalAt wS_X10_refusalAt wN_X10 (kne kx) (pf_10 kx) rfl hd_X10_refusalAt ⟨by decide, by decide, by decide, by decide⟩ (Nat.le_of_ble_eq_true rfl) (fun r_ S_ h_ => ?_)
  obtain ⟨rfl, rfl⟩ := h_
  change Go X G _ 4 _ _ S 15 [(3, .null), (0, .ref x), (1, .int p), (2, .int i)] [.int (reA Z p)]
  exact g_iret C dX10_name_15 (by decide) (by decide) (⟨by unfold A_name; rw [he, ref_book he], ⟨c, D, by unfold N_name; rw [he]; exact hr⟩, Fk.refl S⟩)
set_option maxRecDepth 100000 in
set_option maxHeartbeats 2000000 in
theorem c_C_name_ok {lX : Launch} {G : Gx} {S : PS} {x : Nat} {c : Nat → Nat} {D : Nat → Nat → Nat} {Z : ZT} (hr : RCD S Z x c D) (hZ : okZ Z) {j t : Nat} (hj : j < 10) (hp : zP Z j = t + 1) (he : bookE Z (nI j) = .inr t) {i : Int32} : Ct lX yX10_name cX10_name 4 (Option.some Jvm.ClassFile.FieldType.int) rm_X10_name G [.ref x, .int (nI j), .int i] S (fun r S' => r = some (.int (A_name Z (nI j) i)) ∧ RC S' (N_name Z (nI j) i) x ∧ Fk S S') := by
  obtain ⟨⟨⟨kx, r0, k0⟩, r1, r3, r5, ⟨r7, k7⟩, ⟨r8, k8⟩, ⟨r9, k9⟩, ⟨r10, k10⟩, ⟨r11, k11⟩, ⟨r12, k12⟩, r13⟩, hT, hP, hH, hRf, hW, hA, hL, hSep⟩ := id hr
  obtain ⟨⟨k1, r2, k2⟩, hu, htl, htf, ht255⟩ := id hT
  obtain ⟨⟨k3, r4⟩, ⟨k4, l4⟩, ws, wl, wv⟩ := id hW
  have hok := (hZ.th hj hp).1
  have hk5 : tK (zH Z t) ≤ 5 := by obtain ⟨j2, _, e2, h2, h3⟩ := bookE_inr he; exact h3
  have hbk := (hH t ⟨j, hj, hp⟩).1 hk5
  have hbl := hbk.2.1
  have hla := hbk.2.1.2.2.2.2.1
  have hl100 := hok.2.2.1.1
  refine Ct.mk RX10 "name" hy_X10_name (Nat.le_of_ble_eq_true rfl) (fun X hX C => ?_)
  change Go X G _ 4 0 0 S 0 [(0, .ref x), (1, .int (nI j)), (2, .int i)] []
  refine g_aload_n 0 0 C dX10_name_0 rfl rfl ?_
  refine g_iload_n 1 1 C dX10_name_1 rfl rfl ?_
  refine g_callV (As := [.int (nI j)]) (rest := []) C dX10_name_2 (c_C_bookAt_ok hr hZ hj hp he) wC_X10_bookAt wM_X10_114 wI_X10_bookAt wS_X10_bookAt wN_X10 (kne kx) (pf_10 kx) rfl hd_X10_bookAt ⟨by decide, by decide, by decide, by decide⟩ (Nat.le_of_ble_eq_true rfl) (fun r_ S_ h_ => ?_)
  obtain ⟨rfl, rfl⟩ := h_
  change Go X G _ 4 _ _ S 5 [(0, .ref x), (1, .int (nI j)), (2, .int i)] [.ref ((D t 0))]
  refine g_astore_n (lv' := [(3, .ref ((D t 0))), (0, .ref x), (1, .int (nI j)), (2, .int i)]) C dX10_name_5 rfl (by decide) rfl ?_
  refine g_aload_n 0 3 C dX10_name_6 rfl rfl ?_
  refine g_ifnonnull 16 C dX10_name_7 (by decide) ?_
  refine g_aload_n 0 3 C dX10_name_16 rfl rfl ?_
  refine gr_bk_list C dX10_name_17 hbk.1.1 wF_X10_124 hbk.1.2.2 ?_
  refine g_iload_n 3 2 C dX10_name_20 rfl rfl ?_
  refine g_callV (As := [.int i]) (rest := []) C dX10_name_21 (c_L_hasNumber hbl) wC_X4_hasNumber wM_X10_161 wI_X4_hasNumber wS_X4_hasNumber wN_X4 (kne hbk.2.1.1.1) (pf_5 hbk.2.1.1.1) rfl hd_X4_hasNumber ⟨by decide, by decide, by decide, by decide⟩ (Nat.le_of_ble_eq_true rfl) (fun r_ S_ h_ => ?_)
  obtain ⟨rfl, rfl⟩ := h_
  change Go X G _ 4 _ _ S 24 [(3, .ref ((D t 0))), (0, .ref x), (1, .int (nI j)), (2, .int i)] [.int (bI (inR i (tL (zH Z t)).length))]
  refine g_if_ne 30 C dX10_name_24 (by decide) (fun c24 => ?_) (fun c24 => ?_)
  · have ei := bI_t c24
    obtain ⟨k, hk, rfl⟩ := inR_spec ei (by omega)
    obtain ⟨m_, e1, e2, e3, e4⟩ := hbl.2.2.2.2.2.2 k (by omega)
    refine g_aload_n 0 3 C dX10_name_30 rfl rfl ?_
    refine g_callV (As := []) (rest := []) C dX10_name_31 (c_K_lacks hbk hok) wC_X2_lacksTable wM_X10_118 wI_X2_lacksTable wS_X2_lacksTable wN_X2 (kne hbk.1.1) (pf_3 hbk.1.1) rfl hd_X2_lacksTable ⟨by decide, by decide, by decide, by decide⟩ (Nat.le_of_ble_eq_true rfl) (fun r_ S_ h_ => ?_)
    obtain ⟨rfl, rfl⟩ := h_
    change Go X G _ 4 _ _ S 34 [(3, .ref ((D t 0))), (0, .ref x), (1, .int (nI j)), (2, .int (nI k))] [.int (bI (missT (zH Z t)))]
    refine g_if_eq 40 C dX10_name_34 (by decide) (fun c34 => ?_) (fun c34 => ?_)
    · have em := bI_f c34
      refine g_aload_n 1 0 C dX10_name_40 rfl rfl ?_
      refine gr_ba_reel C dX10_name_41 kx wF_X10_18 r1 ?_
      refine g_iconst (v := nI 0) C dX10_name_44 (by decide) ?_
      refine pp_tp_used C dX10_name_45 k1 wF_X10_52 (Or.inl rfl) ?_
      refine g_st (S' := tpC S (tp_a S) []) rfl ?_
      refine g_aload_n 1 0 C dX10_name_48 rfl rfl ?_
      refine gr_ba_reel C dX10_name_49 kx wF_X10_18 r1 ?_
      refine g_aload_n 0 3 C dX10_name_52 rfl rfl ?_
      refine gr_bk_list C dX10_name_53 hbk.1.1 wF_X10_124 hbk.1.2.2 ?_
      refine gr_ls_names C dX10_name_56 hbk.2.1.1.1 wF_X10_164 hbk.2.1.1.2.1 ?_
      refine g_iload_n 3 2 C dX10_name_59 rfl rfl ?_
      refine gar_nr_a C dX10_name_60 hbk.2.1.2.1.1 (by have h_ : ln (tpC S (tp_a S) []) ((D t 2)) = (tL (zH Z t)).length := hbk.2.1.2.1.2; omega) (by have h_ : ln (tpC S (tp_a S) []) ((D t 2)) = (tL (zH Z t)).length := hbk.2.1.2.1.2; omega) e1 ?_
      refine g_callV (As := [.ref m_]) (rest := []) C dX10_name_61 (c_T_addName (f := tp_a S) (tp := []) (bs := nm (tL (zH Z t)) k) k1 r2 k2 e2 (fun q hq => (e3.2.2 q hq).2) (by have : (nm (tL (zH Z t)) k).length ≤ 24 := e3.2.1; show 0 + _ ≤ _; omega) (fun q hq => absurd hq (Nat.not_lt_zero _))) wC_X7_addName wM_X10_168 wI_X7_addName wS_X7_addName wN_X7 (kne k1) (pf_8 k1) rfl hd_X7_addName ⟨by decide, by decide, by decide, by decide⟩ (Nat.le_of_ble_eq_true rfl) (fun r_ S_ h_ => ?_)
      obtain ⟨f2, rfl, rfl, hf2⟩ := h_
      change Go X G _ 4 _ _ (tpC S f2 ([] ++ nm (tL (zH Z t)) k)) 64 [(3, .ref ((D t 0))), (0, .ref x), (1, .int (nI j)), (2, .int (nI k))] []
      refine g_aload_n 1 0 C dX10_name_64 rfl rfl ?_
      refine gr_ba_reel C dX10_name_65 kx wF_X10_18 r1 ?_
      refine gf_tp_used C dX10_name_68 k1 wF_X10_52 ?_
      have hfr : Fr S (tpC S f2 ([] ++ nm (tL (zH Z t)) k)) No := ((Fr.refl S No).s_tp_a).s_tp_used
      have hl24 : (nm (tL (zH Z t)) k).length ≤ 24 := e3.2.1
      rw [List.nil_append] at hf2 hfr
      exact g_iret C dX10_name_71 (by decide) (by decide) ⟨by unfold A_name; rw [he]; simp only []; rw [ei, if_pos rfl, em, if_neg (by decide), nI_clamp (by omega)]; rfl, ⟨c, D, by
        unfold N_name; rw [he]; simp only []; rw [ei, em, if_pos (show (true && !false) = true from rfl), nI_clamp (by omega)]
        exact hr.no (Z' := zT_ Z (nm (tL (zH Z t)) k)) hfr rfl rfl rfl ⟨⟨k1, r2, k2⟩, rfl, (show (nm (tL (zH Z t)) k).length ≤ 1000 by omega), hf2, fun q hq => (e3.2.2 q hq).2⟩ rfl hRf⟩, hfr.fk⟩
    · have em := bI_t c34
      refine g_bipush (v := -6) C dX10_name_37 (by decide) ?_
      exact g_iret C dX10_name_39 (by decide) (by decide) (⟨by unfold A_name; rw [he]; simp only []; rw [ei, if_pos rfl, em, if_pos rfl], ⟨c, D, by unfold N_name; rw [he]; simp only []; rw [ei, em, if_neg (by decide)]; exact hr⟩, Fk.refl S⟩)
  · have ei := bI_f c24
    refine g_bipush (v := -5) C dX10_name_27 (by decide) ?_
    exact g_iret C dX10_name_29 (by decide) (by decide) (⟨by unfold A_name; rw [he]; simp only []; rw [ei, if_neg (by decide)], ⟨c, D, by unfold N_name; rw [he]; simp only []; rw [ei, Bool.false_and, if_neg (by decide)]; exact hr⟩, Fk.refl S⟩)
theorem c_C_name {lX : Launch} {G : Gx} {S : PS} {x : Nat} {c : Nat → Nat} {D : Nat → Nat → Nat} {Z : ZT} (hr : RCD S Z x c D) (hZ : okZ Z) {p : Int32} {i : Int32} : Ct lX yX10_name cX10_name 4 (Option.some Jvm.ClassFile.FieldType.int) rm_X10_name G [.ref x, .int p, .int i] S (fun r S' => r = some (.int (A_name Z p i)) ∧ RC S' (N_name Z p i) x ∧ Fk S S') := by
  cases he : bookE Z p with
  | inl e => exact c_C_name_err hr hZ he
  | inr t =>
    obtain ⟨j, hj, rfl, hp, -⟩ := bookE_inr he
    exact c_C_name_ok hr hZ hj hp he
theorem draftC.ls {S S' : PS} {d : Nat → Nat} {T : Th} {l' : List Ent} (h : draftC S d T) (hf : Fr S S' (A3 (d 1) (d 2) (d 3))) (hl : listC S' (d 1) (d 2) (d 3) 100 l') : draftC S' d (setLs T l') := by
  obtain ⟨⟨a1, a2, a3⟩, a4⟩ := h
  have hn : ¬ A3 (d 1) (d 2) (d 3) (d 0) := fun z => by
    rcases z with z | z | z
    · rw [z, a4.1.1] at a1; cases a1
    · rw [z, a4.2.1.1] at a1; cases a1
    · rw [z, a4.2.2.1.1] at a1; cases a1
  have c0 := hf.2.1 (d 0) (by rw [a1]; decide) (Or.inl hn)
  exact ⟨⟨(ce_kd c0).trans a1, (ce_dr_kind c0).trans a2, (ce_dr_list c0).trans a3⟩, hl⟩
theorem A3.in {d : Nat → Nat} {a : Nat} (h : A3 (d 1) (d 2) (d 3) a) : ∃ i, i < 9 ∧ a = d i := by
  rcases h with h | h | h
  · exact ⟨1, by decide, h⟩
  · exact ⟨2, by decide, h⟩
  · exact ⟨3, by decide, h⟩
theorem N_put_no {Z : ZT} {p e : Int32} {v : Int64} (he : draftE Z p = .inl e) : N_put Z p v = Z := by unfold N_put; rw [he]
theorem N_put_in {Z : ZT} {p : Int32} {v : Int64} {t : Nat} (he : draftE Z p = .inr t) (hn : nameB (zT Z) = true) (h100 : (tL (zH Z t)).length ≤ 100) : (∀ q, zH (N_put Z p v) q = if q = t then setLs (zH Z t) (entL (tL (zH Z t)) 100 (zT Z) v) else zH Z q) ∧ zT (N_put Z p v) = [] ∧ zP (N_put Z p v) = zP Z ∧ zW (N_put Z p v) = zW Z ∧ zS (N_put Z p v) = zS Z ∧ A_put Z p = entV (tL (zH Z t)) 100 (zT Z) := by
  unfold N_put A_put entL entV
  rw [he]
  simp only []
  rw [hn, if_pos rfl, if_pos rfl]
  by_cases g : isAtN (tL (zH Z t)) (aheadN (tL (zH Z t)) (zT Z)) (zT Z) = true
  · rw [if_pos g, if_pos g, if_pos g, if_pos g]; exact ⟨fun q => rfl, rfl, rfl, rfl, rfl, rfl⟩
  · rw [if_neg g, if_neg g, if_neg g, if_neg g]
    by_cases g2 : (tL (zH Z t)).length = 100
    · rw [if_pos g2, if_pos g2, if_pos (by omega), if_pos (by omega)]
      refine ⟨fun q => ?_, rfl, rfl, rfl, rfl, rfl⟩
      by_cases e : q = t
      · rw [if_pos e, e]; rfl
      · rw [if_neg e]
    · rw [if_neg g2, if_neg g2, if_neg (by omega), if_neg (by omega)]; exact ⟨fun q => rfl, rfl, rfl, rfl, rfl, rfl⟩
theorem N_unput_in {Z : ZT} {p : Int32} {t : Nat} (he : draftE Z p = .inr t) (hn : nameB (zT Z) = true) : (∀ q, zH (N_unput Z p) q = if q = t then setLs (zH Z t) (if isAtN (tL (zH Z t)) (aheadN (tL (zH Z t)) (zT Z)) (zT Z) = true then delL (tL (zH Z t)) (aheadN (tL (zH Z t)) (zT Z)) else tL (zH Z t)) else zH Z q) ∧ zT (N_unput Z p) = [] ∧ zP (N_unput Z p) = zP Z ∧ zW (N_unput Z p) = zW Z ∧ zS (N_unput Z p) = zS Z ∧ A_unput Z p = bI (isAtN (tL (zH Z t)) (aheadN (tL (zH Z t)) (zT Z)) (zT Z)) := by
  unfold N_unput A_unput
  rw [he]
  simp only []
  rw [hn, if_pos rfl, if_pos rfl]
  by_cases g : isAtN (tL (zH Z t)) (aheadN (tL (zH Z t)) (zT Z)) (zT Z) = true
  · rw [if_pos g, if_pos g]; exact ⟨fun q => rfl, rfl, rfl, rfl, rfl, rfl⟩
  · rw [if_neg g, if_neg g]
    refine ⟨fun q => ?_, rfl, rfl, rfl, rfl, rfl⟩
    by_cases e : q = t
    · rw [if_pos e, e]; rfl
    · rw [if_neg e]
theorem N_put_bad {Z : ZT} {p : Int32} {v : Int64} {t : Nat} (he : draftE Z p = .inr t) (hn : nameB (zT Z) = false) : N_put Z p v = zT_ Z [] ∧ A_put Z p = -5 ∧ N_unput Z p = zT_ Z [] ∧ A_unput Z p = -5 := by
  unfold N_put A_put N_unput A_unput
  rw [he]
  simp only []
  rw [hn]
  exact ⟨rfl, rfl, rfl, rfl⟩
set_option maxRecDepth 100000 in
set_option maxHeartbeats 2000000 in
theorem c_C_put_err {lX : Launch} {G : Gx} {S : PS} {x : Nat} {c : Nat → Nat} {D : Nat → Nat → Nat} {Z : ZT} (hr : RCD S Z x c D) (hZ : okZ Z) {p e : Int32} (he : draftE Z p = .inl e) {v : Int64} : Ct lX yX10_put cX10_put 6 (Option.some Jvm.ClassFile.FieldType.int) rm_X10_put G [.ref x, .int p, .long v] S (fun r S' => r = some (.int (A_put Z p)) ∧ RC S' (N_put Z p v) x ∧ Fk S S') := by
  obtain ⟨⟨⟨kx, r0, k0⟩, r1, r3, r5, ⟨r7, k7⟩, ⟨r8, k8⟩, ⟨r9, k9⟩, ⟨r10, k10⟩, ⟨r11, k11⟩, ⟨r12, k12⟩, r13⟩, hT, hP, hH, hRf, hW, hA, hL, hSep⟩ := id hr
  obtain ⟨⟨k1, r2, k2⟩, hu, htl, htf, ht255⟩ := id hT
  obtain ⟨⟨k3, r4⟩, ⟨k4, l4⟩, ws, wl, wv⟩ := id hW
  refine Ct.mk RX10 "put" hy_X10_put (Nat.le_of_ble_eq_true rfl) (fun X hX C => ?_)
  change Go X G _ 6 0 0 S 0 [(0, .ref x), (1, .int p), (2, .long v)] []
  refine g_aload_n 0 0 C dX10_put_0 rfl rfl ?_
  refine g_iload_n 1 1 C dX10_put_1 rfl rfl ?_
  refine g_callV (As := [.int p]) (rest := []) C dX10_put_2 (c_C_draftAt_err hr hZ he) wC_X10_draftAt wM_X10_84 wI_X10_draftAt wS_X10_draftAt wN_X10 (kne kx) (pf_10 kx) rfl hd_X10_draftAt ⟨by decide, by decide, by decide, by decide⟩ (Nat.le_of_ble_eq_true rfl) (fun r_ S_ h_ => ?_)
  obtain ⟨rfl, rfl⟩ := h_
  change Go X G _ 6 _ _ S 5 [(0, .ref x), (1, .int p), (2, .long v)] [.null]
  refine g_astoreN (lv' := [(4, .null), (0, .ref x), (1, .int p), (2, .long v)]) C dX10_put_5 (by decide) rfl ?_
  refine g_aloadN 0 C dX10_put_7 rfl ?_
  refine g_ifnonnullN C dX10_put_9 ?_
  refine g_aload_n 1 0 C dX10_put_12 rfl rfl ?_
  refine g_iload_n 2 1 C dX10_put_13 rfl rfl ?_
  refine g_callV (As := [.int p]) (rest := []) C dX10_put_14 (c_C_ref hr hZ) wC_X10_refusalAt wM_X10_88 wI_X10_refusalAt wS_X10_refusalAt wN_X10 (kne kx) (pf_10 kx) rfl hd_X10_refusalAt ⟨by decide, by decide, by decide, by decide⟩ (Nat.le_of_ble_eq_true rfl) (fun r_ S_ h_ => ?_)
  obtain ⟨rfl, rfl⟩ := h_
  change Go X G _ 6 _ _ S 17 [(4, .null), (0, .ref x), (1, .int p), (2, .long v)] [.int (reA Z p)]
  exact g_iret C dX10_put_17 (by decide) (by decide) (⟨by unfold A_put; rw [he, ref_draft he], ⟨c, D, by unfold N_put; rw [he]; exact hr⟩, Fk.refl S⟩)
set_option maxRecDepth 100000 in
set_option maxHeartbeats 2000000 in
theorem c_C_put_ok {lX : Launch} {G : Gx} {S : PS} {x : Nat} {c : Nat → Nat} {D : Nat → Nat → Nat} {Z : ZT} (hr : RCD S Z x c D) (hZ : okZ Z) {j t : Nat} (hj : j < 10) (hp : zP Z j = t + 1) (he : draftE Z (nI j) = .inr t) {v : Int64} : Ct lX yX10_put cX10_put 6 (Option.some Jvm.ClassFile.FieldType.int) rm_X10_put G [.ref x, .int (nI j), .long v] S (fun r S' => r = some (.int (A_put Z (nI j))) ∧ RC S' (N_put Z (nI j) v) x ∧ Fk S S') := by
  obtain ⟨⟨⟨kx, r0, k0⟩, r1, r3, r5, ⟨r7, k7⟩, ⟨r8, k8⟩, ⟨r9, k9⟩, ⟨r10, k10⟩, ⟨r11, k11⟩, ⟨r12, k12⟩, r13⟩, hT, hP, hH, hRf, hW, hA, hL, hSep⟩ := id hr
  obtain ⟨⟨k1, r2, k2⟩, hu, htl, htf, ht255⟩ := id hT
  obtain ⟨⟨k3, r4⟩, ⟨k4, l4⟩, ws, wl, wv⟩ := id hW
  have hok := (hZ.th hj hp).1
  have hk6 : tK (zH Z t) = 6 := by obtain ⟨j2, _, e2, h2, h3⟩ := draftE_inr he; exact h3
  have hdr := (hH t ⟨j, hj, hp⟩).2.1 hk6
  refine Ct.mk RX10 "put" hy_X10_put (Nat.le_of_ble_eq_true rfl) (fun X hX C => ?_)
  change Go X G _ 6 0 0 S 0 [(0, .ref x), (1, .int (nI j)), (2, .long v)] []
  refine g_aload_n 0 0 C dX10_put_0 rfl rfl ?_
  refine g_iload_n 1 1 C dX10_put_1 rfl rfl ?_
  refine g_callV (As := [.int (nI j)]) (rest := []) C dX10_put_2 (c_C_draftAt_ok hr hZ hj hp he) wC_X10_draftAt wM_X10_84 wI_X10_draftAt wS_X10_draftAt wN_X10 (kne kx) (pf_10 kx) rfl hd_X10_draftAt ⟨by decide, by decide, by decide, by decide⟩ (Nat.le_of_ble_eq_true rfl) (fun r_ S_ h_ => ?_)
  obtain ⟨rfl, rfl⟩ := h_
  change Go X G _ 6 _ _ S 5 [(0, .ref x), (1, .int (nI j)), (2, .long v)] [.ref ((D t 0))]
  refine g_astore (lv' := [(4, .ref ((D t 0))), (0, .ref x), (1, .int (nI j)), (2, .long v)]) C dX10_put_5 (by decide) rfl ?_
  refine g_aload 0 C dX10_put_7 rfl ?_
  refine g_ifnonnull 18 C dX10_put_9 (by decide) ?_
  refine g_aload_n 1 0 C dX10_put_18 rfl rfl ?_
  refine gr_ba_reel C dX10_put_19 kx wF_X10_18 r1 ?_
  refine g_callV (As := []) (rest := []) C dX10_put_22 (c_T_takeName hT) wC_X7_takeName wM_X10_91 wI_X7_takeName wS_X7_takeName wN_X7 (kne k1) (pf_8 k1) rfl hd_X7_takeName ⟨by decide, by decide, by decide, by decide⟩ (Nat.le_of_ble_eq_true rfl) (fun r_ Sa h_ => ?_)
  rcases h_ with ⟨hn, m_, rfl, f1, hm1, hnm, hm0⟩ | ⟨hn, rfl, f1, hm1⟩
  · change Go X G _ 6 _ _ Sa 25 [(4, .ref ((D t 0))), (0, .ref x), (1, .int (nI j)), (2, .long v)] [.ref m_]
    have hr1 := hr.ask f1 hm1
    have hb1 : draftC Sa (D t) (zH Z t) := (hr1.2.2.2.1 t ⟨j, hj, hp⟩).2.1 hk6
    have hoc := nameB_ok hn hZ.1.2
    obtain ⟨q1, q2, q3, q4, q5, q6⟩ := N_put_in (v := v) he hn hok.2.2.1.1
    refine g_astore (lv' := [(5, .ref m_), (4, .ref ((D t 0))), (0, .ref x), (1, .int (nI j)), (2, .long v)]) C dX10_put_25 (by decide) rfl ?_
    refine g_aload 0 C dX10_put_27 rfl ?_
    refine g_ifnonnull 37 C dX10_put_29 (by decide) ?_
    refine g_aload 1 C dX10_put_37 rfl ?_
    refine gr_dr_list C dX10_put_39 hb1.1.1 wF_X10_95 hb1.1.2.2 ?_
    refine g_aload 0 C dX10_put_42 rfl ?_
    refine g_lload_n 4 2 C dX10_put_44 rfl rfl ?_
    refine g_callV (As := [.ref m_, .long v]) (rest := []) C dX10_put_45 (c_L_enter (v := v) hb1.2 hnm hoc) wC_X4_enter wM_X10_98 wI_X4_enter wS_X4_enter wN_X4 (kne hb1.2.1.1) (pf_5 hb1.2.1.1) rfl hd_X4_enter ⟨by decide, by decide, by decide, by decide⟩ (Nat.le_of_ble_eq_true rfl) (fun r_ Sc h_ => ?_)
    obtain ⟨rfl, f3, hmu3, hl3⟩ := h_
    change Go X G _ 6 _ _ Sc 48 [(5, .ref m_), (4, .ref ((D t 0))), (0, .ref x), (1, .int (nI j)), (2, .long v)] [.int (entV (tL (zH Z t)) 100 (zT Z))]
    have hf2 : Fr S Sc (A3 (D t 1) (D t 2) (D t 3)) := (f1.mono (fun _ _ z => z.elim)).trans f3 (fun _ _ h => h)
    have hpl : pl_a Sc = pl_a Sa := congrArg (fun q => q.2.2.1) hmu3
    have hrf : ba_refusal Sc = ba_refusal Sa := congrArg (fun q => q.1) hmu3
    exact g_iret C dX10_put_48 (by decide) (by decide) ⟨by rw [q6], ⟨c, D, hr1.thing (T := setLs (zH Z t) (entL (tL (zH Z t)) 100 (zT Z) v)) f3 ⟨j, hj, hp⟩ (fun a h => h.in) q3 q1 q4 ⟨fun g => absurd (show tK (zH Z t) ≤ 5 from g) (by omega), fun g => hb1.ls f3 hl3, fun g => absurd (show tK (zH Z t) = 7 from g) (by omega)⟩ (by rw [q2]; exact hr1.2.1.fr f3 hmu3) hpl (by rw [hrf, q5]; exact hr1.2.2.2.2.1)⟩, hf2.fk⟩
  · change Go X G _ 6 _ _ Sa 25 [(4, .ref ((D t 0))), (0, .ref x), (1, .int (nI j)), (2, .long v)] [.null]
    have hr1 := hr.ask f1 hm1
    refine g_astoreN (lv' := [(5, .null), (4, .ref ((D t 0))), (0, .ref x), (1, .int (nI j)), (2, .long v)]) C dX10_put_25 (by decide) rfl ?_
    refine g_aloadN 0 C dX10_put_27 rfl ?_
    refine g_ifnonnullN C dX10_put_29 ?_
    refine g_bipush (v := -5) C dX10_put_32 (by decide) ?_
    refine g_goto 48 C dX10_put_34 (by decide) ?_
    exact g_iret C dX10_put_48 (by decide) (by decide) (⟨by rw [(N_put_bad (v := 0) he hn).2.1], ⟨c, D, by rw [(N_put_bad he hn).1]; exact hr1⟩, f1.fk⟩)
theorem c_C_put {lX : Launch} {G : Gx} {S : PS} {x : Nat} {c : Nat → Nat} {D : Nat → Nat → Nat} {Z : ZT} (hr : RCD S Z x c D) (hZ : okZ Z) {p : Int32} {v : Int64} : Ct lX yX10_put cX10_put 6 (Option.some Jvm.ClassFile.FieldType.int) rm_X10_put G [.ref x, .int p, .long v] S (fun r S' => r = some (.int (A_put Z p)) ∧ RC S' (N_put Z p v) x ∧ Fk S S') := by
  cases he : draftE Z p with
  | inl e => exact c_C_put_err hr hZ he
  | inr t =>
    obtain ⟨j, hj, rfl, hp, -⟩ := draftE_inr he
    exact c_C_put_ok hr hZ hj hp he
set_option maxRecDepth 100000 in
set_option maxHeartbeats 2000000 in
theorem c_C_unput_err {lX : Launch} {G : Gx} {S : PS} {x : Nat} {c : Nat → Nat} {D : Nat → Nat → Nat} {Z : ZT} (hr : RCD S Z x c D) (hZ : okZ Z) {p e : Int32} (he : draftE Z p = .inl e)  : Ct lX yX10_unput cX10_unput 4 (Option.some Jvm.ClassFile.FieldType.int) rm_X10_unput G [.ref x, .int p] S (fun r S' => r = some (.int (A_unput Z p)) ∧ RC S' (N_unput Z p) x ∧ Fk S S') := by
  obtain ⟨⟨⟨kx, r0, k0⟩, r1, r3, r5, ⟨r7, k7⟩, ⟨r8, k8⟩, ⟨r9, k9⟩, ⟨r10, k10⟩, ⟨r11, k11⟩, ⟨r12, k12⟩, r13⟩, hT, hP, hH, hRf, hW, hA, hL, hSep⟩ := id hr
  obtain ⟨⟨k1, r2, k2⟩, hu, htl, htf, ht255⟩ := id hT
  obtain ⟨⟨k3, r4⟩, ⟨k4, l4⟩, ws, wl, wv⟩ := id hW
  refine Ct.mk RX10 "unput" hy_X10_unput (Nat.le_of_ble_eq_true rfl) (fun X hX C => ?_)
  change Go X G _ 4 0 0 S 0 [(0, .ref x), (1, .int p)] []
  refine g_aload_n 0 0 C dX10_unput_0 rfl rfl ?_
  refine g_iload_n 1 1 C dX10_unput_1 rfl rfl ?_
  refine g_callV (As := [.int p]) (rest := []) C dX10_unput_2 (c_C_draftAt_err hr hZ he) wC_X10_draftAt wM_X10_84 wI_X10_draftAt wS_X10_draftAt wN_X10 (kne kx) (pf_10 kx) rfl hd_X10_draftAt ⟨by decide, by decide, by decide, by decide⟩ (Nat.le_of_ble_eq_true rfl) (fun r_ S_ h_ => ?_)
  obtain ⟨rfl, rfl⟩ := h_
  change Go X G _ 4 _ _ S 5 [(0, .ref x), (1, .int p)] [.null]
  refine g_astore_nN (lv' := [(2, .null), (0, .ref x), (1, .int p)]) C dX10_unput_5 rfl (by decide) rfl ?_
  refine g_aload_nN 0 2 C dX10_unput_6 rfl rfl ?_
  refine g_ifnonnullN C dX10_unput_7 ?_
  refine g_aload_n 1 0 C dX10_unput_10 rfl rfl ?_
  refine g_iload_n 2 1 C dX10_unput_11 rfl rfl ?_
  refine g_callV (As := [.int p]) (rest := []) C dX10_unput_12 (c_C_ref hr hZ) wC_X10_refusalAt wM_X10_88 wI_X10_refusalAt wS_X10_refusalAt wN_X10 (kne kx) (pf_10 kx) rfl hd_X10_refusalAt ⟨by decide, by decide, by decide, by decide⟩ (Nat.le_of_ble_eq_true rfl) (fun r_ S_ h_ => ?_)
  obtain ⟨rfl, rfl⟩ := h_
  change Go X G _ 4 _ _ S 15 [(2, .null), (0, .ref x), (1, .int p)] [.int (reA Z p)]
  exact g_iret C dX10_unput_15 (by decide) (by decide) (⟨by unfold A_unput; rw [he, ref_draft he], ⟨c, D, by unfold N_unput; rw [he]; exact hr⟩, Fk.refl S⟩)
set_option maxRecDepth 100000 in
set_option maxHeartbeats 2000000 in
theorem c_C_unput_ok {lX : Launch} {G : Gx} {S : PS} {x : Nat} {c : Nat → Nat} {D : Nat → Nat → Nat} {Z : ZT} (hr : RCD S Z x c D) (hZ : okZ Z) {j t : Nat} (hj : j < 10) (hp : zP Z j = t + 1) (he : draftE Z (nI j) = .inr t)  : Ct lX yX10_unput cX10_unput 4 (Option.some Jvm.ClassFile.FieldType.int) rm_X10_unput G [.ref x, .int (nI j)] S (fun r S' => r = some (.int (A_unput Z (nI j))) ∧ RC S' (N_unput Z (nI j)) x ∧ Fk S S') := by
  obtain ⟨⟨⟨kx, r0, k0⟩, r1, r3, r5, ⟨r7, k7⟩, ⟨r8, k8⟩, ⟨r9, k9⟩, ⟨r10, k10⟩, ⟨r11, k11⟩, ⟨r12, k12⟩, r13⟩, hT, hP, hH, hRf, hW, hA, hL, hSep⟩ := id hr
  obtain ⟨⟨k1, r2, k2⟩, hu, htl, htf, ht255⟩ := id hT
  obtain ⟨⟨k3, r4⟩, ⟨k4, l4⟩, ws, wl, wv⟩ := id hW
  have hok := (hZ.th hj hp).1
  have hk6 : tK (zH Z t) = 6 := by obtain ⟨j2, _, e2, h2, h3⟩ := draftE_inr he; exact h3
  have hdr := (hH t ⟨j, hj, hp⟩).2.1 hk6
  refine Ct.mk RX10 "unput" hy_X10_unput (Nat.le_of_ble_eq_true rfl) (fun X hX C => ?_)
  change Go X G _ 4 0 0 S 0 [(0, .ref x), (1, .int (nI j))] []
  refine g_aload_n 0 0 C dX10_unput_0 rfl rfl ?_
  refine g_iload_n 1 1 C dX10_unput_1 rfl rfl ?_
  refine g_callV (As := [.int (nI j)]) (rest := []) C dX10_unput_2 (c_C_draftAt_ok hr hZ hj hp he) wC_X10_draftAt wM_X10_84 wI_X10_draftAt wS_X10_draftAt wN_X10 (kne kx) (pf_10 kx) rfl hd_X10_draftAt ⟨by decide, by decide, by decide, by decide⟩ (Nat.le_of_ble_eq_true rfl) (fun r_ S_ h_ => ?_)
  obtain ⟨rfl, rfl⟩ := h_
  change Go X G _ 4 _ _ S 5 [(0, .ref x), (1, .int (nI j))] [.ref ((D t 0))]
  refine g_astore_n (lv' := [(2, .ref ((D t 0))), (0, .ref x), (1, .int (nI j))]) C dX10_unput_5 rfl (by decide) rfl ?_
  refine g_aload_n 0 2 C dX10_unput_6 rfl rfl ?_
  refine g_ifnonnull 16 C dX10_unput_7 (by decide) ?_
  refine g_aload_n 1 0 C dX10_unput_16 rfl rfl ?_
  refine gr_ba_reel C dX10_unput_17 kx wF_X10_18 r1 ?_
  refine g_callV (As := []) (rest := []) C dX10_unput_20 (c_T_takeName hT) wC_X7_takeName wM_X10_91 wI_X7_takeName wS_X7_takeName wN_X7 (kne k1) (pf_8 k1) rfl hd_X7_takeName ⟨by decide, by decide, by decide, by decide⟩ (Nat.le_of_ble_eq_true rfl) (fun r_ Sa h_ => ?_)
  rcases h_ with ⟨hn, m_, rfl, f1, hm1, hnm, hm0⟩ | ⟨hn, rfl, f1, hm1⟩
  · change Go X G _ 4 _ _ Sa 23 [(2, .ref ((D t 0))), (0, .ref x), (1, .int (nI j))] [.ref m_]
    have hr1 := hr.ask f1 hm1
    have hb1 : draftC Sa (D t) (zH Z t) := (hr1.2.2.2.1 t ⟨j, hj, hp⟩).2.1 hk6
    have hoc := nameB_ok hn hZ.1.2
    obtain ⟨q1, q2, q3, q4, q5, q6⟩ := N_unput_in he hn
    refine g_astore_n (lv' := [(3, .ref m_), (2, .ref ((D t 0))), (0, .ref x), (1, .int (nI j))]) C dX10_unput_23 rfl (by decide) rfl ?_
    refine g_aload_n 0 3 C dX10_unput_24 rfl rfl ?_
    refine g_ifnonnull 33 C dX10_unput_25 (by decide) ?_
    refine g_aload_n 1 2 C dX10_unput_33 rfl rfl ?_
    refine gr_dr_list C dX10_unput_34 hb1.1.1 wF_X10_95 hb1.1.2.2 ?_
    refine g_aload_n 0 3 C dX10_unput_37 rfl rfl ?_
    refine g_callV (As := [.ref m_]) (rest := []) C dX10_unput_38 (c_L_strike hb1.2 hnm hoc) wC_X4_strike wM_X10_102 wI_X4_strike wS_X4_strike wN_X4 (kne hb1.2.1.1) (pf_5 hb1.2.1.1) rfl hd_X4_strike ⟨by decide, by decide, by decide, by decide⟩ (Nat.le_of_ble_eq_true rfl) (fun r_ Sc h_ => ?_)
    obtain ⟨rfl, f3, hmu3, hl3⟩ := h_
    change Go X G _ 4 _ _ Sc 41 [(3, .ref m_), (2, .ref ((D t 0))), (0, .ref x), (1, .int (nI j))] [.int (bI (isAtN (tL (zH Z t)) (aheadN (tL (zH Z t)) (zT Z)) (zT Z)))]
    have hf2 : Fr S Sc (A3 (D t 1) (D t 2) (D t 3)) := (f1.mono (fun _ _ z => z.elim)).trans f3 (fun _ _ h => h)
    have hpl : pl_a Sc = pl_a Sa := congrArg (fun q => q.2.2.1) hmu3
    have hrf : ba_refusal Sc = ba_refusal Sa := congrArg (fun q => q.1) hmu3
    exact g_iret C dX10_unput_41 (by decide) (by decide) ⟨by rw [q6], ⟨c, D, hr1.thing (T := setLs (zH Z t) (if isAtN (tL (zH Z t)) (aheadN (tL (zH Z t)) (zT Z)) (zT Z) = true then delL (tL (zH Z t)) (aheadN (tL (zH Z t)) (zT Z)) else (tL (zH Z t)))) f3 ⟨j, hj, hp⟩ (fun a h => h.in) q3 q1 q4 ⟨fun g => absurd (show tK (zH Z t) ≤ 5 from g) (by omega), fun g => hb1.ls f3 hl3, fun g => absurd (show tK (zH Z t) = 7 from g) (by omega)⟩ (by rw [q2]; exact hr1.2.1.fr f3 hmu3) hpl (by rw [hrf, q5]; exact hr1.2.2.2.2.1)⟩, hf2.fk⟩
  · change Go X G _ 4 _ _ Sa 23 [(2, .ref ((D t 0))), (0, .ref x), (1, .int (nI j))] [.null]
    have hr1 := hr.ask f1 hm1
    refine g_astore_nN (lv' := [(3, .null), (2, .ref ((D t 0))), (0, .ref x), (1, .int (nI j))]) C dX10_unput_23 rfl (by decide) rfl ?_
    refine g_aload_nN 0 3 C dX10_unput_24 rfl rfl ?_
    refine g_ifnonnullN C dX10_unput_25 ?_
    refine g_bipush (v := -5) C dX10_unput_28 (by decide) ?_
    refine g_goto 41 C dX10_unput_30 (by decide) ?_
    exact g_iret C dX10_unput_41 (by decide) (by decide) (⟨by rw [(N_put_bad (v := 0) he hn).2.2.2], ⟨c, D, by rw [(N_put_bad (v := 0) he hn).2.2.1]; exact hr1⟩, f1.fk⟩)
theorem c_C_unput {lX : Launch} {G : Gx} {S : PS} {x : Nat} {c : Nat → Nat} {D : Nat → Nat → Nat} {Z : ZT} (hr : RCD S Z x c D) (hZ : okZ Z) {p : Int32}  : Ct lX yX10_unput cX10_unput 4 (Option.some Jvm.ClassFile.FieldType.int) rm_X10_unput G [.ref x, .int p] S (fun r S' => r = some (.int (A_unput Z p)) ∧ RC S' (N_unput Z p) x ∧ Fk S S') := by
  cases he : draftE Z p with
  | inl e => exact c_C_unput_err hr hZ he
  | inr t =>
    obtain ⟨j, hj, rfl, hp, -⟩ := draftE_inr he
    exact c_C_unput_ok hr hZ hj hp he
