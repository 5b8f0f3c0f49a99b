set_option maxRecDepth 100000 in
set_option maxHeartbeats 2000000 in
theorem c_C_lose_err {lX : Launch} {G : Gx} {S : PS} {x : Nat} {c : Nat → Nat} {D : Nat → Nat → Nat} {Z : ZT} (hr : RCD S Z x c D) (hZ : okZ Z) {p e : Int32} (he : rowedE Z p = .inl e) {i : Int32} : Ct lX yX10_lose cX10_lose 5 (Option.some Jvm.ClassFile.FieldType.int) rm_X10_lose G [.ref x, .int p, .int i] S (fun r S' => r = some (.int (A_lose Z p i)) ∧ RC S' (N_lose Z p i) x ∧ Fk S S') := by
  obtain ⟨⟨⟨kx, r0, k0⟩, r1, r3, r5, ⟨r7, k7⟩, ⟨r8, k8⟩, ⟨r9, k9⟩, ⟨r10, k10⟩, ⟨r11, k11⟩, ⟨r12, k12⟩, r13⟩, hT, hP, hH, hRf, hW, hA, hL, hSep⟩ := id hr
  obtain ⟨⟨k1, r2, k2⟩, hu, htl, htf, ht255⟩ := id hT
  obtain ⟨⟨k3, r4⟩, ⟨k4, l4⟩, ws, wl, wv⟩ := id hW
  refine Ct.mk RX10 "lose" hy_X10_lose (Nat.le_of_ble_eq_true rfl) (fun X hX C => ?_)
  change Go X G _ 5 0 0 S 0 [(0, .ref x), (1, .int p), (2, .int i)] []
  refine g_aload_n 0 0 C dX10_lose_0 rfl rfl ?_
  refine g_iload_n 1 1 C dX10_lose_1 rfl rfl ?_
  refine g_callV (As := [.int p]) (rest := []) C dX10_lose_2 (c_C_rowAt_err hr hZ he) wC_X10_rowAt wM_X10_188 wI_X10_rowAt wS_X10_rowAt wN_X10 (kne kx) (pf_10 kx) rfl hd_X10_rowAt ⟨by decide, by decide, by decide, by decide⟩ (Nat.le_of_ble_eq_true rfl) (fun r_ S_ h_ => ?_)
  obtain ⟨rfl, rfl⟩ := h_
  change Go X G _ 5 _ _ S 5 [(0, .ref x), (1, .int p), (2, .int i)] [.null]
  refine g_astore_nN (lv' := [(3, .null), (0, .ref x), (1, .int p), (2, .int i)]) C dX10_lose_5 rfl (by decide) rfl ?_
  refine g_aload_nN 0 3 C dX10_lose_6 rfl rfl ?_
  refine g_ifnonnullN C dX10_lose_7 ?_
  refine g_aload_n 1 0 C dX10_lose_10 rfl rfl ?_
  refine g_iload_n 2 1 C dX10_lose_11 rfl rfl ?_
  refine g_callV (As := [.int p]) (rest := []) C dX10_lose_12 (c_C_ref hr hZ) wC_X10_refusalAt wM_X10_88 wI_X10_refusalAt wS_X10_refusalAt wN_X10 (kne kx) (pf_10 kx) rfl hd_X10_refusalAt ⟨by decide, by decide, by decide, by decide⟩ (Nat.le_of_ble_eq_true rfl) (fun r_ S_ h_ => ?_)
  obtain ⟨rfl, rfl⟩ := h_
  change Go X G _ 5 _ _ S 15 [(3, .null), (0, .ref x), (1, .int p), (2, .int i)] [.int (reA Z p)]
  exact g_iret C dX10_lose_15 (by decide) (by decide) (⟨by unfold A_lose; rw [he, ref_rowed he], ⟨c, D, by unfold N_lose; rw [he]; exact hr⟩, Fk.refl S⟩)
set_option maxRecDepth 100000 in
set_option maxHeartbeats 2000000 in
theorem c_C_lose_ok {lX : Launch} {G : Gx} {S : PS} {x : Nat} {c : Nat → Nat} {D : Nat → Nat → Nat} {Z : ZT} (hr : RCD S Z x c D) (hZ : okZ Z) {j t : Nat} (hj : j < 10) (hp : zP Z j = t + 1) (he : rowedE Z (nI j) = .inr t) {i : Int32} : Ct lX yX10_lose cX10_lose 5 (Option.some Jvm.ClassFile.FieldType.int) rm_X10_lose G [.ref x, .int (nI j), .int i] S (fun r S' => r = some (.int (A_lose Z (nI j) i)) ∧ RC S' (N_lose Z (nI j) i) x ∧ Fk S S') := by
  obtain ⟨⟨⟨kx, r0, k0⟩, r1, r3, r5, ⟨r7, k7⟩, ⟨r8, k8⟩, ⟨r9, k9⟩, ⟨r10, k10⟩, ⟨r11, k11⟩, ⟨r12, k12⟩, r13⟩, hT, hP, hH, hRf, hW, hA, hL, hSep⟩ := id hr
  obtain ⟨⟨k1, r2, k2⟩, hu, htl, htf, ht255⟩ := id hT
  obtain ⟨⟨k3, r4⟩, ⟨k4, l4⟩, ws, wl, wv⟩ := id hW
  have hok := (hZ.th hj hp).1
  have hkr : ¬ (tK (zH Z t) = 1 ∨ tK (zH Z t) = 6) := by obtain ⟨j2, _, e2, h2, h3⟩ := rowedE_inr he; exact h3
  have hrw := hr.rowOf hZ hj hp hkr
  obtain ⟨⟨k_a, rb_a, rw_a, rt_a, ru_a⟩, ⟨k_w, l_w⟩, ⟨k_t, l_t⟩, ⟨k_u, l_u⟩, ⟨la_a, lb_a⟩, on_a, ⟨bl_a, b01⟩, wd_⟩ := id hrw.1
  have hon := ones_lt b01 (tB (zH Z t)).length
  have hth := hH t ⟨j, hj, hp⟩
  have hk7 := hok.2.1
  refine Ct.mk RX10 "lose" hy_X10_lose (Nat.le_of_ble_eq_true rfl) (fun X hX C => ?_)
  change Go X G _ 5 0 0 S 0 [(0, .ref x), (1, .int (nI j)), (2, .int i)] []
  refine g_aload_n 0 0 C dX10_lose_0 rfl rfl ?_
  refine g_iload_n 1 1 C dX10_lose_1 rfl rfl ?_
  refine g_callV (As := [.int (nI j)]) (rest := []) C dX10_lose_2 (c_C_rowAt_ok hr hZ hj hp he) wC_X10_rowAt wM_X10_188 wI_X10_rowAt wS_X10_rowAt wN_X10 (kne kx) (pf_10 kx) rfl hd_X10_rowAt ⟨by decide, by decide, by decide, by decide⟩ (Nat.le_of_ble_eq_true rfl) (fun r_ S_ h_ => ?_)
  obtain ⟨rfl, rfl⟩ := h_
  change Go X G _ 5 _ _ S 5 [(0, .ref x), (1, .int (nI j)), (2, .int i)] [.ref ((D t 4))]
  refine g_astore_n (lv' := [(3, .ref ((D t 4))), (0, .ref x), (1, .int (nI j)), (2, .int i)]) C dX10_lose_5 rfl (by decide) rfl ?_
  refine g_aload_n 0 3 C dX10_lose_6 rfl rfl ?_
  refine g_ifnonnull 16 C dX10_lose_7 (by decide) ?_
  refine g_iload_n 3 2 C dX10_lose_16 rfl rfl ?_
  refine g_if_eq 28 C dX10_lose_17 (by decide) (fun c17 => ?_) (fun c17 => ?_)
  · obtain rfl : i = nI 0 := c17
    refine g_iload_n 3 2 C dX10_lose_28 rfl rfl ?_
    refine g_nif_ne 39 (by decide) C dX10_lose_29 (by decide) (fun c => absurd c (by decide)) (fun _ => ?_)
    refine g_aload_n 0 3 C dX10_lose_32 rfl rfl ?_
    refine gf_rw_la C dX10_lose_33 k_a wF_X10_246 ?_
    refine g_topi (la_a) ?_
    refine g_goto 43 C dX10_lose_36 (by decide) ?_
    refine g_istore (lv' := [(4, .int (bI (tA (zH Z t)))), (3, .ref ((D t 4))), (0, .ref x), (1, .int (nI j)), (2, .int (nI 0))]) C dX10_lose_43 (by decide) rfl ?_
    refine g_iload_n 4 2 C dX10_lose_45 rfl rfl ?_
    refine g_nif_ne 57 (by decide) C dX10_lose_46 (by decide) (fun c => absurd c (by decide)) (fun _ => ?_)
    refine g_aload_n 1 3 C dX10_lose_49 rfl rfl ?_
    refine g_iconst (v := nI 1) C dX10_lose_50 (by decide) ?_
    refine pp_rw_la C dX10_lose_51 k_a wF_X10_246 (Or.inl rfl) (by decide) ?_
    refine g_goto 62 C dX10_lose_54 (by decide) ?_
    refine g_iload 0 C dX10_lose_62 rfl ?_
    refine g_if_eq 71 C dX10_lose_64 (by decide) (fun c64 => ?_) (fun c64 => ?_)
    · have el : tA (zH Z t) = false := bI_f c64
      refine g_iconst (v := nI 1) C dX10_lose_71 (by decide) ?_
      have hf : Fr S (rw_la_ S (va_up (rw_la S) ((D t 4)) (nI 1))) (A4 (D t)) := ((Fr.refl S (A4 (D t))).u_rw_la (Fb.of k_a (Or.inl rfl)))
      exact g_iret C dX10_lose_72 (by decide) (by decide) ⟨by unfold A_lose; rw [he]; simp only []; rw [show inR (nI 0) 2 = true from by decide, if_pos rfl, nI_clamp (by decide)]; show _ = some (Value.int (bI (!tA (zH Z t)))); rw [el]; rfl, ⟨c, D, by
        unfold N_lose; rw [he]; simp only []; rw [show inR (nI 0) 2 = true from by decide, if_pos rfl, nI_clamp (by decide)]
        exact hr.thing (T := setL (zH Z t) 0 true) hf ⟨j, hj, hp⟩ (fun a h => h.in) rfl (fun q => rfl) rfl (hth.row hf (A4.out0 hth hk7 hkr hrw) (A4.out hth hrw) hkr rfl rfl hrw.loseA) (hT.fr hf rfl) rfl hRf⟩, hf.fk⟩
    · have el : tA (zH Z t) = true := bI_t c64
      refine g_iconst (v := nI 0) C dX10_lose_67 (by decide) ?_
      refine g_goto 72 C dX10_lose_68 (by decide) ?_
      have hf : Fr S (rw_la_ S (va_up (rw_la S) ((D t 4)) (nI 1))) (A4 (D t)) := ((Fr.refl S (A4 (D t))).u_rw_la (Fb.of k_a (Or.inl rfl)))
      exact g_iret C dX10_lose_72 (by decide) (by decide) ⟨by unfold A_lose; rw [he]; simp only []; rw [show inR (nI 0) 2 = true from by decide, if_pos rfl, nI_clamp (by decide)]; show _ = some (Value.int (bI (!tA (zH Z t)))); rw [el]; rfl, ⟨c, D, by
        unfold N_lose; rw [he]; simp only []; rw [show inR (nI 0) 2 = true from by decide, if_pos rfl, nI_clamp (by decide)]
        exact hr.thing (T := setL (zH Z t) 0 true) hf ⟨j, hj, hp⟩ (fun a h => h.in) rfl (fun q => rfl) rfl (hth.row hf (A4.out0 hth hk7 hkr hrw) (A4.out hth hrw) hkr rfl rfl hrw.loseA) (hT.fr hf rfl) rfl hRf⟩, hf.fk⟩
  · refine g_iload_n 3 2 C dX10_lose_20 rfl rfl ?_
    refine g_iconst (v := nI 1) C dX10_lose_21 (by decide) ?_
    refine g_icmp_eq 28 C dX10_lose_22 (by decide) (fun c22 => ?_) (fun c22 => ?_)
    · obtain rfl : i = nI 1 := c22
      refine g_iload_n 3 2 C dX10_lose_28 rfl rfl ?_
      refine g_nif_ne 39 (by decide) C dX10_lose_29 (by decide) (fun _ => ?_) (fun c => absurd c (by decide))
      refine g_aload_n 0 3 C dX10_lose_39 rfl rfl ?_
      refine gf_rw_lb C dX10_lose_40 k_a wF_X10_250 ?_
      refine g_topi (lb_a) ?_
      refine g_istore (lv' := [(4, .int (bI (tC (zH Z t)))), (3, .ref ((D t 4))), (0, .ref x), (1, .int (nI j)), (2, .int (nI 1))]) C dX10_lose_43 (by decide) rfl ?_
      refine g_iload_n 4 2 C dX10_lose_45 rfl rfl ?_
      refine g_nif_ne 57 (by decide) C dX10_lose_46 (by decide) (fun _ => ?_) (fun c => absurd c (by decide))
      refine g_aload_n 1 3 C dX10_lose_57 rfl rfl ?_
      refine g_iconst (v := nI 1) C dX10_lose_58 (by decide) ?_
      refine pp_rw_lb C dX10_lose_59 k_a wF_X10_250 (Or.inl rfl) (by decide) ?_
      refine g_iload 0 C dX10_lose_62 rfl ?_
      refine g_if_eq 71 C dX10_lose_64 (by decide) (fun c64 => ?_) (fun c64 => ?_)
      · have el : tC (zH Z t) = false := bI_f c64
        refine g_iconst (v := nI 1) C dX10_lose_71 (by decide) ?_
        have hf : Fr S (rw_lb_ S (va_up (rw_lb S) ((D t 4)) (nI 1))) (A4 (D t)) := ((Fr.refl S (A4 (D t))).u_rw_lb (Fb.of k_a (Or.inl rfl)))
        exact g_iret C dX10_lose_72 (by decide) (by decide) ⟨by unfold A_lose; rw [he]; simp only []; rw [show inR (nI 1) 2 = true from by decide, if_pos rfl, nI_clamp (by decide)]; show _ = some (Value.int (bI (!tC (zH Z t)))); rw [el]; rfl, ⟨c, D, by
          unfold N_lose; rw [he]; simp only []; rw [show inR (nI 1) 2 = true from by decide, if_pos rfl, nI_clamp (by decide)]
          exact hr.thing (T := setL (zH Z t) 1 true) hf ⟨j, hj, hp⟩ (fun a h => h.in) rfl (fun q => rfl) rfl (hth.row hf (A4.out0 hth hk7 hkr hrw) (A4.out hth hrw) hkr rfl rfl hrw.loseB) (hT.fr hf rfl) rfl hRf⟩, hf.fk⟩
      · have el : tC (zH Z t) = true := bI_t c64
        refine g_iconst (v := nI 0) C dX10_lose_67 (by decide) ?_
        refine g_goto 72 C dX10_lose_68 (by decide) ?_
        have hf : Fr S (rw_lb_ S (va_up (rw_lb S) ((D t 4)) (nI 1))) (A4 (D t)) := ((Fr.refl S (A4 (D t))).u_rw_lb (Fb.of k_a (Or.inl rfl)))
        exact g_iret C dX10_lose_72 (by decide) (by decide) ⟨by unfold A_lose; rw [he]; simp only []; rw [show inR (nI 1) 2 = true from by decide, if_pos rfl, nI_clamp (by decide)]; show _ = some (Value.int (bI (!tC (zH Z t)))); rw [el]; rfl, ⟨c, D, by
          unfold N_lose; rw [he]; simp only []; rw [show inR (nI 1) 2 = true from by decide, if_pos rfl, nI_clamp (by decide)]
          exact hr.thing (T := setL (zH Z t) 1 true) hf ⟨j, hj, hp⟩ (fun a h => h.in) rfl (fun q => rfl) rfl (hth.row hf (A4.out0 hth hk7 hkr hrw) (A4.out hth hrw) hkr rfl rfl hrw.loseB) (hT.fr hf rfl) rfl hRf⟩, hf.fk⟩
    · have ei := in2_no c17 c22
      refine g_bipush (v := -5) C dX10_lose_25 (by decide) ?_
      exact g_iret C dX10_lose_27 (by decide) (by decide) (⟨by unfold A_lose; rw [he]; simp only []; rw [ei, if_neg (by decide)], ⟨c, D, by unfold N_lose; rw [he]; simp only []; rw [ei, if_neg (by decide)]; exact hr⟩, Fk.refl S⟩)
theorem c_C_lose {lX : Launch} {G : Gx} {S : PS} {x : Nat} {c : Nat → Nat} {D : Nat → Nat → Nat} {Z : ZT} (hr : RCD S Z x c D) (hZ : okZ Z) {p : Int32} {i : Int32} : Ct lX yX10_lose cX10_lose 5 (Option.some Jvm.ClassFile.FieldType.int) rm_X10_lose G [.ref x, .int p, .int i] S (fun r S' => r = some (.int (A_lose Z p i)) ∧ RC S' (N_lose Z p i) x ∧ Fk S S') := by
  cases he : rowedE Z p with
  | inl e => exact c_C_lose_err hr hZ he
  | inr t =>
    obtain ⟨j, hj, rfl, hp, -⟩ := rowedE_inr he
    exact c_C_lose_ok hr hZ hj hp he
set_option maxRecDepth 100000 in
set_option maxHeartbeats 2000000 in
theorem c_C_mend_err {lX : Launch} {G : Gx} {S : PS} {x : Nat} {c : Nat → Nat} {D : Nat → Nat → Nat} {Z : ZT} (hr : RCD S Z x c D) (hZ : okZ Z) {p e : Int32} (he : rowedE Z p = .inl e)  : Ct lX yX10_mend cX10_mend 4 (Option.some Jvm.ClassFile.FieldType.int) rm_X10_mend G [.ref x, .int p] S (fun r S' => r = some (.int (A_mend Z p)) ∧ RC S' (N_mend Z p) x ∧ Fk S S') := by
  obtain ⟨⟨⟨kx, r0, k0⟩, r1, r3, r5, ⟨r7, k7⟩, ⟨r8, k8⟩, ⟨r9, k9⟩, ⟨r10, k10⟩, ⟨r11, k11⟩, ⟨r12, k12⟩, r13⟩, hT, hP, hH, hRf, hW, hA, hL, hSep⟩ := id hr
  obtain ⟨⟨k1, r2, k2⟩, hu, htl, htf, ht255⟩ := id hT
  obtain ⟨⟨k3, r4⟩, ⟨k4, l4⟩, ws, wl, wv⟩ := id hW
  refine Ct.mk RX10 "mend" hy_X10_mend (Nat.le_of_ble_eq_true rfl) (fun X hX C => ?_)
  change Go X G _ 4 0 0 S 0 [(0, .ref x), (1, .int p)] []
  refine g_aload_n 0 0 C dX10_mend_0 rfl rfl ?_
  refine g_iload_n 1 1 C dX10_mend_1 rfl rfl ?_
  refine g_callV (As := [.int p]) (rest := []) C dX10_mend_2 (c_C_rowAt_err hr hZ he) wC_X10_rowAt wM_X10_188 wI_X10_rowAt wS_X10_rowAt wN_X10 (kne kx) (pf_10 kx) rfl hd_X10_rowAt ⟨by decide, by decide, by decide, by decide⟩ (Nat.le_of_ble_eq_true rfl) (fun r_ S_ h_ => ?_)
  obtain ⟨rfl, rfl⟩ := h_
  change Go X G _ 4 _ _ S 5 [(0, .ref x), (1, .int p)] [.null]
  refine g_astore_nN (lv' := [(2, .null), (0, .ref x), (1, .int p)]) C dX10_mend_5 rfl (by decide) rfl ?_
  refine g_aload_nN 0 2 C dX10_mend_6 rfl rfl ?_
  refine g_ifnonnullN C dX10_mend_7 ?_
  refine g_aload_n 1 0 C dX10_mend_10 rfl rfl ?_
  refine g_iload_n 2 1 C dX10_mend_11 rfl rfl ?_
  refine g_callV (As := [.int p]) (rest := []) C dX10_mend_12 (c_C_ref hr hZ) wC_X10_refusalAt wM_X10_88 wI_X10_refusalAt wS_X10_refusalAt wN_X10 (kne kx) (pf_10 kx) rfl hd_X10_refusalAt ⟨by decide, by decide, by decide, by decide⟩ (Nat.le_of_ble_eq_true rfl) (fun r_ S_ h_ => ?_)
  obtain ⟨rfl, rfl⟩ := h_
  change Go X G _ 4 _ _ S 15 [(2, .null), (0, .ref x), (1, .int p)] [.int (reA Z p)]
  exact g_iret C dX10_mend_15 (by decide) (by decide) (⟨by unfold A_mend; rw [he, ref_rowed he], ⟨c, D, by unfold N_mend; rw [he]; exact hr⟩, Fk.refl S⟩)
set_option maxRecDepth 100000 in
set_option maxHeartbeats 2000000 in
theorem c_C_mend_ok {lX : Launch} {G : Gx} {S : PS} {x : Nat} {c : Nat → Nat} {D : Nat → Nat → Nat} {Z : ZT} (hr : RCD S Z x c D) (hZ : okZ Z) {j t : Nat} (hj : j < 10) (hp : zP Z j = t + 1) (he : rowedE Z (nI j) = .inr t)  : Ct lX yX10_mend cX10_mend 4 (Option.some Jvm.ClassFile.FieldType.int) rm_X10_mend G [.ref x, .int (nI j)] S (fun r S' => r = some (.int (A_mend Z (nI j))) ∧ RC S' (N_mend Z (nI j)) x ∧ Fk S S') := by
  obtain ⟨⟨⟨kx, r0, k0⟩, r1, r3, r5, ⟨r7, k7⟩, ⟨r8, k8⟩, ⟨r9, k9⟩, ⟨r10, k10⟩, ⟨r11, k11⟩, ⟨r12, k12⟩, r13⟩, hT, hP, hH, hRf, hW, hA, hL, hSep⟩ := id hr
  obtain ⟨⟨k1, r2, k2⟩, hu, htl, htf, ht255⟩ := id hT
  obtain ⟨⟨k3, r4⟩, ⟨k4, l4⟩, ws, wl, wv⟩ := id hW
  have hok := (hZ.th hj hp).1
  have hkr : ¬ (tK (zH Z t) = 1 ∨ tK (zH Z t) = 6) := by obtain ⟨j2, _, e2, h2, h3⟩ := rowedE_inr he; exact h3
  have hrw := hr.rowOf hZ hj hp hkr
  obtain ⟨⟨k_a, rb_a, rw_a, rt_a, ru_a⟩, ⟨k_w, l_w⟩, ⟨k_t, l_t⟩, ⟨k_u, l_u⟩, ⟨la_a, lb_a⟩, on_a, ⟨bl_a, b01⟩, wd_⟩ := id hrw.1
  have hon := ones_lt b01 (tB (zH Z t)).length
  have hth := hH t ⟨j, hj, hp⟩
  have hk7 := hok.2.1
  refine Ct.mk RX10 "mend" hy_X10_mend (Nat.le_of_ble_eq_true rfl) (fun X hX C => ?_)
  change Go X G _ 4 0 0 S 0 [(0, .ref x), (1, .int (nI j))] []
  refine g_aload_n 0 0 C dX10_mend_0 rfl rfl ?_
  refine g_iload_n 1 1 C dX10_mend_1 rfl rfl ?_
  refine g_callV (As := [.int (nI j)]) (rest := []) C dX10_mend_2 (c_C_rowAt_ok hr hZ hj hp he) wC_X10_rowAt wM_X10_188 wI_X10_rowAt wS_X10_rowAt wN_X10 (kne kx) (pf_10 kx) rfl hd_X10_rowAt ⟨by decide, by decide, by decide, by decide⟩ (Nat.le_of_ble_eq_true rfl) (fun r_ S_ h_ => ?_)
  obtain ⟨rfl, rfl⟩ := h_
  change Go X G _ 4 _ _ S 5 [(0, .ref x), (1, .int (nI j))] [.ref ((D t 4))]
  refine g_astore_n (lv' := [(2, .ref ((D t 4))), (0, .ref x), (1, .int (nI j))]) C dX10_mend_5 rfl (by decide) rfl ?_
  refine g_aload_n 0 2 C dX10_mend_6 rfl rfl ?_
  refine g_ifnonnull 16 C dX10_mend_7 (by decide) ?_
  refine g_aload_n 0 2 C dX10_mend_16 rfl rfl ?_
  refine gf_rw_la C dX10_mend_17 k_a wF_X10_246 ?_
  refine g_topi (la_a) ?_
  refine g_if_eq 27 C dX10_mend_20 (by decide) (fun c20 => ?_) (fun c20 => ?_)
  · have ea := bI_f c20
    refine g_iconst (v := nI 0) C dX10_mend_27 (by decide) ?_
    refine g_aload_n 0 2 C dX10_mend_28 rfl rfl ?_
    refine gf_rw_lb C dX10_mend_29 k_a wF_X10_250 ?_
    refine g_topi (lb_a) ?_
    refine g_if_eq 39 C dX10_mend_32 (by decide) (fun c32 => ?_) (fun c32 => ?_)
    · have ec := bI_f c32
      refine g_iconst (v := nI 0) C dX10_mend_39 (by decide) ?_
      refine g_iadd C dX10_mend_40 ?_
      refine g_topi (nI_add _ _ : _ = nI (0 + 0)) ?_
      refine g_istore_n (lv' := [(3, .int (nI (0 + 0))), (2, .ref ((D t 4))), (0, .ref x), (1, .int (nI j))]) C dX10_mend_41 rfl (by decide) rfl ?_
      refine g_aload_n 1 2 C dX10_mend_42 rfl rfl ?_
      refine g_iconst (v := nI 0) C dX10_mend_43 (by decide) ?_
      refine pp_rw_la C dX10_mend_44 k_a wF_X10_246 (Or.inl rfl) (by decide) ?_
      refine g_aload_n 1 2 C dX10_mend_47 rfl rfl ?_
      refine g_iconst (v := nI 0) C dX10_mend_48 (by decide) ?_
      refine pp_rw_lb C dX10_mend_49 k_a wF_X10_250 (Or.inl rfl) (by decide) ?_
      refine g_aload_n 1 2 C dX10_mend_52 rfl rfl ?_
      have hp2 : rowP (rw_lb_ (rw_la_ S (va_up (rw_la S) (D t 4) (nI 0))) (va_up (rw_lb S) (D t 4) (nI 0))) (D t 4) (D t 5) (D t 6) (D t 7) (tB (zH Z t)) false false := hrw.1.lost (u := false) (v := false)
      refine g_callV (As := []) (rest := []) C dX10_mend_53 (c_R_fill hp2) wC_X6_fillTables wM_X10_218 wI_X6_fillTables wS_X6_fillTables wN_X6 (kne k_a) (pf_7 k_a) rfl hd_X6_fillTables ⟨by decide, by decide, by decide, by decide⟩ (Nat.le_of_ble_eq_true rfl) (fun r_ S_ h_ => ?_)
      obtain ⟨fa, fb, rfl, rfl, hfa, hfb⟩ := h_
      change Go X G _ 4 _ _ (flS (rw_lb_ (rw_la_ S (va_up (rw_la S) (D t 4) (nI 0))) (va_up (rw_lb S) (D t 4) (nI 0))) (D t 6) (D t 7) fa fb) 56 [(3, .int (nI (0 + 0))), (2, .ref ((D t 4))), (0, .ref x), (1, .int (nI j))] []
      refine g_iload_n 0 3 C dX10_mend_56 rfl rfl ?_
      have hf : Fr S (flS (rw_lb_ (rw_la_ S (va_up (rw_la S) (D t 4) (nI 0))) (va_up (rw_lb S) (D t 4) (nI 0))) (D t 6) (D t 7) fa fb) (A4 (D t)) := (((Fr.refl S (A4 (D t))).u_rw_la (Fb.of k_a (Or.inl rfl))).u_rw_lb (Fb.of k_a (Or.inl rfl))).fl (Fb.of k_t (Or.inr (Or.inr (Or.inl rfl)))) (Fb.of k_u (Or.inr (Or.inr (Or.inr rfl))))
      exact g_iret C dX10_mend_57 (by decide) (by decide) ⟨by unfold A_mend; rw [he]; simp only []; rw [ea, ec]; rfl, ⟨c, D, by
        unfold N_mend; rw [he]
        exact hr.thing (T := setL (setL (zH Z t) 0 false) 1 false) hf ⟨j, hj, hp⟩ (fun a h => h.in) rfl (fun q => rfl) rfl (hth.row hf (A4.out0 hth hk7 hkr hrw) (A4.out hth hrw) hkr rfl rfl (hp2.fl hfa hfb)) (hT.fr hf rfl) rfl hRf⟩, hf.fk⟩
    · have ec := bI_t c32
      refine g_iconst (v := nI 1) C dX10_mend_35 (by decide) ?_
      refine g_goto 40 C dX10_mend_36 (by decide) ?_
      refine g_iadd C dX10_mend_40 ?_
      refine g_topi (nI_add _ _ : _ = nI (0 + 1)) ?_
      refine g_istore_n (lv' := [(3, .int (nI (0 + 1))), (2, .ref ((D t 4))), (0, .ref x), (1, .int (nI j))]) C dX10_mend_41 rfl (by decide) rfl ?_
      refine g_aload_n 1 2 C dX10_mend_42 rfl rfl ?_
      refine g_iconst (v := nI 0) C dX10_mend_43 (by decide) ?_
      refine pp_rw_la C dX10_mend_44 k_a wF_X10_246 (Or.inl rfl) (by decide) ?_
      refine g_aload_n 1 2 C dX10_mend_47 rfl rfl ?_
      refine g_iconst (v := nI 0) C dX10_mend_48 (by decide) ?_
      refine pp_rw_lb C dX10_mend_49 k_a wF_X10_250 (Or.inl rfl) (by decide) ?_
      refine g_aload_n 1 2 C dX10_mend_52 rfl rfl ?_
      have hp2 : rowP (rw_lb_ (rw_la_ S (va_up (rw_la S) (D t 4) (nI 0))) (va_up (rw_lb S) (D t 4) (nI 0))) (D t 4) (D t 5) (D t 6) (D t 7) (tB (zH Z t)) false false := hrw.1.lost (u := false) (v := false)
      refine g_callV (As := []) (rest := []) C dX10_mend_53 (c_R_fill hp2) wC_X6_fillTables wM_X10_218 wI_X6_fillTables wS_X6_fillTables wN_X6 (kne k_a) (pf_7 k_a) rfl hd_X6_fillTables ⟨by decide, by decide, by decide, by decide⟩ (Nat.le_of_ble_eq_true rfl) (fun r_ S_ h_ => ?_)
      obtain ⟨fa, fb, rfl, rfl, hfa, hfb⟩ := h_
      change Go X G _ 4 _ _ (flS (rw_lb_ (rw_la_ S (va_up (rw_la S) (D t 4) (nI 0))) (va_up (rw_lb S) (D t 4) (nI 0))) (D t 6) (D t 7) fa fb) 56 [(3, .int (nI (0 + 1))), (2, .ref ((D t 4))), (0, .ref x), (1, .int (nI j))] []
      refine g_iload_n 0 3 C dX10_mend_56 rfl rfl ?_
      have hf : Fr S (flS (rw_lb_ (rw_la_ S (va_up (rw_la S) (D t 4) (nI 0))) (va_up (rw_lb S) (D t 4) (nI 0))) (D t 6) (D t 7) fa fb) (A4 (D t)) := (((Fr.refl S (A4 (D t))).u_rw_la (Fb.of k_a (Or.inl rfl))).u_rw_lb (Fb.of k_a (Or.inl rfl))).fl (Fb.of k_t (Or.inr (Or.inr (Or.inl rfl)))) (Fb.of k_u (Or.inr (Or.inr (Or.inr rfl))))
      exact g_iret C dX10_mend_57 (by decide) (by decide) ⟨by unfold A_mend; rw [he]; simp only []; rw [ea, ec]; rfl, ⟨c, D, by
        unfold N_mend; rw [he]
        exact hr.thing (T := setL (setL (zH Z t) 0 false) 1 false) hf ⟨j, hj, hp⟩ (fun a h => h.in) rfl (fun q => rfl) rfl (hth.row hf (A4.out0 hth hk7 hkr hrw) (A4.out hth hrw) hkr rfl rfl (hp2.fl hfa hfb)) (hT.fr hf rfl) rfl hRf⟩, hf.fk⟩
  · have ea := bI_t c20
    refine g_iconst (v := nI 1) C dX10_mend_23 (by decide) ?_
    refine g_goto 28 C dX10_mend_24 (by decide) ?_
    refine g_aload_n 0 2 C dX10_mend_28 rfl rfl ?_
    refine gf_rw_lb C dX10_mend_29 k_a wF_X10_250 ?_
    refine g_topi (lb_a) ?_
    refine g_if_eq 39 C dX10_mend_32 (by decide) (fun c32 => ?_) (fun c32 => ?_)
    · have ec := bI_f c32
      refine g_iconst (v := nI 0) C dX10_mend_39 (by decide) ?_
      refine g_iadd C dX10_mend_40 ?_
      refine g_topi (nI_add _ _ : _ = nI (1 + 0)) ?_
      refine g_istore_n (lv' := [(3, .int (nI (1 + 0))), (2, .ref ((D t 4))), (0, .ref x), (1, .int (nI j))]) C dX10_mend_41 rfl (by decide) rfl ?_
      refine g_aload_n 1 2 C dX10_mend_42 rfl rfl ?_
      refine g_iconst (v := nI 0) C dX10_mend_43 (by decide) ?_
      refine pp_rw_la C dX10_mend_44 k_a wF_X10_246 (Or.inl rfl) (by decide) ?_
      refine g_aload_n 1 2 C dX10_mend_47 rfl rfl ?_
      refine g_iconst (v := nI 0) C dX10_mend_48 (by decide) ?_
      refine pp_rw_lb C dX10_mend_49 k_a wF_X10_250 (Or.inl rfl) (by decide) ?_
      refine g_aload_n 1 2 C dX10_mend_52 rfl rfl ?_
      have hp2 : rowP (rw_lb_ (rw_la_ S (va_up (rw_la S) (D t 4) (nI 0))) (va_up (rw_lb S) (D t 4) (nI 0))) (D t 4) (D t 5) (D t 6) (D t 7) (tB (zH Z t)) false false := hrw.1.lost (u := false) (v := false)
      refine g_callV (As := []) (rest := []) C dX10_mend_53 (c_R_fill hp2) wC_X6_fillTables wM_X10_218 wI_X6_fillTables wS_X6_fillTables wN_X6 (kne k_a) (pf_7 k_a) rfl hd_X6_fillTables ⟨by decide, by decide, by decide, by decide⟩ (Nat.le_of_ble_eq_true rfl) (fun r_ S_ h_ => ?_)
      obtain ⟨fa, fb, rfl, rfl, hfa, hfb⟩ := h_
      change Go X G _ 4 _ _ (flS (rw_lb_ (rw_la_ S (va_up (rw_la S) (D t 4) (nI 0))) (va_up (rw_lb S) (D t 4) (nI 0))) (D t 6) (D t 7) fa fb) 56 [(3, .int (nI (1 + 0))), (2, .ref ((D t 4))), (0, .ref x), (1, .int (nI j))] []
      refine g_iload_n 0 3 C dX10_mend_56 rfl rfl ?_
      have hf : Fr S (flS (rw_lb_ (rw_la_ S (va_up (rw_la S) (D t 4) (nI 0))) (va_up (rw_lb S) (D t 4) (nI 0))) (D t 6) (D t 7) fa fb) (A4 (D t)) := (((Fr.refl S (A4 (D t))).u_rw_la (Fb.of k_a (Or.inl rfl))).u_rw_lb (Fb.of k_a (Or.inl rfl))).fl (Fb.of k_t (Or.inr (Or.inr (Or.inl rfl)))) (Fb.of k_u (Or.inr (Or.inr (Or.inr rfl))))
      exact g_iret C dX10_mend_57 (by decide) (by decide) ⟨by unfold A_mend; rw [he]; simp only []; rw [ea, ec]; rfl, ⟨c, D, by
        unfold N_mend; rw [he]
        exact hr.thing (T := setL (setL (zH Z t) 0 false) 1 false) hf ⟨j, hj, hp⟩ (fun a h => h.in) rfl (fun q => rfl) rfl (hth.row hf (A4.out0 hth hk7 hkr hrw) (A4.out hth hrw) hkr rfl rfl (hp2.fl hfa hfb)) (hT.fr hf rfl) rfl hRf⟩, hf.fk⟩
    · have ec := bI_t c32
      refine g_iconst (v := nI 1) C dX10_mend_35 (by decide) ?_
      refine g_goto 40 C dX10_mend_36 (by decide) ?_
      refine g_iadd C dX10_mend_40 ?_
      refine g_topi (nI_add _ _ : _ = nI (1 + 1)) ?_
      refine g_istore_n (lv' := [(3, .int (nI (1 + 1))), (2, .ref ((D t 4))), (0, .ref x), (1, .int (nI j))]) C dX10_mend_41 rfl (by decide) rfl ?_
      refine g_aload_n 1 2 C dX10_mend_42 rfl rfl ?_
      refine g_iconst (v := nI 0) C dX10_mend_43 (by decide) ?_
      refine pp_rw_la C dX10_mend_44 k_a wF_X10_246 (Or.inl rfl) (by decide) ?_
      refine g_aload_n 1 2 C dX10_mend_47 rfl rfl ?_
      refine g_iconst (v := nI 0) C dX10_mend_48 (by decide) ?_
      refine pp_rw_lb C dX10_mend_49 k_a wF_X10_250 (Or.inl rfl) (by decide) ?_
      refine g_aload_n 1 2 C dX10_mend_52 rfl rfl ?_
      have hp2 : rowP (rw_lb_ (rw_la_ S (va_up (rw_la S) (D t 4) (nI 0))) (va_up (rw_lb S) (D t 4) (nI 0))) (D t 4) (D t 5) (D t 6) (D t 7) (tB (zH Z t)) false false := hrw.1.lost (u := false) (v := false)
      refine g_callV (As := []) (rest := []) C dX10_mend_53 (c_R_fill hp2) wC_X6_fillTables wM_X10_218 wI_X6_fillTables wS_X6_fillTables wN_X6 (kne k_a) (pf_7 k_a) rfl hd_X6_fillTables ⟨by decide, by decide, by decide, by decide⟩ (Nat.le_of_ble_eq_true rfl) (fun r_ S_ h_ => ?_)
      obtain ⟨fa, fb, rfl, rfl, hfa, hfb⟩ := h_
      change Go X G _ 4 _ _ (flS (rw_lb_ (rw_la_ S (va_up (rw_la S) (D t 4) (nI 0))) (va_up (rw_lb S) (D t 4) (nI 0))) (D t 6) (D t 7) fa fb) 56 [(3, .int (nI (1 + 1))), (2, .ref ((D t 4))), (0, .ref x), (1, .int (nI j))] []
      refine g_iload_n 0 3 C dX10_mend_56 rfl rfl ?_
      have hf : Fr S (flS (rw_lb_ (rw_la_ S (va_up (rw_la S) (D t 4) (nI 0))) (va_up (rw_lb S) (D t 4) (nI 0))) (D t 6) (D t 7) fa fb) (A4 (D t)) := (((Fr.refl S (A4 (D t))).u_rw_la (Fb.of k_a (Or.inl rfl))).u_rw_lb (Fb.of k_a (Or.inl rfl))).fl (Fb.of k_t (Or.inr (Or.inr (Or.inl rfl)))) (Fb.of k_u (Or.inr (Or.inr (Or.inr rfl))))
      exact g_iret C dX10_mend_57 (by decide) (by decide) ⟨by unfold A_mend; rw [he]; simp only []; rw [ea, ec]; rfl, ⟨c, D, by
        unfold N_mend; rw [he]
        exact hr.thing (T := setL (setL (zH Z t) 0 false) 1 false) hf ⟨j, hj, hp⟩ (fun a h => h.in) rfl (fun q => rfl) rfl (hth.row hf (A4.out0 hth hk7 hkr hrw) (A4.out hth hrw) hkr rfl rfl (hp2.fl hfa hfb)) (hT.fr hf rfl) rfl hRf⟩, hf.fk⟩
theorem c_C_mend {lX : Launch} {G : Gx} {S : PS} {x : Nat} {c : Nat → Nat} {D : Nat → Nat → Nat} {Z : ZT} (hr : RCD S Z x c D) (hZ : okZ Z) {p : Int32}  : Ct lX yX10_mend cX10_mend 4 (Option.some Jvm.ClassFile.FieldType.int) rm_X10_mend G [.ref x, .int p] S (fun r S' => r = some (.int (A_mend Z p)) ∧ RC S' (N_mend Z p) x ∧ Fk S S') := by
  cases he : rowedE Z p with
  | inl e => exact c_C_mend_err hr hZ he
  | inr t =>
    obtain ⟨j, hj, rfl, hp, -⟩ := rowedE_inr he
    exact c_C_mend_ok hr hZ hj hp he
set_option maxRecDepth 100000 in
set_option maxHeartbeats 2000000 in
theorem c_C_flip_out {lX : Launch} {G : Gx} {S : PS} {x : Nat} {c : Nat → Nat} {D : Nat → Nat → Nat} {Z : ZT} (hr : RCD S Z x c D) (hZ : okZ Z) {p : Int32} (hp : p < 0 ∨ nI 10 ≤ p) {i : Int32} {one : Bool} : Ct lX yX10_flip cX10_flip 6 (Option.some Jvm.ClassFile.FieldType.int) rm_X10_flip G [.ref x, .int p, .int i, .int (bI one)] S (fun r S' => r = some (.int (A_flip Z p i)) ∧ RC S' (N_flip Z p i one) x ∧ Fk S S') := by
  obtain ⟨⟨⟨kx, r0, k0⟩, r1, r3, r5, ⟨r7, k7⟩, ⟨r8, k8⟩, ⟨r9, k9⟩, ⟨r10, k10⟩, ⟨r11, k11⟩, ⟨r12, k12⟩, r13⟩, hT, hP, hH, hRf, hW, hA, hL, hSep⟩ := id hr
  obtain ⟨⟨k1, r2, k2⟩, hu, htl, htf, ht255⟩ := id hT
  obtain ⟨⟨k3, r4⟩, ⟨k4, l4⟩, ws, wl, wv⟩ := id hW
  refine Ct.mk RX10 "flip" hy_X10_flip (Nat.le_of_ble_eq_true rfl) (fun X hX C => ?_)
  change Go X G _ 6 0 0 S 0 [(0, .ref x), (1, .int p), (2, .int i), (3, .int (bI one))] []
  refine g_aload_n 0 0 C dX10_flip_0 rfl rfl ?_
  refine g_iload_n 1 1 C dX10_flip_1 rfl rfl ?_
  refine g_callV (As := [.int p]) (rest := []) C dX10_flip_2 (c_C_bareAt_out hr hZ hp) wC_X10_bareRowAt wM_X10_211 wI_X10_bareRowAt wS_X10_bareRowAt wN_X10 (kne kx) (pf_10 kx) rfl hd_X10_bareRowAt ⟨by decide, by decide, by decide, by decide⟩ (Nat.le_of_ble_eq_true rfl) (fun r_ S_ h_ => ?_)
  obtain ⟨rfl, rfl⟩ := h_
  change Go X G _ 6 _ _ S 5 [(0, .ref x), (1, .int p), (2, .int i), (3, .int (bI one))] [.null]
  refine g_astoreN (lv' := [(4, .null), (0, .ref x), (1, .int p), (2, .int i), (3, .int (bI one))]) C dX10_flip_5 (by decide) rfl ?_
  refine g_aloadN 0 C dX10_flip_7 rfl ?_
  refine g_ifnonnullN C dX10_flip_9 ?_
  refine g_aload_n 1 0 C dX10_flip_12 rfl rfl ?_
  refine g_iload_n 2 1 C dX10_flip_13 rfl rfl ?_
  refine g_callV (As := [.int p]) (rest := []) C dX10_flip_14 (c_C_ref_out hr hZ hp) wC_X10_refusalAt wM_X10_88 wI_X10_refusalAt wS_X10_refusalAt wN_X10 (kne kx) (pf_10 kx) rfl hd_X10_refusalAt ⟨by decide, by decide, by decide, by decide⟩ (Nat.le_of_ble_eq_true rfl) (fun r_ S_ h_ => ?_)
  obtain ⟨rfl, rfl⟩ := h_
  change Go X G _ 6 _ _ S 17 [(4, .null), (0, .ref x), (1, .int p), (2, .int i), (3, .int (bI one))] [.int (reA Z p)]
  exact g_iret C dX10_flip_17 (by decide) (by decide) (⟨by unfold A_flip reA; rw [look_out hp], ⟨c, D, by unfold N_flip; rw [look_out hp]; exact hr⟩, Fk.refl S⟩)
set_option maxRecDepth 100000 in
set_option maxHeartbeats 2000000 in
theorem c_C_flip_no {lX : Launch} {G : Gx} {S : PS} {x : Nat} {c : Nat → Nat} {D : Nat → Nat → Nat} {Z : ZT} (hr : RCD S Z x c D) (hZ : okZ Z) {j : Nat} (hj : j < 10) (hp : zP Z j = 0) {i : Int32} {one : Bool} : Ct lX yX10_flip cX10_flip 6 (Option.some Jvm.ClassFile.FieldType.int) rm_X10_flip G [.ref x, .int (nI j), .int i, .int (bI one)] S (fun r S' => r = some (.int (A_flip Z (nI j) i)) ∧ RC S' (N_flip Z (nI j) i one) x ∧ Fk S S') := by
  obtain ⟨⟨⟨kx, r0, k0⟩, r1, r3, r5, ⟨r7, k7⟩, ⟨r8, k8⟩, ⟨r9, k9⟩, ⟨r10, k10⟩, ⟨r11, k11⟩, ⟨r12, k12⟩, r13⟩, hT, hP, hH, hRf, hW, hA, hL, hSep⟩ := id hr
  obtain ⟨⟨k1, r2, k2⟩, hu, htl, htf, ht255⟩ := id hT
  obtain ⟨⟨k3, r4⟩, ⟨k4, l4⟩, ws, wl, wv⟩ := id hW
  refine Ct.mk RX10 "flip" hy_X10_flip (Nat.le_of_ble_eq_true rfl) (fun X hX C => ?_)
  change Go X G _ 6 0 0 S 0 [(0, .ref x), (1, .int (nI j)), (2, .int i), (3, .int (bI one))] []
  refine g_aload_n 0 0 C dX10_flip_0 rfl rfl ?_
  refine g_iload_n 1 1 C dX10_flip_1 rfl rfl ?_
  refine g_callV (As := [.int (nI j)]) (rest := []) C dX10_flip_2 (c_C_bareAt_no hr hZ hj hp) wC_X10_bareRowAt wM_X10_211 wI_X10_bareRowAt wS_X10_bareRowAt wN_X10 (kne kx) (pf_10 kx) rfl hd_X10_bareRowAt ⟨by decide, by decide, by decide, by decide⟩ (Nat.le_of_ble_eq_true rfl) (fun r_ S_ h_ => ?_)
  obtain ⟨rfl, rfl⟩ := h_
  change Go X G _ 6 _ _ S 5 [(0, .ref x), (1, .int (nI j)), (2, .int i), (3, .int (bI one))] [.null]
  refine g_astoreN (lv' := [(4, .null), (0, .ref x), (1, .int (nI j)), (2, .int i), (3, .int (bI one))]) C dX10_flip_5 (by decide) rfl ?_
  refine g_aloadN 0 C dX10_flip_7 rfl ?_
  refine g_ifnonnullN C dX10_flip_9 ?_
  refine g_aload_n 1 0 C dX10_flip_12 rfl rfl ?_
  refine g_iload_n 2 1 C dX10_flip_13 rfl rfl ?_
  refine g_callV (As := [.int (nI j)]) (rest := []) C dX10_flip_14 (c_C_ref_no hr hZ hj hp) wC_X10_refusalAt wM_X10_88 wI_X10_refusalAt wS_X10_refusalAt wN_X10 (kne kx) (pf_10 kx) rfl hd_X10_refusalAt ⟨by decide, by decide, by decide, by decide⟩ (Nat.le_of_ble_eq_true rfl) (fun r_ S_ h_ => ?_)
  obtain ⟨rfl, rfl⟩ := h_
  change Go X G _ 6 _ _ S 17 [(4, .null), (0, .ref x), (1, .int (nI j)), (2, .int i), (3, .int (bI one))] [.int (reA Z (nI j))]
  exact g_iret C dX10_flip_17 (by decide) (by decide) (⟨by unfold A_flip reA; rw [look_no hj hp], ⟨c, D, by unfold N_flip; rw [look_no hj hp]; exact hr⟩, Fk.refl S⟩)
set_option maxRecDepth 100000 in
set_option maxHeartbeats 2000000 in
theorem c_C_flip_atb {lX : Launch} {G : Gx} {S : PS} {x : Nat} {c : Nat → Nat} {D : Nat → Nat → Nat} {Z : ZT} (hr : RCD S Z x c D) (hZ : okZ Z) {j t : Nat} (hj : j < 10) (hp : zP Z j = t + 1) {i : Int32} {one : Bool} (hk : tK (zH Z t) ≤ 5) : Ct lX yX10_flip cX10_flip 6 (Option.some Jvm.ClassFile.FieldType.int) rm_X10_flip G [.ref x, .int (nI j), .int i, .int (bI one)] S (fun r S' => r = some (.int (A_flip Z (nI j) i)) ∧ RC S' (N_flip Z (nI j) i one) x ∧ Fk S S') := by
  obtain ⟨⟨⟨kx, r0, k0⟩, r1, r3, r5, ⟨r7, k7⟩, ⟨r8, k8⟩, ⟨r9, k9⟩, ⟨r10, k10⟩, ⟨r11, k11⟩, ⟨r12, k12⟩, r13⟩, hT, hP, hH, hRf, hW, hA, hL, hSep⟩ := id hr
  obtain ⟨⟨k1, r2, k2⟩, hu, htl, htf, ht255⟩ := id hT
  obtain ⟨⟨k3, r4⟩, ⟨k4, l4⟩, ws, wl, wv⟩ := id hW
  refine Ct.mk RX10 "flip" hy_X10_flip (Nat.le_of_ble_eq_true rfl) (fun X hX C => ?_)
  change Go X G _ 6 0 0 S 0 [(0, .ref x), (1, .int (nI j)), (2, .int i), (3, .int (bI one))] []
  refine g_aload_n 0 0 C dX10_flip_0 rfl rfl ?_
  refine g_iload_n 1 1 C dX10_flip_1 rfl rfl ?_
  refine g_callV (As := [.int (nI j)]) (rest := []) C dX10_flip_2 (c_C_bareAt_atb hr hZ hj hp hk) wC_X10_bareRowAt wM_X10_211 wI_X10_bareRowAt wS_X10_bareRowAt wN_X10 (kne kx) (pf_10 kx) rfl hd_X10_bareRowAt ⟨by decide, by decide, by decide, by decide⟩ (Nat.le_of_ble_eq_true rfl) (fun r_ S_ h_ => ?_)
  obtain ⟨rfl, rfl⟩ := h_
  change Go X G _ 6 _ _ S 5 [(0, .ref x), (1, .int (nI j)), (2, .int i), (3, .int (bI one))] [.null]
  refine g_astoreN (lv' := [(4, .null), (0, .ref x), (1, .int (nI j)), (2, .int i), (3, .int (bI one))]) C dX10_flip_5 (by decide) rfl ?_
  refine g_aloadN 0 C dX10_flip_7 rfl ?_
  refine g_ifnonnullN C dX10_flip_9 ?_
  refine g_aload_n 1 0 C dX10_flip_12 rfl rfl ?_
  refine g_iload_n 2 1 C dX10_flip_13 rfl rfl ?_
  refine g_callV (As := [.int (nI j)]) (rest := []) C dX10_flip_14 (c_C_ref_at hr hZ hj hp) wC_X10_refusalAt wM_X10_88 wI_X10_refusalAt wS_X10_refusalAt wN_X10 (kne kx) (pf_10 kx) rfl hd_X10_refusalAt ⟨by decide, by decide, by decide, by decide⟩ (Nat.le_of_ble_eq_true rfl) (fun r_ S_ h_ => ?_)
  obtain ⟨rfl, rfl⟩ := h_
  change Go X G _ 6 _ _ S 17 [(4, .null), (0, .ref x), (1, .int (nI j)), (2, .int i), (3, .int (bI one))] [.int (reA Z (nI j))]
  exact g_iret C dX10_flip_17 (by decide) (by decide) (⟨by unfold A_flip reA; rw [look_at hj hp]; simp only []; rw [if_neg (by omega)], ⟨c, D, by unfold N_flip; rw [look_at hj hp]; simp only []; rw [if_neg (by omega)]; exact hr⟩, Fk.refl S⟩)
set_option maxRecDepth 100000 in
set_option maxHeartbeats 2000000 in
theorem c_C_flip_atd {lX : Launch} {G : Gx} {S : PS} {x : Nat} {c : Nat → Nat} {D : Nat → Nat → Nat} {Z : ZT} (hr : RCD S Z x c D) (hZ : okZ Z) {j t : Nat} (hj : j < 10) (hp : zP Z j = t + 1) {i : Int32} {one : Bool} (hk : tK (zH Z t) = 6) : Ct lX yX10_flip cX10_flip 6 (Option.some Jvm.ClassFile.FieldType.int) rm_X10_flip G [.ref x, .int (nI j), .int i, .int (bI one)] S (fun r S' => r = some (.int (A_flip Z (nI j) i)) ∧ RC S' (N_flip Z (nI j) i one) x ∧ Fk S S') := by
  obtain ⟨⟨⟨kx, r0, k0⟩, r1, r3, r5, ⟨r7, k7⟩, ⟨r8, k8⟩, ⟨r9, k9⟩, ⟨r10, k10⟩, ⟨r11, k11⟩, ⟨r12, k12⟩, r13⟩, hT, hP, hH, hRf, hW, hA, hL, hSep⟩ := id hr
  obtain ⟨⟨k1, r2, k2⟩, hu, htl, htf, ht255⟩ := id hT
  obtain ⟨⟨k3, r4⟩, ⟨k4, l4⟩, ws, wl, wv⟩ := id hW
  refine Ct.mk RX10 "flip" hy_X10_flip (Nat.le_of_ble_eq_true rfl) (fun X hX C => ?_)
  change Go X G _ 6 0 0 S 0 [(0, .ref x), (1, .int (nI j)), (2, .int i), (3, .int (bI one))] []
  refine g_aload_n 0 0 C dX10_flip_0 rfl rfl ?_
  refine g_iload_n 1 1 C dX10_flip_1 rfl rfl ?_
  refine g_callV (As := [.int (nI j)]) (rest := []) C dX10_flip_2 (c_C_bareAt_atd hr hZ hj hp hk) wC_X10_bareRowAt wM_X10_211 wI_X10_bareRowAt wS_X10_bareRowAt wN_X10 (kne kx) (pf_10 kx) rfl hd_X10_bareRowAt ⟨by decide, by decide, by decide, by decide⟩ (Nat.le_of_ble_eq_true rfl) (fun r_ S_ h_ => ?_)
  obtain ⟨rfl, rfl⟩ := h_
  change Go X G _ 6 _ _ S 5 [(0, .ref x), (1, .int (nI j)), (2, .int i), (3, .int (bI one))] [.null]
  refine g_astoreN (lv' := [(4, .null), (0, .ref x), (1, .int (nI j)), (2, .int i), (3, .int (bI one))]) C dX10_flip_5 (by decide) rfl ?_
  refine g_aloadN 0 C dX10_flip_7 rfl ?_
  refine g_ifnonnullN C dX10_flip_9 ?_
  refine g_aload_n 1 0 C dX10_flip_12 rfl rfl ?_
  refine g_iload_n 2 1 C dX10_flip_13 rfl rfl ?_
  refine g_callV (As := [.int (nI j)]) (rest := []) C dX10_flip_14 (c_C_ref_at hr hZ hj hp) wC_X10_refusalAt wM_X10_88 wI_X10_refusalAt wS_X10_refusalAt wN_X10 (kne kx) (pf_10 kx) rfl hd_X10_refusalAt ⟨by decide, by decide, by decide, by decide⟩ (Nat.le_of_ble_eq_true rfl) (fun r_ S_ h_ => ?_)
  obtain ⟨rfl, rfl⟩ := h_
  change Go X G _ 6 _ _ S 17 [(4, .null), (0, .ref x), (1, .int (nI j)), (2, .int i), (3, .int (bI one))] [.int (reA Z (nI j))]
  exact g_iret C dX10_flip_17 (by decide) (by decide) (⟨by unfold A_flip reA; rw [look_at hj hp]; simp only []; rw [if_neg (by omega)], ⟨c, D, by unfold N_flip; rw [look_at hj hp]; simp only []; rw [if_neg (by omega)]; exact hr⟩, Fk.refl S⟩)
set_option maxRecDepth 100000 in
set_option maxHeartbeats 2000000 in
theorem c_C_flip_atr {lX : Launch} {G : Gx} {S : PS} {x : Nat} {c : Nat → Nat} {D : Nat → Nat → Nat} {Z : ZT} (hr : RCD S Z x c D) (hZ : okZ Z) {j t : Nat} (hj : j < 10) (hp : zP Z j = t + 1) {i : Int32} {one : Bool} (hk : tK (zH Z t) = 7) : Ct lX yX10_flip cX10_flip 6 (Option.some Jvm.ClassFile.FieldType.int) rm_X10_flip G [.ref x, .int (nI j), .int i, .int (bI one)] S (fun r S' => r = some (.int (A_flip Z (nI j) i)) ∧ RC S' (N_flip Z (nI j) i one) x ∧ Fk S S') := by
  obtain ⟨⟨⟨kx, r0, k0⟩, r1, r3, r5, ⟨r7, k7⟩, ⟨r8, k8⟩, ⟨r9, k9⟩, ⟨r10, k10⟩, ⟨r11, k11⟩, ⟨r12, k12⟩, r13⟩, hT, hP, hH, hRf, hW, hA, hL, hSep⟩ := id hr
  obtain ⟨⟨k1, r2, k2⟩, hu, htl, htf, ht255⟩ := id hT
  obtain ⟨⟨k3, r4⟩, ⟨k4, l4⟩, ws, wl, wv⟩ := id hW
  have hok := (hZ.th hj hp).1
  have hkr : ¬ (tK (zH Z t) = 1 ∨ tK (zH Z t) = 6) := by omega
  have hrw := hr.rowOf hZ hj hp hkr
  obtain ⟨⟨k_a, rb_a, rw_a, rt_a, ru_a⟩, ⟨k_w, l_w⟩, ⟨k_t, l_t⟩, ⟨k_u, l_u⟩, ⟨la_a, lb_a⟩, on_a, ⟨bl_a, b01⟩, wd_⟩ := id hrw.1
  have hon := ones_lt b01 (tB (zH Z t)).length
  have hth := hH t ⟨j, hj, hp⟩
  have hk7 := hok.2.1
  refine Ct.mk RX10 "flip" hy_X10_flip (Nat.le_of_ble_eq_true rfl) (fun X hX C => ?_)
  change Go X G _ 6 0 0 S 0 [(0, .ref x), (1, .int (nI j)), (2, .int i), (3, .int (bI one))] []
  refine g_aload_n 0 0 C dX10_flip_0 rfl rfl ?_
  refine g_iload_n 1 1 C dX10_flip_1 rfl rfl ?_
  refine g_callV (As := [.int (nI j)]) (rest := []) C dX10_flip_2 (c_C_bareAt_atr hr hZ hj hp hk) wC_X10_bareRowAt wM_X10_211 wI_X10_bareRowAt wS_X10_bareRowAt wN_X10 (kne kx) (pf_10 kx) rfl hd_X10_bareRowAt ⟨by decide, by decide, by decide, by decide⟩ (Nat.le_of_ble_eq_true rfl) (fun r_ S_ h_ => ?_)
  obtain ⟨rfl, rfl⟩ := h_
  change Go X G _ 6 _ _ S 5 [(0, .ref x), (1, .int (nI j)), (2, .int i), (3, .int (bI one))] [.ref ((D t 4))]
  refine g_astore (lv' := [(4, .ref ((D t 4))), (0, .ref x), (1, .int (nI j)), (2, .int i), (3, .int (bI one))]) C dX10_flip_5 (by decide) rfl ?_
  refine g_aload 0 C dX10_flip_7 rfl ?_
  refine g_ifnonnull 18 C dX10_flip_9 (by decide) ?_
  refine g_aload 0 C dX10_flip_18 rfl ?_
  refine g_iload_n 3 2 C dX10_flip_20 rfl rfl ?_
  refine g_callV (As := [.int i]) (rest := []) C dX10_flip_21 (c_R_hasBit hrw.1) wC_X6_hasBit wM_X10_205 wI_X6_hasBit wS_X6_hasBit wN_X6 (kne k_a) (pf_7 k_a) rfl hd_X6_hasBit ⟨by decide, by decide, by decide, by decide⟩ (Nat.le_of_ble_eq_true rfl) (fun r_ S_ h_ => ?_)
  obtain ⟨rfl, rfl⟩ := h_
  change Go X G _ 6 _ _ S 24 [(4, .ref ((D t 4))), (0, .ref x), (1, .int (nI j)), (2, .int i), (3, .int (bI one))] [.int (bI (inR i (tB (zH Z t)).length))]
  refine g_if_ne 30 C dX10_flip_24 (by decide) (fun c24 => ?_) (fun c24 => ?_)
  · have ei := bI_t c24
    obtain ⟨k, hk2, rfl⟩ := inR_spec ei (by omega)
    refine g_aload 0 C dX10_flip_30 rfl ?_
    refine g_iload_n 3 2 C dX10_flip_32 rfl rfl ?_
    refine g_callV (As := [.int (nI k)]) (rest := []) C dX10_flip_33 (c_R_bitAt hrw.1 hk2) wC_X6_bitAt wM_X10_208 wI_X6_bitAt wS_X6_bitAt wN_X6 (kne k_a) (pf_7 k_a) rfl hd_X6_bitAt ⟨by decide, by decide, by decide, by decide⟩ (Nat.le_of_ble_eq_true rfl) (fun r_ S_ h_ => ?_)
    obtain ⟨rfl, rfl⟩ := h_
    change Go X G _ 6 _ _ S 36 [(4, .ref ((D t 4))), (0, .ref x), (1, .int (nI j)), (2, .int (nI k)), (3, .int (bI one))] [.int (nI ((tB (zH Z t)).getD k 0))]
    refine g_istore (lv' := [(5, .int (nI ((tB (zH Z t)).getD k 0))), (4, .ref ((D t 4))), (0, .ref x), (1, .int (nI j)), (2, .int (nI k)), (3, .int (bI one))]) C dX10_flip_36 (by decide) rfl ?_
    refine g_aload 1 C dX10_flip_38 rfl ?_
    refine g_iload_n 4 2 C dX10_flip_40 rfl rfl ?_
    refine g_iload_n 5 3 C dX10_flip_41 rfl rfl ?_
    refine g_callV (As := [.int (nI k), .int (bI one)]) (rest := []) C dX10_flip_42 (c_R_write (o := one) hrw.1 hk2) wC_X6_write wM_X10_214 wI_X6_write wS_X6_write wN_X6 (kne k_a) (pf_7 k_a) rfl hd_X6_write ⟨by decide, by decide, by decide, by decide⟩ (Nat.le_of_ble_eq_true rfl) (fun r_ S_ h_ => ?_)
    obtain ⟨f, v, rfl, rfl, hwf, hv⟩ := h_
    change Go X G _ 6 _ _ (wrS S (D t 4) (D t 5) f v) 45 [(5, .int (nI ((tB (zH Z t)).getD k 0))), (4, .ref ((D t 4))), (0, .ref x), (1, .int (nI j)), (2, .int (nI k)), (3, .int (bI one))] []
    refine g_aload 1 C dX10_flip_45 rfl ?_
    have hp2 : rowP (wrS S (D t 4) (D t 5) f v) (D t 4) (D t 5) (D t 6) (D t 7) ((tB (zH Z t)).set k (if one = true then 1 else 0)) (tA (zH Z t)) (tC (zH Z t)) := hrw.1.wr (List.length_set) (bit01_set b01 _ _ (by split <;> decide)) hwf hv
    refine g_callV (As := []) (rest := []) C dX10_flip_47 (c_R_fill hp2) wC_X6_fillTables wM_X10_218 wI_X6_fillTables wS_X6_fillTables wN_X6 (kne k_a) (pf_7 k_a) rfl hd_X6_fillTables ⟨by decide, by decide, by decide, by decide⟩ (Nat.le_of_ble_eq_true rfl) (fun r_ S_ h_ => ?_)
    obtain ⟨fa, fb, rfl, rfl, hfa, hfb⟩ := h_
    change Go X G _ 6 _ _ (flS (wrS S (D t 4) (D t 5) f v) (D t 6) (D t 7) fa fb) 50 [(5, .int (nI ((tB (zH Z t)).getD k 0))), (4, .ref ((D t 4))), (0, .ref x), (1, .int (nI j)), (2, .int (nI k)), (3, .int (bI one))] []
    refine g_iload 0 C dX10_flip_50 rfl ?_
    have hf : Fr S (flS (wrS S (D t 4) (D t 5) f v) (D t 6) (D t 7) fa fb) (A4 (D t)) := ((Fr.refl S (A4 (D t))).wr (Fb.of k_a (Or.inl rfl)) (Fb.of k_w (Or.inr (Or.inl rfl)))).fl (Fb.of k_t (Or.inr (Or.inr (Or.inl rfl)))) (Fb.of k_u (Or.inr (Or.inr (Or.inr rfl))))
    exact g_iret C dX10_flip_52 (by decide) (by decide) ⟨by unfold A_flip; rw [look_at hj hp]; simp only []; rw [if_pos hk, ei, if_pos rfl, nI_clamp (by omega)], ⟨c, D, by
      unfold N_flip; rw [look_at hj hp]; simp only []; rw [if_pos hk, ei, if_pos rfl, nI_clamp (by omega)]
      exact hr.thing (T := setB (zH Z t) ((tB (zH Z t)).set k (if one = true then 1 else 0))) hf ⟨j, hj, hp⟩ (fun a h => h.in) rfl (fun q => rfl) rfl (hth.row hf (A4.out0 hth hk7 hkr hrw) (A4.out hth hrw) hkr rfl rfl (hp2.fl hfa hfb)) (hT.fr hf rfl) rfl hRf⟩, hf.fk⟩
  · have ei := bI_f c24
    refine g_bipush (v := -5) C dX10_flip_27 (by decide) ?_
    exact g_iret C dX10_flip_29 (by decide) (by decide) (⟨by unfold A_flip; rw [look_at hj hp]; simp only []; rw [if_pos hk, ei, if_neg (by decide)], ⟨c, D, by unfold N_flip; rw [look_at hj hp]; simp only []; rw [if_pos hk, ei, if_neg (by decide)]; exact hr⟩, Fk.refl S⟩)
theorem c_C_flip {lX : Launch} {G : Gx} {S : PS} {x : Nat} {c : Nat → Nat} {D : Nat → Nat → Nat} {Z : ZT} (hr : RCD S Z x c D) (hZ : okZ Z) {p i : Int32} {one : Bool} : Ct lX yX10_flip cX10_flip 6 (Option.some Jvm.ClassFile.FieldType.int) rm_X10_flip G [.ref x, .int p, .int i, .int (bI one)] S (fun r S' => r = some (.int (A_flip Z p i)) ∧ RC S' (N_flip Z p i one) x ∧ Fk S S') := by
  rcases look_cases Z p with h | ⟨j, hj, rfl, h | ⟨t, h⟩⟩
  · exact c_C_flip_out hr hZ h
  · exact c_C_flip_no hr hZ hj h
  · have hok := (hZ.th hj h).1
    have h1 := hok.1
    have h2 := hok.2.1
    by_cases g : tK (zH Z t) ≤ 5
    · exact c_C_flip_atb hr hZ hj h g
    · by_cases g2 : tK (zH Z t) = 6
      · exact c_C_flip_atd hr hZ hj h g2
      · exact c_C_flip_atr hr hZ hj h (by omega)
set_option maxRecDepth 100000 in
set_option maxHeartbeats 2000000 in
theorem c_C_count_out {lX : Launch} {G : Gx} {S : PS} {x : Nat} {c : Nat → Nat} {D : Nat → Nat → Nat} {Z : ZT} (hr : RCD S Z x c D) (hZ : okZ Z) {p : Int32} (hp : p < 0 ∨ nI 10 ≤ p) : Ct lX yX10_count cX10_count 3 (Option.some Jvm.ClassFile.FieldType.int) rm_X10_count G [.ref x, .int p] S (fun r S' => r = some (.int (A_count Z p)) ∧ S = S') := by
  obtain ⟨⟨⟨kx, r0, k0⟩, r1, r3, r5, ⟨r7, k7⟩, ⟨r8, k8⟩, ⟨r9, k9⟩, ⟨r10, k10⟩, ⟨r11, k11⟩, ⟨r12, k12⟩, r13⟩, hT, hP, hH, hRf, hW, hA, hL, hSep⟩ := id hr
  obtain ⟨⟨k1, r2, k2⟩, hu, htl, htf, ht255⟩ := id hT
  obtain ⟨⟨k3, r4⟩, ⟨k4, l4⟩, ws, wl, wv⟩ := id hW
  refine Ct.mk RX10 "count" hy_X10_count (Nat.le_of_ble_eq_true rfl) (fun X hX C => ?_)
  change Go X G _ 3 0 0 S 0 [(0, .ref x), (1, .int p)] []
  refine g_aload_n 0 0 C dX10_count_0 rfl rfl ?_
  refine g_iload_n 1 1 C dX10_count_1 rfl rfl ?_
  refine g_callV (As := [.int p]) (rest := []) C dX10_count_2 (c_C_thing_out hr hZ hp) wC_X10_thingAt wM_X10_139 wI_X10_thingAt wS_X10_thingAt wN_X10 (kne kx) (pf_10 kx) rfl hd_X10_thingAt ⟨by decide, by decide, by decide, by decide⟩ (Nat.le_of_ble_eq_true rfl) (fun r_ S_ h_ => ?_)
  obtain ⟨rfl, rfl⟩ := h_
  change Go X G _ 3 _ _ S 5 [(0, .ref x), (1, .int p)] [.null]
  refine g_astore_nN (lv' := [(2, .null), (0, .ref x), (1, .int p)]) C dX10_count_5 rfl (by decide) rfl ?_
  refine g_aload_nN 0 2 C dX10_count_6 rfl rfl ?_
  refine g_ifnonnullN C dX10_count_7 ?_
  refine g_aload_n 1 0 C dX10_count_10 rfl rfl ?_
  refine g_iload_n 2 1 C dX10_count_11 rfl rfl ?_
  refine g_callV (As := [.int p]) (rest := []) C dX10_count_12 (c_C_ref_out hr hZ hp) wC_X10_refusalAt wM_X10_88 wI_X10_refusalAt wS_X10_refusalAt wN_X10 (kne kx) (pf_10 kx) rfl hd_X10_refusalAt ⟨by decide, by decide, by decide, by decide⟩ (Nat.le_of_ble_eq_true rfl) (fun r_ S_ h_ => ?_)
  obtain ⟨rfl, rfl⟩ := h_
  change Go X G _ 3 _ _ S 15 [(2, .null), (0, .ref x), (1, .int p)] [.int (reA Z p)]
  refine g_goto 22 C dX10_count_15 (by decide) ?_
  exact g_iret C dX10_count_22 (by decide) (by decide) (⟨by unfold A_count reA; rw [look_out hp], rfl⟩)
set_option maxRecDepth 100000 in
set_option maxHeartbeats 2000000 in
theorem c_C_count_no {lX : Launch} {G : Gx} {S : PS} {x : Nat} {c : Nat → Nat} {D : Nat → Nat → Nat} {Z : ZT} (hr : RCD S Z x c D) (hZ : okZ Z) {j : Nat} (hj : j < 10) (hp : zP Z j = 0) : Ct lX yX10_count cX10_count 3 (Option.some Jvm.ClassFile.FieldType.int) rm_X10_count G [.ref x, .int (nI j)] S (fun r S' => r = some (.int (A_count Z (nI j))) ∧ S = S') := by
  obtain ⟨⟨⟨kx, r0, k0⟩, r1, r3, r5, ⟨r7, k7⟩, ⟨r8, k8⟩, ⟨r9, k9⟩, ⟨r10, k10⟩, ⟨r11, k11⟩, ⟨r12, k12⟩, r13⟩, hT, hP, hH, hRf, hW, hA, hL, hSep⟩ := id hr
  obtain ⟨⟨k1, r2, k2⟩, hu, htl, htf, ht255⟩ := id hT
  obtain ⟨⟨k3, r4⟩, ⟨k4, l4⟩, ws, wl, wv⟩ := id hW
  refine Ct.mk RX10 "count" hy_X10_count (Nat.le_of_ble_eq_true rfl) (fun X hX C => ?_)
  change Go X G _ 3 0 0 S 0 [(0, .ref x), (1, .int (nI j))] []
  refine g_aload_n 0 0 C dX10_count_0 rfl rfl ?_
  refine g_iload_n 1 1 C dX10_count_1 rfl rfl ?_
  refine g_callV (As := [.int (nI j)]) (rest := []) C dX10_count_2 (c_C_thing_no hr hZ hj hp) wC_X10_thingAt wM_X10_139 wI_X10_thingAt wS_X10_thingAt wN_X10 (kne kx) (pf_10 kx) rfl hd_X10_thingAt ⟨by decide, by decide, by decide, by decide⟩ (Nat.le_of_ble_eq_true rfl) (fun r_ S_ h_ => ?_)
  obtain ⟨rfl, rfl⟩ := h_
  change Go X G _ 3 _ _ S 5 [(0, .ref x), (1, .int (nI j))] [.null]
  refine g_astore_nN (lv' := [(2, .null), (0, .ref x), (1, .int (nI j))]) C dX10_count_5 rfl (by decide) rfl ?_
  refine g_aload_nN 0 2 C dX10_count_6 rfl rfl ?_
  refine g_ifnonnullN C dX10_count_7 ?_
  refine g_aload_n 1 0 C dX10_count_10 rfl rfl ?_
  refine g_iload_n 2 1 C dX10_count_11 rfl rfl ?_
  refine g_callV (As := [.int (nI j)]) (rest := []) C dX10_count_12 (c_C_ref_no hr hZ hj hp) wC_X10_refusalAt wM_X10_88 wI_X10_refusalAt wS_X10_refusalAt wN_X10 (kne kx) (pf_10 kx) rfl hd_X10_refusalAt ⟨by decide, by decide, by decide, by decide⟩ (Nat.le_of_ble_eq_true rfl) (fun r_ S_ h_ => ?_)
  obtain ⟨rfl, rfl⟩ := h_
  change Go X G _ 3 _ _ S 15 [(2, .null), (0, .ref x), (1, .int (nI j))] [.int (reA Z (nI j))]
  refine g_goto 22 C dX10_count_15 (by decide) ?_
  exact g_iret C dX10_count_22 (by decide) (by decide) (⟨by unfold A_count reA; rw [look_no hj hp], rfl⟩)
set_option maxRecDepth 100000 in
set_option maxHeartbeats 2000000 in
theorem c_C_count_atb {lX : Launch} {G : Gx} {S : PS} {x : Nat} {c : Nat → Nat} {D : Nat → Nat → Nat} {Z : ZT} (hr : RCD S Z x c D) (hZ : okZ Z) {j t : Nat} (hj : j < 10) (hp : zP Z j = t + 1) (hk : tK (zH Z t) ≤ 5) : Ct lX yX10_count cX10_count 3 (Option.some Jvm.ClassFile.FieldType.int) rm_X10_count G [.ref x, .int (nI j)] S (fun r S' => r = some (.int (A_count Z (nI j))) ∧ S = S') := by
  obtain ⟨⟨⟨kx, r0, k0⟩, r1, r3, r5, ⟨r7, k7⟩, ⟨r8, k8⟩, ⟨r9, k9⟩, ⟨r10, k10⟩, ⟨r11, k11⟩, ⟨r12, k12⟩, r13⟩, hT, hP, hH, hRf, hW, hA, hL, hSep⟩ := id hr
  obtain ⟨⟨k1, r2, k2⟩, hu, htl, htf, ht255⟩ := id hT
  obtain ⟨⟨k3, r4⟩, ⟨k4, l4⟩, ws, wl, wv⟩ := id hW
  have hth := hH t ⟨j, hj, hp⟩
  have hok := (hZ.th hj hp).1
  have hk7 := hok.2.1
  have hk1 := hok.1
  have hb := hth.1 hk
  refine Ct.mk RX10 "count" hy_X10_count (Nat.le_of_ble_eq_true rfl) (fun X hX C => ?_)
  change Go X G _ 3 0 0 S 0 [(0, .ref x), (1, .int (nI j))] []
  refine g_aload_n 0 0 C dX10_count_0 rfl rfl ?_
  refine g_iload_n 1 1 C dX10_count_1 rfl rfl ?_
  refine g_callV (As := [.int (nI j)]) (rest := []) C dX10_count_2 (c_C_thing_at hr hZ hj hp) wC_X10_thingAt wM_X10_139 wI_X10_thingAt wS_X10_thingAt wN_X10 (kne kx) (pf_10 kx) rfl hd_X10_thingAt ⟨by decide, by decide, by decide, by decide⟩ (Nat.le_of_ble_eq_true rfl) (fun r_ S_ h_ => ?_)
  obtain ⟨rfl, rfl⟩ := h_
  change Go X G _ 3 _ _ S 5 [(0, .ref x), (1, .int (nI j))] [.ref ((D t 0))]
  refine g_astore_n (lv' := [(2, .ref ((D t 0))), (0, .ref x), (1, .int (nI j))]) C dX10_count_5 rfl (by decide) rfl ?_
  refine g_aload_n 0 2 C dX10_count_6 rfl rfl ?_
  refine g_ifnonnull 18 C dX10_count_7 (by decide) ?_
  refine g_aload_n 0 2 C dX10_count_18 rfl rfl ?_
  refine g_callT (rest := []) (q := (RX2, TX2, 6)) C dX10_count_19 (c_K_size hb) wC_X2_size wM_X10_143 wI_X2_size wS_X2__X8_size wN_X2 (kne hb.1.1) (pf_3 hb.1.1) rfl ⟨by decide, by decide, by decide, by decide⟩ (Nat.le_of_ble_eq_true rfl) (fun r_ S_ h_ => ?_)
  obtain ⟨rfl, rfl⟩ := h_
  change Go X G _ 3 _ _ S 22 [(2, .ref ((D t 0))), (0, .ref x), (1, .int (nI j))] [.int (nI ((tL (zH Z t)).length))]
  exact g_iret C dX10_count_22 (by decide) (by decide) (⟨by unfold A_count; rw [look_at hj hp]; simp only []; rw [if_neg (by omega)], rfl⟩)
set_option maxRecDepth 100000 in
set_option maxHeartbeats 2000000 in
theorem c_C_count_atd {lX : Launch} {G : Gx} {S : PS} {x : Nat} {c : Nat → Nat} {D : Nat → Nat → Nat} {Z : ZT} (hr : RCD S Z x c D) (hZ : okZ Z) {j t : Nat} (hj : j < 10) (hp : zP Z j = t + 1) (hk : tK (zH Z t) = 6) : Ct lX yX10_count cX10_count 3 (Option.some Jvm.ClassFile.FieldType.int) rm_X10_count G [.ref x, .int (nI j)] S (fun r S' => r = some (.int (A_count Z (nI j))) ∧ S = S') := by
  obtain ⟨⟨⟨kx, r0, k0⟩, r1, r3, r5, ⟨r7, k7⟩, ⟨r8, k8⟩, ⟨r9, k9⟩, ⟨r10, k10⟩, ⟨r11, k11⟩, ⟨r12, k12⟩, r13⟩, hT, hP, hH, hRf, hW, hA, hL, hSep⟩ := id hr
  obtain ⟨⟨k1, r2, k2⟩, hu, htl, htf, ht255⟩ := id hT
  obtain ⟨⟨k3, r4⟩, ⟨k4, l4⟩, ws, wl, wv⟩ := id hW
  have hth := hH t ⟨j, hj, hp⟩
  have hok := (hZ.th hj hp).1
  have hk7 := hok.2.1
  have hk1 := hok.1
  have hb := hth.2.1 hk
  refine Ct.mk RX10 "count" hy_X10_count (Nat.le_of_ble_eq_true rfl) (fun X hX C => ?_)
  change Go X G _ 3 0 0 S 0 [(0, .ref x), (1, .int (nI j))] []
  refine g_aload_n 0 0 C dX10_count_0 rfl rfl ?_
  refine g_iload_n 1 1 C dX10_count_1 rfl rfl ?_
  refine g_callV (As := [.int (nI j)]) (rest := []) C dX10_count_2 (c_C_thing_at hr hZ hj hp) wC_X10_thingAt wM_X10_139 wI_X10_thingAt wS_X10_thingAt wN_X10 (kne kx) (pf_10 kx) rfl hd_X10_thingAt ⟨by decide, by decide, by decide, by decide⟩ (Nat.le_of_ble_eq_true rfl) (fun r_ S_ h_ => ?_)
  obtain ⟨rfl, rfl⟩ := h_
  change Go X G _ 3 _ _ S 5 [(0, .ref x), (1, .int (nI j))] [.ref ((D t 0))]
  refine g_astore_n (lv' := [(2, .ref ((D t 0))), (0, .ref x), (1, .int (nI j))]) C dX10_count_5 rfl (by decide) rfl ?_
  refine g_aload_n 0 2 C dX10_count_6 rfl rfl ?_
  refine g_ifnonnull 18 C dX10_count_7 (by decide) ?_
  refine g_aload_n 0 2 C dX10_count_18 rfl rfl ?_
  refine g_callT (rest := []) (q := (RX3, TX3, 2)) C dX10_count_19 (c_D_size hb) wC_X3_size wM_X10_143 wI_X3_size wS_X3__X8_size wN_X3 (kne hb.1.1) (pf_4 hb.1.1) rfl ⟨by decide, by decide, by decide, by decide⟩ (Nat.le_of_ble_eq_true rfl) (fun r_ S_ h_ => ?_)
  obtain ⟨rfl, rfl⟩ := h_
  change Go X G _ 3 _ _ S 22 [(2, .ref ((D t 0))), (0, .ref x), (1, .int (nI j))] [.int (nI ((tL (zH Z t)).length))]
  exact g_iret C dX10_count_22 (by decide) (by decide) (⟨by unfold A_count; rw [look_at hj hp]; simp only []; rw [if_neg (by omega)], rfl⟩)
set_option maxRecDepth 100000 in
set_option maxHeartbeats 2000000 in
theorem c_C_count_atr {lX : Launch} {G : Gx} {S : PS} {x : Nat} {c : Nat → Nat} {D : Nat → Nat → Nat} {Z : ZT} (hr : RCD S Z x c D) (hZ : okZ Z) {j t : Nat} (hj : j < 10) (hp : zP Z j = t + 1) (hk : tK (zH Z t) = 7) : Ct lX yX10_count cX10_count 3 (Option.some Jvm.ClassFile.FieldType.int) rm_X10_count G [.ref x, .int (nI j)] S (fun r S' => r = some (.int (A_count Z (nI j))) ∧ S = S') := by
  obtain ⟨⟨⟨kx, r0, k0⟩, r1, r3, r5, ⟨r7, k7⟩, ⟨r8, k8⟩, ⟨r9, k9⟩, ⟨r10, k10⟩, ⟨r11, k11⟩, ⟨r12, k12⟩, r13⟩, hT, hP, hH, hRf, hW, hA, hL, hSep⟩ := id hr
  obtain ⟨⟨k1, r2, k2⟩, hu, htl, htf, ht255⟩ := id hT
  obtain ⟨⟨k3, r4⟩, ⟨k4, l4⟩, ws, wl, wv⟩ := id hW
  have hth := hH t ⟨j, hj, hp⟩
  have hok := (hZ.th hj hp).1
  have hk7 := hok.2.1
  have hk1 := hok.1
  have hb := hth.2.2 hk
  refine Ct.mk RX10 "count" hy_X10_count (Nat.le_of_ble_eq_true rfl) (fun X hX C => ?_)
  change Go X G _ 3 0 0 S 0 [(0, .ref x), (1, .int (nI j))] []
  refine g_aload_n 0 0 C dX10_count_0 rfl rfl ?_
  refine g_iload_n 1 1 C dX10_count_1 rfl rfl ?_
  refine g_callV (As := [.int (nI j)]) (rest := []) C dX10_count_2 (c_C_thing_at hr hZ hj hp) wC_X10_thingAt wM_X10_139 wI_X10_thingAt wS_X10_thingAt wN_X10 (kne kx) (pf_10 kx) rfl hd_X10_thingAt ⟨by decide, by decide, by decide, by decide⟩ (Nat.le_of_ble_eq_true rfl) (fun r_ S_ h_ => ?_)
  obtain ⟨rfl, rfl⟩ := h_
  change Go X G _ 3 _ _ S 5 [(0, .ref x), (1, .int (nI j))] [.ref ((D t 0))]
  refine g_astore_n (lv' := [(2, .ref ((D t 0))), (0, .ref x), (1, .int (nI j))]) C dX10_count_5 rfl (by decide) rfl ?_
  refine g_aload_n 0 2 C dX10_count_6 rfl rfl ?_
  refine g_ifnonnull 18 C dX10_count_7 (by decide) ?_
  refine g_aload_n 0 2 C dX10_count_18 rfl rfl ?_
  refine g_callT (rest := []) (q := (RX0, TX0, 2)) C dX10_count_19 (c_B_size hb) wC_X0_size wM_X10_143 wI_X0_size wS_X0__X8_size wN_X0 (kne hb.1.1) (pf_1 hb.1.1) rfl ⟨by decide, by decide, by decide, by decide⟩ (Nat.le_of_ble_eq_true rfl) (fun r_ S_ h_ => ?_)
  obtain ⟨rfl, rfl⟩ := h_
  change Go X G _ 3 _ _ S 22 [(2, .ref ((D t 0))), (0, .ref x), (1, .int (nI j))] [.int (nI ((tB (zH Z t)).length))]
  exact g_iret C dX10_count_22 (by decide) (by decide) (⟨by unfold A_count; rw [look_at hj hp]; simp only []; rw [if_pos hk], rfl⟩)
theorem c_C_count {lX : Launch} {G : Gx} {S : PS} {x : Nat} {c : Nat → Nat} {D : Nat → Nat → Nat} {Z : ZT} (hr : RCD S Z x c D) (hZ : okZ Z) {p : Int32} : Ct lX yX10_count cX10_count 3 (Option.some Jvm.ClassFile.FieldType.int) rm_X10_count G [.ref x, .int p] S (fun r S' => r = some (.int (A_count Z p)) ∧ S = S') := by
  rcases look_cases Z p with h | ⟨j, hj, rfl, h | ⟨t, h⟩⟩
  · exact c_C_count_out hr hZ h
  · exact c_C_count_no hr hZ hj h
  · have hok := (hZ.th hj h).1
    have h1 := hok.1
    have h2 := hok.2.1
    by_cases g : tK (zH Z t) ≤ 5
    · exact c_C_count_atb hr hZ hj h g
    · by_cases g2 : tK (zH Z t) = 6
      · exact c_C_count_atd hr hZ hj h g2
      · exact c_C_count_atr hr hZ hj h (by omega)
