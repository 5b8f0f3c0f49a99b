set_option maxRecDepth 100000 in
set_option maxHeartbeats 2000000 in
theorem c_C_draft_out {lX : Launch} {G : Gx} {S : PS} {x : Nat} {c : Nat → Nat} {D : Nat → Nat → Nat} {Z : ZT} (hr : RCD S Z x c D) (hZ : okZ Z) {p : Int32} (hp : p < 0 ∨ nI 10 ≤ p) : Ct lX yX10_draft cX10_draft 2 (Option.some Jvm.ClassFile.FieldType.int) rm_X10_draft G [.ref x, .int p] S (fun r S' => r = some (.int (A_draft p)) ∧ RC S' (N_draft Z p) x ∧ Fk S S') := by
  obtain ⟨⟨⟨kx, r0, k0⟩, r1, r3, r5, ⟨r7, k7⟩, ⟨r8, k8⟩, ⟨r9, k9⟩, ⟨r10, k10⟩, ⟨r11, k11⟩, ⟨r12, k12⟩, r13⟩, hT, hP, hH, hRf, hW, hA, hL, hSep⟩ := id hr
  obtain ⟨⟨k1, r2, k2⟩, hu, htl, htf, ht255⟩ := id hT
  obtain ⟨⟨k3, r4⟩, ⟨k4, l4⟩, ws, wl, wv⟩ := id hW
  refine Ct.mk RX10 "draft" hy_X10_draft (Nat.le_of_ble_eq_true rfl) (fun X hX C => ?_)
  change Go X G _ 2 0 0 S 0 [(0, .ref x), (1, .int p)] []
  refine g_iload_n 1 1 C dX10_draft_0 rfl rfl ?_
  refine g_callS (As := [.int p]) (rest := []) C dX10_draft_1 (c_C_beyond_out hp) wC_X10_isBeyond wM_X10_63 wZ_X10_isBeyond wN_X10 hd_X10_isBeyond.2 ⟨by decide, by decide, by decide, by decide⟩ (Nat.le_of_ble_eq_true rfl) (fun r_ S_ h_ => ?_)
  obtain ⟨rfl, rfl⟩ := h_
  change Go X G _ 2 _ _ S 4 [(0, .ref x), (1, .int p)] [.int (nI 1)]
  refine g_nif_eq 10 (by decide) C dX10_draft_4 (by decide) (fun c => absurd c (by decide)) (fun _ => ?_)
  refine g_bipush (v := -2) C dX10_draft_7 (by decide) ?_
  exact g_iret C dX10_draft_9 (by decide) (by decide) (⟨by unfold A_draft; rw [if_pos hp], ⟨c, D, by unfold N_draft; rw [if_pos hp]; exact hr⟩, Fk.refl S⟩)
set_option maxRecDepth 100000 in
set_option maxHeartbeats 2000000 in
theorem c_C_draft_in {lX : Launch} {G : Gx} {S : PS} {x : Nat} {c : Nat → Nat} {D : Nat → Nat → Nat} {Z : ZT} (hr : RCD S Z x c D) (hZ : okZ Z) {j : Nat} (hj : j < 10) : Ct lX yX10_draft cX10_draft 2 (Option.some Jvm.ClassFile.FieldType.int) rm_X10_draft G [.ref x, .int (nI j)] S (fun r S' => r = some (.int (A_draft (nI j))) ∧ RC S' (N_draft Z (nI j)) x ∧ Fk S S') := by
  obtain ⟨⟨⟨kx, r0, k0⟩, r1, r3, r5, ⟨r7, k7⟩, ⟨r8, k8⟩, ⟨r9, k9⟩, ⟨r10, k10⟩, ⟨r11, k11⟩, ⟨r12, k12⟩, r13⟩, hT, hP, hH, hRf, hW, hA, hL, hSep⟩ := id hr
  obtain ⟨⟨k1, r2, k2⟩, hu, htl, htf, ht255⟩ := id hT
  obtain ⟨⟨k3, r4⟩, ⟨k4, l4⟩, ws, wl, wv⟩ := id hW
  refine Ct.mk RX10 "draft" hy_X10_draft (Nat.le_of_ble_eq_true rfl) (fun X hX C => ?_)
  change Go X G _ 2 0 0 S 0 [(0, .ref x), (1, .int (nI j))] []
  refine g_iload_n 1 1 C dX10_draft_0 rfl rfl ?_
  refine g_callS (As := [.int (nI j)]) (rest := []) C dX10_draft_1 (c_C_beyond_in hj) wC_X10_isBeyond wM_X10_63 wZ_X10_isBeyond wN_X10 hd_X10_isBeyond.2 ⟨by decide, by decide, by decide, by decide⟩ (Nat.le_of_ble_eq_true rfl) (fun r_ S_ h_ => ?_)
  obtain ⟨rfl, rfl⟩ := h_
  change Go X G _ 2 _ _ S 4 [(0, .ref x), (1, .int (nI j))] [.int (nI 0)]
  refine g_nif_eq 10 (by decide) C dX10_draft_4 (by decide) (fun _ => ?_) (fun c => absurd c (by decide))
  refine g_aload_n 0 0 C dX10_draft_10 rfl rfl ?_
  refine gr_ba_places C dX10_draft_11 kx wF_X10_11 r0 ?_
  refine g_iload_n 1 1 C dX10_draft_14 rfl rfl ?_
  refine gw_Draft C dX10_draft_15 wK_X10_67 ⟨by decide, by decide⟩ (fun q1 h0_q1 => ?_)
  refine g_dup C dX10_draft_18 rfl ?_
  refine gw_Listing C dX10_draft_19 wK_X10_39 ⟨by decide, by decide⟩ (fun q2 h0_q2 => ?_)
  refine g_dup C dX10_draft_22 rfl ?_
  refine g_bipush (v := nI 100) C dX10_draft_23 (by decide) ?_
  refine g_callI (As := [.int (nI 100)]) (rest := [.ref q2, .ref q1, .ref q1, .int (nI j), .ref ((c 0))]) C dX10_draft_25 (c_L_init (S := nw_Listing (nw_Draft S q1) q2) (va_up_self _ _ _) (by decide)) wC_X4_init wM_X10_41 wI_X4_init wN_X4 rfl hd_X4_init.2 ⟨by decide, by decide, by decide, by decide⟩ (Nat.le_of_ble_eq_true rfl) (fun r_ Sl h_ => ?_)
  obtain ⟨nr, va, rfl, fl, hml, hll, hn0, hv0⟩ := h_
  change Go X G _ 2 _ _ Sl 28 [(0, .ref x), (1, .int (nI j))] [.ref q2, .ref q1, .ref q1, .int (nI j), .ref ((c 0))]
  have f0 : Fr S (nw_Draft S q1) No := (Fr.refl S No).n_Draft h0_q1
  have f1 : Fr S (nw_Listing (nw_Draft S q1) q2) No := f0.n_Listing h0_q2
  have f2 : Fr S Sl No := f1.trans fl (fun b hb e => absurd (f0.new h0_q2) (e ▸ hb))
  have hq2 : kd S q2 = 0 := f0.new h0_q2
  have hnr : kd S nr = 0 := f1.new hn0
  have hva : kd S va = 0 := f1.new hv0
  have hne : q1 ≠ q2 := fun e => by rw [← e] at h0_q2; exact absurd ((va_up_self (kd S) q1 4).symm.trans h0_q2) (by decide)
  have kq1 : kd Sl q1 = 4 := fl.kd_ (S := nw_Listing (nw_Draft S q1) q2) (kup h0_q2 (va_up_self _ _ _))
  have k0' := f2.kd_ k0
  refine g_callI (As := [.ref q2]) (rest := [.ref q1, .int (nI j), .ref ((c 0))]) C dX10_draft_28 (c_D_init (S := Sl) kq1) wC_X3_init wM_X10_69 wI_X3_init wN_X3 rfl hd_X3_init.2 ⟨by decide, by decide, by decide, by decide⟩ (Nat.le_of_ble_eq_true rfl) (fun r_ S_ h_ => ?_)
  obtain ⟨rfl, rfl⟩ := h_
  change Go X G _ 2 _ _ (dr_list_ (dr_kind_ Sl (va_up (dr_kind Sl) q1 (nI 6))) (va_up (dr_list Sl) q1 (some q2))) 31 [(0, .ref x), (1, .int (nI j))] [.ref q1, .int (nI j), .ref ((c 0))]
  refine gs_pl (r := (RX3, TX3, 2)) C dX10_draft_31 k0' (by omega) (kne kq1) (pf_4 kq1) rfl C.2.2.2.2.2.1.2.2.2.1.2.2 ?_
  refine g_iconst (v := nI 0) C dX10_draft_32 (by decide) ?_
  have ff : Fr S (dr_list_ (dr_kind_ Sl (va_up (dr_kind Sl) q1 (nI 6))) (va_up (dr_list Sl) q1 (some q2))) No := (f2.u_dr_kind (Or.inl h0_q1)).u_dr_list (Or.inl h0_q1)
  have hthc : thC (dr_list_ (dr_kind_ Sl (va_up (dr_kind Sl) q1 (nI 6))) (va_up (dr_list Sl) q1 (some q2))) (fun i => if i = 1 then q2 else if i = 2 then nr else if i = 3 then va else q1) (6, [], [], false, false) := ⟨fun g => absurd g (by decide), fun _ => ⟨⟨kq1, va_up_self _ _ _, va_up_self _ _ _⟩, hll⟩, fun g => absurd g (by decide)⟩
  have hnew := hr.new (j := j) (d := (fun i => if i = 1 then q2 else if i = 2 then nr else if i = 3 then va else q1)) (T := (6, [], [], false, false)) ff (fun i hi => by
    show kd S (if i = 1 then q2 else if i = 2 then nr else if i = 3 then va else q1) = 0
    split
    · exact hq2
    · split
      · exact hnr
      · split
        · exact hva
        · exact h0_q1) (fun i hi => by
    show kd Sl (if i = 1 then q2 else if i = 2 then nr else if i = 3 then va else q1) ≠ 0
    split
    · rw [hll.1.1]; decide
    · split
      · rw [hll.2.1.1]; decide
      · split
        · rw [hll.2.2.1.1]; decide
        · rw [kq1]; decide) hthc ((show mu (dr_list_ (dr_kind_ Sl (va_up (dr_kind Sl) q1 (nI 6))) (va_up (dr_list Sl) q1 (some q2))) = mu Sl from rfl).trans hml)
  exact g_iret C dX10_draft_33 (by decide) (by decide) ⟨by unfold A_draft; rw [if_neg (nI_in10 hj)]; rfl, ⟨c, _, by unfold N_draft newZ; rw [if_neg (nI_in10 hj), nI_clamp (by omega)]; exact hnew⟩, ff.fk⟩
theorem c_C_draft {lX : Launch} {G : Gx} {S : PS} {x : Nat} {c : Nat → Nat} {D : Nat → Nat → Nat} {Z : ZT} (hr : RCD S Z x c D) (hZ : okZ Z) {p : Int32} : Ct lX yX10_draft cX10_draft 2 (Option.some Jvm.ClassFile.FieldType.int) rm_X10_draft G [.ref x, .int p] S (fun r S' => r = some (.int (A_draft p)) ∧ RC S' (N_draft Z p) x ∧ Fk S S') := by
  rcases look_cases Z p with h | ⟨j, hj, rfl, -⟩
  · exact c_C_draft_out hr hZ h
  · exact c_C_draft_in hr hZ hj
set_option maxRecDepth 100000 in
set_option maxHeartbeats 2000000 in
theorem c_C_row_out {lX : Launch} {G : Gx} {S : PS} {x : Nat} {c : Nat → Nat} {D : Nat → Nat → Nat} {Z : ZT} (hr : RCD S Z x c D) (hZ : okZ Z) {p : Int32} (hp : p < 0 ∨ nI 10 ≤ p) {i : Int32} : Ct lX yX10_row cX10_row 3 (Option.some Jvm.ClassFile.FieldType.int) rm_X10_row G [.ref x, .int p, .int i] S (fun r S' => r = some (.int (A_row p i)) ∧ RC S' (N_row Z p i) x ∧ Fk S S') := by
  obtain ⟨⟨⟨kx, r0, k0⟩, r1, r3, r5, ⟨r7, k7⟩, ⟨r8, k8⟩, ⟨r9, k9⟩, ⟨r10, k10⟩, ⟨r11, k11⟩, ⟨r12, k12⟩, r13⟩, hT, hP, hH, hRf, hW, hA, hL, hSep⟩ := id hr
  obtain ⟨⟨k1, r2, k2⟩, hu, htl, htf, ht255⟩ := id hT
  obtain ⟨⟨k3, r4⟩, ⟨k4, l4⟩, ws, wl, wv⟩ := id hW
  refine Ct.mk RX10 "row" hy_X10_row (Nat.le_of_ble_eq_true rfl) (fun X hX C => ?_)
  change Go X G _ 3 0 0 S 0 [(0, .ref x), (1, .int p), (2, .int i)] []
  refine g_iload_n 1 1 C dX10_row_0 rfl rfl ?_
  refine g_callS (As := [.int p]) (rest := []) C dX10_row_1 (c_C_beyond_out hp) wC_X10_isBeyond wM_X10_63 wZ_X10_isBeyond wN_X10 hd_X10_isBeyond.2 ⟨by decide, by decide, by decide, by decide⟩ (Nat.le_of_ble_eq_true rfl) (fun r_ S_ h_ => ?_)
  obtain ⟨rfl, rfl⟩ := h_
  change Go X G _ 3 _ _ S 4 [(0, .ref x), (1, .int p), (2, .int i)] [.int (nI 1)]
  refine g_nif_eq 10 (by decide) C dX10_row_4 (by decide) (fun c => absurd c (by decide)) (fun _ => ?_)
  refine g_bipush (v := -2) C dX10_row_7 (by decide) ?_
  exact g_iret C dX10_row_9 (by decide) (by decide) (⟨by unfold A_row; rw [if_pos hp], ⟨c, D, by unfold N_row; rw [if_pos hp]; exact hr⟩, Fk.refl S⟩)
set_option maxRecDepth 100000 in
set_option maxHeartbeats 2000000 in
theorem c_C_row_in {lX : Launch} {G : Gx} {S : PS} {x : Nat} {c : Nat → Nat} {D : Nat → Nat → Nat} {Z : ZT} (hr : RCD S Z x c D) (hZ : okZ Z) {j : Nat} (hj : j < 10) {i : Int32} : Ct lX yX10_row cX10_row 3 (Option.some Jvm.ClassFile.FieldType.int) rm_X10_row G [.ref x, .int (nI j), .int i] S (fun r S' => r = some (.int (A_row (nI j) i)) ∧ RC S' (N_row Z (nI j) i) x ∧ Fk S S') := by
  obtain ⟨⟨⟨kx, r0, k0⟩, r1, r3, r5, ⟨r7, k7⟩, ⟨r8, k8⟩, ⟨r9, k9⟩, ⟨r10, k10⟩, ⟨r11, k11⟩, ⟨r12, k12⟩, r13⟩, hT, hP, hH, hRf, hW, hA, hL, hSep⟩ := id hr
  obtain ⟨⟨k1, r2, k2⟩, hu, htl, htf, ht255⟩ := id hT
  obtain ⟨⟨k3, r4⟩, ⟨k4, l4⟩, ws, wl, wv⟩ := id hW
  refine Ct.mk RX10 "row" hy_X10_row (Nat.le_of_ble_eq_true rfl) (fun X hX C => ?_)
  change Go X G _ 3 0 0 S 0 [(0, .ref x), (1, .int (nI j)), (2, .int i)] []
  refine g_iload_n 1 1 C dX10_row_0 rfl rfl ?_
  refine g_callS (As := [.int (nI j)]) (rest := []) C dX10_row_1 (c_C_beyond_in hj) wC_X10_isBeyond wM_X10_63 wZ_X10_isBeyond wN_X10 hd_X10_isBeyond.2 ⟨by decide, by decide, by decide, by decide⟩ (Nat.le_of_ble_eq_true rfl) (fun r_ S_ h_ => ?_)
  obtain ⟨rfl, rfl⟩ := h_
  change Go X G _ 3 _ _ S 4 [(0, .ref x), (1, .int (nI j)), (2, .int i)] [.int (nI 0)]
  refine g_nif_eq 10 (by decide) C dX10_row_4 (by decide) (fun _ => ?_) (fun c => absurd c (by decide))
  refine g_iload_n 2 2 C dX10_row_10 rfl rfl ?_
  refine g_if_lt 21 C dX10_row_11 (by decide) (fun c11 => ?_) (fun c11 => ?_)
  · have ei := inR_neg (n := 4001) c11
    refine g_bipush (v := -5) C dX10_row_21 (by decide) ?_
    exact g_iret C dX10_row_23 (by decide) (by decide) (⟨by unfold A_row; rw [if_neg (nI_in10 hj), ei]; rfl, ⟨c, D, by unfold N_row; rw [if_neg (nI_in10 hj), ei]; exact hr⟩, Fk.refl S⟩)
  · refine g_iload_n 2 2 C dX10_row_14 rfl rfl ?_
    refine g_sipush (v := nI 4000) C dX10_row_15 (by decide) ?_
    refine g_icmp_le 24 C dX10_row_18 (by decide) (fun c18 => ?_) (fun c18 => ?_)
    · have ei := inR_in1 (n := 4000) (by decide) c11 c18
      obtain ⟨k, hk, rfl⟩ := inR_spec ei (by decide)
      refine g_aload_n 0 0 C dX10_row_24 rfl rfl ?_
      refine gr_ba_places C dX10_row_25 kx wF_X10_11 r0 ?_
      refine g_iload_n 1 1 C dX10_row_28 rfl rfl ?_
      refine gw_BareRow C dX10_row_29 wK_X10_72 ⟨by decide, by decide⟩ (fun q1 h0_q1 => ?_)
      refine g_dup C dX10_row_32 rfl ?_
      refine gw_Row C dX10_row_33 wK_X10_74 ⟨by decide, by decide⟩ (fun q2 h0_q2 => ?_)
      refine g_dup C dX10_row_36 rfl ?_
      refine g_iload_n 2 2 C dX10_row_37 rfl rfl ?_
      refine g_callI (As := [.int (nI k)]) (rest := [.ref q2, .ref q1, .ref q1, .int (nI j), .ref ((c 0))]) C dX10_row_38 (c_R_init (S := nw_Row (nw_BareRow S q1) q2) (va_up_self _ _ _) (by omega)) wC_X6_init wM_X10_76 wI_X6_init wN_X6 rfl hd_X6_init.2 ⟨by decide, by decide, by decide, by decide⟩ (Nat.le_of_ble_eq_true rfl) (fun r_ Sl h_ => ?_)
      obtain ⟨wd, ta, tb, rfl, fl, hml, hll, hn0, hv0, hz0⟩ := h_
      change Go X G _ 3 _ _ Sl 41 [(0, .ref x), (1, .int (nI j)), (2, .int (nI k))] [.ref q2, .ref q1, .ref q1, .int (nI j), .ref ((c 0))]
      have f0 : Fr S (nw_BareRow S q1) No := (Fr.refl S No).n_BareRow h0_q1
      have f1 : Fr S (nw_Row (nw_BareRow S q1) q2) No := f0.n_Row h0_q2
      have f2 : Fr S Sl No := f1.trans fl (fun b hb e => absurd (f0.new h0_q2) (e ▸ hb))
      have hq2 : kd S q2 = 0 := f0.new h0_q2
      have hw0 : kd S wd = 0 := f1.new hn0
      have ht0 : kd S ta = 0 := f1.new hv0
      have hu0 : kd S tb = 0 := f1.new hz0
      have kq1 : kd Sl q1 = 1 := fl.kd_ (S := nw_Row (nw_BareRow S q1) q2) (kup h0_q2 (va_up_self _ _ _))
      have k0' := f2.kd_ k0
      refine g_callI (As := [.ref q2]) (rest := [.ref q1, .int (nI j), .ref ((c 0))]) C dX10_row_41 (c_B_init (S := Sl) kq1) wC_X0_init wM_X10_77 wI_X0_init wN_X0 rfl hd_X0_init.2 ⟨by decide, by decide, by decide, by decide⟩ (Nat.le_of_ble_eq_true rfl) (fun r_ S_ h_ => ?_)
      obtain ⟨rfl, rfl⟩ := h_
      change Go X G _ 3 _ _ (br_row_ (br_kind_ Sl (va_up (br_kind Sl) q1 (nI 7))) (va_up (br_row Sl) q1 (some q2))) 44 [(0, .ref x), (1, .int (nI j)), (2, .int (nI k))] [.ref q1, .int (nI j), .ref ((c 0))]
      refine gs_pl (r := (RX0, TX0, 2)) C dX10_row_44 k0' (by omega) (kne kq1) (pf_1 kq1) rfl C.2.2.2.2.2.1.2.2.2.1.1 ?_
      refine g_iload_n 2 2 C dX10_row_45 rfl rfl ?_
      have ff : Fr S (br_row_ (br_kind_ Sl (va_up (br_kind Sl) q1 (nI 7))) (va_up (br_row Sl) q1 (some q2))) No := (f2.u_br_kind (Or.inl h0_q1)).u_br_row (Or.inl h0_q1)
      have hthc : thC (br_row_ (br_kind_ Sl (va_up (br_kind Sl) q1 (nI 7))) (va_up (br_row Sl) q1 (some q2))) (fun i => if i = 4 then q2 else if i = 5 then wd else if i = 6 then ta else if i = 7 then tb else q1) (7, [], List.replicate k 0, false, false) := ⟨fun g => absurd g (show ¬ (7 : Nat) ≤ 5 by decide), fun g => absurd g (show ¬ (7 : Nat) = 6 by decide), fun _ => ⟨⟨kq1, va_up_self _ _ _, va_up_self _ _ _⟩, hll⟩⟩
      have hnew := hr.new (j := j) (d := (fun i => if i = 4 then q2 else if i = 5 then wd else if i = 6 then ta else if i = 7 then tb else q1)) (T := (7, [], List.replicate k 0, false, false)) ff (fun i hi => by
        show kd S (if i = 4 then q2 else if i = 5 then wd else if i = 6 then ta else if i = 7 then tb else q1) = 0
        split
        · exact hq2
        · split
          · exact hw0
          · split
            · exact ht0
            · split
              · exact hu0
              · exact h0_q1) (fun i hi => by
        show kd Sl (if i = 4 then q2 else if i = 5 then wd else if i = 6 then ta else if i = 7 then tb else q1) ≠ 0
        split
        · rw [hll.1.1.1]; decide
        · split
          · rw [hll.1.2.1.1]; decide
          · split
            · rw [hll.1.2.2.1.1]; decide
            · split
              · rw [hll.1.2.2.2.1.1]; decide
              · rw [kq1]; decide) hthc ((show mu (br_row_ (br_kind_ Sl (va_up (br_kind Sl) q1 (nI 7))) (va_up (br_row Sl) q1 (some q2))) = mu Sl from rfl).trans hml)
      exact g_iret C dX10_row_46 (by decide) (by decide) ⟨by unfold A_row; rw [if_neg (nI_in10 hj), ei]; rfl, ⟨c, _, by unfold N_row newZ; rw [if_neg (nI_in10 hj), ei, if_pos rfl, nI_clamp (by omega), nI_clamp (by omega)]; exact hnew⟩, ff.fk⟩
    · have ei := inR_big1 (n := 4000) (by decide) c18
      refine g_bipush (v := -5) C dX10_row_21 (by decide) ?_
      exact g_iret C dX10_row_23 (by decide) (by decide) (⟨by unfold A_row; rw [if_neg (nI_in10 hj), ei]; rfl, ⟨c, D, by unfold N_row; rw [if_neg (nI_in10 hj), ei]; exact hr⟩, Fk.refl S⟩)
theorem c_C_row {lX : Launch} {G : Gx} {S : PS} {x : Nat} {c : Nat → Nat} {D : Nat → Nat → Nat} {Z : ZT} (hr : RCD S Z x c D) (hZ : okZ Z) {p i : Int32} : Ct lX yX10_row cX10_row 3 (Option.some Jvm.ClassFile.FieldType.int) rm_X10_row G [.ref x, .int p, .int i] S (fun r S' => r = some (.int (A_row p i)) ∧ RC S' (N_row Z p i) x ∧ Fk S S') := by
  rcases look_cases Z p with h | ⟨j, hj, rfl, -⟩
  · exact c_C_row_out hr hZ h
  · exact c_C_row_in hr hZ hj
