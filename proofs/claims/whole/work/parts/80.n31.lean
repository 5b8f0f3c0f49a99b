theorem nk_up {k : Nat → Nat} {q v u : Nat} (h : ∀ a, k a ≠ u) (hv : v ≠ u) : ∀ a, va_up k q v a ≠ u := fun a => by
  by_cases e : a = q
  · rw [e, va_up_self]; exact hv
  · rw [va_up_ne _ _ e]; exact h a
theorem lt_up {k : Nat → Nat} {q v u : Nat} (h : ∀ a, k a < u) (hv : v < u) : ∀ a, va_up k q v a < u := fun a => by
  by_cases e : a = q
  · rw [e, va_up_self]; exact hv
  · rw [va_up_ne _ _ e]; exact h a
abbrev rm_X10_new : Room := { frames := 2, cells := 16, slots := 11200, locals := 41 }
set_option maxRecDepth 100000 in
set_option maxHeartbeats 400000 in
theorem c_T_init {lX : Launch} {G : Gx} {S : PS} {t : Nat} (ht : kd S t = 8) (hu : ∀ a, kd S a ≠ 21) : Ct lX yX7_init cX7_init 1 (Option.none : Option Jvm.ClassFile.FieldType) rm_X7_init G [.ref t] S (fun r S' => ∃ q, r = none ∧ kd S q = 0 ∧ S' = tp_used_ (tp_bytes_ (na_tp_a S q) (some q)) (nI 0)) := by
  refine Ct.mk RX7 "<init>" hy_X7_init (Nat.le_of_ble_eq_true rfl) (fun X hX C => ?_)
  change Go X G _ 1 0 0 S 0 [(0, .ref t)] []
  refine g_aload_n 0 0 C dX7_init_0 rfl rfl ?_
  refine g_objInit C dX7_init_1 wM_X7_3 ⟨by decide, by decide⟩ (Nat.le_of_ble_eq_true rfl) ?_
  refine g_aload_n 0 0 C dX7_init_4 rfl rfl ?_
  refine g_sipush (v := nI 1000) C dX7_init_5 (by decide) ?_
  refine gy_tp_a C dX7_init_8 hu ⟨by decide, by decide⟩ (fun q h0_q => ?_)
  refine pp_tp_bytes C dX7_init_10 (kup h0_q ht) wF_X7_9 (Or.inr ⟨rfl, rfl, rfl⟩) ?_
  refine g_aload_n 0 0 C dX7_init_13 rfl rfl ?_
  refine g_iconst (v := nI 0) C dX7_init_14 (by decide) ?_
  refine pp_tp_used C dX7_init_15 (kup h0_q ht) wF_X7_15 (Or.inl rfl) ?_
  exact g_vret C dX7_init_18 (by decide) (by decide) (⟨q, rfl, h0_q, rfl⟩)
set_option maxRecDepth 100000 in
set_option maxHeartbeats 400000 in
theorem c_W_init {lX : Launch} {G : Gx} {S : PS} {t : Nat} (ht : kd S t = 9) : Ct lX yX9_init cX9_init 1 (Option.none : Option Jvm.ClassFile.FieldType) rm_X9_init G [.ref t] S (fun r S' => ∃ q, r = none ∧ kd S q = 0 ∧ S' = wi_size_ (wi_numbers_ (na_wn_a S q 75) (va_up (wi_numbers (na_wn_a S q 75)) t (some q))) (va_up (wi_size (na_wn_a S q 75)) t (nI 0))) := by
  refine Ct.mk RX9 "<init>" hy_X9_init (Nat.le_of_ble_eq_true rfl) (fun X hX C => ?_)
  change Go X G _ 1 0 0 S 0 [(0, .ref t)] []
  refine g_aload_n 0 0 C dX9_init_0 rfl rfl ?_
  refine g_objInit C dX9_init_1 wM_X9_3 ⟨by decide, by decide⟩ (Nat.le_of_ble_eq_true rfl) ?_
  refine g_aload_n 0 0 C dX9_init_4 rfl rfl ?_
  refine g_bipush (v := nI 75) C dX9_init_5 (by decide) ?_
  refine gy_wn_a C dX9_init_7 (by omega) ⟨by decide, by decide⟩ (fun q h0_q => ?_)
  refine pp_wi_numbers C dX9_init_9 (kup h0_q ht) wF_X9_9 (Or.inr ⟨rfl, rfl, rfl⟩) ?_
  refine g_aload_n 0 0 C dX9_init_12 rfl rfl ?_
  refine g_iconst (v := nI 0) C dX9_init_13 (by decide) ?_
  refine pp_wi_size C dX9_init_14 (kup h0_q ht) wF_X9_15 (Or.inl rfl) ?_
  exact g_vret C dX9_init_17 (by decide) (by decide) (⟨q, rfl, h0_q, rfl⟩)
set_option maxRecDepth 100000 in
set_option maxHeartbeats 400000 in
theorem c_Bi_init {lX : Launch} {G : Gx} {S : PS} {t : Nat} (ht : kd S t = 2) (hS : ∀ a, kd S a < 22) : Ct lX yX1_init cX1_init 1 (Option.none : Option Jvm.ClassFile.FieldType) rm_X1_init G [.ref t] S (fun r S' => ∃ q1 q2 q3 q4 q5, r = none ∧ S' = bi_nodes_ (bi_degree_ (na_dg_a (bi_stem_ (na_st_a (bi_depth_ (na_de_a (bi_first_ (na_fi_a (bi_alike_ (na_al_a S q1) (some q1)) q2) (some q2)) q3) (some q3)) q4) (some q4)) q5) (some q5)) (nI 0) ∧ kd S q1 = 0 ∧ va_up (kd S) q1 22 q2 = 0 ∧ va_up (va_up (kd S) q1 22) q2 23 q3 = 0 ∧ va_up (va_up (va_up (kd S) q1 22) q2 23) q3 24 q4 = 0 ∧ va_up (va_up (va_up (va_up (kd S) q1 22) q2 23) q3 24) q4 25 q5 = 0) := by
  have n1 : ∀ a, kd S a ≠ 22 := fun a => Nat.ne_of_lt (hS a)
  have n2 : ∀ a, kd S a ≠ 23 := fun a => by have := hS a; omega
  have n3 : ∀ a, kd S a ≠ 24 := fun a => by have := hS a; omega
  have n4 : ∀ a, kd S a ≠ 25 := fun a => by have := hS a; omega
  have n5 : ∀ a, kd S a ≠ 26 := fun a => by have := hS a; omega
  refine Ct.mk RX1 "<init>" hy_X1_init (Nat.le_of_ble_eq_true rfl) (fun X hX C => ?_)
  change Go X G _ 1 0 0 S 0 [(0, .ref t)] []
  refine g_aload_n 0 0 C dX1_init_0 rfl rfl ?_
  refine g_objInit C dX1_init_1 wM_X1_3 ⟨by decide, by decide⟩ (Nat.le_of_ble_eq_true rfl) ?_
  refine g_aload_n 0 0 C dX1_init_4 rfl rfl ?_
  refine g_bipush (v := nI 100) C dX1_init_5 (by decide) ?_
  refine gy_al_a C dX1_init_7 n1 ⟨by decide, by decide⟩ (fun q1 h0_q1 => ?_)
  refine pp_bi_alike C dX1_init_9 (kup h0_q1 ht) wF_X1_9 (Or.inr ⟨rfl, rfl, rfl⟩) ?_
  refine g_aload_n 0 0 C dX1_init_12 rfl rfl ?_
  refine g_sipush (v := nI 2401) C dX1_init_13 (by decide) ?_
  refine gy_fi_a C dX1_init_16 (nk_up n2 (by decide)) ⟨by decide, by decide⟩ (fun q2 h0_q2 => ?_)
  refine pp_bi_first C dX1_init_18 (kup h0_q2 (kup h0_q1 ht)) wF_X1_15 (Or.inr ⟨rfl, rfl, rfl⟩) ?_
  refine g_aload_n 0 0 C dX1_init_21 rfl rfl ?_
  refine g_sipush (v := nI 2401) C dX1_init_22 (by decide) ?_
  refine gy_de_a C dX1_init_25 (nk_up (nk_up n3 (by decide)) (by decide)) ⟨by decide, by decide⟩ (fun q3 h0_q3 => ?_)
  refine pp_bi_depth C dX1_init_27 (kup h0_q3 (kup h0_q2 (kup h0_q1 ht))) wF_X1_18 (Or.inr ⟨rfl, rfl, rfl⟩) ?_
  refine g_aload_n 0 0 C dX1_init_30 rfl rfl ?_
  refine g_sipush (v := nI 2401) C dX1_init_31 (by decide) ?_
  refine gy_st_a C dX1_init_34 (nk_up (nk_up (nk_up n4 (by decide)) (by decide)) (by decide)) ⟨by decide, by decide⟩ (fun q4 h0_q4 => ?_)
  refine pp_bi_stem C dX1_init_36 (kup h0_q4 (kup h0_q3 (kup h0_q2 (kup h0_q1 ht)))) wF_X1_21 (Or.inr ⟨rfl, rfl, rfl⟩) ?_
  refine g_aload_n 0 0 C dX1_init_39 rfl rfl ?_
  refine g_sipush (v := nI 2401) C dX1_init_40 (by decide) ?_
  refine gy_dg_a C dX1_init_43 (nk_up (nk_up (nk_up (nk_up n5 (by decide)) (by decide)) (by decide)) (by decide)) ⟨by decide, by decide⟩ (fun q5 h0_q5 => ?_)
  refine pp_bi_degree C dX1_init_45 (kup h0_q5 (kup h0_q4 (kup h0_q3 (kup h0_q2 (kup h0_q1 ht))))) wF_X1_24 (Or.inr ⟨rfl, rfl, rfl⟩) ?_
  refine g_aload_n 0 0 C dX1_init_48 rfl rfl ?_
  refine g_iconst (v := nI 0) C dX1_init_49 (by decide) ?_
  refine pp_bi_nodes C dX1_init_50 (kup h0_q5 (kup h0_q4 (kup h0_q3 (kup h0_q2 (kup h0_q1 ht))))) wF_X1_27 (Or.inl rfl) ?_
  exact g_vret C dX1_init_53 (by decide) (by decide) (⟨q1, q2, q3, q4, q5, rfl, rfl, h0_q1, h0_q2, h0_q3, h0_q4, h0_q5⟩)
set_option maxRecDepth 100000 in
set_option maxHeartbeats 2000000 in
theorem c_L_init2 {lX : Launch} {G : Gx} {S : PS} {a room : Nat} (hk : kd S a = 5) (hr : room ≤ 100) : Ct lX yX4_init cX4_init 2 (Option.none : Option Jvm.ClassFile.FieldType) rm_X4_init G [.ref a, .int (nI room)] S (fun r S' => ∃ nr va, r = none ∧ Fr S S' (fun q => q = a) ∧ mu S' = mu S ∧ listC S' a nr va room [] ∧ kd S nr = 0 ∧ kd S va = 0 ∧ kd S' = va_up (va_up (kd S) nr 19) va 18) := by
  refine Ct.mk RX4 "<init>" hy_X4_init (Nat.le_of_ble_eq_true rfl) (fun X hX C => ?_)
  change Go X G _ 2 0 0 S 0 [(0, .ref a), (1, .int (nI room))] []
  refine g_aload_n 0 0 C dX4_init_0 rfl rfl ?_
  refine g_objInit C dX4_init_1 wM_X4_3 ⟨by decide, by decide⟩ (Nat.le_of_ble_eq_true rfl) ?_
  refine g_aload_n 0 0 C dX4_init_4 rfl rfl ?_
  refine g_iconst (v := nI 0) C dX4_init_5 (by decide) ?_
  refine pp_ls_size C dX4_init_6 hk wF_X4_9 (Or.inl rfl) ?_
  refine g_aload_n 0 0 C dX4_init_9 rfl rfl ?_
  refine g_iload_n 1 1 C dX4_init_10 rfl rfl ?_
  refine gy_nr_a C dX4_init_11 wK_X4_15 (by omega) ⟨by decide, by show (_ : Nat) ≤ 200; omega⟩ (fun q1 h0_q1 => ?_)
  refine Go.wide (k2 := 1) (n2 := 100) (by first | decide | omega) (by first | decide | omega) ?_
  refine pp_ls_names C dX4_init_14 (kup h0_q1 hk) wF_X4_17 (Or.inr ⟨rfl, rfl, rfl⟩) ?_
  refine g_aload_n 0 0 C dX4_init_17 rfl rfl ?_
  refine g_iload_n 1 1 C dX4_init_18 rfl rfl ?_
  refine gy_vl_a C dX4_init_19 (by omega) ⟨by decide, by show (_ : Nat) ≤ 200; omega⟩ (fun q2 h0_q2 => ?_)
  refine Go.wide (k2 := 2) (n2 := 200) (by first | decide | omega) (by first | decide | omega) ?_
  refine pp_ls_values C dX4_init_21 (kup h0_q2 (kup h0_q1 hk)) wF_X4_21 (Or.inr ⟨rfl, rfl, rfl⟩) ?_
  have hb : Fb S (fun q => q = a) a := Fb.of hk rfl
  have h02 : kd S q2 = 0 := ((Fr.refl S (fun q => q = a)).u_ls_size hb |>.a_nr_a h0_q1).new h0_q2
  have hne : q1 ≠ q2 := fun e => by rw [← e] at h0_q2; exact absurd ((va_up_self (kd S) q1 19).symm.trans h0_q2) (by decide)
  exact g_vret C dX4_init_24 (by decide) (by decide) ⟨q1, q2, rfl, ((((Fr.refl S (fun q => q = a)).u_ls_size hb).a_nr_a h0_q1).u_ls_names hb |>.a_vl_a h0_q2).u_ls_values hb, rfl, ⟨⟨kup h0_q2 (kup h0_q1 hk), va_up_self _ _ _, va_up_self _ _ _⟩, ⟨kup h0_q2 (va_up_self _ _ _), (va_up_ne _ _ hne).trans (va_up_self _ _ _)⟩, ⟨va_up_self _ _ _, va_up_self _ _ _⟩, va_up_self _ _ _, Nat.zero_le _, hr, fun k hk => absurd hk (Nat.not_lt_zero _)⟩, h0_q1, h02, rfl⟩
set_option maxRecDepth 100000 in
set_option maxHeartbeats 1000000 in
theorem c_C_init {lX : Launch} {G : Gx} {S : PS} {x : Nat} (K_x : kd S x = 10) (hone : ∀ a, kd S a ≠ 0 → a = x) : Ct lX yX10_init cX10_init 1 (Option.none : Option Jvm.ClassFile.FieldType) rm_X10_new G [.ref x] S (fun r S' => r = none ∧ RC S' Z0 x ∧ (∀ a, kd S' a < 30) ∧ ∀ a, kd S' a ≠ 11) := by
  have hone' : ∀ u, u ≠ 0 → u ≠ 10 → ∀ a, kd S a ≠ u := fun u h0 h1 a e => by
    have := hone a (by rw [e]; exact h0)
    rw [this, K_x] at e; exact h1 e.symm
  have N_20 := hone' 20 (by decide) (by decide)
  have N_8 := hone' 8 (by decide) (by decide)
  have N_21 := hone' 21 (by decide) (by decide)
  have N_2 := hone' 2 (by decide) (by decide)
  have N_11 := hone' 11 (by decide) (by decide)
  have U_22 : ∀ a, kd S a < 22 := fun a => by
    by_cases e : kd S a = 0
    · rw [e]; decide
    · rw [hone a e, K_x]; decide
  refine Ct.mk RX10 "<init>" hy_X10_init (Nat.le_of_ble_eq_true rfl) (fun X hX C => ?_)
  change Go X G _ 1 0 0 S 0 [(0, .ref x)] []
  refine g_aload_n 0 0 C dX10_init_0 rfl rfl ?_
  refine g_objInit C dX10_init_1 wM_X10_3 ⟨by decide, by decide⟩ (Nat.le_of_ble_eq_true rfl) ?_
  refine g_aload_n 0 0 C dX10_init_4 rfl rfl ?_
  refine g_bipush (v := nI 10) C dX10_init_5 (by decide) ?_
  refine gy_pl_a C dX10_init_7 wK_X10_9 N_20 ⟨by decide, by decide⟩ (fun q0 h0_q0 => ?_)
  refine pp_ba_places C dX10_init_10 (kup h0_q0 K_x) wF_X10_11 (Or.inr ⟨rfl, rfl, rfl⟩) ?_
  obtain ⟨T1, e_1⟩ : ∃ T_ : PS, T_ = ba_places_ (na_pl_a S q0) (some q0) := ⟨_, rfl⟩
  have K_x_ : kd T1 x = 10 := by rw [e_1]; exact (kup h0_q0 K_x)
  have N_8_ : ∀ a, kd T1 a ≠ 8 := by rw [e_1]; exact (nk_up N_8 (by decide))
  have N_21_ : ∀ a, kd T1 a ≠ 21 := by rw [e_1]; exact (nk_up N_21 (by decide))
  have N_2_ : ∀ a, kd T1 a ≠ 2 := by rw [e_1]; exact (nk_up N_2 (by decide))
  have U_22_ : ∀ a, kd T1 a < 22 := by rw [e_1]; exact (lt_up U_22 (by decide))
  have N_11_ : ∀ a, kd T1 a ≠ 11 := by rw [e_1]; exact (nk_up N_11 (by decide))
  have K_q0_ : kd T1 q0 = 20 := by rw [e_1]; exact va_up_self _ _ _
  have G_pl_ : ba_places T1 = some q0 := by rw [e_1]; try exact rfl
  have G_pa_ : pl_a T1 = fun _ => none := by rw [e_1]; try exact rfl
  have K_x := K_x_
  have N_8 := N_8_
  have N_21 := N_21_
  have N_2 := N_2_
  have U_22 := U_22_
  have N_11 := N_11_
  have K_q0 := K_q0_
  have G_pl := G_pl_
  have G_pa := G_pa_
  refine g_st (S' := T1) e_1.symm ?_
  refine g_aload_n 0 0 C dX10_init_13 rfl rfl ?_
  refine gw_Tape C dX10_init_14 wK_X10_15 N_8 ⟨by decide, by decide⟩ (fun q1 h0_q1 => ?_)
  refine g_dup C dX10_init_17 rfl ?_
  have K_q1 : kd (nw_Tape T1 q1) q1 = 8 := va_up_self _ _ _
  have N_21t : ∀ a, kd (nw_Tape T1 q1) a ≠ 21 := nk_up N_21 (by decide)
  refine g_callIN (As := []) (rest := [.ref q1, .ref x]) C dX10_init_18 (c_T_init K_q1 N_21t) wC_X7_init C.2.2.2.2.2.1.2.2.2.2.1 wI_X7_init wN_X7 rfl hd_X7_init.2 ⟨by decide, by decide, by decide, by decide⟩ (Nat.le_of_ble_eq_true rfl) (fun r_ S_ h_ => ?_)
  obtain ⟨q2, rfl, h0_q2, rfl⟩ := h_
  change Go X G _ 1 _ _ (tp_used_ (tp_bytes_ (na_tp_a (nw_Tape T1 q1) q2) (some q2)) (nI 0)) 21 [(0, .ref x)] [.ref q1, .ref x]
  obtain ⟨T2, e_2⟩ : ∃ T_ : PS, T_ = (tp_used_ (tp_bytes_ (na_tp_a (nw_Tape T1 q1) q2) (some q2)) (nI 0)) := ⟨_, rfl⟩
  have K_x_ : kd T2 x = 10 := by rw [e_2]; exact (kup h0_q2 (kup h0_q1 K_x))
  have N_2_ : ∀ a, kd T2 a ≠ 2 := by rw [e_2]; exact (nk_up (nk_up N_2 (by decide)) (by decide))
  have U_22_ : ∀ a, kd T2 a < 22 := by rw [e_2]; exact (lt_up (lt_up U_22 (by decide)) (by decide))
  have N_11_ : ∀ a, kd T2 a ≠ 11 := by rw [e_2]; exact (nk_up (nk_up N_11 (by decide)) (by decide))
  have K_q0_ : kd T2 q0 = 20 := by rw [e_2]; exact (kup h0_q2 (kup h0_q1 K_q0))
  have G_pl_ : ba_places T2 = some q0 := by rw [e_2]; exact G_pl
  have G_pa_ : pl_a T2 = fun _ => none := by rw [e_2]; exact G_pa
  have K_q1_ : kd T2 q1 = 8 := by rw [e_2]; exact kup h0_q2 (va_up_self _ _ _)
  have K_q2_ : kd T2 q2 = 21 := by rw [e_2]; exact va_up_self _ _ _
  have G_tb_ : tp_bytes T2 = some q2 := by rw [e_2]; try exact rfl
  have G_tu_ : tp_used T2 = nI 0 := by rw [e_2]; try exact rfl
  have K_x := K_x_
  have N_2 := N_2_
  have U_22 := U_22_
  have N_11 := N_11_
  have K_q0 := K_q0_
  have G_pl := G_pl_
  have G_pa := G_pa_
  have K_q1 := K_q1_
  have K_q2 := K_q2_
  have G_tb := G_tb_
  have G_tu := G_tu_
  refine g_st (S' := T2) e_2.symm ?_
  refine pp_ba_reel C dX10_init_21 K_x wF_X10_18 (Or.inr ⟨rfl, rfl, rfl⟩) ?_
  obtain ⟨T3, e_3⟩ : ∃ T_ : PS, T_ = ba_reel_ T2 (some q1) := ⟨_, rfl⟩
  have K_x_ : kd T3 x = 10 := by rw [e_3]; exact K_x
  have N_2_ : ∀ a, kd T3 a ≠ 2 := by rw [e_3]; exact N_2
  have U_22_ : ∀ a, kd T3 a < 22 := by rw [e_3]; exact U_22
  have N_11_ : ∀ a, kd T3 a ≠ 11 := by rw [e_3]; exact N_11
  have K_q0_ : kd T3 q0 = 20 := by rw [e_3]; exact K_q0
  have G_pl_ : ba_places T3 = some q0 := by rw [e_3]; exact G_pl
  have G_pa_ : pl_a T3 = fun _ => none := by rw [e_3]; exact G_pa
  have K_q1_ : kd T3 q1 = 8 := by rw [e_3]; exact K_q1
  have K_q2_ : kd T3 q2 = 21 := by rw [e_3]; exact K_q2
  have G_tb_ : tp_bytes T3 = some q2 := by rw [e_3]; exact G_tb
  have G_tu_ : tp_used T3 = nI 0 := by rw [e_3]; exact G_tu
  have G_re_ : ba_reel T3 = some q1 := by rw [e_3]; try exact rfl
  have K_x := K_x_
  have N_2 := N_2_
  have U_22 := U_22_
  have N_11 := N_11_
  have K_q0 := K_q0_
  have G_pl := G_pl_
  have G_pa := G_pa_
  have K_q1 := K_q1_
  have K_q2 := K_q2_
  have G_tb := G_tb_
  have G_tu := G_tu_
  have G_re := G_re_
  refine g_st (S' := T3) e_3.symm ?_
  refine g_aload_n 0 0 C dX10_init_24 rfl rfl ?_
  refine gw_Witness C dX10_init_25 wK_X10_22 ⟨by decide, by decide⟩ (fun q3 h0_q3 => ?_)
  refine g_dup C dX10_init_28 rfl ?_
  have K_q3 : kd (nw_Witness T3 q3) q3 = 9 := va_up_self _ _ _
  refine g_callIN (As := []) (rest := [.ref q3, .ref x]) C dX10_init_29 (c_W_init K_q3) wC_X9_init C.2.2.2.2.2.1.2.2.2.2.2.1 wI_X9_init wN_X9 rfl hd_X9_init.2 ⟨by decide, by decide, by decide, by decide⟩ (Nat.le_of_ble_eq_true rfl) (fun r_ S_ h_ => ?_)
  obtain ⟨q4, rfl, h0_q4, rfl⟩ := h_
  change Go X G _ 1 _ _ (wi_size_ (wi_numbers_ (na_wn_a (nw_Witness T3 q3) q4 75) (va_up (wi_numbers (na_wn_a (nw_Witness T3 q3) q4 75)) q3 (some q4))) (va_up (wi_size (na_wn_a (nw_Witness T3 q3) q4 75)) q3 (nI 0))) 32 [(0, .ref x)] [.ref q3, .ref x]
  obtain ⟨T4, e_4⟩ : ∃ T_ : PS, T_ = (wi_size_ (wi_numbers_ (na_wn_a (nw_Witness T3 q3) q4 75) (va_up (wi_numbers (na_wn_a (nw_Witness T3 q3) q4 75)) q3 (some q4))) (va_up (wi_size (na_wn_a (nw_Witness T3 q3) q4 75)) q3 (nI 0))) := ⟨_, rfl⟩
  have K_x_ : kd T4 x = 10 := by rw [e_4]; exact (kup h0_q4 (kup h0_q3 K_x))
  have N_2_ : ∀ a, kd T4 a ≠ 2 := by rw [e_4]; exact (nk_up (nk_up N_2 (by decide)) (by decide))
  have U_22_ : ∀ a, kd T4 a < 22 := by rw [e_4]; exact (lt_up (lt_up U_22 (by decide)) (by decide))
  have N_11_ : ∀ a, kd T4 a ≠ 11 := by rw [e_4]; exact (nk_up (nk_up N_11 (by decide)) (by decide))
  have K_q0_ : kd T4 q0 = 20 := by rw [e_4]; exact (kup h0_q4 (kup h0_q3 K_q0))
  have G_pl_ : ba_places T4 = some q0 := by rw [e_4]; exact G_pl
  have G_pa_ : pl_a T4 = fun _ => none := by rw [e_4]; exact G_pa
  have K_q1_ : kd T4 q1 = 8 := by rw [e_4]; exact (kup h0_q4 (kup h0_q3 K_q1))
  have K_q2_ : kd T4 q2 = 21 := by rw [e_4]; exact (kup h0_q4 (kup h0_q3 K_q2))
  have G_tb_ : tp_bytes T4 = some q2 := by rw [e_4]; exact G_tb
  have G_tu_ : tp_used T4 = nI 0 := by rw [e_4]; exact G_tu
  have G_re_ : ba_reel T4 = some q1 := by rw [e_4]; exact G_re
  have K_q3_ : kd T4 q3 = 9 := by rw [e_4]; exact kup h0_q4 (va_up_self _ _ _)
  have K_q4_ : kd T4 q4 = 16 := by rw [e_4]; exact va_up_self _ _ _
  have L_q4_ : ln T4 q4 = 75 := by rw [e_4]; exact va_up_self _ _ _
  have C_nq3_ : wi_numbers T4 q3 = some q4 := by rw [e_4]; exact va_up_self _ _ _
  have C_sq3_ : wi_size T4 q3 = nI 0 := by rw [e_4]; exact va_up_self _ _ _
  have K_x := K_x_
  have N_2 := N_2_
  have U_22 := U_22_
  have N_11 := N_11_
  have K_q0 := K_q0_
  have G_pl := G_pl_
  have G_pa := G_pa_
  have K_q1 := K_q1_
  have K_q2 := K_q2_
  have G_tb := G_tb_
  have G_tu := G_tu_
  have G_re := G_re_
  have K_q3 := K_q3_
  have K_q4 := K_q4_
  have L_q4 := L_q4_
  have C_nq3 := C_nq3_
  have C_sq3 := C_sq3_
  refine g_st (S' := T4) e_4.symm ?_
  refine pp_ba_shown C dX10_init_32 K_x wF_X10_25 (Or.inr ⟨rfl, rfl, rfl⟩) ?_
  obtain ⟨T5, e_5⟩ : ∃ T_ : PS, T_ = ba_shown_ T4 (some q3) := ⟨_, rfl⟩
  have K_x_ : kd T5 x = 10 := by rw [e_5]; exact K_x
  have N_2_ : ∀ a, kd T5 a ≠ 2 := by rw [e_5]; exact N_2
  have U_22_ : ∀ a, kd T5 a < 22 := by rw [e_5]; exact U_22
  have N_11_ : ∀ a, kd T5 a ≠ 11 := by rw [e_5]; exact N_11
  have K_q0_ : kd T5 q0 = 20 := by rw [e_5]; exact K_q0
  have G_pl_ : ba_places T5 = some q0 := by rw [e_5]; exact G_pl
  have G_pa_ : pl_a T5 = fun _ => none := by rw [e_5]; exact G_pa
  have K_q1_ : kd T5 q1 = 8 := by rw [e_5]; exact K_q1
  have K_q2_ : kd T5 q2 = 21 := by rw [e_5]; exact K_q2
  have G_tb_ : tp_bytes T5 = some q2 := by rw [e_5]; exact G_tb
  have G_tu_ : tp_used T5 = nI 0 := by rw [e_5]; exact G_tu
  have G_re_ : ba_reel T5 = some q1 := by rw [e_5]; exact G_re
  have K_q3_ : kd T5 q3 = 9 := by rw [e_5]; exact K_q3
  have K_q4_ : kd T5 q4 = 16 := by rw [e_5]; exact K_q4
  have L_q4_ : ln T5 q4 = 75 := by rw [e_5]; exact L_q4
  have C_nq3_ : wi_numbers T5 q3 = some q4 := by rw [e_5]; exact C_nq3
  have C_sq3_ : wi_size T5 q3 = nI 0 := by rw [e_5]; exact C_sq3
  have G_sh_ : ba_shown T5 = some q3 := by rw [e_5]; try exact rfl
  have K_x := K_x_
  have N_2 := N_2_
  have U_22 := U_22_
  have N_11 := N_11_
  have K_q0 := K_q0_
  have G_pl := G_pl_
  have G_pa := G_pa_
  have K_q1 := K_q1_
  have K_q2 := K_q2_
  have G_tb := G_tb_
  have G_tu := G_tu_
  have G_re := G_re_
  have K_q3 := K_q3_
  have K_q4 := K_q4_
  have L_q4 := L_q4_
  have C_nq3 := C_nq3_
  have C_sq3 := C_sq3_
  have G_sh := G_sh_
  refine g_st (S' := T5) e_5.symm ?_
  refine g_aload_n 0 0 C dX10_init_35 rfl rfl ?_
  refine gw_Witness C dX10_init_36 wK_X10_22 ⟨by decide, by decide⟩ (fun q5 h0_q5 => ?_)
  refine g_dup C dX10_init_39 rfl ?_
  have K_q5 : kd (nw_Witness T5 q5) q5 = 9 := va_up_self _ _ _
  refine g_callIN (As := []) (rest := [.ref q5, .ref x]) C dX10_init_40 (c_W_init K_q5) wC_X9_init C.2.2.2.2.2.1.2.2.2.2.2.1 wI_X9_init wN_X9 rfl hd_X9_init.2 ⟨by decide, by decide, by decide, by decide⟩ (Nat.le_of_ble_eq_true rfl) (fun r_ S_ h_ => ?_)
  obtain ⟨q6, rfl, h0_q6, rfl⟩ := h_
  change Go X G _ 1 _ _ (wi_size_ (wi_numbers_ (na_wn_a (nw_Witness T5 q5) q6 75) (va_up (wi_numbers (na_wn_a (nw_Witness T5 q5) q6 75)) q5 (some q6))) (va_up (wi_size (na_wn_a (nw_Witness T5 q5) q6 75)) q5 (nI 0))) 43 [(0, .ref x)] [.ref q5, .ref x]
  have ne_q4_q6 : q4 ≠ q6 := fun z => absurd ((z ▸ (kup h0_q5 K_q4) : kd _ q6 = _).symm.trans h0_q6) (by decide)
  have ne_q4_q5 : q4 ≠ q5 := fun z => absurd ((z ▸ K_q4 : kd _ q5 = _).symm.trans h0_q5) (by decide)
  have ne_q3_q6 : q3 ≠ q6 := fun z => absurd ((z ▸ (kup h0_q5 K_q3) : kd _ q6 = _).symm.trans h0_q6) (by decide)
  have ne_q3_q5 : q3 ≠ q5 := fun z => absurd ((z ▸ K_q3 : kd _ q5 = _).symm.trans h0_q5) (by decide)
  obtain ⟨T6, e_6⟩ : ∃ T_ : PS, T_ = (wi_size_ (wi_numbers_ (na_wn_a (nw_Witness T5 q5) q6 75) (va_up (wi_numbers (na_wn_a (nw_Witness T5 q5) q6 75)) q5 (some q6))) (va_up (wi_size (na_wn_a (nw_Witness T5 q5) q6 75)) q5 (nI 0))) := ⟨_, rfl⟩
  have K_x_ : kd T6 x = 10 := by rw [e_6]; exact (kup h0_q6 (kup h0_q5 K_x))
  have N_2_ : ∀ a, kd T6 a ≠ 2 := by rw [e_6]; exact (nk_up (nk_up N_2 (by decide)) (by decide))
  have U_22_ : ∀ a, kd T6 a < 22 := by rw [e_6]; exact (lt_up (lt_up U_22 (by decide)) (by decide))
  have N_11_ : ∀ a, kd T6 a ≠ 11 := by rw [e_6]; exact (nk_up (nk_up N_11 (by decide)) (by decide))
  have K_q0_ : kd T6 q0 = 20 := by rw [e_6]; exact (kup h0_q6 (kup h0_q5 K_q0))
  have G_pl_ : ba_places T6 = some q0 := by rw [e_6]; exact G_pl
  have G_pa_ : pl_a T6 = fun _ => none := by rw [e_6]; exact G_pa
  have K_q1_ : kd T6 q1 = 8 := by rw [e_6]; exact (kup h0_q6 (kup h0_q5 K_q1))
  have K_q2_ : kd T6 q2 = 21 := by rw [e_6]; exact (kup h0_q6 (kup h0_q5 K_q2))
  have G_tb_ : tp_bytes T6 = some q2 := by rw [e_6]; exact G_tb
  have G_tu_ : tp_used T6 = nI 0 := by rw [e_6]; exact G_tu
  have G_re_ : ba_reel T6 = some q1 := by rw [e_6]; exact G_re
  have K_q3_ : kd T6 q3 = 9 := by rw [e_6]; exact (kup h0_q6 (kup h0_q5 K_q3))
  have K_q4_ : kd T6 q4 = 16 := by rw [e_6]; exact (kup h0_q6 (kup h0_q5 K_q4))
  have L_q4_ : ln T6 q4 = 75 := by rw [e_6]; exact (va_up_ne _ _ ne_q4_q6).trans L_q4
  have C_nq3_ : wi_numbers T6 q3 = some q4 := by rw [e_6]; exact (va_up_ne _ _ ne_q3_q5).trans ((va_up_ne _ _ ne_q3_q5).trans C_nq3)
  have C_sq3_ : wi_size T6 q3 = nI 0 := by rw [e_6]; exact (va_up_ne _ _ ne_q3_q5).trans ((va_up_ne _ _ ne_q3_q5).trans C_sq3)
  have G_sh_ : ba_shown T6 = some q3 := by rw [e_6]; exact G_sh
  have K_q5_ : kd T6 q5 = 9 := by rw [e_6]; exact kup h0_q6 (va_up_self _ _ _)
  have K_q6_ : kd T6 q6 = 16 := by rw [e_6]; exact va_up_self _ _ _
  have L_q6_ : ln T6 q6 = 75 := by rw [e_6]; exact va_up_self _ _ _
  have C_nq5_ : wi_numbers T6 q5 = some q6 := by rw [e_6]; exact va_up_self _ _ _
  have C_sq5_ : wi_size T6 q5 = nI 0 := by rw [e_6]; exact va_up_self _ _ _
  have K_x := K_x_
  have N_2 := N_2_
  have U_22 := U_22_
  have N_11 := N_11_
  have K_q0 := K_q0_
  have G_pl := G_pl_
  have G_pa := G_pa_
  have K_q1 := K_q1_
  have K_q2 := K_q2_
  have G_tb := G_tb_
  have G_tu := G_tu_
  have G_re := G_re_
  have K_q3 := K_q3_
  have K_q4 := K_q4_
  have L_q4 := L_q4_
  have C_nq3 := C_nq3_
  have C_sq3 := C_sq3_
  have G_sh := G_sh_
  have K_q5 := K_q5_
  have K_q6 := K_q6_
  have L_q6 := L_q6_
  have C_nq5 := C_nq5_
  have C_sq5 := C_sq5_
  refine g_st (S' := T6) e_6.symm ?_
  refine pp_ba_asked C dX10_init_43 K_x wF_X10_29 (Or.inr ⟨rfl, rfl, rfl⟩) ?_
  obtain ⟨T7, e_7⟩ : ∃ T_ : PS, T_ = ba_asked_ T6 (some q5) := ⟨_, rfl⟩
  have K_x_ : kd T7 x = 10 := by rw [e_7]; exact K_x
  have N_2_ : ∀ a, kd T7 a ≠ 2 := by rw [e_7]; exact N_2
  have U_22_ : ∀ a, kd T7 a < 22 := by rw [e_7]; exact U_22
  have N_11_ : ∀ a, kd T7 a ≠ 11 := by rw [e_7]; exact N_11
  have K_q0_ : kd T7 q0 = 20 := by rw [e_7]; exact K_q0
  have G_pl_ : ba_places T7 = some q0 := by rw [e_7]; exact G_pl
  have G_pa_ : pl_a T7 = fun _ => none := by rw [e_7]; exact G_pa
  have K_q1_ : kd T7 q1 = 8 := by rw [e_7]; exact K_q1
  have K_q2_ : kd T7 q2 = 21 := by rw [e_7]; exact K_q2
  have G_tb_ : tp_bytes T7 = some q2 := by rw [e_7]; exact G_tb
  have G_tu_ : tp_used T7 = nI 0 := by rw [e_7]; exact G_tu
  have G_re_ : ba_reel T7 = some q1 := by rw [e_7]; exact G_re
  have K_q3_ : kd T7 q3 = 9 := by rw [e_7]; exact K_q3
  have K_q4_ : kd T7 q4 = 16 := by rw [e_7]; exact K_q4
  have L_q4_ : ln T7 q4 = 75 := by rw [e_7]; exact L_q4
  have C_nq3_ : wi_numbers T7 q3 = some q4 := by rw [e_7]; exact C_nq3
  have C_sq3_ : wi_size T7 q3 = nI 0 := by rw [e_7]; exact C_sq3
  have G_sh_ : ba_shown T7 = some q3 := by rw [e_7]; exact G_sh
  have K_q5_ : kd T7 q5 = 9 := by rw [e_7]; exact K_q5
  have K_q6_ : kd T7 q6 = 16 := by rw [e_7]; exact K_q6
  have L_q6_ : ln T7 q6 = 75 := by rw [e_7]; exact L_q6
  have C_nq5_ : wi_numbers T7 q5 = some q6 := by rw [e_7]; exact C_nq5
  have C_sq5_ : wi_size T7 q5 = nI 0 := by rw [e_7]; exact C_sq5
  have G_as_ : ba_asked T7 = some q5 := by rw [e_7]; try exact rfl
  have K_x := K_x_
  have N_2 := N_2_
  have U_22 := U_22_
  have N_11 := N_11_
  have K_q0 := K_q0_
  have G_pl := G_pl_
  have G_pa := G_pa_
  have K_q1 := K_q1_
  have K_q2 := K_q2_
  have G_tb := G_tb_
  have G_tu := G_tu_
  have G_re := G_re_
  have K_q3 := K_q3_
  have K_q4 := K_q4_
  have L_q4 := L_q4_
  have C_nq3 := C_nq3_
  have C_sq3 := C_sq3_
  have G_sh := G_sh_
  have K_q5 := K_q5_
  have K_q6 := K_q6_
  have L_q6 := L_q6_
  have C_nq5 := C_nq5_
  have C_sq5 := C_sq5_
  have G_as := G_as_
  refine g_st (S' := T7) e_7.symm ?_
  refine g_aload_n 0 0 C dX10_init_46 rfl rfl ?_
  refine gw_Binder C dX10_init_47 wK_X10_32 N_2 ⟨by decide, by decide⟩ (fun q7 h0_q7 => ?_)
  refine g_dup C dX10_init_50 rfl ?_
  have K_q7 : kd (nw_Binder T7 q7) q7 = 2 := va_up_self _ _ _
  have U_t : ∀ a, kd (nw_Binder T7 q7) a < 22 := lt_up U_22 (by decide)
  refine g_callIN (As := []) (rest := [.ref q7, .ref x]) C dX10_init_51 (c_Bi_init K_q7 U_t) wC_X1_init C.2.2.2.2.2.1.2.2.2.2.2.2.1 wI_X1_init wN_X1 rfl hd_X1_init.2 ⟨by decide, by decide, by decide, by decide⟩ (Nat.le_of_ble_eq_true rfl) (fun r_ S_ h_ => ?_)
  obtain ⟨q8, q9, q10, q11, q12, rfl, rfl, h0_q8, h0_q9, h0_q10, h0_q11, h0_q12⟩ := h_
  change Go X G _ 1 _ _ (bi_nodes_ (bi_degree_ (na_dg_a (bi_stem_ (na_st_a (bi_depth_ (na_de_a (bi_first_ (na_fi_a (bi_alike_ (na_al_a (nw_Binder T7 q7) q8) (some q8)) q9) (some q9)) q10) (some q10)) q11) (some q11)) q12) (some q12)) (nI 0)) 54 [(0, .ref x)] [.ref q7, .ref x]
  obtain ⟨T8, e_8⟩ : ∃ T_ : PS, T_ = (bi_nodes_ (bi_degree_ (na_dg_a (bi_stem_ (na_st_a (bi_depth_ (na_de_a (bi_first_ (na_fi_a (bi_alike_ (na_al_a (nw_Binder T7 q7) q8) (some q8)) q9) (some q9)) q10) (some q10)) q11) (some q11)) q12) (some q12)) (nI 0)) := ⟨_, rfl⟩
  have K_x_ : kd T8 x = 10 := by rw [e_8]; exact (kup h0_q12 (kup h0_q11 (kup h0_q10 (kup h0_q9 (kup h0_q8 (kup h0_q7 K_x))))))
  have N_11_ : ∀ a, kd T8 a ≠ 11 := by rw [e_8]; exact (nk_up (nk_up (nk_up (nk_up (nk_up (nk_up N_11 (by decide)) (by decide)) (by decide)) (by decide)) (by decide)) (by decide))
  have K_q0_ : kd T8 q0 = 20 := by rw [e_8]; exact (kup h0_q12 (kup h0_q11 (kup h0_q10 (kup h0_q9 (kup h0_q8 (kup h0_q7 K_q0))))))
  have G_pl_ : ba_places T8 = some q0 := by rw [e_8]; exact G_pl
  have G_pa_ : pl_a T8 = fun _ => none := by rw [e_8]; exact G_pa
  have K_q1_ : kd T8 q1 = 8 := by rw [e_8]; exact (kup h0_q12 (kup h0_q11 (kup h0_q10 (kup h0_q9 (kup h0_q8 (kup h0_q7 K_q1))))))
  have K_q2_ : kd T8 q2 = 21 := by rw [e_8]; exact (kup h0_q12 (kup h0_q11 (kup h0_q10 (kup h0_q9 (kup h0_q8 (kup h0_q7 K_q2))))))
  have G_tb_ : tp_bytes T8 = some q2 := by rw [e_8]; exact G_tb
  have G_tu_ : tp_used T8 = nI 0 := by rw [e_8]; exact G_tu
  have G_re_ : ba_reel T8 = some q1 := by rw [e_8]; exact G_re
  have K_q3_ : kd T8 q3 = 9 := by rw [e_8]; exact (kup h0_q12 (kup h0_q11 (kup h0_q10 (kup h0_q9 (kup h0_q8 (kup h0_q7 K_q3))))))
  have K_q4_ : kd T8 q4 = 16 := by rw [e_8]; exact (kup h0_q12 (kup h0_q11 (kup h0_q10 (kup h0_q9 (kup h0_q8 (kup h0_q7 K_q4))))))
  have L_q4_ : ln T8 q4 = 75 := by rw [e_8]; exact L_q4
  have C_nq3_ : wi_numbers T8 q3 = some q4 := by rw [e_8]; exact C_nq3
  have C_sq3_ : wi_size T8 q3 = nI 0 := by rw [e_8]; exact C_sq3
  have G_sh_ : ba_shown T8 = some q3 := by rw [e_8]; exact G_sh
  have K_q5_ : kd T8 q5 = 9 := by rw [e_8]; exact (kup h0_q12 (kup h0_q11 (kup h0_q10 (kup h0_q9 (kup h0_q8 (kup h0_q7 K_q5))))))
  have K_q6_ : kd T8 q6 = 16 := by rw [e_8]; exact (kup h0_q12 (kup h0_q11 (kup h0_q10 (kup h0_q9 (kup h0_q8 (kup h0_q7 K_q6))))))
  have L_q6_ : ln T8 q6 = 75 := by rw [e_8]; exact L_q6
  have C_nq5_ : wi_numbers T8 q5 = some q6 := by rw [e_8]; exact C_nq5
  have C_sq5_ : wi_size T8 q5 = nI 0 := by rw [e_8]; exact C_sq5
  have G_as_ : ba_asked T8 = some q5 := by rw [e_8]; exact G_as
  have K_q7_ : kd T8 q7 = 2 := by rw [e_8]; exact kup h0_q12 (kup h0_q11 (kup h0_q10 (kup h0_q9 (kup h0_q8 (va_up_self _ _ _)))))
  have K_q8_ : kd T8 q8 = 22 := by rw [e_8]; exact (kup h0_q12 (kup h0_q11 (kup h0_q10 (kup h0_q9 (va_up_self _ _ _)))))
  have G_q8_ : bi_alike T8 = some q8 := by rw [e_8]; try exact rfl
  have K_q9_ : kd T8 q9 = 23 := by rw [e_8]; exact (kup h0_q12 (kup h0_q11 (kup h0_q10 (va_up_self _ _ _))))
  have G_q9_ : bi_first T8 = some q9 := by rw [e_8]; try exact rfl
  have K_q10_ : kd T8 q10 = 24 := by rw [e_8]; exact (kup h0_q12 (kup h0_q11 (va_up_self _ _ _)))
  have G_q10_ : bi_depth T8 = some q10 := by rw [e_8]; try exact rfl
  have K_q11_ : kd T8 q11 = 25 := by rw [e_8]; exact (kup h0_q12 (va_up_self _ _ _))
  have G_q11_ : bi_stem T8 = some q11 := by rw [e_8]; try exact rfl
  have K_q12_ : kd T8 q12 = 26 := by rw [e_8]; exact (va_up_self _ _ _)
  have G_q12_ : bi_degree T8 = some q12 := by rw [e_8]; try exact rfl
  have U_30_ : ∀ a, kd T8 a < 30 := by rw [e_8]; exact lt_up (lt_up (lt_up (lt_up (lt_up (fun a => Nat.lt_trans (U_t a) (by decide)) (by decide)) (by decide)) (by decide)) (by decide)) (by decide)
  have K_x := K_x_
  have N_11 := N_11_
  have K_q0 := K_q0_
  have G_pl := G_pl_
  have G_pa := G_pa_
  have K_q1 := K_q1_
  have K_q2 := K_q2_
  have G_tb := G_tb_
  have G_tu := G_tu_
  have G_re := G_re_
  have K_q3 := K_q3_
  have K_q4 := K_q4_
  have L_q4 := L_q4_
  have C_nq3 := C_nq3_
  have C_sq3 := C_sq3_
  have G_sh := G_sh_
  have K_q5 := K_q5_
  have K_q6 := K_q6_
  have L_q6 := L_q6_
  have C_nq5 := C_nq5_
  have C_sq5 := C_sq5_
  have G_as := G_as_
  have K_q7 := K_q7_
  have K_q8 := K_q8_
  have G_q8 := G_q8_
  have K_q9 := K_q9_
  have G_q9 := G_q9_
  have K_q10 := K_q10_
  have G_q10 := G_q10_
  have K_q11 := K_q11_
  have G_q11 := G_q11_
  have K_q12 := K_q12_
  have G_q12 := G_q12_
  have U_30 := U_30_
  refine g_st (S' := T8) e_8.symm ?_
  refine pp_ba_binder C dX10_init_54 K_x wF_X10_35 (Or.inr ⟨rfl, rfl, rfl⟩) ?_
  obtain ⟨T9, e_9⟩ : ∃ T_ : PS, T_ = ba_binder_ T8 (some q7) := ⟨_, rfl⟩
  have K_x_ : kd T9 x = 10 := by rw [e_9]; exact K_x
  have N_11_ : ∀ a, kd T9 a ≠ 11 := by rw [e_9]; exact N_11
  have K_q0_ : kd T9 q0 = 20 := by rw [e_9]; exact K_q0
  have G_pl_ : ba_places T9 = some q0 := by rw [e_9]; exact G_pl
  have G_pa_ : pl_a T9 = fun _ => none := by rw [e_9]; exact G_pa
  have K_q1_ : kd T9 q1 = 8 := by rw [e_9]; exact K_q1
  have K_q2_ : kd T9 q2 = 21 := by rw [e_9]; exact K_q2
  have G_tb_ : tp_bytes T9 = some q2 := by rw [e_9]; exact G_tb
  have G_tu_ : tp_used T9 = nI 0 := by rw [e_9]; exact G_tu
  have G_re_ : ba_reel T9 = some q1 := by rw [e_9]; exact G_re
  have K_q3_ : kd T9 q3 = 9 := by rw [e_9]; exact K_q3
  have K_q4_ : kd T9 q4 = 16 := by rw [e_9]; exact K_q4
  have L_q4_ : ln T9 q4 = 75 := by rw [e_9]; exact L_q4
  have C_nq3_ : wi_numbers T9 q3 = some q4 := by rw [e_9]; exact C_nq3
  have C_sq3_ : wi_size T9 q3 = nI 0 := by rw [e_9]; exact C_sq3
  have G_sh_ : ba_shown T9 = some q3 := by rw [e_9]; exact G_sh
  have K_q5_ : kd T9 q5 = 9 := by rw [e_9]; exact K_q5
  have K_q6_ : kd T9 q6 = 16 := by rw [e_9]; exact K_q6
  have L_q6_ : ln T9 q6 = 75 := by rw [e_9]; exact L_q6
  have C_nq5_ : wi_numbers T9 q5 = some q6 := by rw [e_9]; exact C_nq5
  have C_sq5_ : wi_size T9 q5 = nI 0 := by rw [e_9]; exact C_sq5
  have G_as_ : ba_asked T9 = some q5 := by rw [e_9]; exact G_as
  have K_q7_ : kd T9 q7 = 2 := by rw [e_9]; exact K_q7
  have K_q8_ : kd T9 q8 = 22 := by rw [e_9]; exact K_q8
  have G_q8_ : bi_alike T9 = some q8 := by rw [e_9]; exact G_q8
  have K_q9_ : kd T9 q9 = 23 := by rw [e_9]; exact K_q9
  have G_q9_ : bi_first T9 = some q9 := by rw [e_9]; exact G_q9
  have K_q10_ : kd T9 q10 = 24 := by rw [e_9]; exact K_q10
  have G_q10_ : bi_depth T9 = some q10 := by rw [e_9]; exact G_q10
  have K_q11_ : kd T9 q11 = 25 := by rw [e_9]; exact K_q11
  have G_q11_ : bi_stem T9 = some q11 := by rw [e_9]; exact G_q11
  have K_q12_ : kd T9 q12 = 26 := by rw [e_9]; exact K_q12
  have G_q12_ : bi_degree T9 = some q12 := by rw [e_9]; exact G_q12
  have U_30_ : ∀ a, kd T9 a < 30 := by rw [e_9]; exact U_30
  have G_bi_ : ba_binder T9 = some q7 := by rw [e_9]; try exact rfl
  have K_x := K_x_
  have N_11 := N_11_
  have K_q0 := K_q0_
  have G_pl := G_pl_
  have G_pa := G_pa_
  have K_q1 := K_q1_
  have K_q2 := K_q2_
  have G_tb := G_tb_
  have G_tu := G_tu_
  have G_re := G_re_
  have K_q3 := K_q3_
  have K_q4 := K_q4_
  have L_q4 := L_q4_
  have C_nq3 := C_nq3_
  have C_sq3 := C_sq3_
  have G_sh := G_sh_
  have K_q5 := K_q5_
  have K_q6 := K_q6_
  have L_q6 := L_q6_
  have C_nq5 := C_nq5_
  have C_sq5 := C_sq5_
  have G_as := G_as_
  have K_q7 := K_q7_
  have K_q8 := K_q8_
  have G_q8 := G_q8_
  have K_q9 := K_q9_
  have G_q9 := G_q9_
  have K_q10 := K_q10_
  have G_q10 := G_q10_
  have K_q11 := K_q11_
  have G_q11 := G_q11_
  have K_q12 := K_q12_
  have G_q12 := G_q12_
  have U_30 := U_30_
  have G_bi := G_bi_
  refine g_st (S' := T9) e_9.symm ?_
  refine g_aload_n 0 0 C dX10_init_57 rfl rfl ?_
  refine gw_Listing C dX10_init_58 wK_X10_39 ⟨by decide, by decide⟩ (fun q13 h0_q13 => ?_)
  refine g_dup C dX10_init_61 rfl ?_
  refine g_bipush (v := nI 100) C dX10_init_62 (by decide) ?_
  have hdum := h0_q13
  refine g_callI (As := [.int (nI 100)]) (rest := [.ref q13, .ref x]) C dX10_init_64 (c_L_init2 (S := (nw_Listing T9 q13)) (room := 100) (va_up_self _ _ _) (by decide)) wC_X4_init wM_X10_41 wI_X4_init wN_X4 rfl hd_X4_init.2 ⟨by decide, by decide, by decide, by decide⟩ (Nat.le_of_ble_eq_true rfl) (fun r_ Sl h_ => ?_)
  obtain ⟨nr, va, rfl, fl, hml, hll, hn0, hv0, hkd⟩ := h_
  change Go X G _ 1 _ _ Sl 67 [(0, .ref x)] [.ref q13, .ref x]
  have fL : Fr T9 Sl No := ((Fr.refl _ No).n_Listing h0_q13).trans fl (fun b hb e => absurd h0_q13 (e ▸ hb))
  have K_x_ : kd Sl x = 10 := fL.kd_ K_x
  have N_11_ : ∀ a, kd Sl a ≠ 11 := (fun a => by rw [hkd]; exact nk_up (nk_up (nk_up N_11 (by decide)) (by decide)) (by decide) a)
  have K_q0_ : kd Sl q0 = 20 := fL.kd_ K_q0
  have G_pl_ : ba_places Sl = some q0 := (fe_ba_places fL.2.2).trans G_pl
  have G_pa_ : pl_a Sl = fun _ => none := (congrArg (fun q => q.2.2.1) hml).trans G_pa
  have K_q1_ : kd Sl q1 = 8 := fL.kd_ K_q1
  have K_q2_ : kd Sl q2 = 21 := fL.kd_ K_q2
  have G_tb_ : tp_bytes Sl = some q2 := (fe_tp_bytes fL.2.2).trans G_tb
  have G_tu_ : tp_used Sl = nI 0 := (congrArg (fun q => q.2.1) hml).trans G_tu
  have G_re_ : ba_reel Sl = some q1 := (fe_ba_reel fL.2.2).trans G_re
  have K_q3_ : kd Sl q3 = 9 := fL.kd_ K_q3
  have K_q4_ : kd Sl q4 = 16 := fL.kd_ K_q4
  have L_q4_ : ln Sl q4 = 75 := fL.ln_ K_q4 L_q4
  have C_nq3_ : wi_numbers Sl q3 = some q4 := (ce_wi_numbers (fL.2.1 q3 (by rw [K_q3]; decide) (Or.inl fun z => z))).trans C_nq3
  have C_sq3_ : wi_size Sl q3 = nI 0 := (ce_wi_size (fL.2.1 q3 (by rw [K_q3]; decide) (Or.inl fun z => z))).trans C_sq3
  have G_sh_ : ba_shown Sl = some q3 := (fe_ba_shown fL.2.2).trans G_sh
  have K_q5_ : kd Sl q5 = 9 := fL.kd_ K_q5
  have K_q6_ : kd Sl q6 = 16 := fL.kd_ K_q6
  have L_q6_ : ln Sl q6 = 75 := fL.ln_ K_q6 L_q6
  have C_nq5_ : wi_numbers Sl q5 = some q6 := (ce_wi_numbers (fL.2.1 q5 (by rw [K_q5]; decide) (Or.inl fun z => z))).trans C_nq5
  have C_sq5_ : wi_size Sl q5 = nI 0 := (ce_wi_size (fL.2.1 q5 (by rw [K_q5]; decide) (Or.inl fun z => z))).trans C_sq5
  have G_as_ : ba_asked Sl = some q5 := (fe_ba_asked fL.2.2).trans G_as
  have K_q7_ : kd Sl q7 = 2 := fL.kd_ K_q7
  have K_q8_ : kd Sl q8 = 22 := fL.kd_ K_q8
  have G_q8_ : bi_alike Sl = some q8 := (fe_bi_alike fL.2.2).trans G_q8
  have K_q9_ : kd Sl q9 = 23 := fL.kd_ K_q9
  have G_q9_ : bi_first Sl = some q9 := (fe_bi_first fL.2.2).trans G_q9
  have K_q10_ : kd Sl q10 = 24 := fL.kd_ K_q10
  have G_q10_ : bi_depth Sl = some q10 := (fe_bi_depth fL.2.2).trans G_q10
  have K_q11_ : kd Sl q11 = 25 := fL.kd_ K_q11
  have G_q11_ : bi_stem Sl = some q11 := (fe_bi_stem fL.2.2).trans G_q11
  have K_q12_ : kd Sl q12 = 26 := fL.kd_ K_q12
  have G_q12_ : bi_degree Sl = some q12 := (fe_bi_degree fL.2.2).trans G_q12
  have U_30_ : ∀ a, kd Sl a < 30 := (fun a => by rw [hkd]; exact lt_up (lt_up (lt_up U_30 (by decide)) (by decide)) (by decide) a)
  have G_bi_ : ba_binder Sl = some q7 := (fe_ba_binder fL.2.2).trans G_bi
  have K_x := K_x_
  have N_11 := N_11_
  have K_q0 := K_q0_
  have G_pl := G_pl_
  have G_pa := G_pa_
  have K_q1 := K_q1_
  have K_q2 := K_q2_
  have G_tb := G_tb_
  have G_tu := G_tu_
  have G_re := G_re_
  have K_q3 := K_q3_
  have K_q4 := K_q4_
  have L_q4 := L_q4_
  have C_nq3 := C_nq3_
  have C_sq3 := C_sq3_
  have G_sh := G_sh_
  have K_q5 := K_q5_
  have K_q6 := K_q6_
  have L_q6 := L_q6_
  have C_nq5 := C_nq5_
  have C_sq5 := C_sq5_
  have G_as := G_as_
  have K_q7 := K_q7_
  have K_q8 := K_q8_
  have G_q8 := G_q8_
  have K_q9 := K_q9_
  have G_q9 := G_q9_
  have K_q10 := K_q10_
  have G_q10 := G_q10_
  have K_q11 := K_q11_
  have G_q11 := G_q11_
  have K_q12 := K_q12_
  have G_q12 := G_q12_
  have U_30 := U_30_
  have G_bi := G_bi_
  have K_q13 := hll.1.1
  refine pp_ba_pending C dX10_init_67 K_x wF_X10_44 (Or.inr ⟨rfl, rfl, rfl⟩) ?_
  refine g_aload_n 0 0 C dX10_init_70 rfl rfl ?_
  refine g_iconst (v := nI 0) C dX10_init_71 (by decide) ?_
  refine pp_ba_refusal C dX10_init_72 K_x wF_X10_48 (Or.inl rfl) ?_
  have hRC : RC (ba_refusal_ (ba_pending_ Sl (some q13)) (nI 0)) Z0 x := ⟨fun k => if k = 0 then q0 else if k = 1 then q1 else if k = 2 then q2 else if k = 3 then q3 else if k = 4 then q4 else if k = 5 then q5 else if k = 6 then q6 else if k = 7 then q7 else if k = 8 then q8 else if k = 9 then q9 else if k = 10 then q10 else if k = 11 then q11 else if k = 12 then q12 else if k = 13 then q13 else if k = 14 then nr else va, fun _ _ => 0,
    ⟨⟨K_x, G_pl, K_q0⟩, G_re, G_sh, G_as, ⟨G_bi, K_q7⟩, ⟨G_q8, K_q8⟩, ⟨G_q9, K_q9⟩, ⟨G_q10, K_q10⟩, ⟨G_q11, K_q11⟩, ⟨G_q12, K_q12⟩, rfl⟩, ⟨⟨K_q1, G_tb, K_q2⟩, G_tu, Nat.zero_le _, fun i hi => absurd hi (Nat.not_lt_zero _), fun i hi => absurd hi (Nat.not_lt_zero _)⟩, fun p _ => by show pl_a Sl p = _; rw [G_pa]; rfl, fun t ⟨p, _, h⟩ => absurd h (show ¬ (0 : Nat) = t + 1 by omega), rfl, ⟨⟨K_q3, C_nq3⟩, ⟨K_q4, L_q4⟩, C_sq3, Nat.zero_le _, fun i hi => absurd hi (Nat.not_lt_zero _)⟩, ⟨[], ⟨K_q5, C_nq5⟩, ⟨K_q6, L_q6⟩, C_sq5, Nat.zero_le _, fun i hi => absurd hi (Nat.not_lt_zero _)⟩, ⟨[], hll⟩, ⟨fun t u ⟨p, _, h⟩ => absurd h (show ¬ (0 : Nat) = t + 1 by omega), fun t ⟨p, _, h⟩ => absurd h (show ¬ (0 : Nat) = t + 1 by omega), ne_q3_q5, ne_q4_q6⟩⟩
  exact g_vret C dX10_init_75 (by decide) (by decide) ⟨rfl, hRC, U_30, N_11⟩
