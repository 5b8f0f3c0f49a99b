abbrev A3 (a b c : Nat) : Nat → Prop := fun q => q = a ∨ q = b ∨ q = c
theorem Fb.of {S : PS} {A : Nat → Prop} {b k : Nat} (h : kd S b = k) (hA : A b) (h6 : k ≠ 6 := by decide) (h12 : k ≠ 12 := by decide) : Fb S A b := Or.inr ⟨hA, by rw [h]; exact h6, by rw [h]; exact h12⟩
theorem ne_kd {S : PS} {a b k j : Nat} (ha : kd S a = k) (hb : kd S b = j) (h : k ≠ j := by decide) : a ≠ b := fun e => h (by rw [← ha, ← hb, e])
set_option maxRecDepth 100000 in
set_option maxHeartbeats 2000000 in
theorem c_N_init {lX : Launch} {G : Gx} {S : PS} {a b : Nat} (hk : kd S a = 6) : Ct lX yX5_init cX5_init 2 (Option.none : Option Jvm.ClassFile.FieldType) rm_X5_init G [.ref a, .ref b] S (fun r S' => r = none ∧ S' = nm_bytes_ S (va_up (nm_bytes S) a (some b))) := by
  refine Ct.mk RX5 "<init>" hy_X5_init (Nat.le_of_ble_eq_true rfl) (fun X hX C => ?_)
  change Go X G _ 2 0 0 S 0 [(0, .ref a), (1, .ref b)] []
  refine g_aload_n 0 0 C dX5_init_0 rfl rfl ?_
  refine g_objInit C dX5_init_1 wM_X5_3 ⟨by decide, by decide⟩ (Nat.le_of_ble_eq_true rfl) ?_
  refine g_aload_n 0 0 C dX5_init_4 rfl rfl ?_
  refine g_aload_n 1 1 C dX5_init_5 rfl rfl ?_
  refine pp_nm_bytes C dX5_init_6 hk wF_X5_9 (Or.inr ⟨rfl, rfl, rfl⟩) ?_
  exact g_vret C dX5_init_9 (by decide) (by decide) (⟨rfl, rfl⟩)
set_option maxRecDepth 100000 in
set_option maxHeartbeats 2000000 in
theorem c_Th_initB {lX : Launch} {G : Gx} {S : PS} {a : Nat} {v : Int32} (hk : kd S a = 1) : Ct lX yX8_init cX8_init 2 (Option.none : Option Jvm.ClassFile.FieldType) rm_X8_init G [.ref a, .int v] S (fun r S' => r = none ∧ S' = br_kind_ S (va_up (br_kind S) a v)) := by
  refine Ct.mk RX8 "<init>" hy_X8_init (Nat.le_of_ble_eq_true rfl) (fun X hX C => ?_)
  change Go X G _ 2 0 0 S 0 [(0, .ref a), (1, .int v)] []
  refine g_aload_n 0 0 C dX8_init_0 rfl rfl ?_
  refine g_objInit C dX8_init_1 wM_X8_1 ⟨by decide, by decide⟩ (Nat.le_of_ble_eq_true rfl) ?_
  refine g_aload_n 0 0 C dX8_init_4 rfl rfl ?_
  refine g_iload_n 1 1 C dX8_init_5 rfl rfl ?_
  refine pp_br_kind C dX8_init_6 hk wF_X8_7 (Or.inr ⟨rfl, rfl, rfl⟩) ?_
  exact g_vret C dX8_init_9 (by decide) (by decide) (⟨rfl, rfl⟩)
set_option maxRecDepth 100000 in
set_option maxHeartbeats 2000000 in
theorem c_Th_initK {lX : Launch} {G : Gx} {S : PS} {a : Nat} {v : Int32} (hk : kd S a = 3) : Ct lX yX8_init cX8_init 2 (Option.none : Option Jvm.ClassFile.FieldType) rm_X8_init G [.ref a, .int v] S (fun r S' => r = none ∧ S' = bk_kind_ S (va_up (bk_kind S) a v)) := by
  refine Ct.mk RX8 "<init>" hy_X8_init (Nat.le_of_ble_eq_true rfl) (fun X hX C => ?_)
  change Go X G _ 2 0 0 S 0 [(0, .ref a), (1, .int v)] []
  refine g_aload_n 0 0 C dX8_init_0 rfl rfl ?_
  refine g_objInit C dX8_init_1 wM_X8_1 ⟨by decide, by decide⟩ (Nat.le_of_ble_eq_true rfl) ?_
  refine g_aload_n 0 0 C dX8_init_4 rfl rfl ?_
  refine g_iload_n 1 1 C dX8_init_5 rfl rfl ?_
  refine pp_bk_kind C dX8_init_6 hk wF_X8_7 (Or.inr ⟨rfl, rfl, rfl⟩) ?_
  exact g_vret C dX8_init_9 (by decide) (by decide) (⟨rfl, rfl⟩)
set_option maxRecDepth 100000 in
set_option maxHeartbeats 2000000 in
theorem c_Th_initD {lX : Launch} {G : Gx} {S : PS} {a : Nat} {v : Int32} (hk : kd S a = 4) : Ct lX yX8_init cX8_init 2 (Option.none : Option Jvm.ClassFile.FieldType) rm_X8_init G [.ref a, .int v] S (fun r S' => r = none ∧ S' = dr_kind_ S (va_up (dr_kind S) a v)) := by
  refine Ct.mk RX8 "<init>" hy_X8_init (Nat.le_of_ble_eq_true rfl) (fun X hX C => ?_)
  change Go X G _ 2 0 0 S 0 [(0, .ref a), (1, .int v)] []
  refine g_aload_n 0 0 C dX8_init_0 rfl rfl ?_
  refine g_objInit C dX8_init_1 wM_X8_1 ⟨by decide, by decide⟩ (Nat.le_of_ble_eq_true rfl) ?_
  refine g_aload_n 0 0 C dX8_init_4 rfl rfl ?_
  refine g_iload_n 1 1 C dX8_init_5 rfl rfl ?_
  refine pp_dr_kind C dX8_init_6 hk wF_X8_7 (Or.inr ⟨rfl, rfl, rfl⟩) ?_
  exact g_vret C dX8_init_9 (by decide) (by decide) (⟨rfl, rfl⟩)
set_option maxRecDepth 100000 in
set_option maxHeartbeats 2000000 in
theorem c_D_init {lX : Launch} {G : Gx} {S : PS} {a b : Nat} (hk : kd S a = 4) : Ct lX yX3_init cX3_init 2 (Option.none : Option Jvm.ClassFile.FieldType) rm_X3_init G [.ref a, .ref b] S (fun r S' => r = none ∧ S' = dr_list_ (dr_kind_ S (va_up (dr_kind S) a (nI 6))) (va_up (dr_list S) a (some b))) := by
  refine Ct.mk RX3 "<init>" hy_X3_init (Nat.le_of_ble_eq_true rfl) (fun X hX C => ?_)
  change Go X G _ 2 0 0 S 0 [(0, .ref a), (1, .ref b)] []
  refine g_aload_n 0 0 C dX3_init_0 rfl rfl ?_
  refine g_bipush (v := nI 6) C dX3_init_1 (by decide) ?_
  refine g_callI (As := [.int (nI 6)]) (rest := []) C dX3_init_3 (c_Th_initD hk) wC_X8_init wM_X3_3 wI_X8_init wN_X8 rfl hd_X8_init.2 ⟨by decide, by decide, by decide, by decide⟩ (Nat.le_of_ble_eq_true rfl) (fun r_ S_ h_ => ?_)
  obtain ⟨rfl, rfl⟩ := h_
  change Go X G _ 2 _ _ (dr_kind_ S (va_up (dr_kind S) a (nI 6))) 6 [(0, .ref a), (1, .ref b)] []
  refine g_aload_n 0 0 C dX3_init_6 rfl rfl ?_
  refine g_aload_n 1 1 C dX3_init_7 rfl rfl ?_
  refine pp_dr_list C dX3_init_8 hk wF_X3_9 (Or.inr ⟨rfl, rfl, rfl⟩) ?_
  exact g_vret C dX3_init_11 (by decide) (by decide) (⟨rfl, rfl⟩)
set_option maxRecDepth 100000 in
set_option maxHeartbeats 2000000 in
theorem c_B_init {lX : Launch} {G : Gx} {S : PS} {a b : Nat} (hk : kd S a = 1) : Ct lX yX0_init cX0_init 2 (Option.none : Option Jvm.ClassFile.FieldType) rm_X0_init G [.ref a, .ref b] S (fun r S' => r = none ∧ S' = br_row_ (br_kind_ S (va_up (br_kind S) a (nI 7))) (va_up (br_row S) a (some b))) := by
  refine Ct.mk RX0 "<init>" hy_X0_init (Nat.le_of_ble_eq_true rfl) (fun X hX C => ?_)
  change Go X G _ 2 0 0 S 0 [(0, .ref a), (1, .ref b)] []
  refine g_aload_n 0 0 C dX0_init_0 rfl rfl ?_
  refine g_bipush (v := nI 7) C dX0_init_1 (by decide) ?_
  refine g_callI (As := [.int (nI 7)]) (rest := []) C dX0_init_3 (c_Th_initB hk) wC_X8_init wM_X0_3 wI_X8_init wN_X8 rfl hd_X8_init.2 ⟨by decide, by decide, by decide, by decide⟩ (Nat.le_of_ble_eq_true rfl) (fun r_ S_ h_ => ?_)
  obtain ⟨rfl, rfl⟩ := h_
  change Go X G _ 2 _ _ (br_kind_ S (va_up (br_kind S) a (nI 7))) 6 [(0, .ref a), (1, .ref b)] []
  refine g_aload_n 0 0 C dX0_init_6 rfl rfl ?_
  refine g_aload_n 1 1 C dX0_init_7 rfl rfl ?_
  refine pp_br_row C dX0_init_8 hk wF_X0_9 (Or.inr ⟨rfl, rfl, rfl⟩) ?_
  exact g_vret C dX0_init_11 (by decide) (by decide) (⟨rfl, rfl⟩)
set_option maxRecDepth 100000 in
set_option maxHeartbeats 2000000 in
theorem c_K_init {lX : Launch} {G : Gx} {S : PS} {a ls rw eb : Nat} {v ed pa : Int32} (hk : kd S a = 3) : Ct lX yX2_init cX2_init 7 (Option.none : Option Jvm.ClassFile.FieldType) rm_X2_init G [.ref a, .int v, .ref ls, .ref rw, .int ed, .int pa, .ref eb] S (fun r S' => r = none ∧ S' = bk_eb_ (bk_part_ (bk_edges_ (bk_row_ (bk_list_ (bk_kind_ S (va_up (bk_kind S) a v)) (va_up (bk_list S) a (some ls))) (va_up (bk_row S) a (some rw))) (va_up (bk_edges S) a ed)) (va_up (bk_part S) a pa)) (va_up (bk_eb S) a (some eb))) := by
  refine Ct.mk RX2 "<init>" hy_X2_init (Nat.le_of_ble_eq_true rfl) (fun X hX C => ?_)
  change Go X G _ 7 0 0 S 0 [(0, .ref a), (1, .int v), (2, .ref ls), (3, .ref rw), (4, .int ed), (5, .int pa), (6, .ref eb)] []
  refine g_aload_n 0 0 C dX2_init_0 rfl rfl ?_
  refine g_iload_n 1 1 C dX2_init_1 rfl rfl ?_
  refine g_callI (As := [.int v]) (rest := []) C dX2_init_2 (c_Th_initK hk) wC_X8_init wM_X2_3 wI_X8_init wN_X8 rfl hd_X8_init.2 ⟨by decide, by decide, by decide, by decide⟩ (Nat.le_of_ble_eq_true rfl) (fun r_ S_ h_ => ?_)
  obtain ⟨rfl, rfl⟩ := h_
  change Go X G _ 7 _ _ (bk_kind_ S (va_up (bk_kind S) a v)) 5 [(0, .ref a), (1, .int v), (2, .ref ls), (3, .ref rw), (4, .int ed), (5, .int pa), (6, .ref eb)] []
  refine g_aload_n 0 0 C dX2_init_5 rfl rfl ?_
  refine g_aload_n 2 2 C dX2_init_6 rfl rfl ?_
  refine pp_bk_list C dX2_init_7 hk wF_X2_9 (Or.inr ⟨rfl, rfl, rfl⟩) ?_
  refine g_aload_n 0 0 C dX2_init_10 rfl rfl ?_
  refine g_aload_n 3 3 C dX2_init_11 rfl rfl ?_
  refine pp_bk_row C dX2_init_12 hk wF_X2_15 (Or.inr ⟨rfl, rfl, rfl⟩) ?_
  refine g_aload_n 0 0 C dX2_init_15 rfl rfl ?_
  refine g_iload 4 C dX2_init_16 rfl ?_
  refine pp_bk_edges C dX2_init_18 hk wF_X2_19 (Or.inr ⟨rfl, rfl, rfl⟩) ?_
  refine g_aload_n 0 0 C dX2_init_21 rfl rfl ?_
  refine g_iload 5 C dX2_init_22 rfl ?_
  refine pp_bk_part C dX2_init_24 hk wF_X2_23 (Or.inr ⟨rfl, rfl, rfl⟩) ?_
  refine g_aload_n 0 0 C dX2_init_27 rfl rfl ?_
  refine g_aload 6 C dX2_init_28 rfl ?_
  refine pp_bk_eb C dX2_init_30 hk wF_X2_26 (Or.inr ⟨rfl, rfl, rfl⟩) ?_
  exact g_vret C dX2_init_33 (by decide) (by decide) (⟨rfl, rfl⟩)
set_option maxRecDepth 100000 in
set_option maxHeartbeats 2000000 in
theorem c_K_initN {lX : Launch} {G : Gx} {S : PS} {a ls rw eb : Nat} {v ed pa : Int32} (hk : kd S a = 3) : Ct lX yX2_init cX2_init 7 (Option.none : Option Jvm.ClassFile.FieldType) rm_X2_init G [.ref a, .int v, .ref ls, .null, .int ed, .int pa, .ref eb] S (fun r S' => r = none ∧ S' = bk_eb_ (bk_part_ (bk_edges_ (bk_row_ (bk_list_ (bk_kind_ S (va_up (bk_kind S) a v)) (va_up (bk_list S) a (some ls))) (va_up (bk_row S) a (none))) (va_up (bk_edges S) a ed)) (va_up (bk_part S) a pa)) (va_up (bk_eb S) a (some eb))) := by
  refine Ct.mk RX2 "<init>" hy_X2_init (Nat.le_of_ble_eq_true rfl) (fun X hX C => ?_)
  change Go X G _ 7 0 0 S 0 [(0, .ref a), (1, .int v), (2, .ref ls), (3, .null), (4, .int ed), (5, .int pa), (6, .ref eb)] []
  refine g_aload_n 0 0 C dX2_init_0 rfl rfl ?_
  refine g_iload_n 1 1 C dX2_init_1 rfl rfl ?_
  refine g_callI (As := [.int v]) (rest := []) C dX2_init_2 (c_Th_initK hk) wC_X8_init wM_X2_3 wI_X8_init wN_X8 rfl hd_X8_init.2 ⟨by decide, by decide, by decide, by decide⟩ (Nat.le_of_ble_eq_true rfl) (fun r_ S_ h_ => ?_)
  obtain ⟨rfl, rfl⟩ := h_
  change Go X G _ 7 _ _ (bk_kind_ S (va_up (bk_kind S) a v)) 5 [(0, .ref a), (1, .int v), (2, .ref ls), (3, .null), (4, .int ed), (5, .int pa), (6, .ref eb)] []
  refine g_aload_n 0 0 C dX2_init_5 rfl rfl ?_
  refine g_aload_n 2 2 C dX2_init_6 rfl rfl ?_
  refine pp_bk_list C dX2_init_7 hk wF_X2_9 (Or.inr ⟨rfl, rfl, rfl⟩) ?_
  refine g_aload_n 0 0 C dX2_init_10 rfl rfl ?_
  refine g_aload_nN 3 3 C dX2_init_11 rfl rfl ?_
  refine pp_bk_rowN C dX2_init_12 hk wF_X2_15 (Or.inr ⟨rfl, rfl, rfl⟩) ?_
  refine g_aload_n 0 0 C dX2_init_15 rfl rfl ?_
  refine g_iload 4 C dX2_init_16 rfl ?_
  refine pp_bk_edges C dX2_init_18 hk wF_X2_19 (Or.inr ⟨rfl, rfl, rfl⟩) ?_
  refine g_aload_n 0 0 C dX2_init_21 rfl rfl ?_
  refine g_iload 5 C dX2_init_22 rfl ?_
  refine pp_bk_part C dX2_init_24 hk wF_X2_23 (Or.inr ⟨rfl, rfl, rfl⟩) ?_
  refine g_aload_n 0 0 C dX2_init_27 rfl rfl ?_
  refine g_aload 6 C dX2_init_28 rfl ?_
  refine pp_bk_eb C dX2_init_30 hk wF_X2_26 (Or.inr ⟨rfl, rfl, rfl⟩) ?_
  exact g_vret C dX2_init_33 (by decide) (by decide) (⟨rfl, rfl⟩)
set_option maxRecDepth 100000 in
set_option maxHeartbeats 2000000 in
theorem c_L_init {lX : Launch} {G : Gx} {S : PS} {a room : Nat} (hk : kd S a = 5) (hr : room ≤ 100) : Ct lX yX4_init cX4_init 2 (Option.none : Option Jvm.ClassFile.FieldType) rm_X4_init G [.ref a, .int (nI room)] S (fun r S' => ∃ nr va, r = none ∧ Fr S S' (fun q => q = a) ∧ mu S' = mu S ∧ listC S' a nr va room [] ∧ kd S nr = 0 ∧ kd S va = 0) := by
  refine Ct.mk RX4 "<init>" hy_X4_init (Nat.le_of_ble_eq_true rfl) (fun X hX C => ?_)
  change Go X G _ 2 0 0 S 0 [(0, .ref a), (1, .int (nI room))] []
  refine g_aload_n 0 0 C dX4_init_0 rfl rfl ?_
  refine g_objInit C dX4_init_1 wM_X4_3 ⟨by decide, by decide⟩ (Nat.le_of_ble_eq_true rfl) ?_
  refine g_aload_n 0 0 C dX4_init_4 rfl rfl ?_
  refine g_iconst (v := nI 0) C dX4_init_5 (by decide) ?_
  refine pp_ls_size C dX4_init_6 hk wF_X4_9 (Or.inl rfl) ?_
  refine g_aload_n 0 0 C dX4_init_9 rfl rfl ?_
  refine g_iload_n 1 1 C dX4_init_10 rfl rfl ?_
  refine gy_nr_a C dX4_init_11 wK_X4_15 (by omega) ⟨by decide, by show (_ : Nat) ≤ 200; omega⟩ (fun q1 h0_q1 => ?_)
  refine Go.wide (k2 := 1) (n2 := 100) (by first | decide | omega) (by first | decide | omega) ?_
  refine pp_ls_names C dX4_init_14 (kup h0_q1 hk) wF_X4_17 (Or.inr ⟨rfl, rfl, rfl⟩) ?_
  refine g_aload_n 0 0 C dX4_init_17 rfl rfl ?_
  refine g_iload_n 1 1 C dX4_init_18 rfl rfl ?_
  refine gy_vl_a C dX4_init_19 (by omega) ⟨by decide, by show (_ : Nat) ≤ 200; omega⟩ (fun q2 h0_q2 => ?_)
  refine Go.wide (k2 := 2) (n2 := 200) (by first | decide | omega) (by first | decide | omega) ?_
  refine pp_ls_values C dX4_init_21 (kup h0_q2 (kup h0_q1 hk)) wF_X4_21 (Or.inr ⟨rfl, rfl, rfl⟩) ?_
  have hb : Fb S (fun q => q = a) a := Fb.of hk rfl
  have h02 : kd S q2 = 0 := ((Fr.refl S (fun q => q = a)).u_ls_size hb |>.a_nr_a h0_q1).new h0_q2
  have hne : q1 ≠ q2 := fun e => by rw [← e] at h0_q2; exact absurd ((va_up_self (kd S) q1 19).symm.trans h0_q2) (by decide)
  exact g_vret C dX4_init_24 (by decide) (by decide) ⟨q1, q2, rfl, ((((Fr.refl S (fun q => q = a)).u_ls_size hb).a_nr_a h0_q1).u_ls_names hb |>.a_vl_a h0_q2).u_ls_values hb, rfl, ⟨⟨kup h0_q2 (kup h0_q1 hk), va_up_self _ _ _, va_up_self _ _ _⟩, ⟨kup h0_q2 (va_up_self _ _ _), (va_up_ne _ _ hne).trans (va_up_self _ _ _)⟩, ⟨va_up_self _ _ _, va_up_self _ _ _⟩, va_up_self _ _ _, Nat.zero_le _, hr, fun k hk => absurd hk (Nat.not_lt_zero _)⟩, h0_q1, h02⟩
theorem rep_get (n i : Nat) : (List.replicate n 0 : List Nat).getD i 0 = 0 := by
  rw [List.getD_eq_getElem?_getD]
  rcases Nat.lt_or_ge i n with h | h
  · rw [List.getElem?_eq_getElem (by rw [List.length_replicate]; exact h), List.getElem_replicate]; rfl
  · rw [List.getElem?_eq_none (by rw [List.length_replicate]; exact h)]; rfl
theorem rep_ones (n : Nat) : ∀ i, onesN (List.replicate n 0) i = 0 := by
  intro i
  induction i with
  | zero => rfl
  | succ i ih => rw [ones_s, ih, rep_get]
theorem rep_bits (n o : Nat) : ∀ k, bitsV (List.replicate n 0) o k = 0 := by
  intro k
  induction k with
  | zero => rfl
  | succ k ih => show bitsV _ o k + (List.replicate n 0).getD (o + k) 0 * 2 ^ k = 0; rw [ih, rep_get, Nat.zero_mul]
set_option maxRecDepth 100000 in
set_option maxHeartbeats 2000000 in
theorem c_R_init {lX : Launch} {G : Gx} {S : PS} {a n : Nat} (hk : kd S a = 7) (hn : n ≤ 4802) : Ct lX yX6_init cX6_init 2 (Option.none : Option Jvm.ClassFile.FieldType) rm_X6_init G [.ref a, .int (nI n)] S (fun r S' => ∃ wd ta tb, r = none ∧ Fr S S' (fun q => q = a) ∧ mu S' = mu S ∧ rowC S' a wd ta tb (List.replicate n 0) false false ∧ kd S wd = 0 ∧ kd S ta = 0 ∧ kd S tb = 0) := by
  refine Ct.mk RX6 "<init>" hy_X6_init (Nat.le_of_ble_eq_true rfl) (fun X hX C => ?_)
  change Go X G _ 2 0 0 S 0 [(0, .ref a), (1, .int (nI n))] []
  refine g_aload_n 0 0 C dX6_init_0 rfl rfl ?_
  refine g_objInit C dX6_init_1 wM_X6_3 ⟨by decide, by decide⟩ (Nat.le_of_ble_eq_true rfl) ?_
  refine g_aload_n 0 0 C dX6_init_4 rfl rfl ?_
  refine g_iconst (v := nI 0) C dX6_init_5 (by decide) ?_
  refine pp_rw_la C dX6_init_6 hk wF_X6_9 (Or.inl rfl) (by decide) ?_
  refine g_aload_n 0 0 C dX6_init_9 rfl rfl ?_
  refine g_iconst (v := nI 0) C dX6_init_10 (by decide) ?_
  refine pp_rw_lb C dX6_init_11 hk wF_X6_15 (Or.inl rfl) (by decide) ?_
  refine g_aload_n 0 0 C dX6_init_14 rfl rfl ?_
  refine g_iconst (v := nI 0) C dX6_init_15 (by decide) ?_
  refine pp_rw_ones C dX6_init_16 hk wF_X6_18 (Or.inl rfl) ?_
  refine g_aload_n 0 0 C dX6_init_19 rfl rfl ?_
  refine g_iload_n 1 1 C dX6_init_20 rfl rfl ?_
  refine pp_rw_bits C dX6_init_21 hk wF_X6_22 (Or.inr ⟨rfl, rfl, rfl⟩) ?_
  refine g_aload_n 0 0 C dX6_init_24 rfl rfl ?_
  refine g_iload_n 1 1 C dX6_init_25 rfl rfl ?_
  refine g_bipush (v := nI 64) C dX6_init_26 (by decide) ?_
  refine g_idiv C dX6_init_28 (by decide) ?_
  refine g_topi (pk_div (by omega) (by omega) (by omega) : _ = nI (n / 64)) ?_
  refine g_iconst (v := nI 1) C dX6_init_29 (by decide) ?_
  refine g_iadd C dX6_init_30 ?_
  refine g_topi (nI_add _ _ : _ = nI (n / 64 + 1)) ?_
  refine gy_wd_a C dX6_init_31 (by omega) ⟨by decide, by show (_ : Nat) ≤ 162; omega⟩ (fun q1 h0_q1 => ?_)
  refine Go.wide (k2 := 1) (n2 := 76) (by first | decide | omega) (by first | decide | omega) ?_
  refine pp_rw_words C dX6_init_33 (kup h0_q1 hk) wF_X6_25 (Or.inr ⟨rfl, rfl, rfl⟩) ?_
  refine g_aload_n 0 0 C dX6_init_36 rfl rfl ?_
  refine g_iload_n 1 1 C dX6_init_37 rfl rfl ?_
  refine g_sipush (v := nI 512) C dX6_init_38 (by decide) ?_
  refine g_idiv C dX6_init_41 (by decide) ?_
  refine g_topi (pk_div (by omega) (by omega) (by omega) : _ = nI (n / 512)) ?_
  refine g_iconst (v := nI 1) C dX6_init_42 (by decide) ?_
  refine g_iadd C dX6_init_43 ?_
  refine g_topi (nI_add _ _ : _ = nI (n / 512 + 1)) ?_
  refine gy_ta_a C dX6_init_44 (by omega) ⟨by decide, by show (_ : Nat) ≤ 162; omega⟩ (fun q2 h0_q2 => ?_)
  refine Go.wide (k2 := 2) (n2 := 86) (by first | decide | omega) (by first | decide | omega) ?_
  refine pp_rw_ta C dX6_init_46 (kup h0_q2 (kup h0_q1 hk)) wF_X6_29 (Or.inr ⟨rfl, rfl, rfl⟩) ?_
  refine g_aload_n 0 0 C dX6_init_49 rfl rfl ?_
  refine g_iload_n 1 1 C dX6_init_50 rfl rfl ?_
  refine g_bipush (v := nI 64) C dX6_init_51 (by decide) ?_
  refine g_idiv C dX6_init_53 (by decide) ?_
  refine g_topi (pk_div (by omega) (by omega) (by omega) : _ = nI (n / 64)) ?_
  refine g_iconst (v := nI 1) C dX6_init_54 (by decide) ?_
  refine g_iadd C dX6_init_55 ?_
  refine g_topi (nI_add _ _ : _ = nI (n / 64 + 1)) ?_
  refine gy_tb_a C dX6_init_56 (by omega) ⟨by decide, by show (_ : Nat) ≤ 162; omega⟩ (fun q3 h0_q3 => ?_)
  refine Go.wide (k2 := 3) (n2 := 162) (by first | decide | omega) (by first | decide | omega) ?_
  refine pp_rw_tb C dX6_init_58 (kup h0_q3 (kup h0_q2 (kup h0_q1 hk))) wF_X6_33 (Or.inr ⟨rfl, rfl, rfl⟩) ?_
  have hb : Fb S (fun q => q = a) a := Fb.of hk rfl
  have f1 := (((((Fr.refl S (fun q => q = a)).u_rw_la (v := nI 0) hb).u_rw_lb (v := nI 0) hb).u_rw_ones (v := nI 0) hb).u_rw_bits (v := nI n) hb).a_wd_a (n := n / 64 + 1) h0_q1
  have f2 := (f1.u_rw_words (v := some q1) hb).a_ta_a (n := n / 512 + 1) h0_q2
  have f3 := (f2.u_rw_ta (v := some q2) hb).a_tb_a (n := n / 64 + 1) h0_q3
  have hne1 : q1 ≠ q2 := fun e => by rw [← e] at h0_q2; exact absurd ((va_up_self (kd S) q1 17).symm.trans h0_q2) (by decide)
  have hk1 : va_up (va_up (kd S) q1 17) q2 13 q1 = 17 := kup (S := na_wd_a S q1 0) h0_q2 (va_up_self _ _ _)
  have hk2 : va_up (va_up (kd S) q1 17) q2 13 q2 = 13 := va_up_self _ _ _
  have hne2 : q1 ≠ q3 := fun e => by rw [← e] at h0_q3; exact absurd (hk1.symm.trans h0_q3) (by decide)
  have hne3 : q2 ≠ q3 := fun e => by rw [← e] at h0_q3; exact absurd (hk2.symm.trans h0_q3) (by decide)
  have hL : (List.replicate n 0 : List Nat).length = n := List.length_replicate
  exact g_vret C dX6_init_61 (by decide) (by decide) ⟨q1, q2, q3, rfl, f3.u_rw_tb hb, rfl, ⟨⟨⟨kup h0_q3 (kup h0_q2 (kup h0_q1 hk)), (va_up_self _ _ _).trans (by rw [hL]), va_up_self _ _ _, va_up_self _ _ _, va_up_self _ _ _⟩, ⟨kup h0_q3 (kup h0_q2 (va_up_self _ _ _)), by rw [hL]; exact (va_up_ne _ _ hne2).trans ((va_up_ne _ _ hne1).trans (va_up_self _ _ _))⟩, ⟨kup h0_q3 (va_up_self _ _ _), by rw [hL]; exact (va_up_ne _ _ hne3).trans (va_up_self _ _ _)⟩, ⟨va_up_self _ _ _, by rw [hL]; exact va_up_self _ _ _⟩, ⟨va_up_self _ _ _, va_up_self _ _ _⟩, (va_up_self _ _ _).trans (by rw [rep_ones]), ⟨by rw [hL]; exact hn, fun i => by rw [rep_get]; exact Nat.zero_le _⟩, fun j hj => (congrFun (va_up_self _ _ _) j).trans (by rw [rep_bits]; rfl)⟩, fun _ j hj => (congrFun (va_up_self _ _ _) j).trans (by rw [rep_ones]; rfl), fun _ j hj => (congrFun (va_up_self _ _ _) j).trans (by rw [rep_ones, rep_ones]; rfl)⟩, h0_q1, f1.new h0_q2, f2.new h0_q3⟩
def entF (S : PS) (fn : Nat → Option Nat) (fv : Nat → Int64) (k : Nat) (e : Ent) : Prop := ∃ n, fn k = some n ∧ nameC S n e.1 ∧ okN e.1 ∧ fv k = e.2
abbrev lsS (S : PS) (nr va : Nat) (fn : Nat → Option Nat) (fv : Nat → Int64) : PS := vl_a_ (nr_a_ S (va_up (nr_a S) nr fn)) (va_up (vl_a S) va fv)
abbrev szS (S : PS) (a nr va : Nat) (fn : Nat → Option Nat) (fv : Nat → Int64) (v : Int32) : PS := ls_size_ (lsS S nr va fn fv) (va_up (ls_size S) a v)
theorem lsS_n {S : PS} {nr va k : Nat} {fn : Nat → Option Nat} {fv : Nat → Int64} {x : Option Nat} : nr_a_ (lsS S nr va fn fv) (va_up (nr_a (lsS S nr va fn fv)) nr (va_up (nr_a (lsS S nr va fn fv) nr) k x)) = lsS S nr va (va_up fn k x) fv := by
  show vl_a_ (nr_a_ S (va_up (va_up (nr_a S) nr fn) nr (va_up (va_up (nr_a S) nr fn nr) k x))) (va_up (vl_a S) va fv) = _
  rw [va_up_up, va_up_self]
theorem lsS_v {S : PS} {nr va k : Nat} {fn : Nat → Option Nat} {fv : Nat → Int64} {x : Int64} : vl_a_ (lsS S nr va fn fv) (va_up (vl_a (lsS S nr va fn fv)) va (vp_updL (vl_a (lsS S nr va fn fv) va) k x)) = lsS S nr va fn (vp_updL fv k x) := by
  show vl_a_ (nr_a_ S (va_up (nr_a S) nr fn)) (va_up (va_up (vl_a S) va fv) va (vp_updL (va_up (vl_a S) va fv va) k x)) = _
  rw [va_up_up, va_up_self]
theorem up_id {α : Type} (f : Nat → α) (k : Nat) : va_up f k (f k) = f := by funext j; unfold va_up; split <;> simp_all
theorem lsS_0 (S : PS) (nr va : Nat) : lsS S nr va (nr_a S nr) (vl_a S va) = S := by
  show vl_a_ (nr_a_ S (va_up (nr_a S) nr (nr_a S nr))) (va_up (vl_a S) va (vl_a S va)) = _
  rw [up_id, up_id]
theorem Fr.sz {S0 S : PS} {A : Nat → Prop} {a nr va : Nat} {fn : Nat → Option Nat} {fv : Nat → Int64} {v : Int32} (h : Fr S0 S A) (h1 : Fb S0 A a) (h2 : Fb S0 A nr) (h3 : Fb S0 A va) : Fr S0 (szS S a nr va fn fv v) A := ((h.u_nr_a h2).u_vl_a h3).u_ls_size h1
theorem listC.A3 {S : PS} {a nr va room : Nat} {l : List Ent} (h : listC S a nr va room l) (fn : Nat → Option Nat) (fv : Nat → Int64) (v : Int32) : Fr S (szS S a nr va fn fv v) (A3 a nr va) := (Fr.refl S _).sz (Fb.of h.1.1 (Or.inl rfl)) (Fb.of h.2.1.1 (Or.inr (Or.inl rfl))) (Fb.of h.2.2.1.1 (Or.inr (Or.inr rfl)))
theorem listC.up {S : PS} {a nr va room : Nat} {l l' : List Ent} {fn : Nat → Option Nat} {fv : Nat → Int64} (h : listC S a nr va room l) (hl : l'.length ≤ room) (he : ∀ k, k < l'.length → entF S fn fv k (ent l' k)) : listC (szS S a nr va fn fv (nI l'.length)) a nr va room l' := by
  have hf := h.A3 fn fv (nI l'.length)
  obtain ⟨⟨a1, a2, a3⟩, ⟨b1, b2⟩, ⟨d1, d2⟩, e1, e2, e3, e4⟩ := h
  refine ⟨⟨a1, a2, a3⟩, ⟨b1, b2⟩, ⟨d1, d2⟩, va_up_self _ _ _, hl, e3, fun k hk => ?_⟩
  obtain ⟨m, g1, g2, g3, g4⟩ := he k hk
  exact ⟨m, (congrFun (va_up_self (nr_a S) nr fn) k).trans g1, g2.fr hf, g3, (congrFun (va_up_self (vl_a S) va fv) k).trans g4⟩
theorem szS_0 {S : PS} {a nr va : Nat} (v : Int32) (h : ls_size S a = v) : szS S a nr va (nr_a S nr) (vl_a S va) v = S := by
  show ls_size_ (lsS S nr va (nr_a S nr) (vl_a S va)) (va_up (ls_size S) a v) = _
  rw [lsS_0, ← h, up_id]
def entV (l : List Ent) (room : Nat) (cur : List Nat) : Int32 := if isAtN l (aheadN l cur) cur then 0 else if room ≤ l.length then -7 else 1
def entL (l : List Ent) (room : Nat) (cur : List Nat) (v : Int64) : List Ent := if isAtN l (aheadN l cur) cur then updE l (aheadN l cur) v else if room ≤ l.length then l else insL l (aheadN l cur) (cur, v)
set_option maxRecDepth 100000 in
set_option maxHeartbeats 2000000 in
theorem c_L_enter {lX : Launch} {G : Gx} {S : PS} {a nr va room : Nat} {l : List Ent} (hl : listC S a nr va room l) {n : Nat} {cur : List Nat} (hc : nameC S n cur) (oc : okN cur) {v : Int64} : Ct lX yX4_enter cX4_enter 6 (Option.some Jvm.ClassFile.FieldType.int) rm_X4_enter G [.ref a, .ref n, .long v] S (fun r S' => r = some (.int (entV l room cur)) ∧ Fr S S' (A3 a nr va) ∧ mu S' = mu S ∧ listC S' a nr va room (entL l room cur v)) := by
  have hl' := hl
  obtain ⟨⟨k_a, ra_a, rb_a⟩, ⟨kn_a, ln_a⟩, ⟨kv_a, lv_a⟩, sz_a, le_a, rm_a, en_a⟩ := hl
  have hah : aheadN l cur ≤ l.length := ahead_le l cur
  refine Ct.mk RX4 "enter" hy_X4_enter (Nat.le_of_ble_eq_true rfl) (fun X hX C => ?_)
  change Go X G _ 6 0 0 S 0 [(0, .ref a), (1, .ref n), (2, .long v)] []
  refine g_aload_n 0 0 C dX4_enter_0 rfl rfl ?_
  refine g_aload_n 1 1 C dX4_enter_1 rfl rfl ?_
  refine g_callV (As := [.ref n]) (rest := []) C dX4_enter_2 (c_L_ahead hl' hc oc) wC_X4_ahead wM_X4_43 wI_X4_ahead wS_X4_ahead wN_X4 (kne k_a) (pf_5 k_a) rfl hd_X4_ahead ⟨by decide, by decide, by decide, by decide⟩ (Nat.le_of_ble_eq_true rfl) (fun r_ S_ h_ => ?_)
  obtain ⟨rfl, rfl⟩ := h_
  change Go X G _ 6 _ _ S 5 [(0, .ref a), (1, .ref n), (2, .long v)] [.int (nI (aheadN l cur))]
  refine g_istore (lv' := [(4, .int (nI (aheadN l cur))), (0, .ref a), (1, .ref n), (2, .long v)]) C dX4_enter_5 (by decide) rfl ?_
  refine g_aload_n 1 0 C dX4_enter_7 rfl rfl ?_
  refine g_iload 0 C dX4_enter_8 rfl ?_
  refine g_aload_n 2 1 C dX4_enter_10 rfl rfl ?_
  refine g_callV (As := [.int (nI (aheadN l cur)), .ref n]) (rest := []) C dX4_enter_11 (c_L_hasAt hl' hc oc (by omega)) wC_X4_hasAt wM_X4_46 wI_X4_hasAt wS_X4_hasAt wN_X4 (kne k_a) (pf_5 k_a) rfl hd_X4_hasAt ⟨by decide, by decide, by decide, by decide⟩ (Nat.le_of_ble_eq_true rfl) (fun r_ S_ h_ => ?_)
  obtain ⟨rfl, rfl⟩ := h_
  change Go X G _ 6 _ _ S 14 [(4, .int (nI (aheadN l cur))), (0, .ref a), (1, .ref n), (2, .long v)] [.int (bI (isAtN l (aheadN l cur) cur))]
  refine g_if_eq 27 C dX4_enter_14 (by decide) (fun c14 => ?_) (fun c14 => ?_)
  · have ea := bI_f c14
    refine g_aload_n 1 0 C dX4_enter_27 rfl rfl ?_
    refine gf_ls_size C dX4_enter_28 k_a wF_X4_9 ?_
    refine g_topi (sz_a) ?_
    refine g_aload_n 1 0 C dX4_enter_31 rfl rfl ?_
    refine gr_ls_names C dX4_enter_32 k_a wF_X4_17 ra_a ?_
    refine gl_nr_a C dX4_enter_35 kn_a ?_
    refine g_topi (congrArg nI ln_a) ?_
    refine g_ncmp_lt 42 (by omega) (by omega) C dX4_enter_36 (by decide) (fun c36 => ?_) (fun c36 => ?_)
    · refine g_aload_n 1 0 C dX4_enter_42 rfl rfl ?_
      refine gf_ls_size C dX4_enter_43 k_a wF_X4_9 ?_
      refine g_topi (sz_a) ?_
      refine g_istore (lv' := [(5, .int (nI (l.length))), (4, .int (nI (aheadN l cur))), (0, .ref a), (1, .ref n), (2, .long v)]) C dX4_enter_46 (by decide) rfl ?_
      have lp : ∀ (n_ : Nat) (k : Nat) (fn : Nat → Option Nat) (fv : Nat → Int64), k < n_ → (aheadN l cur ≤ k ∧ k ≤ l.length ∧ (∀ q, q < k → q < l.length → entF S fn fv q (ent l q)) ∧ (∀ q, k < q → q ≤ l.length → entF S fn fv q (ent l (q - 1)))) → Go X G (Qe X G (fun r S' => r = some (.int (entV l room cur)) ∧ Fr S S' (A3 a nr va) ∧ mu S' = mu S ∧ listC S' a nr va room (entL l room cur v)) rm_X4_enter.cells rm_X4_enter.slots) 6 0 0 (lsS S nr va fn fv) 48 [(5, .int (nI k)), (4, .int (nI (aheadN l cur))), (0, .ref a), (1, .ref n), (2, .long v)] [] := by
        intro n_
        induction n_ with
        | zero => intro k fn fv hm_; exact absurd hm_ (Nat.not_lt_zero _)
        | succ n_ ih_ =>
          intro k fn fv hm_ hh
          obtain ⟨i1, i2, i3, i4⟩ := hh
          refine g_iload 0 C dX4_enter_48 rfl ?_
          refine g_iload 1 C dX4_enter_50 rfl ?_
          refine g_ncmp_le 93 (by omega) (by omega) C dX4_enter_52 (by decide) (fun c52 => ?_) (fun c52 => ?_)
          · have ek : k = aheadN l cur := by omega
            refine g_aload_n 2 0 C dX4_enter_93 rfl rfl ?_
            refine gr_ls_names C dX4_enter_94 k_a wF_X4_17 ra_a ?_
            refine g_iload 1 C dX4_enter_97 rfl ?_
            refine g_aload_n 3 1 C dX4_enter_99 rfl rfl ?_
            refine gs_nr C dX4_enter_100 kn_a (by have h_ : ln (lsS S nr va fn fv) nr = room := ln_a; omega) (by have h_ : ln (lsS S nr va fn fv) nr = room := ln_a; omega) hc.1 ?_
            refine g_st lsS_n ?_
            refine g_aload_n 2 0 C dX4_enter_101 rfl rfl ?_
            refine gr_ls_values C dX4_enter_102 k_a wF_X4_21 rb_a ?_
            refine g_iload 1 C dX4_enter_105 rfl ?_
            refine g_lload_n 4 2 C dX4_enter_107 rfl rfl ?_
            refine gs_vl_a C dX4_enter_108 kv_a (by have h_ : ln (lsS S nr va (va_up fn (aheadN l cur) (some n)) fv) va = room := lv_a; omega) (by have h_ : ln (lsS S nr va (va_up fn (aheadN l cur) (some n)) fv) va = room := lv_a; omega) ?_
            refine g_st lsS_v ?_
            refine g_aload_n 2 0 C dX4_enter_109 rfl rfl ?_
            refine g_dup C dX4_enter_110 rfl ?_
            refine gf_ls_size C dX4_enter_111 k_a wF_X4_9 ?_
            refine g_topi (sz_a) ?_
            refine g_iconst (v := nI 1) C dX4_enter_114 (by decide) ?_
            refine g_iadd C dX4_enter_115 ?_
            refine g_topi (nI_add _ _ : _ = nI (l.length + 1)) ?_
            refine pp_ls_size C dX4_enter_116 k_a wF_X4_9 (Or.inl rfl) ?_
            refine g_iconst (v := nI 1) C dX4_enter_119 (by decide) ?_
            have hins : (insL l (aheadN l cur) (cur, v)).length = l.length + 1 := insL_len _ _ _
            have hL : entL l room cur v = insL l (aheadN l cur) (cur, v) := by unfold entL; rw [ea, if_neg (by decide), if_neg (by omega)]
            have hV : entV l room cur = 1 := by unfold entV; rw [ea, if_neg (by decide), if_neg (by omega)]
            exact g_iret C dX4_enter_120 (by decide) (by decide) ⟨by rw [hV]; rfl, hl'.A3 _ _ _, rfl, by
              rw [hL]
              have := hl'.up (l' := insL l (aheadN l cur) (cur, v)) (fn := va_up fn (aheadN l cur) (some n)) (fv := vp_updL fv (aheadN l cur) v) (by omega) (fun q hq => by
                rw [hins] at hq
                rw [ent_ins hah]
                by_cases g1 : q < aheadN l cur
                · rw [if_pos g1]
                  obtain ⟨w1, w2, w3, w4, w5⟩ := i3 q (by omega) (by omega)
                  exact ⟨w1, (va_up_ne _ _ (by omega)).trans w2, w3, w4, (pk_uLn (by omega)).trans w5⟩
                · rw [if_neg g1]
                  by_cases g2 : q = aheadN l cur
                  · rw [if_pos g2, g2]; exact ⟨n, va_up_self _ _ _, hc, oc, pk_uLs⟩
                  · rw [if_neg g2]
                    obtain ⟨w1, w2, w3, w4, w5⟩ := i4 q (by omega) (by omega)
                    exact ⟨w1, (va_up_ne _ _ g2).trans w2, w3, w4, (pk_uLn g2).trans w5⟩)
              rw [hins] at this
              exact this⟩
          · obtain ⟨m_, m1, m2, m3, m4⟩ := i3 (k - 1) (by omega) (by omega)
            refine g_aload_n 2 0 C dX4_enter_55 rfl rfl ?_
            refine gr_ls_names C dX4_enter_56 k_a wF_X4_17 ra_a ?_
            refine g_iload 0 C dX4_enter_59 rfl ?_
            refine g_aload_n 2 0 C dX4_enter_61 rfl rfl ?_
            refine gr_ls_names C dX4_enter_62 k_a wF_X4_17 ra_a ?_
            refine g_iload 0 C dX4_enter_65 rfl ?_
            refine g_iconst (v := nI 1) C dX4_enter_67 (by decide) ?_
            refine g_isub C dX4_enter_68 ?_
            refine g_topi (pk_sub (by omega) : _ = nI (k - 1)) ?_
            refine gar_nr_a C dX4_enter_69 kn_a (by have h_ : ln (lsS S nr va fn fv) nr = room := ln_a; omega) (by have h_ : ln (lsS S nr va fn fv) nr = room := ln_a; omega) ((congrFun (va_up_self (nr_a S) nr fn) _).trans m1) ?_
            refine gs_nr C dX4_enter_70 kn_a (by have h_ : ln (lsS S nr va fn fv) nr = room := ln_a; omega) (by have h_ : ln (lsS S nr va fn fv) nr = room := ln_a; omega) m2.1 ?_
            refine g_st lsS_n ?_
            refine g_aload_n 2 0 C dX4_enter_71 rfl rfl ?_
            refine gr_ls_values C dX4_enter_72 k_a wF_X4_21 rb_a ?_
            refine g_iload 0 C dX4_enter_75 rfl ?_
            refine g_aload_n 2 0 C dX4_enter_77 rfl rfl ?_
            refine gr_ls_values C dX4_enter_78 k_a wF_X4_21 rb_a ?_
            refine g_iload 0 C dX4_enter_81 rfl ?_
            refine g_iconst (v := nI 1) C dX4_enter_83 (by decide) ?_
            refine g_isub C dX4_enter_84 ?_
            refine g_topi (pk_sub (by omega) : _ = nI (k - 1)) ?_
            refine ga_vl_a C dX4_enter_85 kv_a (by have h_ : ln (lsS S nr va (va_up fn k (some m_)) fv) va = room := lv_a; omega) (by have h_ : ln (lsS S nr va (va_up fn k (some m_)) fv) va = room := lv_a; omega) ?_
            refine g_topl (((congrFun (va_up_self (vl_a S) va fv) _).trans m4)) ?_
            refine gs_vl_a C dX4_enter_86 kv_a (by have h_ : ln (lsS S nr va (va_up fn k (some m_)) fv) va = room := lv_a; omega) (by have h_ : ln (lsS S nr va (va_up fn k (some m_)) fv) va = room := lv_a; omega) ?_
            refine g_st lsS_v ?_
            refine g_iinc (v := nI (k - 1)) (lv' := [(5, .int (nI (k - 1))), (4, .int (nI (aheadN l cur))), (0, .ref a), (1, .ref n), (2, .long v)]) 0 C dX4_enter_87 rfl (sb_m1 (by omega)) (by decide) rfl ?_
            refine g_goto 48 C dX4_enter_90 (by decide) ?_
            exact ih_ (k - 1) _ _ (by omega) ⟨by omega, by omega, fun q h1 h2 => by
              obtain ⟨w1, w2, w3, w4, w5⟩ := i3 q (by omega) h2
              exact ⟨w1, (va_up_ne _ _ (by omega)).trans w2, w3, w4, (pk_uLn (by omega)).trans w5⟩, fun q h1 h2 => by
              by_cases e : q = k
              · rw [e]; exact ⟨m_, va_up_self _ _ _, m2, m3, pk_uLs⟩
              · obtain ⟨w1, w2, w3, w4, w5⟩ := i4 q (by omega) h2
                exact ⟨w1, (va_up_ne _ _ e).trans w2, w3, w4, (pk_uLn e).trans w5⟩⟩
      refine g_st (lsS_0 S nr va).symm ?_
      exact lp (l.length + 1) l.length _ _ (by omega) ⟨hah, Nat.le_refl _, fun q _ hq => en_a q hq, fun q h1 h2 => absurd h1 (by omega)⟩
    · refine g_bipush (v := -7) C dX4_enter_39 (by decide) ?_
      exact g_iret C dX4_enter_41 (by decide) (by decide) (⟨by unfold entV; rw [ea, if_neg (by decide), if_pos (by omega)], Fr.refl S _, rfl, by unfold entL; rw [ea, if_neg (by decide), if_pos (by omega)]; exact hl'⟩)
  · have ea := bI_t c14
    have hlt := isAtN_lt ea
    refine g_aload_n 1 0 C dX4_enter_17 rfl rfl ?_
    refine gr_ls_values C dX4_enter_18 k_a wF_X4_21 rb_a ?_
    refine g_iload 0 C dX4_enter_21 rfl ?_
    refine g_lload_n 3 2 C dX4_enter_23 rfl rfl ?_
    refine gs_vl_a C dX4_enter_24 kv_a (by omega) (by omega) ?_
    refine g_iconst (v := nI 0) C dX4_enter_25 (by decide) ?_
    have hL : entL l room cur v = updE l (aheadN l cur) v := by unfold entL; rw [ea, if_pos rfl]
    have hV : entV l room cur = 0 := by unfold entV; rw [ea, if_pos rfl]
    have hlen : (updE l (aheadN l cur) v).length = l.length := by unfold updE; rw [List.length_set]
    exact g_iret C dX4_enter_26 (by decide) (by decide) ⟨by rw [hV]; rfl, (Fr.refl S _).u_vl_a (Fb.of kv_a (Or.inr (Or.inr rfl))), rfl, by
      rw [hL]
      have := hl'.up (l' := updE l (aheadN l cur) v) (fn := nr_a S nr) (fv := vp_updL (vl_a S va) (aheadN l cur) v) (by omega) (fun q hq => by
        rw [hlen] at hq
        rw [ent_upd hlt]
        obtain ⟨w1, w2, w3, w4, w5⟩ := en_a q hq
        by_cases e : q = aheadN l cur
        · rw [if_pos e]; rw [e] at w2 w3 w4; exact ⟨w1, by rw [e]; exact w2, w3, w4, by rw [e]; exact pk_uLs⟩
        · rw [if_neg e]; exact ⟨w1, w2, w3, w4, (pk_uLn e).trans w5⟩)
      rw [hlen] at this
      have e9 : szS S a nr va (nr_a S nr) (vp_updL (vl_a S va) (aheadN l cur) v) (nI l.length) = vl_a_ S (va_up (vl_a S) va (vp_updL (vl_a S va) (aheadN l cur) v)) := by
        show ls_size_ (vl_a_ (nr_a_ S (va_up (nr_a S) nr (nr_a S nr))) _) (va_up (ls_size S) a (nI l.length)) = _
        rw [up_id, ← sz_a, up_id]
      rw [e9] at this
      exact this⟩
theorem szS_n {S : PS} {a nr va k : Nat} {fn : Nat → Option Nat} {fv : Nat → Int64} {v : Int32} {x : Option Nat} : nr_a_ (szS S a nr va fn fv v) (va_up (nr_a (szS S a nr va fn fv v)) nr (va_up (nr_a (szS S a nr va fn fv v) nr) k x)) = szS S a nr va (va_up fn k x) fv v := by
  show ls_size_ (vl_a_ (nr_a_ S (va_up (va_up (nr_a S) nr fn) nr (va_up (va_up (nr_a S) nr fn nr) k x))) (va_up (vl_a S) va fv)) (va_up (ls_size S) a v) = _
  rw [va_up_up, va_up_self]
theorem szS_v {S : PS} {a nr va k : Nat} {fn : Nat → Option Nat} {fv : Nat → Int64} {v : Int32} {x : Int64} : vl_a_ (szS S a nr va fn fv v) (va_up (vl_a (szS S a nr va fn fv v)) va (vp_updL (vl_a (szS S a nr va fn fv v) va) k x)) = szS S a nr va fn (vp_updL fv k x) v := by
  show ls_size_ (vl_a_ (nr_a_ S (va_up (nr_a S) nr fn)) (va_up (va_up (vl_a S) va fv) va (vp_updL (va_up (vl_a S) va fv va) k x))) (va_up (ls_size S) a v) = _
  rw [va_up_up, va_up_self]
set_option maxRecDepth 100000 in
set_option maxHeartbeats 2000000 in
theorem c_L_strike {lX : Launch} {G : Gx} {S : PS} {a nr va room : Nat} {l : List Ent} (hl : listC S a nr va room l) {n : Nat} {cur : List Nat} (hc : nameC S n cur) (oc : okN cur) : Ct lX yX4_strike cX4_strike 4 (Option.some Jvm.ClassFile.FieldType.int) rm_X4_strike G [.ref a, .ref n] S (fun r S' => r = some (.int (bI (isAtN l (aheadN l cur) cur))) ∧ Fr S S' (A3 a nr va) ∧ mu S' = mu S ∧ listC S' a nr va room (if isAtN l (aheadN l cur) cur = true then delL l (aheadN l cur) else l)) := by
  have hl' := hl
  obtain ⟨⟨k_a, ra_a, rb_a⟩, ⟨kn_a, ln_a⟩, ⟨kv_a, lv_a⟩, sz_a, le_a, rm_a, en_a⟩ := hl
  have hah : aheadN l cur ≤ l.length := ahead_le l cur
  refine Ct.mk RX4 "strike" hy_X4_strike (Nat.le_of_ble_eq_true rfl) (fun X hX C => ?_)
  change Go X G _ 4 0 0 S 0 [(0, .ref a), (1, .ref n)] []
  refine g_aload_n 0 0 C dX4_strike_0 rfl rfl ?_
  refine g_aload_n 1 1 C dX4_strike_1 rfl rfl ?_
  refine g_callV (As := [.ref n]) (rest := []) C dX4_strike_2 (c_L_ahead hl' hc oc) wC_X4_ahead wM_X4_43 wI_X4_ahead wS_X4_ahead wN_X4 (kne k_a) (pf_5 k_a) rfl hd_X4_ahead ⟨by decide, by decide, by decide, by decide⟩ (Nat.le_of_ble_eq_true rfl) (fun r_ S_ h_ => ?_)
  obtain ⟨rfl, rfl⟩ := h_
  change Go X G _ 4 _ _ S 5 [(0, .ref a), (1, .ref n)] [.int (nI (aheadN l cur))]
  refine g_istore_n (lv' := [(2, .int (nI (aheadN l cur))), (0, .ref a), (1, .ref n)]) C dX4_strike_5 rfl (by decide) rfl ?_
  refine g_aload_n 1 0 C dX4_strike_6 rfl rfl ?_
  refine g_iload_n 0 2 C dX4_strike_7 rfl rfl ?_
  refine g_aload_n 2 1 C dX4_strike_8 rfl rfl ?_
  refine g_callV (As := [.int (nI (aheadN l cur)), .ref n]) (rest := []) C dX4_strike_9 (c_L_hasAt hl' hc oc (by omega)) wC_X4_hasAt wM_X4_46 wI_X4_hasAt wS_X4_hasAt wN_X4 (kne k_a) (pf_5 k_a) rfl hd_X4_hasAt ⟨by decide, by decide, by decide, by decide⟩ (Nat.le_of_ble_eq_true rfl) (fun r_ S_ h_ => ?_)
  obtain ⟨rfl, rfl⟩ := h_
  change Go X G _ 4 _ _ S 12 [(2, .int (nI (aheadN l cur))), (0, .ref a), (1, .ref n)] [.int (bI (isAtN l (aheadN l cur) cur))]
  refine g_if_ne 17 C dX4_strike_12 (by decide) (fun c12 => ?_) (fun c12 => ?_)
  · have ea := bI_t c12
    have hlt := isAtN_lt ea
    refine g_aload_n 1 0 C dX4_strike_17 rfl rfl ?_
    refine g_dup C dX4_strike_18 rfl ?_
    refine gf_ls_size C dX4_strike_19 k_a wF_X4_9 ?_
    refine g_topi (sz_a) ?_
    refine g_iconst (v := nI 1) C dX4_strike_22 (by decide) ?_
    refine g_isub C dX4_strike_23 ?_
    refine g_topi (pk_sub (by omega) : _ = nI (l.length - 1)) ?_
    refine pp_ls_size C dX4_strike_24 k_a wF_X4_9 (Or.inl rfl) ?_
    refine g_iload_n 0 2 C dX4_strike_27 rfl rfl ?_
    refine g_istore_n (lv' := [(3, .int (nI (aheadN l cur))), (2, .int (nI (aheadN l cur))), (0, .ref a), (1, .ref n)]) C dX4_strike_28 rfl (by decide) rfl ?_
    have lp : ∀ (n_ : Nat) (k : Nat) (fn : Nat → Option Nat) (fv : Nat → Int64), l.length - k < n_ → (aheadN l cur ≤ k ∧ k ≤ l.length - 1 ∧ (∀ q, q < l.length → (q < aheadN l cur ∨ k < q) → entF S fn fv q (ent l q)) ∧ (∀ q, aheadN l cur ≤ q → q < k → entF S fn fv q (ent l (q + 1)))) → Go X G (Qe X G (fun r S' => r = some (.int (bI (isAtN l (aheadN l cur) cur))) ∧ Fr S S' (A3 a nr va) ∧ mu S' = mu S ∧ listC S' a nr va room (if isAtN l (aheadN l cur) cur = true then delL l (aheadN l cur) else l)) rm_X4_strike.cells rm_X4_strike.slots) 4 0 0 (szS S a nr va fn fv (nI (l.length - 1))) 29 [(3, .int (nI k)), (2, .int (nI (aheadN l cur))), (0, .ref a), (1, .ref n)] [] := by
      intro n_
      induction n_ with
      | zero => intro k fn fv hm_; exact absurd hm_ (Nat.not_lt_zero _)
      | succ n_ ih_ =>
        intro k fn fv hm_ hh
        obtain ⟨i1, i2, i3, i4⟩ := hh
        refine g_iload_n 0 3 C dX4_strike_29 rfl rfl ?_
        refine g_aload_n 2 0 C dX4_strike_30 rfl rfl ?_
        refine gf_ls_size C dX4_strike_31 k_a wF_X4_9 ?_
        refine g_topi (va_up_self _ _ _) ?_
        refine g_ncmp_ge 71 (by omega) (by omega) C dX4_strike_34 (by decide) (fun c34 => ?_) (fun c34 => ?_)
        · refine g_aload_n 2 0 C dX4_strike_71 rfl rfl ?_
          refine gr_ls_names C dX4_strike_72 k_a wF_X4_17 ra_a ?_
          refine g_aload_n 2 0 C dX4_strike_75 rfl rfl ?_
          refine gf_ls_size C dX4_strike_76 k_a wF_X4_9 ?_
          refine g_topi (va_up_self _ _ _) ?_
          refine g_null C dX4_strike_79 ?_
          refine gs_nr_aN C dX4_strike_80 kn_a (by have h_ : ln (szS S a nr va fn fv (nI (l.length - 1))) nr = room := ln_a; omega) (by have h_ : ln (szS S a nr va fn fv (nI (l.length - 1))) nr = room := ln_a; omega) ?_
          refine g_st szS_n ?_
          refine g_iconst (v := nI 1) C dX4_strike_81 (by decide) ?_
          have hdl : (delL l (aheadN l cur)).length = l.length - 1 := delL_len hlt
          exact g_iret C dX4_strike_82 (by decide) (by decide) ⟨by rw [ea]; rfl, hl'.A3 _ _ _, rfl, by
            rw [ea, if_pos rfl]
            have := hl'.up (l' := delL l (aheadN l cur)) (fn := va_up fn (l.length - 1) none) (fv := fv) (by omega) (fun q hq => by
              rw [hdl] at hq
              rw [ent_del hlt]
              by_cases g1 : q < aheadN l cur
              · rw [if_pos g1]
                obtain ⟨w1, w2, w3⟩ := i3 q (by omega) (Or.inl g1)
                exact ⟨w1, (va_up_ne _ _ (by omega)).trans w2, w3⟩
              · rw [if_neg g1]
                obtain ⟨w1, w2, w3⟩ := i4 q (by omega) (by omega)
                exact ⟨w1, (va_up_ne _ _ (by omega)).trans w2, w3⟩)
            rw [hdl] at this
            exact this⟩
        · obtain ⟨m_, m1, m2, m3, m4⟩ := i3 (k + 1) (by omega) (Or.inr (by omega))
          refine g_aload_n 2 0 C dX4_strike_37 rfl rfl ?_
          refine gr_ls_names C dX4_strike_38 k_a wF_X4_17 ra_a ?_
          refine g_iload_n 0 3 C dX4_strike_41 rfl rfl ?_
          refine g_aload_n 2 0 C dX4_strike_42 rfl rfl ?_
          refine gr_ls_names C dX4_strike_43 k_a wF_X4_17 ra_a ?_
          refine g_iload_n 0 3 C dX4_strike_46 rfl rfl ?_
          refine g_iconst (v := nI 1) C dX4_strike_47 (by decide) ?_
          refine g_iadd C dX4_strike_48 ?_
          refine g_topi (nI_add _ _ : _ = nI (k + 1)) ?_
          refine gar_nr_a C dX4_strike_49 kn_a (by have h_ : ln (szS S a nr va fn fv (nI (l.length - 1))) nr = room := ln_a; omega) (by have h_ : ln (szS S a nr va fn fv (nI (l.length - 1))) nr = room := ln_a; omega) ((congrFun (va_up_self (nr_a S) nr fn) _).trans m1) ?_
          refine gs_nr C dX4_strike_50 kn_a (by have h_ : ln (szS S a nr va fn fv (nI (l.length - 1))) nr = room := ln_a; omega) (by have h_ : ln (szS S a nr va fn fv (nI (l.length - 1))) nr = room := ln_a; omega) m2.1 ?_
          refine g_st szS_n ?_
          refine g_aload_n 2 0 C dX4_strike_51 rfl rfl ?_
          refine gr_ls_values C dX4_strike_52 k_a wF_X4_21 rb_a ?_
          refine g_iload_n 0 3 C dX4_strike_55 rfl rfl ?_
          refine g_aload_n 2 0 C dX4_strike_56 rfl rfl ?_
          refine gr_ls_values C dX4_strike_57 k_a wF_X4_21 rb_a ?_
          refine g_iload_n 0 3 C dX4_strike_60 rfl rfl ?_
          refine g_iconst (v := nI 1) C dX4_strike_61 (by decide) ?_
          refine g_iadd C dX4_strike_62 ?_
          refine g_topi (nI_add _ _ : _ = nI (k + 1)) ?_
          refine ga_vl_a C dX4_strike_63 kv_a (by have h_ : ln (szS S a nr va (va_up fn k (some m_)) fv (nI (l.length - 1))) va = room := lv_a; omega) (by have h_ : ln (szS S a nr va (va_up fn k (some m_)) fv (nI (l.length - 1))) va = room := lv_a; omega) ?_
          refine g_topl (((congrFun (va_up_self (vl_a S) va fv) _).trans m4)) ?_
          refine gs_vl_a C dX4_strike_64 kv_a (by have h_ : ln (szS S a nr va (va_up fn k (some m_)) fv (nI (l.length - 1))) va = room := lv_a; omega) (by have h_ : ln (szS S a nr va (va_up fn k (some m_)) fv (nI (l.length - 1))) va = room := lv_a; omega) ?_
          refine g_st szS_v ?_
          refine g_iinc (v := nI (k + 1)) (lv' := [(3, .int (nI (k + 1))), (2, .int (nI (aheadN l cur))), (0, .ref a), (1, .ref n)]) 0 C dX4_strike_65 rfl (nI_add _ 1) (by decide) rfl ?_
          refine g_goto 29 C dX4_strike_68 (by decide) ?_
          exact ih_ (k + 1) _ _ (by omega) ⟨by omega, by omega, fun q h1 h2 => by
            obtain ⟨w1, w2, w3, w4, w5⟩ := i3 q h1 (by omega)
            exact ⟨w1, (va_up_ne _ _ (by omega)).trans w2, w3, w4, (pk_uLn (by omega)).trans w5⟩, fun q h1 h2 => by
            by_cases e : q = k
            · rw [e]; exact ⟨m_, va_up_self _ _ _, m2, m3, pk_uLs⟩
            · obtain ⟨w1, w2, w3, w4, w5⟩ := i4 q h1 (by omega)
              exact ⟨w1, (va_up_ne _ _ e).trans w2, w3, w4, (pk_uLn e).trans w5⟩⟩
    refine g_st (S' := szS S a nr va (nr_a S nr) (vl_a S va) (nI (l.length - 1))) (by show _ = ls_size_ (lsS S nr va (nr_a S nr) (vl_a S va)) _; rw [lsS_0]) ?_
    exact lp (l.length + 1) (aheadN l cur) _ _ (by omega) ⟨Nat.le_refl _, by omega, fun q hq _ => en_a q hq, fun q h1 h2 => absurd h1 (by omega)⟩
  · have ea := bI_f c12
    refine g_iconst (v := nI 0) C dX4_strike_15 (by decide) ?_
    exact g_iret C dX4_strike_16 (by decide) (by decide) (⟨by rw [ea]; rfl, Fr.refl S _, rfl, by rw [ea, if_neg (by decide)]; exact hl'⟩)
def appB (l : List Ent) (room : Nat) (cur : List Nat) : Bool := decide (l.length < room) && (decide (l.length = 0) || less (nm l (l.length - 1)) cur)
theorem ent_app {l : List Ent} {e : Ent} (q : Nat) : ent (l ++ [e]) q = if q < l.length then ent l q else if q = l.length then e else ([], 0) := by
  unfold ent
  rw [getD_app]
  split
  · rfl
  · split
    · rw [show q - l.length = 0 by omega]; rfl
    · rw [List.getD_eq_getElem?_getD, List.getElem?_eq_none (by show 1 ≤ _; omega)]; rfl
set_option maxRecDepth 100000 in
set_option maxHeartbeats 2000000 in
theorem c_L_append {lX : Launch} {G : Gx} {S : PS} {a nr va room : Nat} {l : List Ent} (hl : listC S a nr va room l) {n : Nat} {cur : List Nat} (hc : nameC S n cur) (oc : okN cur) {v : Int64} : Ct lX yX4_append cX4_append 6 (Option.some Jvm.ClassFile.FieldType.boolean) rm_X4_append G [.ref a, .ref n, .long v] S (fun r S' => r = some (.int (bI (appB l room cur))) ∧ Fr S S' (A3 a nr va) ∧ mu S' = mu S ∧ listC S' a nr va room (if appB l room cur = true then l ++ [(cur, v)] else l)) := by
  have hl' := hl
  obtain ⟨⟨k_a, ra_a, rb_a⟩, ⟨kn_a, ln_a⟩, ⟨kv_a, lv_a⟩, sz_a, le_a, rm_a, en_a⟩ := hl
  refine Ct.mk RX4 "append" hy_X4_append (Nat.le_of_ble_eq_true rfl) (fun X hX C => ?_)
  change Go X G _ 6 0 0 S 0 [(0, .ref a), (1, .ref n), (2, .long v)] []
  refine g_aload_n 0 0 C dX4_append_0 rfl rfl ?_
  refine gf_ls_size C dX4_append_1 k_a wF_X4_9 ?_
  refine g_topi (sz_a) ?_
  refine g_aload_n 0 0 C dX4_append_4 rfl rfl ?_
  refine gr_ls_names C dX4_append_5 k_a wF_X4_17 ra_a ?_
  refine gl_nr_a C dX4_append_8 kn_a ?_
  refine g_topi (congrArg nI ln_a) ?_
  refine g_ncmp_lt 16 (by omega) (by omega) C dX4_append_9 (by decide) (fun c9 => ?_) (fun c9 => ?_)
  · have hfu : l.length < room := c9
    refine g_iconst (v := nI 0) C dX4_append_16 (by decide) ?_
    refine g_istore (lv' := [(4, .int (nI 0)), (0, .ref a), (1, .ref n), (2, .long v)]) C dX4_append_17 (by decide) rfl ?_
    refine g_aload_n 1 0 C dX4_append_19 rfl rfl ?_
    refine gf_ls_size C dX4_append_20 k_a wF_X4_9 ?_
    refine g_topi (sz_a) ?_
    refine g_nif_eq 44 (by omega) C dX4_append_23 (by decide) (fun c23 => ?_) (fun c23 => ?_)
    · refine g_iconst (v := nI 1) C dX4_append_44 (by decide) ?_
      refine g_goto 49 C dX4_append_45 (by decide) ?_
      refine g_istore (lv' := [(5, .int (nI 1)), (4, .int (nI 0)), (0, .ref a), (1, .ref n), (2, .long v)]) C dX4_append_49 (by decide) rfl ?_
      refine g_iload 1 C dX4_append_51 rfl ?_
      refine g_nif_ne 61 (by decide) C dX4_append_53 (by decide) (fun c => absurd c (by decide)) (fun _ => ?_)
      refine g_iload 0 C dX4_append_56 rfl ?_
      refine g_nif_ne 63 (by decide) C dX4_append_58 (by decide) (fun _ => ?_) (fun c => absurd c (by decide))
      refine g_aload_n 2 0 C dX4_append_63 rfl rfl ?_
      refine gr_ls_names C dX4_append_64 k_a wF_X4_17 ra_a ?_
      refine g_aload_n 2 0 C dX4_append_67 rfl rfl ?_
      refine gf_ls_size C dX4_append_68 k_a wF_X4_9 ?_
      refine g_topi (sz_a) ?_
      refine g_aload_n 3 1 C dX4_append_71 rfl rfl ?_
      refine gs_nr C dX4_append_72 kn_a (by omega) (by omega) hc.1 ?_
      refine g_aload_n 2 0 C dX4_append_73 rfl rfl ?_
      refine gr_ls_values C dX4_append_74 k_a wF_X4_21 rb_a ?_
      refine g_aload_n 2 0 C dX4_append_77 rfl rfl ?_
      refine gf_ls_size C dX4_append_78 k_a wF_X4_9 ?_
      refine g_topi (sz_a) ?_
      refine g_lload_n 4 2 C dX4_append_81 rfl rfl ?_
      refine gs_vl_a C dX4_append_82 kv_a (by have h_ : ln (nr_a_ S (va_up (nr_a S) nr (va_up (nr_a S nr) l.length (some n)))) va = room := lv_a; omega) (by have h_ : ln (nr_a_ S (va_up (nr_a S) nr (va_up (nr_a S nr) l.length (some n)))) va = room := lv_a; omega) ?_
      refine g_aload_n 2 0 C dX4_append_83 rfl rfl ?_
      refine g_dup C dX4_append_84 rfl ?_
      refine gf_ls_size C dX4_append_85 k_a wF_X4_9 ?_
      refine g_topi (sz_a) ?_
      refine g_iconst (v := nI 1) C dX4_append_88 (by decide) ?_
      refine g_iadd C dX4_append_89 ?_
      refine g_topi (nI_add _ _ : _ = nI (l.length + 1)) ?_
      refine pp_ls_size C dX4_append_90 k_a wF_X4_9 (Or.inl rfl) ?_
      refine g_iconst (v := nI 1) C dX4_append_93 (by decide) ?_
      have hA : appB l room cur = true := by unfold appB; rw [decide_eq_true hfu, Bool.true_and]; rw [decide_eq_true c23]; rfl
      have hlen : (l ++ [(cur, v)]).length = l.length + 1 := by rw [List.length_append]; rfl
      exact g_zret C dX4_append_94 (by decide) (by decide) (Or.inr rfl) ⟨by rw [hA]; rfl, hl'.A3 _ _ _, rfl, by
        rw [hA, if_pos rfl]
        have := hl'.up (l' := l ++ [(cur, v)]) (fn := va_up (nr_a S nr) l.length (some n)) (fv := vp_updL (vl_a S va) l.length v) (by omega) (fun q hq => by
          rw [hlen] at hq
          rw [ent_app]
          by_cases g1 : q < l.length
          · rw [if_pos g1]
            obtain ⟨w1, w2, w3, w4, w5⟩ := en_a q g1
            exact ⟨w1, (va_up_ne _ _ (by omega)).trans w2, w3, w4, (pk_uLn (by omega)).trans w5⟩
          · rw [if_neg g1, if_pos (by omega), show q = l.length by omega]
            exact ⟨n, va_up_self _ _ _, hc, oc, pk_uLs⟩)
        rw [hlen] at this
        exact this⟩
    · obtain ⟨m_, m1, m2, m3, m4⟩ := en_a (l.length - 1) (by omega)
      refine g_aload_n 1 0 C dX4_append_26 rfl rfl ?_
      refine gr_ls_names C dX4_append_27 k_a wF_X4_17 ra_a ?_
      refine g_aload_n 1 0 C dX4_append_30 rfl rfl ?_
      refine gf_ls_size C dX4_append_31 k_a wF_X4_9 ?_
      refine g_topi (sz_a) ?_
      refine g_iconst (v := nI 1) C dX4_append_34 (by decide) ?_
      refine g_isub C dX4_append_35 ?_
      refine g_topi (pk_sub (by omega) : _ = nI (l.length - 1)) ?_
      refine gar_nr_a C dX4_append_36 kn_a (by omega) (by omega) m1 ?_
      refine g_aload_n 2 1 C dX4_append_37 rfl rfl ?_
      refine g_callV (As := [.ref n]) (rest := []) C dX4_append_38 (c_N_compare m2 hc m3 oc) wC_X5_compareWith wM_X4_25 wI_X5_compareWith wS_X5_compareWith wN_X5 (kne m2.1) (pf_6 m2.1) rfl hd_X5_compareWith ⟨by decide, by decide, by decide, by decide⟩ (Nat.le_of_ble_eq_true rfl) (fun r_ S_ h_ => ?_)
      obtain ⟨rfl, rfl⟩ := h_
      change Go X G _ 6 _ _ S 41 [(4, .int (nI 0)), (0, .ref a), (1, .ref n), (2, .long v)] [.int (cmpV (nm l (l.length - 1)) cur)]
      refine g_if_ge 48 C dX4_append_41 (by decide) (fun c41 => ?_) (fun c41 => ?_)
      · refine g_iconst (v := nI 0) C dX4_append_48 (by decide) ?_
        refine g_istore (lv' := [(5, .int (nI 0)), (4, .int (nI 0)), (0, .ref a), (1, .ref n), (2, .long v)]) C dX4_append_49 (by decide) rfl ?_
        refine g_iload 1 C dX4_append_51 rfl ?_
        refine g_nif_ne 61 (by decide) C dX4_append_53 (by decide) (fun c => absurd c (by decide)) (fun _ => ?_)
        refine g_iload 0 C dX4_append_56 rfl ?_
        refine g_nif_ne 63 (by decide) C dX4_append_58 (by decide) (fun c => absurd c (by decide)) (fun _ => ?_)
        refine g_iconst (v := nI 0) C dX4_append_61 (by decide) ?_
        have hA : appB l room cur = false := by unfold appB; rw [decide_eq_false c23, Bool.eq_false_iff.mpr (fun h => (cmp_lt.mpr h) c41)]; exact Bool.and_false _
        exact g_zret C dX4_append_62 (by decide) (by decide) (Or.inl rfl) (⟨by rw [hA]; rfl, Fr.refl S _, rfl, by rw [hA, if_neg (by decide)]; exact hl'⟩)
      · refine g_iconst (v := nI 1) C dX4_append_44 (by decide) ?_
        refine g_goto 49 C dX4_append_45 (by decide) ?_
        refine g_istore (lv' := [(5, .int (nI 1)), (4, .int (nI 0)), (0, .ref a), (1, .ref n), (2, .long v)]) C dX4_append_49 (by decide) rfl ?_
        refine g_iload 1 C dX4_append_51 rfl ?_
        refine g_nif_ne 61 (by decide) C dX4_append_53 (by decide) (fun c => absurd c (by decide)) (fun _ => ?_)
        refine g_iload 0 C dX4_append_56 rfl ?_
        refine g_nif_ne 63 (by decide) C dX4_append_58 (by decide) (fun _ => ?_) (fun c => absurd c (by decide))
        refine g_aload_n 2 0 C dX4_append_63 rfl rfl ?_
        refine gr_ls_names C dX4_append_64 k_a wF_X4_17 ra_a ?_
        refine g_aload_n 2 0 C dX4_append_67 rfl rfl ?_
        refine gf_ls_size C dX4_append_68 k_a wF_X4_9 ?_
        refine g_topi (sz_a) ?_
        refine g_aload_n 3 1 C dX4_append_71 rfl rfl ?_
        refine gs_nr C dX4_append_72 kn_a (by omega) (by omega) hc.1 ?_
        refine g_aload_n 2 0 C dX4_append_73 rfl rfl ?_
        refine gr_ls_values C dX4_append_74 k_a wF_X4_21 rb_a ?_
        refine g_aload_n 2 0 C dX4_append_77 rfl rfl ?_
        refine gf_ls_size C dX4_append_78 k_a wF_X4_9 ?_
        refine g_topi (sz_a) ?_
        refine g_lload_n 4 2 C dX4_append_81 rfl rfl ?_
        refine gs_vl_a C dX4_append_82 kv_a (by have h_ : ln (nr_a_ S (va_up (nr_a S) nr (va_up (nr_a S nr) l.length (some n)))) va = room := lv_a; omega) (by have h_ : ln (nr_a_ S (va_up (nr_a S) nr (va_up (nr_a S nr) l.length (some n)))) va = room := lv_a; omega) ?_
        refine g_aload_n 2 0 C dX4_append_83 rfl rfl ?_
        refine g_dup C dX4_append_84 rfl ?_
        refine gf_ls_size C dX4_append_85 k_a wF_X4_9 ?_
        refine g_topi (sz_a) ?_
        refine g_iconst (v := nI 1) C dX4_append_88 (by decide) ?_
        refine g_iadd C dX4_append_89 ?_
        refine g_topi (nI_add _ _ : _ = nI (l.length + 1)) ?_
        refine pp_ls_size C dX4_append_90 k_a wF_X4_9 (Or.inl rfl) ?_
        refine g_iconst (v := nI 1) C dX4_append_93 (by decide) ?_
        have hA : appB l room cur = true := by unfold appB; rw [decide_eq_true hfu, Bool.true_and]; rw [cmp_lt.mp c41]; exact Bool.or_true _
        have hlen : (l ++ [(cur, v)]).length = l.length + 1 := by rw [List.length_append]; rfl
        exact g_zret C dX4_append_94 (by decide) (by decide) (Or.inr rfl) ⟨by rw [hA]; rfl, hl'.A3 _ _ _, rfl, by
          rw [hA, if_pos rfl]
          have := hl'.up (l' := l ++ [(cur, v)]) (fn := va_up (nr_a S nr) l.length (some n)) (fv := vp_updL (vl_a S va) l.length v) (by omega) (fun q hq => by
            rw [hlen] at hq
            rw [ent_app]
            by_cases g1 : q < l.length
            · rw [if_pos g1]
              obtain ⟨w1, w2, w3, w4, w5⟩ := en_a q g1
              exact ⟨w1, (va_up_ne _ _ (by omega)).trans w2, w3, w4, (pk_uLn (by omega)).trans w5⟩
            · rw [if_neg g1, if_pos (by omega), show q = l.length by omega]
              exact ⟨n, va_up_self _ _ _, hc, oc, pk_uLs⟩)
          rw [hlen] at this
          exact this⟩
  · refine g_iconst (v := nI 1) C dX4_append_12 (by decide) ?_
    refine g_goto 17 C dX4_append_13 (by decide) ?_
    refine g_istore (lv' := [(4, .int (nI 1)), (0, .ref a), (1, .ref n), (2, .long v)]) C dX4_append_17 (by decide) rfl ?_
    refine g_aload_n 1 0 C dX4_append_19 rfl rfl ?_
    refine gf_ls_size C dX4_append_20 k_a wF_X4_9 ?_
    refine g_topi (sz_a) ?_
    refine g_nif_eq 44 (by omega) C dX4_append_23 (by decide) (fun c23 => ?_) (fun c23 => ?_)
    · refine g_iconst (v := nI 1) C dX4_append_44 (by decide) ?_
      refine g_goto 49 C dX4_append_45 (by decide) ?_
      refine g_istore (lv' := [(5, .int (nI 1)), (4, .int (nI 1)), (0, .ref a), (1, .ref n), (2, .long v)]) C dX4_append_49 (by decide) rfl ?_
      refine g_iload 1 C dX4_append_51 rfl ?_
      refine g_nif_ne 61 (by decide) C dX4_append_53 (by decide) (fun _ => ?_) (fun c => absurd c (by decide))
      refine g_iconst (v := nI 0) C dX4_append_61 (by decide) ?_
      have hA : appB l room cur = false := by unfold appB; rw [decide_eq_false (by omega)]; rfl
      exact g_zret C dX4_append_62 (by decide) (by decide) (Or.inl rfl) (⟨by rw [hA]; rfl, Fr.refl S _, rfl, by rw [hA, if_neg (by decide)]; exact hl'⟩)
    · obtain ⟨m_, m1, m2, m3, m4⟩ := en_a (l.length - 1) (by omega)
      refine g_aload_n 1 0 C dX4_append_26 rfl rfl ?_
      refine gr_ls_names C dX4_append_27 k_a wF_X4_17 ra_a ?_
      refine g_aload_n 1 0 C dX4_append_30 rfl rfl ?_
      refine gf_ls_size C dX4_append_31 k_a wF_X4_9 ?_
      refine g_topi (sz_a) ?_
      refine g_iconst (v := nI 1) C dX4_append_34 (by decide) ?_
      refine g_isub C dX4_append_35 ?_
      refine g_topi (pk_sub (by omega) : _ = nI (l.length - 1)) ?_
      refine gar_nr_a C dX4_append_36 kn_a (by omega) (by omega) m1 ?_
      refine g_aload_n 2 1 C dX4_append_37 rfl rfl ?_
      refine g_callV (As := [.ref n]) (rest := []) C dX4_append_38 (c_N_compare m2 hc m3 oc) wC_X5_compareWith wM_X4_25 wI_X5_compareWith wS_X5_compareWith wN_X5 (kne m2.1) (pf_6 m2.1) rfl hd_X5_compareWith ⟨by decide, by decide, by decide, by decide⟩ (Nat.le_of_ble_eq_true rfl) (fun r_ S_ h_ => ?_)
      obtain ⟨rfl, rfl⟩ := h_
      change Go X G _ 6 _ _ S 41 [(4, .int (nI 1)), (0, .ref a), (1, .ref n), (2, .long v)] [.int (cmpV (nm l (l.length - 1)) cur)]
      refine g_if_ge 48 C dX4_append_41 (by decide) (fun c41 => ?_) (fun c41 => ?_)
      · refine g_iconst (v := nI 0) C dX4_append_48 (by decide) ?_
        refine g_istore (lv' := [(5, .int (nI 0)), (4, .int (nI 1)), (0, .ref a), (1, .ref n), (2, .long v)]) C dX4_append_49 (by decide) rfl ?_
        refine g_iload 1 C dX4_append_51 rfl ?_
        refine g_nif_ne 61 (by decide) C dX4_append_53 (by decide) (fun _ => ?_) (fun c => absurd c (by decide))
        refine g_iconst (v := nI 0) C dX4_append_61 (by decide) ?_
        have hA : appB l room cur = false := by unfold appB; rw [decide_eq_false (by omega)]; rfl
        exact g_zret C dX4_append_62 (by decide) (by decide) (Or.inl rfl) (⟨by rw [hA]; rfl, Fr.refl S _, rfl, by rw [hA, if_neg (by decide)]; exact hl'⟩)
      · refine g_iconst (v := nI 1) C dX4_append_44 (by decide) ?_
        refine g_goto 49 C dX4_append_45 (by decide) ?_
        refine g_istore (lv' := [(5, .int (nI 1)), (4, .int (nI 1)), (0, .ref a), (1, .ref n), (2, .long v)]) C dX4_append_49 (by decide) rfl ?_
        refine g_iload 1 C dX4_append_51 rfl ?_
        refine g_nif_ne 61 (by decide) C dX4_append_53 (by decide) (fun _ => ?_) (fun c => absurd c (by decide))
        refine g_iconst (v := nI 0) C dX4_append_61 (by decide) ?_
        have hA : appB l room cur = false := by unfold appB; rw [decide_eq_false (by omega)]; rfl
        exact g_zret C dX4_append_62 (by decide) (by decide) (Or.inl rfl) (⟨by rw [hA]; rfl, Fr.refl S _, rfl, by rw [hA, if_neg (by decide)]; exact hl'⟩)
set_option maxRecDepth 100000 in
set_option maxHeartbeats 2000000 in
theorem c_L_copy {lX : Launch} {G : Gx} {S : PS} {a nr va room : Nat} {l : List Ent} (hl : listC S a nr va room l) {room0 : Nat} (hr0 : room0 ≤ 100) : Ct lX yX4_copyWithRoom cX4_copyWithRoom 4 (Option.some (Jvm.ClassFile.FieldType.object "BitAlmanac$Listing")) rm_X4_copyWithRoom G [.ref a, .int (nI room0)] S (fun r S' => ∃ a2 nr2 va2, r = some (.ref a2) ∧ Fr S S' No ∧ mu S' = mu S ∧ listC S' a2 nr2 va2 (max room0 l.length) l ∧ kd S a2 = 0 ∧ kd S nr2 = 0 ∧ kd S va2 = 0) := by
  have hl' := hl
  obtain ⟨⟨k_a, ra_a, rb_a⟩, ⟨kn_a, ln_a⟩, ⟨kv_a, lv_a⟩, sz_a, le_a, rm_a, en_a⟩ := hl
  have hnrk := kn_a
  have hvak := kv_a
  have hakd := k_a
  refine Ct.mk RX4 "copyWithRoom" hy_X4_copyWithRoom (Nat.le_of_ble_eq_true rfl) (fun X hX C => ?_)
  change Go X G _ 4 0 0 S 0 [(0, .ref a), (1, .int (nI room0))] []
  refine gw_Listing C dX4_copyWithRoom_0 wK_X4_10 ⟨by decide, by decide⟩ (fun q h0_q => ?_)
  refine Go.wide (k2 := 1) (n2 := 3) (by first | decide | omega) (by first | decide | omega) ?_
  refine g_dup C dX4_copyWithRoom_3 rfl ?_
  refine g_iload_n 1 1 C dX4_copyWithRoom_4 rfl rfl ?_
  refine g_aload_n 0 0 C dX4_copyWithRoom_5 rfl rfl ?_
  refine gf_ls_size C dX4_copyWithRoom_6 (kup h0_q k_a) wF_X4_9 ?_
  refine g_topi (((va_up_ne _ _ (ne_kd hakd (h0_q : kd S q = 0))).trans sz_a)) ?_
  refine g_mmax (by omega) (by omega) C dX4_copyWithRoom_9 wM_X4_33 ⟨by decide, by decide, by decide, by decide⟩ (Nat.le_of_ble_eq_true rfl) ?_
  refine g_callI (As := [.int (nI (max room0 l.length))]) (rest := [.ref q]) C dX4_copyWithRoom_12 (c_L_init (S := nw_Listing S q) (va_up_self _ _ _) (by omega)) wC_X4_init wM_X4_50 wI_X4_init wN_X4 rfl hd_X4_init.2 ⟨by decide, by decide, by decide, by decide⟩ (Nat.le_of_ble_eq_true rfl) (fun r_ S2 h_ => ?_)
  obtain ⟨nr2, va2, rfl, f1, hmu, hl2, hn0, hv0⟩ := h_
  change Go X G _ 4 _ _ S2 15 [(0, .ref a), (1, .int (nI room0))] [.ref q]
  have f0 : Fr S (nw_Listing S q) No := (Fr.refl S No).n_Listing h0_q
  have f2 : Fr S S2 No := f0.trans f1 (fun b hb e => absurd h0_q (e ▸ hb))
  have hq5 := (hl2.1.1)
  have hnr0 : kd S nr2 = 0 := f0.new hn0
  have hva0 : kd S va2 = 0 := f0.new hv0
  have hlS := hl'.fr f2 id id id
  obtain ⟨⟨k_a, ra_a, rb_a⟩, ⟨kn_a, ln_a⟩, ⟨kv_a, lv_a⟩, sz_a, le_a, rm_a, en_a⟩ := hlS
  obtain ⟨⟨k_q, ra_q, rb_q⟩, ⟨kn_q, ln_q⟩, ⟨kv_q, lv_q⟩, sz_q, le_q, rm_q, en_q⟩ := id hl2
  refine g_astore_n (lv' := [(2, .ref q), (0, .ref a), (1, .int (nI room0))]) C dX4_copyWithRoom_15 rfl (by decide) rfl ?_
  refine g_iconst (v := nI 0) C dX4_copyWithRoom_16 (by decide) ?_
  refine g_istore_n (lv' := [(3, .int (nI 0)), (2, .ref q), (0, .ref a), (1, .int (nI room0))]) C dX4_copyWithRoom_17 rfl (by decide) rfl ?_
  have lp : ∀ (n_ : Nat) (k : Nat) (fn : Nat → Option Nat) (fv : Nat → Int64), l.length - k < n_ → (k ≤ l.length ∧ ∀ j, j < k → entF S2 fn fv j (ent l j)) → Go X G (Qe X G (fun r S' => ∃ a2 nr2 va2, r = some (.ref a2) ∧ Fr S S' No ∧ mu S' = mu S ∧ listC S' a2 nr2 va2 (max room0 l.length) l ∧ kd S a2 = 0 ∧ kd S nr2 = 0 ∧ kd S va2 = 0) rm_X4_copyWithRoom.cells rm_X4_copyWithRoom.slots) 4 3 203 (lsS S2 nr2 va2 fn fv) 18 [(3, .int (nI k)), (2, .ref q), (0, .ref a), (1, .int (nI room0))] [] := by
    intro n_
    induction n_ with
    | zero => intro k fn fv hm_; exact absurd hm_ (Nat.not_lt_zero _)
    | succ n_ ih_ =>
      intro k fn fv hm_ hh
      have hh1 := hh.1
      refine g_iload_n 0 3 C dX4_copyWithRoom_18 rfl rfl ?_
      refine g_aload_n 2 0 C dX4_copyWithRoom_19 rfl rfl ?_
      refine gf_ls_size C dX4_copyWithRoom_20 k_a wF_X4_9 ?_
      refine g_topi (sz_a) ?_
      refine g_ncmp_ge 56 (by omega) (by omega) C dX4_copyWithRoom_23 (by decide) (fun c23 => ?_) (fun c23 => ?_)
      · refine g_aload_n 1 2 C dX4_copyWithRoom_56 rfl rfl ?_
        refine g_aload_n 2 0 C dX4_copyWithRoom_57 rfl rfl ?_
        refine gf_ls_size C dX4_copyWithRoom_58 k_a wF_X4_9 ?_
        refine g_topi (sz_a) ?_
        refine pp_ls_size C dX4_copyWithRoom_61 k_q wF_X4_9 (Or.inl rfl) ?_
        refine g_aload_n 1 2 C dX4_copyWithRoom_64 rfl rfl ?_
        have ek : k = l.length := by omega
        have hfin : listC (szS S2 q nr2 va2 fn fv (nI l.length)) q nr2 va2 (max room0 l.length) l := hl2.up (by omega) (fun j hj => hh.2 j (by omega))
        have hne0 : ∀ b, kd S b ≠ 0 → b ≠ q ∧ b ≠ nr2 ∧ b ≠ va2 := fun b hb => ⟨nq h0_q hb, nq hnr0 hb, nq hva0 hb⟩
        exact g_aret (r := some q) C dX4_copyWithRoom_65 (Or.inl ⟨_, rfl⟩) (by decide) (by decide) ⟨q, nr2, va2, rfl, f2.sz (Or.inl h0_q) (Or.inl hnr0) (Or.inl hva0), (show mu (szS S2 q nr2 va2 fn fv (nI l.length)) = mu S2 from rfl).trans hmu, hfin, h0_q, hnr0, hva0⟩
      · obtain ⟨m_, m1, m2, m3, m4⟩ := en_a k (by omega)
        have hnn : nr ≠ nr2 := fun e => by rw [e] at hnrk; rw [hnrk] at hnr0; exact absurd hnr0 (by decide)
        have hvv : va ≠ va2 := fun e => by rw [e] at hvak; rw [hvak] at hva0; exact absurd hva0 (by decide)
        refine g_aload_n 1 2 C dX4_copyWithRoom_26 rfl rfl ?_
        refine gr_ls_names C dX4_copyWithRoom_27 k_q wF_X4_17 ra_q ?_
        refine g_iload_n 0 3 C dX4_copyWithRoom_30 rfl rfl ?_
        refine g_aload_n 2 0 C dX4_copyWithRoom_31 rfl rfl ?_
        refine gr_ls_names C dX4_copyWithRoom_32 k_a wF_X4_17 ra_a ?_
        refine g_iload_n 0 3 C dX4_copyWithRoom_35 rfl rfl ?_
        refine gar_nr_a C dX4_copyWithRoom_36 kn_a (by have h_ : ln (lsS S2 nr2 va2 fn fv) nr = room := ln_a; omega) (by have h_ : ln (lsS S2 nr2 va2 fn fv) nr = room := ln_a; omega) ((congrFun (va_up_ne _ _ hnn) _).trans m1) ?_
        refine gs_nr C dX4_copyWithRoom_37 kn_q (by have h_ : ln (lsS S2 nr2 va2 fn fv) nr2 = max room0 l.length := ln_q; omega) (by have h_ : ln (lsS S2 nr2 va2 fn fv) nr2 = max room0 l.length := ln_q; omega) m2.1 ?_
        refine g_st lsS_n ?_
        refine g_aload_n 1 2 C dX4_copyWithRoom_38 rfl rfl ?_
        refine gr_ls_values C dX4_copyWithRoom_39 k_q wF_X4_21 rb_q ?_
        refine g_iload_n 0 3 C dX4_copyWithRoom_42 rfl rfl ?_
        refine g_aload_n 2 0 C dX4_copyWithRoom_43 rfl rfl ?_
        refine gr_ls_values C dX4_copyWithRoom_44 k_a wF_X4_21 rb_a ?_
        refine g_iload_n 0 3 C dX4_copyWithRoom_47 rfl rfl ?_
        refine ga_vl_a C dX4_copyWithRoom_48 kv_a (by have h_ : ln (lsS S2 nr2 va2 (va_up fn k (some m_)) fv) va = room := lv_a; omega) (by have h_ : ln (lsS S2 nr2 va2 (va_up fn k (some m_)) fv) va = room := lv_a; omega) ?_
        refine g_topl (((congrFun (va_up_ne _ _ hvv) _).trans m4)) ?_
        refine gs_vl_a C dX4_copyWithRoom_49 kv_q (by have h_ : ln (lsS S2 nr2 va2 (va_up fn k (some m_)) fv) va2 = max room0 l.length := lv_q; omega) (by have h_ : ln (lsS S2 nr2 va2 (va_up fn k (some m_)) fv) va2 = max room0 l.length := lv_q; omega) ?_
        refine g_st lsS_v ?_
        refine g_iinc (v := nI (k + 1)) (lv' := [(3, .int (nI (k + 1))), (2, .ref q), (0, .ref a), (1, .int (nI room0))]) 0 C dX4_copyWithRoom_50 rfl (nI_add _ 1) (by decide) rfl ?_
        refine g_goto 18 C dX4_copyWithRoom_53 (by decide) ?_
        exact ih_ (k + 1) _ _ (by omega) ⟨by omega, fun j hj => by
          by_cases e : j = k
          · rw [e]; exact ⟨m_, va_up_self _ _ _, m2, m3, pk_uLs⟩
          · obtain ⟨w1, w2, w3, w4, w5⟩ := hh.2 j (by omega)
            exact ⟨w1, (va_up_ne _ _ e).trans w2, w3, w4, (pk_uLn e).trans w5⟩⟩
  refine g_st (lsS_0 S2 nr2 va2).symm ?_
  exact lp (l.length + 1) 0 _ _ (by omega) ⟨Nat.zero_le _, fun j hj => absurd hj (Nat.not_lt_zero _)⟩
