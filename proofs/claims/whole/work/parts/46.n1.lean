def cmpI (a b : Nat) : Int32 := if a < b then -1 else if a = b then 0 else 1
def cmpV (a b : List Nat) : Int32 := if less a b = true then -1 else if a = b then 0 else 1
theorem cmp_1 {a b : List Nat} (h1 : lcp a b < a.length) (h2 : lcp a b < b.length) : cmpI (a.getD (lcp a b) 0) (b.getD (lcp a b) 0) = cmpV a b := by
  have h3 := lcp_end h1 h2
  unfold cmpI cmpV
  by_cases h : a.getD (lcp a b) 0 < b.getD (lcp a b) 0
  · rw [if_pos h, if_pos (less_lt rfl h2 h1 h)]
  · rw [if_neg h, if_neg h3]
    have hl : less a b = false := by unfold less; rw [if_pos h2, if_pos h1]; exact decide_eq_false h
    rw [hl, if_neg (by decide), if_neg (fun e => by rw [e, lcp_self] at h1; omega)]
theorem cmp_2 {a b : List Nat} (h : ¬ (lcp a b < a.length ∧ lcp a b < b.length)) : cmpI a.length b.length = cmpV a b := by
  have h1 := lcp_le1 a b
  have h2 := lcp_le2 a b
  unfold cmpI cmpV
  by_cases g : a.length < b.length
  · rw [if_pos g, if_pos (less_pre rfl (by omega) (by omega))]
  · have hl : ¬ less a b = true := by
      unfold less
      rw [if_neg (by omega)]
      exact Bool.false_ne_true
    rw [if_neg g, if_neg hl]
    by_cases e : a.length = b.length
    · rw [if_pos e, if_pos (lcp_full (by omega) (by omega))]
    · rw [if_neg e, if_neg (fun z => e (by rw [z]))]
theorem cmp_lt {a b : List Nat} : ¬ 0 ≤ cmpV a b ↔ less a b = true := by
  unfold cmpV
  by_cases h : less a b = true
  · rw [if_pos h]; exact ⟨fun _ => h, fun _ => by decide⟩
  · rw [if_neg h]
    refine ⟨fun g => absurd ?_ g, fun g => absurd g h⟩
    split <;> decide
theorem cmp_eq {a b : List Nat} : cmpV a b = 0 ↔ a = b := by
  unfold cmpV
  by_cases h : less a b = true
  · rw [if_pos h]; exact ⟨fun g => absurd g (by decide), fun g => by rw [g, less_irrefl] at h; cases h⟩
  · rw [if_neg h]
    by_cases e : a = b
    · rw [if_pos e]; exact ⟨fun _ => e, fun _ => rfl⟩
    · rw [if_neg e]; exact ⟨fun g => absurd g (by decide), fun g => absurd g e⟩
set_option maxRecDepth 100000 in
set_option maxHeartbeats 400000 in
theorem c_J_compare {lX : Launch} {G : Gx} {S : PS} {a b : Nat} (ha : a < 2 ^ 31) (hb : b < 2 ^ 31) : Ct lX yJ6_compare_7cf53 cJ6_compare_7cf53 2 (Option.some Jvm.ClassFile.FieldType.int) rm_J6_compare_7cf53 G [.int (nI a), .int (nI b)] S (fun r S' => r = some (.int (cmpI a b)) ∧ S = S') := by
  refine Ct.mk RJ6 "compare" hy_J6_compare_7cf53 (Nat.le_of_ble_eq_true rfl) (fun X hX C => ?_)
  change Go X G _ 2 0 0 S 0 [(0, .int (nI a)), (1, .int (nI b))] []
  refine g_iload_n 0 0 C dJ6_compare_7cf53_0 rfl rfl ?_
  refine g_iload_n 1 1 C dJ6_compare_7cf53_1 rfl rfl ?_
  refine g_ncmp_ge 9 (by omega) (by omega) C dJ6_compare_7cf53_2 (by decide) (fun c2 => ?_) (fun c2 => ?_)
  · refine g_iload_n 0 0 C dJ6_compare_7cf53_9 rfl rfl ?_
    refine g_iload_n 1 1 C dJ6_compare_7cf53_10 rfl rfl ?_
    refine g_ncmp_ne 18 (by omega) (by omega) C dJ6_compare_7cf53_11 (by decide) (fun c11 => ?_) (fun c11 => ?_)
    · have e : cmpI a b = 1 := by unfold cmpI; rw [if_neg (by omega), if_neg c11]
      refine g_iconst (v := nI 1) C dJ6_compare_7cf53_18 (by decide) ?_
      exact g_iret C dJ6_compare_7cf53_19 (by decide) (by decide) (⟨by rw [e] <;> rfl, rfl⟩)
    · have e : cmpI a b = 0 := by unfold cmpI; rw [if_neg (by omega), if_pos c11]
      refine g_iconst (v := nI 0) C dJ6_compare_7cf53_14 (by decide) ?_
      refine g_goto 19 C dJ6_compare_7cf53_15 (by decide) ?_
      exact g_iret C dJ6_compare_7cf53_19 (by decide) (by decide) (⟨by rw [e] <;> rfl, rfl⟩)
  · have e : cmpI a b = -1 := if_pos c2
    refine g_iconst (v := -1) C dJ6_compare_7cf53_5 (by decide) ?_
    refine g_goto 19 C dJ6_compare_7cf53_6 (by decide) ?_
    exact g_iret C dJ6_compare_7cf53_19 (by decide) (by decide) (⟨by rw [e] <;> rfl, rfl⟩)
set_option maxRecDepth 100000 in
set_option maxHeartbeats 400000 in
theorem c_N_alike {lX : Launch} {G : Gx} {S : PS} {n1 n2 : Nat} {as bs : List Nat} (h1 : nameC S n1 as) (h2 : nameC S n2 bs) (o1 : okN as) (o2 : okN bs) : Ct lX yX5_alike cX5_alike 4 (Option.some Jvm.ClassFile.FieldType.int) rm_X5_alike G [.ref n1, .ref n2] S (fun r S' => r = some (.int (nI (lcp as bs))) ∧ S = S') := by
  obtain ⟨k_n1, b_n1, r_n1, kb_n1, l_n1, v_n1⟩ := h1
  obtain ⟨k_n2, b_n2, r_n2, kb_n2, l_n2, v_n2⟩ := h2
  have ol1 := o1.2.1
  have ol2 := o2.2.1
  refine Ct.mk RX5 "alike" hy_X5_alike (Nat.le_of_ble_eq_true rfl) (fun X hX C => ?_)
  change Go X G _ 4 0 0 S 0 [(0, .ref n1), (1, .ref n2)] []
  refine g_aload_n 0 0 C dX5_alike_0 rfl rfl ?_
  refine gr_nm_bytes C dX5_alike_1 k_n1 wF_X5_9 r_n1 ?_
  refine gl_nb_a C dX5_alike_4 kb_n1 ?_
  refine g_topi (congrArg nI l_n1) ?_
  refine g_aload_n 1 1 C dX5_alike_5 rfl rfl ?_
  refine gr_nm_bytes C dX5_alike_6 k_n2 wF_X5_9 r_n2 ?_
  refine gl_nb_a C dX5_alike_9 kb_n2 ?_
  refine g_topi (congrArg nI l_n2) ?_
  refine g_mmin (by omega) (by omega) C dX5_alike_10 wM_X5_15 ⟨by decide, by decide, by decide, by decide⟩ (Nat.le_of_ble_eq_true rfl) ?_
  refine g_istore_n (lv' := [(2, .int (nI (min as.length bs.length))), (0, .ref n1), (1, .ref n2)]) C dX5_alike_13 rfl (by decide) rfl ?_
  refine g_iconst (v := nI 0) C dX5_alike_14 (by decide) ?_
  refine g_istore_n (lv' := [(3, .int (nI 0)), (2, .int (nI (min as.length bs.length))), (0, .ref n1), (1, .ref n2)]) C dX5_alike_15 rfl (by decide) rfl ?_
  have lp : ∀ (n_ : Nat) (i : Nat), min as.length bs.length - i < n_ → (i ≤ min as.length bs.length ∧ ∀ j, j < i → as.getD j 0 = bs.getD j 0) → Go X G (Qe X G (fun r S' => r = some (.int (nI (lcp as bs))) ∧ S = S') rm_X5_alike.cells rm_X5_alike.slots) 4 0 0 S 16 [(3, .int (nI i)), (2, .int (nI (min as.length bs.length))), (0, .ref n1), (1, .ref n2)] [] := by
    intro n_
    induction n_ with
    | zero => intro i hm_; exact absurd hm_ (Nat.not_lt_zero _)
    | succ n_ ih_ =>
      intro i hm_ hi
      have hi1 := hi.1
      refine g_iload_n 0 3 C dX5_alike_16 rfl rfl ?_
      refine g_iload_n 1 2 C dX5_alike_17 rfl rfl ?_
      refine g_ncmp_ge 42 (by omega) (by omega) C dX5_alike_18 (by decide) (fun c18 => ?_) (fun c18 => ?_)
      · have e : lcp as bs = i := lcp_eq (by omega) (by omega) hi.2 (by omega)
        refine g_iload_n 0 3 C dX5_alike_42 rfl rfl ?_
        exact g_iret C dX5_alike_43 (by decide) (by decide) (⟨by rw [e], rfl⟩)
      · have y1 := (o1.2.2 i (by omega)).2
        have y2 := (o2.2.2 i (by omega)).2
        refine g_aload_n 2 0 C dX5_alike_21 rfl rfl ?_
        refine gr_nm_bytes C dX5_alike_22 k_n1 wF_X5_9 r_n1 ?_
        refine g_iload_n 0 3 C dX5_alike_25 rfl rfl ?_
        refine ga_nb_a C dX5_alike_26 kb_n1 (by omega) (by omega) ?_
        refine g_topi (v_n1 _ (by omega)) ?_
        refine g_aload_n 3 1 C dX5_alike_27 rfl rfl ?_
        refine gr_nm_bytes C dX5_alike_28 k_n2 wF_X5_9 r_n2 ?_
        refine g_iload_n 0 3 C dX5_alike_31 rfl rfl ?_
        refine ga_nb_a C dX5_alike_32 kb_n2 (by omega) (by omega) ?_
        refine g_topi (v_n2 _ (by omega)) ?_
        refine g_ncmp_ne 42 (by omega) (by omega) C dX5_alike_33 (by decide) (fun c33 => ?_) (fun c33 => ?_)
        · have e : lcp as bs = i := lcp_eq (by omega) (by omega) hi.2 (Or.inr (Or.inr c33))
          refine g_iload_n 0 3 C dX5_alike_42 rfl rfl ?_
          exact g_iret C dX5_alike_43 (by decide) (by decide) (⟨by rw [e], rfl⟩)
        · refine g_iinc (v := nI (i + 1)) (lv' := [(3, .int (nI (i + 1))), (2, .int (nI (min as.length bs.length))), (0, .ref n1), (1, .ref n2)]) 0 C dX5_alike_36 rfl (nI_add _ 1) (by decide) rfl ?_
          refine g_goto 16 C dX5_alike_39 (by decide) ?_
          exact ih_ (i + 1) (by omega) ⟨by omega, fun j hj => by
            by_cases e : j = i
            · rw [e]; exact c33
            · exact hi.2 j (by omega)⟩
  exact lp (min as.length bs.length + 1) 0 (by omega) ⟨Nat.zero_le _, fun j hj => absurd hj (Nat.not_lt_zero _)⟩
set_option maxRecDepth 100000 in
set_option maxHeartbeats 400000 in
theorem c_N_begins {lX : Launch} {G : Gx} {S : PS} {n1 n2 : Nat} {as bs : List Nat} (h1 : nameC S n1 as) (h2 : nameC S n2 bs) (o1 : okN as) (o2 : okN bs) : Ct lX yX5_beginsWith cX5_beginsWith 2 (Option.some Jvm.ClassFile.FieldType.boolean) rm_X5_beginsWith G [.ref n1, .ref n2] S (fun r S' => r = some (.int (bI (decide (lcp as bs = bs.length)))) ∧ S = S') := by
  have h1' := h1
  have h2' := h2
  obtain ⟨k_n1, b_n1, r_n1, kb_n1, l_n1, v_n1⟩ := h1
  obtain ⟨k_n2, b_n2, r_n2, kb_n2, l_n2, v_n2⟩ := h2
  have ol1 := o1.2.1
  have ol2 := o2.2.1
  have hl1 := lcp_le1 as bs
  refine Ct.mk RX5 "beginsWith" hy_X5_beginsWith (Nat.le_of_ble_eq_true rfl) (fun X hX C => ?_)
  change Go X G _ 2 0 0 S 0 [(0, .ref n1), (1, .ref n2)] []
  refine g_aload_n 0 0 C dX5_beginsWith_0 rfl rfl ?_
  refine g_aload_n 1 1 C dX5_beginsWith_1 rfl rfl ?_
  refine g_callV (As := [.ref n2]) (rest := []) C dX5_beginsWith_2 (c_N_alike h1' h2' o1 o2) wC_X5_alike wM_X5_21 wI_X5_alike wS_X5_alike wN_X5 (kne k_n1) (pf_6 k_n1) rfl hd_X5_alike ⟨by decide, by decide, by decide, by decide⟩ (Nat.le_of_ble_eq_true rfl) (fun r_ S_ h_ => ?_)
  obtain ⟨rfl, rfl⟩ := h_
  change Go X G _ 2 _ _ S 5 [(0, .ref n1), (1, .ref n2)] [.int (nI (lcp as bs))]
  refine g_aload_n 1 1 C dX5_beginsWith_5 rfl rfl ?_
  refine gr_nm_bytes C dX5_beginsWith_6 k_n2 wF_X5_9 r_n2 ?_
  refine gl_nb_a C dX5_beginsWith_9 kb_n2 ?_
  refine g_topi (congrArg nI l_n2) ?_
  refine g_ncmp_ne 17 (by omega) (by omega) C dX5_beginsWith_10 (by decide) (fun c10 => ?_) (fun c10 => ?_)
  · have e := decide_eq_false c10
    refine g_iconst (v := nI 0) C dX5_beginsWith_17 (by decide) ?_
    exact g_zret C dX5_beginsWith_18 (by decide) (by decide) (Or.inl rfl) (⟨by rw [e] <;> rfl, rfl⟩)
  · have e := decide_eq_true c10
    refine g_iconst (v := nI 1) C dX5_beginsWith_13 (by decide) ?_
    refine g_goto 18 C dX5_beginsWith_14 (by decide) ?_
    exact g_zret C dX5_beginsWith_18 (by decide) (by decide) (Or.inr rfl) (⟨by rw [e] <;> rfl, rfl⟩)
set_option maxRecDepth 100000 in
set_option maxHeartbeats 400000 in
theorem c_N_compare {lX : Launch} {G : Gx} {S : PS} {n1 n2 : Nat} {as bs : List Nat} (h1 : nameC S n1 as) (h2 : nameC S n2 bs) (o1 : okN as) (o2 : okN bs) : Ct lX yX5_compareWith cX5_compareWith 3 (Option.some Jvm.ClassFile.FieldType.int) rm_X5_compareWith G [.ref n1, .ref n2] S (fun r S' => r = some (.int (cmpV as bs)) ∧ S = S') := by
  have h1' := h1
  have h2' := h2
  obtain ⟨k_n1, b_n1, r_n1, kb_n1, l_n1, v_n1⟩ := h1
  obtain ⟨k_n2, b_n2, r_n2, kb_n2, l_n2, v_n2⟩ := h2
  have ol1 := o1.2.1
  have ol2 := o2.2.1
  have hl1 := lcp_le1 as bs
  refine Ct.mk RX5 "compareWith" hy_X5_compareWith (Nat.le_of_ble_eq_true rfl) (fun X hX C => ?_)
  change Go X G _ 3 0 0 S 0 [(0, .ref n1), (1, .ref n2)] []
  refine g_aload_n 0 0 C dX5_compareWith_0 rfl rfl ?_
  refine g_aload_n 1 1 C dX5_compareWith_1 rfl rfl ?_
  refine g_callV (As := [.ref n2]) (rest := []) C dX5_compareWith_2 (c_N_alike h1' h2' o1 o2) wC_X5_alike wM_X5_21 wI_X5_alike wS_X5_alike wN_X5 (kne k_n1) (pf_6 k_n1) rfl hd_X5_alike ⟨by decide, by decide, by decide, by decide⟩ (Nat.le_of_ble_eq_true rfl) (fun r_ S_ h_ => ?_)
  obtain ⟨rfl, rfl⟩ := h_
  change Go X G _ 3 _ _ S 5 [(0, .ref n1), (1, .ref n2)] [.int (nI (lcp as bs))]
  refine g_istore_n (lv' := [(2, .int (nI (lcp as bs))), (0, .ref n1), (1, .ref n2)]) C dX5_compareWith_5 rfl (by decide) rfl ?_
  refine g_iload_n 0 2 C dX5_compareWith_6 rfl rfl ?_
  refine g_aload_n 1 0 C dX5_compareWith_7 rfl rfl ?_
  refine gr_nm_bytes C dX5_compareWith_8 k_n1 wF_X5_9 r_n1 ?_
  refine gl_nb_a C dX5_compareWith_11 kb_n1 ?_
  refine g_topi (congrArg nI l_n1) ?_
  refine g_ncmp_ge 40 (by omega) (by omega) C dX5_compareWith_12 (by decide) (fun c12 => ?_) (fun c12 => ?_)
  · refine g_aload_n 1 0 C dX5_compareWith_40 rfl rfl ?_
    refine gr_nm_bytes C dX5_compareWith_41 k_n1 wF_X5_9 r_n1 ?_
    refine gl_nb_a C dX5_compareWith_44 kb_n1 ?_
    refine g_topi (congrArg nI l_n1) ?_
    refine g_aload_n 2 1 C dX5_compareWith_45 rfl rfl ?_
    refine gr_nm_bytes C dX5_compareWith_46 k_n2 wF_X5_9 r_n2 ?_
    refine gl_nb_a C dX5_compareWith_49 kb_n2 ?_
    refine g_topi (congrArg nI l_n2) ?_
    refine g_callS (As := [.int (nI (as.length)), .int (nI (bs.length))]) (rest := []) C dX5_compareWith_50 (c_J_compare (by omega) (by omega)) wC_J6_compare_7cf53 wM_X5_25 wZ_J6_compare_7cf53 wN_J6 hd_J6_compare_7cf53.2 ⟨by decide, by decide, by decide, by decide⟩ (Nat.le_of_ble_eq_true rfl) (fun r_ S_ h_ => ?_)
    obtain ⟨rfl, rfl⟩ := h_
    change Go X G _ 3 _ _ S 53 [(2, .int (nI (lcp as bs))), (0, .ref n1), (1, .ref n2)] [.int (cmpI as.length bs.length)]
    exact g_iret C dX5_compareWith_53 (by decide) (by decide) (⟨by rw [cmp_2 (by omega)], rfl⟩)
  · refine g_iload_n 0 2 C dX5_compareWith_15 rfl rfl ?_
    refine g_aload_n 2 1 C dX5_compareWith_16 rfl rfl ?_
    refine gr_nm_bytes C dX5_compareWith_17 k_n2 wF_X5_9 r_n2 ?_
    refine gl_nb_a C dX5_compareWith_20 kb_n2 ?_
    refine g_topi (congrArg nI l_n2) ?_
    refine g_ncmp_ge 40 (by omega) (by omega) C dX5_compareWith_21 (by decide) (fun c21 => ?_) (fun c21 => ?_)
    · refine g_aload_n 1 0 C dX5_compareWith_40 rfl rfl ?_
      refine gr_nm_bytes C dX5_compareWith_41 k_n1 wF_X5_9 r_n1 ?_
      refine gl_nb_a C dX5_compareWith_44 kb_n1 ?_
      refine g_topi (congrArg nI l_n1) ?_
      refine g_aload_n 2 1 C dX5_compareWith_45 rfl rfl ?_
      refine gr_nm_bytes C dX5_compareWith_46 k_n2 wF_X5_9 r_n2 ?_
      refine gl_nb_a C dX5_compareWith_49 kb_n2 ?_
      refine g_topi (congrArg nI l_n2) ?_
      refine g_callS (As := [.int (nI (as.length)), .int (nI (bs.length))]) (rest := []) C dX5_compareWith_50 (c_J_compare (by omega) (by omega)) wC_J6_compare_7cf53 wM_X5_25 wZ_J6_compare_7cf53 wN_J6 hd_J6_compare_7cf53.2 ⟨by decide, by decide, by decide, by decide⟩ (Nat.le_of_ble_eq_true rfl) (fun r_ S_ h_ => ?_)
      obtain ⟨rfl, rfl⟩ := h_
      change Go X G _ 3 _ _ S 53 [(2, .int (nI (lcp as bs))), (0, .ref n1), (1, .ref n2)] [.int (cmpI as.length bs.length)]
      exact g_iret C dX5_compareWith_53 (by decide) (by decide) (⟨by rw [cmp_2 (by omega)], rfl⟩)
    · have y1 := (o1.2.2 (lcp as bs) c12).2
      have y2 := (o2.2.2 (lcp as bs) c21).2
      refine g_aload_n 1 0 C dX5_compareWith_24 rfl rfl ?_
      refine gr_nm_bytes C dX5_compareWith_25 k_n1 wF_X5_9 r_n1 ?_
      refine g_iload_n 0 2 C dX5_compareWith_28 rfl rfl ?_
      refine ga_nb_a C dX5_compareWith_29 kb_n1 (by omega) (by omega) ?_
      refine g_topi (v_n1 _ (by omega)) ?_
      refine g_aload_n 2 1 C dX5_compareWith_30 rfl rfl ?_
      refine gr_nm_bytes C dX5_compareWith_31 k_n2 wF_X5_9 r_n2 ?_
      refine g_iload_n 0 2 C dX5_compareWith_34 rfl rfl ?_
      refine ga_nb_a C dX5_compareWith_35 kb_n2 (by omega) (by omega) ?_
      refine g_topi (v_n2 _ (by omega)) ?_
      refine g_callS (As := [.int (nI (as.getD (lcp as bs) 0)), .int (nI (bs.getD (lcp as bs) 0))]) (rest := []) C dX5_compareWith_36 (c_J_compare (by omega) (by omega)) wC_J6_compare_7cf53 wM_X5_25 wZ_J6_compare_7cf53 wN_J6 hd_J6_compare_7cf53.2 ⟨by decide, by decide, by decide, by decide⟩ (Nat.le_of_ble_eq_true rfl) (fun r_ S_ h_ => ?_)
      obtain ⟨rfl, rfl⟩ := h_
      change Go X G _ 3 _ _ S 39 [(2, .int (nI (lcp as bs))), (0, .ref n1), (1, .ref n2)] [.int (cmpI (as.getD (lcp as bs) 0) (bs.getD (lcp as bs) 0))]
      exact g_iret C dX5_compareWith_39 (by decide) (by decide) (⟨by rw [cmp_1 (by omega) (by omega)], rfl⟩)
set_option maxRecDepth 100000 in
set_option maxHeartbeats 400000 in
theorem c_L_hasNumber {lX : Launch} {G : Gx} {S : PS} {a nr va room : Nat} {l : List Ent} (hl : listC S a nr va room l) {k : Int32} : Ct lX yX4_hasNumber cX4_hasNumber 2 (Option.some Jvm.ClassFile.FieldType.boolean) rm_X4_hasNumber G [.ref a, .int k] S (fun r S' => r = some (.int (bI (inR k l.length))) ∧ S = S') := by
  obtain ⟨⟨k_a, ra_a, rb_a⟩, ⟨kn_a, ln_a⟩, ⟨kv_a, lv_a⟩, sz_a, le_a, rm_a, en_a⟩ := hl
  refine Ct.mk RX4 "hasNumber" hy_X4_hasNumber (Nat.le_of_ble_eq_true rfl) (fun X hX C => ?_)
  change Go X G _ 2 0 0 S 0 [(0, .ref a), (1, .int k)] []
  refine g_iload_n 1 1 C dX4_hasNumber_0 rfl rfl ?_
  refine g_if_lt 16 C dX4_hasNumber_1 (by decide) (fun c1 => ?_) (fun c1 => ?_)
  · have e := inR_neg (n := l.length) c1
    refine g_iconst (v := nI 0) C dX4_hasNumber_16 (by decide) ?_
    exact g_zret C dX4_hasNumber_17 (by decide) (by decide) (Or.inl rfl) (⟨by rw [e] <;> rfl, rfl⟩)
  · refine g_iload_n 1 1 C dX4_hasNumber_4 rfl rfl ?_
    refine g_aload_n 0 0 C dX4_hasNumber_5 rfl rfl ?_
    refine gf_ls_size C dX4_hasNumber_6 k_a wF_X4_9 ?_
    refine g_topi (sz_a) ?_
    refine g_icmp_ge 16 C dX4_hasNumber_9 (by decide) (fun c9 => ?_) (fun c9 => ?_)
    · have e := inR_big (n := l.length) (by omega) c9
      refine g_iconst (v := nI 0) C dX4_hasNumber_16 (by decide) ?_
      exact g_zret C dX4_hasNumber_17 (by decide) (by decide) (Or.inl rfl) (⟨by rw [e] <;> rfl, rfl⟩)
    · have e := inR_in (n := l.length) (by omega) c1 c9
      refine g_iconst (v := nI 1) C dX4_hasNumber_12 (by decide) ?_
      refine g_goto 17 C dX4_hasNumber_13 (by decide) ?_
      exact g_zret C dX4_hasNumber_17 (by decide) (by decide) (Or.inr rfl) (⟨by rw [e] <;> rfl, rfl⟩)
set_option maxRecDepth 100000 in
set_option maxHeartbeats 400000 in
theorem c_L_ahead {lX : Launch} {G : Gx} {S : PS} {a nr va room : Nat} {l : List Ent} (hl : listC S a nr va room l) {n : Nat} {cur : List Nat} (hc : nameC S n cur) (oc : okN cur) : Ct lX yX4_ahead cX4_ahead 3 (Option.some Jvm.ClassFile.FieldType.int) rm_X4_ahead G [.ref a, .ref n] S (fun r S' => r = some (.int (nI (aheadN l cur))) ∧ S = S') := by
  obtain ⟨⟨k_a, ra_a, rb_a⟩, ⟨kn_a, ln_a⟩, ⟨kv_a, lv_a⟩, sz_a, le_a, rm_a, en_a⟩ := hl
  refine Ct.mk RX4 "ahead" hy_X4_ahead (Nat.le_of_ble_eq_true rfl) (fun X hX C => ?_)
  change Go X G _ 3 0 0 S 0 [(0, .ref a), (1, .ref n)] []
  refine g_iconst (v := nI 0) C dX4_ahead_0 (by decide) ?_
  refine g_istore_n (lv' := [(2, .int (nI 0)), (0, .ref a), (1, .ref n)]) C dX4_ahead_1 rfl (by decide) rfl ?_
  have lp : ∀ (n_ : Nat) (k : Nat), l.length - k < n_ → (k ≤ l.length ∧ ∀ j, j < k → less (nm l j) cur = true) → Go X G (Qe X G (fun r S' => r = some (.int (nI (aheadN l cur))) ∧ S = S') rm_X4_ahead.cells rm_X4_ahead.slots) 3 0 0 S 2 [(2, .int (nI k)), (0, .ref a), (1, .ref n)] [] := by
    intro n_
    induction n_ with
    | zero => intro k hm_; exact absurd hm_ (Nat.not_lt_zero _)
    | succ n_ ih_ =>
      intro k hm_ hi
      have hi1 := hi.1
      refine g_iload_n 0 2 C dX4_ahead_2 rfl rfl ?_
      refine g_aload_n 1 0 C dX4_ahead_3 rfl rfl ?_
      refine gf_ls_size C dX4_ahead_4 k_a wF_X4_9 ?_
      refine g_topi (sz_a) ?_
      refine g_ncmp_ge 29 (by omega) (by omega) C dX4_ahead_7 (by decide) (fun c7 => ?_) (fun c7 => ?_)
      · have e : aheadN l cur = k := fN_eq hi.1 hi.2 (by omega)
        refine g_iload_n 0 2 C dX4_ahead_29 rfl rfl ?_
        exact g_iret C dX4_ahead_30 (by decide) (by decide) (⟨by rw [e], rfl⟩)
      · obtain ⟨m_, e1, e2, e3, e4⟩ := en_a k (by omega)
        refine g_aload_n 1 0 C dX4_ahead_10 rfl rfl ?_
        refine gr_ls_names C dX4_ahead_11 k_a wF_X4_17 ra_a ?_
        refine g_iload_n 0 2 C dX4_ahead_14 rfl rfl ?_
        refine gar_nr_a C dX4_ahead_15 kn_a (by omega) (by omega) e1 ?_
        refine g_aload_n 2 1 C dX4_ahead_16 rfl rfl ?_
        refine g_callV (As := [.ref n]) (rest := []) C dX4_ahead_17 (c_N_compare e2 hc e3 oc) wC_X5_compareWith wM_X4_25 wI_X5_compareWith wS_X5_compareWith wN_X5 (kne e2.1) (pf_6 e2.1) rfl hd_X5_compareWith ⟨by decide, by decide, by decide, by decide⟩ (Nat.le_of_ble_eq_true rfl) (fun r_ S_ h_ => ?_)
        obtain ⟨rfl, rfl⟩ := h_
        change Go X G _ 3 _ _ S 20 [(2, .int (nI k)), (0, .ref a), (1, .ref n)] [.int (cmpV (nm l k) cur)]
        refine g_if_ge 29 C dX4_ahead_20 (by decide) (fun c20 => ?_) (fun c20 => ?_)
        · have e : aheadN l cur = k := fN_eq hi.1 hi.2 (Or.inr (Bool.eq_false_iff.mpr (fun h => (cmp_lt.mpr h) c20)))
          refine g_iload_n 0 2 C dX4_ahead_29 rfl rfl ?_
          exact g_iret C dX4_ahead_30 (by decide) (by decide) (⟨by rw [e], rfl⟩)
        · refine g_iinc (v := nI (k + 1)) (lv' := [(2, .int (nI (k + 1))), (0, .ref a), (1, .ref n)]) 0 C dX4_ahead_23 rfl (nI_add _ 1) (by decide) rfl ?_
          refine g_goto 2 C dX4_ahead_26 (by decide) ?_
          exact ih_ (k + 1) (by omega) ⟨by omega, fun j hj => by
            by_cases e : j = k
            · rw [e]; exact cmp_lt.mp c20
            · exact hi.2 j (by omega)⟩
  exact lp (l.length + 1) 0 (by omega) ⟨Nat.zero_le _, fun j hj => absurd hj (Nat.not_lt_zero _)⟩
set_option maxRecDepth 100000 in
set_option maxHeartbeats 400000 in
theorem c_L_hasAt {lX : Launch} {G : Gx} {S : PS} {a nr va room : Nat} {l : List Ent} (hl : listC S a nr va room l) {n : Nat} {cur : List Nat} (hc : nameC S n cur) (oc : okN cur) {k : Nat} (hk : k ≤ 1000) : Ct lX yX4_hasAt cX4_hasAt 3 (Option.some Jvm.ClassFile.FieldType.boolean) rm_X4_hasAt G [.ref a, .int (nI k), .ref n] S (fun r S' => r = some (.int (bI (isAtN l k cur))) ∧ S = S') := by
  have hl' := hl
  obtain ⟨⟨k_a, ra_a, rb_a⟩, ⟨kn_a, ln_a⟩, ⟨kv_a, lv_a⟩, sz_a, le_a, rm_a, en_a⟩ := hl
  refine Ct.mk RX4 "hasAt" hy_X4_hasAt (Nat.le_of_ble_eq_true rfl) (fun X hX C => ?_)
  change Go X G _ 3 0 0 S 0 [(0, .ref a), (1, .int (nI k)), (2, .ref n)] []
  refine g_aload_n 0 0 C dX4_hasAt_0 rfl rfl ?_
  refine g_iload_n 1 1 C dX4_hasAt_1 rfl rfl ?_
  refine g_callV (As := [.int (nI k)]) (rest := []) C dX4_hasAt_2 (c_L_hasNumber hl') wC_X4_hasNumber wM_X4_29 wI_X4_hasNumber wS_X4_hasNumber wN_X4 (kne k_a) (pf_5 k_a) rfl hd_X4_hasNumber ⟨by decide, by decide, by decide, by decide⟩ (Nat.le_of_ble_eq_true rfl) (fun r_ S_ h_ => ?_)
  obtain ⟨rfl, rfl⟩ := h_
  change Go X G _ 3 _ _ S 5 [(0, .ref a), (1, .int (nI k)), (2, .ref n)] [.int (bI (inR (nI k) l.length))]
  refine g_topi (show bI (inR (nI k) l.length) = bI (decide (k < l.length)) by rw [inR_nI (by omega)]) ?_
  refine g_if_eq 25 C dX4_hasAt_5 (by decide) (fun c5 => ?_) (fun c5 => ?_)
  · have e : isAtN l k cur = false := by unfold isAtN; rw [bI_f c5]; rfl
    refine g_iconst (v := nI 0) C dX4_hasAt_25 (by decide) ?_
    exact g_zret C dX4_hasAt_26 (by decide) (by decide) (Or.inl rfl) (⟨by rw [e] <;> rfl, rfl⟩)
  · have hk2 := of_decide_eq_true (bI_t c5)
    obtain ⟨m_, e1, e2, e3, e4⟩ := en_a k (by omega)
    refine g_aload_n 0 0 C dX4_hasAt_8 rfl rfl ?_
    refine gr_ls_names C dX4_hasAt_9 k_a wF_X4_17 ra_a ?_
    refine g_iload_n 1 1 C dX4_hasAt_12 rfl rfl ?_
    refine gar_nr_a C dX4_hasAt_13 kn_a (by omega) (by omega) e1 ?_
    refine g_aload_n 2 2 C dX4_hasAt_14 rfl rfl ?_
    refine g_callV (As := [.ref n]) (rest := []) C dX4_hasAt_15 (c_N_compare e2 hc e3 oc) wC_X5_compareWith wM_X4_25 wI_X5_compareWith wS_X5_compareWith wN_X5 (kne e2.1) (pf_6 e2.1) rfl hd_X5_compareWith ⟨by decide, by decide, by decide, by decide⟩ (Nat.le_of_ble_eq_true rfl) (fun r_ S_ h_ => ?_)
    obtain ⟨rfl, rfl⟩ := h_
    change Go X G _ 3 _ _ S 18 [(0, .ref a), (1, .int (nI k)), (2, .ref n)] [.int (cmpV (nm l k) cur)]
    refine g_if_ne 25 C dX4_hasAt_18 (by decide) (fun c18 => ?_) (fun c18 => ?_)
    · have e : isAtN l k cur = false := by unfold isAtN; rw [decide_eq_false (fun h => c18 (cmp_eq.mpr h)), Bool.and_false]
      refine g_iconst (v := nI 0) C dX4_hasAt_25 (by decide) ?_
      exact g_zret C dX4_hasAt_26 (by decide) (by decide) (Or.inl rfl) (⟨by rw [e] <;> rfl, rfl⟩)
    · have e : isAtN l k cur = true := by unfold isAtN; rw [decide_eq_true hk2, decide_eq_true (cmp_eq.mp c18)]; rfl
      refine g_iconst (v := nI 1) C dX4_hasAt_21 (by decide) ?_
      refine g_goto 26 C dX4_hasAt_22 (by decide) ?_
      exact g_zret C dX4_hasAt_26 (by decide) (by decide) (Or.inr rfl) (⟨by rw [e] <;> rfl, rfl⟩)
set_option maxRecDepth 100000 in
set_option maxHeartbeats 400000 in
theorem c_L_past {lX : Launch} {G : Gx} {S : PS} {a nr va room : Nat} {l : List Ent} (hl : listC S a nr va room l) {n : Nat} {cur : List Nat} (hc : nameC S n cur) (oc : okN cur) {k0 : Nat} (hk : k0 ≤ l.length) : Ct lX yX4_pastBeginningWith cX4_pastBeginningWith 4 (Option.some Jvm.ClassFile.FieldType.int) rm_X4_pastBeginningWith G [.ref a, .int (nI k0), .ref n] S (fun r S' => r = some (.int (nI (k0 + fN (fun i => decide (lcp cur (nm l (k0 + i)) = cur.length)) (l.length - k0)))) ∧ S = S') := by
  have hl' := hl
  obtain ⟨⟨k_a, ra_a, rb_a⟩, ⟨kn_a, ln_a⟩, ⟨kv_a, lv_a⟩, sz_a, le_a, rm_a, en_a⟩ := hl
  refine Ct.mk RX4 "pastBeginningWith" hy_X4_pastBeginningWith (Nat.le_of_ble_eq_true rfl) (fun X hX C => ?_)
  change Go X G _ 4 0 0 S 0 [(0, .ref a), (1, .int (nI k0)), (2, .ref n)] []
  refine g_iload_n 1 1 C dX4_pastBeginningWith_0 rfl rfl ?_
  refine g_iconst (v := nI 0) C dX4_pastBeginningWith_1 (by decide) ?_
  refine g_mmax (a := k0) (b := 0) (by omega) (by omega) C dX4_pastBeginningWith_2 wM_X4_33 ⟨by decide, by decide, by decide, by decide⟩ (Nat.le_of_ble_eq_true rfl) ?_
  refine g_topi (show nI (max k0 0) = nI k0 by rw [Nat.max_eq_left (Nat.zero_le _)]) ?_
  refine g_istore_n (lv' := [(3, .int (nI k0)), (0, .ref a), (1, .int (nI k0)), (2, .ref n)]) C dX4_pastBeginningWith_5 rfl (by decide) rfl ?_
  have lp : ∀ (n_ : Nat) (d : Nat), l.length - k0 - d < n_ → (d ≤ l.length - k0 ∧ ∀ j, j < d → decide (lcp cur (nm l (k0 + j)) = cur.length) = true) → Go X G (Qe X G (fun r S' => r = some (.int (nI (k0 + fN (fun i => decide (lcp cur (nm l (k0 + i)) = cur.length)) (l.length - k0)))) ∧ S = S') rm_X4_pastBeginningWith.cells rm_X4_pastBeginningWith.slots) 4 0 0 S 6 [(3, .int (nI (k0 + d))), (0, .ref a), (1, .int (nI k0)), (2, .ref n)] [] := by
    intro n_
    induction n_ with
    | zero => intro d hm_; exact absurd hm_ (Nat.not_lt_zero _)
    | succ n_ ih_ =>
      intro d hm_ hi
      have hi1 := hi.1
      refine g_iload_n 0 3 C dX4_pastBeginningWith_6 rfl rfl ?_
      refine g_aload_n 1 0 C dX4_pastBeginningWith_7 rfl rfl ?_
      refine gf_ls_size C dX4_pastBeginningWith_8 k_a wF_X4_9 ?_
      refine g_topi (sz_a) ?_
      refine g_ncmp_ge 33 (by omega) (by omega) C dX4_pastBeginningWith_11 (by decide) (fun c11 => ?_) (fun c11 => ?_)
      · have e : fN (fun i => decide (lcp cur (nm l (k0 + i)) = cur.length)) (l.length - k0) = d := fN_eq hi.1 hi.2 (by omega)
        refine g_iload_n 0 3 C dX4_pastBeginningWith_33 rfl rfl ?_
        exact g_iret C dX4_pastBeginningWith_34 (by decide) (by decide) (⟨by rw [e], rfl⟩)
      · obtain ⟨m_, e1, e2, e3, e4⟩ := en_a (k0 + d) (by omega)
        refine g_aload_n 1 0 C dX4_pastBeginningWith_14 rfl rfl ?_
        refine gr_ls_names C dX4_pastBeginningWith_15 k_a wF_X4_17 ra_a ?_
        refine g_iload_n 0 3 C dX4_pastBeginningWith_18 rfl rfl ?_
        refine gar_nr_a C dX4_pastBeginningWith_19 kn_a (by omega) (by omega) e1 ?_
        refine g_aload_n 3 2 C dX4_pastBeginningWith_20 rfl rfl ?_
        refine g_callV (As := [.ref n]) (rest := []) C dX4_pastBeginningWith_21 (c_N_begins e2 hc e3 oc) wC_X5_beginsWith wM_X4_39 wI_X5_beginsWith wS_X5_beginsWith wN_X5 (kne e2.1) (pf_6 e2.1) rfl hd_X5_beginsWith ⟨by decide, by decide, by decide, by decide⟩ (Nat.le_of_ble_eq_true rfl) (fun r_ S_ h_ => ?_)
        obtain ⟨rfl, rfl⟩ := h_
        change Go X G _ 4 _ _ S 24 [(3, .int (nI (k0 + d))), (0, .ref a), (1, .int (nI k0)), (2, .ref n)] [.int (bI (decide (lcp (nm l (k0 + d)) cur = cur.length)))]
        refine g_if_eq 33 C dX4_pastBeginningWith_24 (by decide) (fun c24 => ?_) (fun c24 => ?_)
        · have e : fN (fun i => decide (lcp cur (nm l (k0 + i)) = cur.length)) (l.length - k0) = d := fN_eq hi.1 hi.2 (Or.inr (by rw [lcp_comm]; exact bI_f c24))
          refine g_iload_n 0 3 C dX4_pastBeginningWith_33 rfl rfl ?_
          exact g_iret C dX4_pastBeginningWith_34 (by decide) (by decide) (⟨by rw [e], rfl⟩)
        · refine g_iinc (v := nI (k0 + d + 1)) (lv' := [(3, .int (nI (k0 + d + 1))), (0, .ref a), (1, .int (nI k0)), (2, .ref n)]) 0 C dX4_pastBeginningWith_27 rfl (nI_add _ 1) (by decide) rfl ?_
          refine g_goto 6 C dX4_pastBeginningWith_30 (by decide) ?_
          exact ih_ (d + 1) (by omega) ⟨by omega, fun j hj => by
            by_cases e : j = d
            · rw [e, lcp_comm]; exact bI_t c24
            · exact hi.2 j (by omega)⟩
  exact lp (l.length + 1) 0 (by omega) ⟨Nat.zero_le _, fun j hj => absurd hj (Nat.not_lt_zero _)⟩
set_option maxRecDepth 100000 in
set_option maxHeartbeats 400000 in
theorem c_L_longest {lX : Launch} {G : Gx} {S : PS} {a nr va room : Nat} {l : List Ent} (hl : listC S a nr va room l) {n : Nat} {cur : List Nat} (hc : nameC S n cur) (oc : okN cur) : Ct lX yX4_longestWithin cX4_longestWithin 3 (Option.some Jvm.ClassFile.FieldType.int) rm_X4_longestWithin G [.ref a, .ref n] S (fun r S' => r = some (.int (longN l cur l.length)) ∧ S = S') := by
  obtain ⟨⟨k_a, ra_a, rb_a⟩, ⟨kn_a, ln_a⟩, ⟨kv_a, lv_a⟩, sz_a, le_a, rm_a, en_a⟩ := hl
  refine Ct.mk RX4 "longestWithin" hy_X4_longestWithin (Nat.le_of_ble_eq_true rfl) (fun X hX C => ?_)
  change Go X G _ 3 0 0 S 0 [(0, .ref a), (1, .ref n)] []
  refine g_aload_n 0 0 C dX4_longestWithin_0 rfl rfl ?_
  refine gf_ls_size C dX4_longestWithin_1 k_a wF_X4_9 ?_
  refine g_topi (sz_a) ?_
  refine g_iconst (v := nI 1) C dX4_longestWithin_4 (by decide) ?_
  refine g_isub C dX4_longestWithin_5 ?_
  refine g_istore_n (lv' := [(2, .int (nI l.length - nI 1)), (0, .ref a), (1, .ref n)]) C dX4_longestWithin_6 rfl (by decide) rfl ?_
  have lp : ∀ (n_ : Nat) (r : Nat), r < n_ → (r ≤ l.length ∧ longN l cur r = longN l cur l.length) → Go X G (Qe X G (fun r S' => r = some (.int (longN l cur l.length)) ∧ S = S') rm_X4_longestWithin.cells rm_X4_longestWithin.slots) 3 0 0 S 7 [(2, .int (nI r - nI 1)), (0, .ref a), (1, .ref n)] [] := by
    intro n_
    induction n_ with
    | zero => intro r hm_; exact absurd hm_ (Nat.not_lt_zero _)
    | succ n_ ih_ =>
      intro r hm_ hi
      have hi1 := hi.1
      refine g_iload_n 0 2 C dX4_longestWithin_7 rfl rfl ?_
      rcases Nat.eq_zero_or_pos r with rfl | hr
      · refine g_topi (show nI 0 - nI 1 = -1 by decide) ?_
        refine g_if_lt 32 C dX4_longestWithin_8 (by decide) (fun _ => ?_) (fun c => absurd c (by decide))
        refine g_iconst (v := -1) C dX4_longestWithin_32 (by decide) ?_
        exact g_iret C dX4_longestWithin_33 (by decide) (by decide) (⟨by rw [← hi.2]; rfl, rfl⟩)
      · rw [show nI r - nI 1 = nI (r - 1) from pk_sub (by omega)]
        refine g_nif_lt 32 (by omega) C dX4_longestWithin_8 (by decide) ?_
        obtain ⟨m_, e1, e2, e3, e4⟩ := en_a (r - 1) (by omega)
        refine g_aload_n 2 1 C dX4_longestWithin_11 rfl rfl ?_
        refine g_aload_n 1 0 C dX4_longestWithin_12 rfl rfl ?_
        refine gr_ls_names C dX4_longestWithin_13 k_a wF_X4_17 ra_a ?_
        refine g_iload_n 0 2 C dX4_longestWithin_16 rfl rfl ?_
        refine gar_nr_a C dX4_longestWithin_17 kn_a (by omega) (by omega) e1 ?_
        refine g_callV (As := [.ref m_]) (rest := []) C dX4_longestWithin_18 (c_N_begins hc e2 oc e3) wC_X5_beginsWith wM_X4_39 wI_X5_beginsWith wS_X5_beginsWith wN_X5 (kne hc.1) (pf_6 hc.1) rfl hd_X5_beginsWith ⟨by decide, by decide, by decide, by decide⟩ (Nat.le_of_ble_eq_true rfl) (fun r_ S_ h_ => ?_)
        obtain ⟨rfl, rfl⟩ := h_
        change Go X G _ 3 _ _ S 21 [(2, .int (nI (r - 1))), (0, .ref a), (1, .ref n)] [.int (bI (decide (lcp cur (nm l (r - 1)) = (nm l (r - 1)).length)))]
        refine g_if_eq 26 C dX4_longestWithin_21 (by decide) (fun c21 => ?_) (fun c21 => ?_)
        · refine g_iinc (v := nI (r - 1) - nI 1) (lv' := [(2, .int (nI (r - 1) - nI 1)), (0, .ref a), (1, .ref n)]) 0 C dX4_longestWithin_26 rfl (m1_sub _) (by decide) rfl ?_
          refine g_goto 7 C dX4_longestWithin_29 (by decide) ?_
          exact ih_ (r - 1) (by omega) ⟨by omega, by
            rw [← hi.2]
            conv => rhs; rw [show r = r - 1 + 1 by omega]
            show _ = (if _ then _ else _ : Int32)
            rw [if_neg (of_decide_eq_false (bI_f c21))]⟩
        · refine g_iload_n 0 2 C dX4_longestWithin_24 rfl rfl ?_
          exact g_iret C dX4_longestWithin_25 (by decide) (by decide) (⟨by rw [← hi.2, show r = r - 1 + 1 by omega]; show _ = some (Value.int (if _ then _ else _)); rw [if_pos (of_decide_eq_true (bI_t c21))]; rfl, rfl⟩)
  exact lp (l.length + 1) l.length (by omega) ⟨Nat.le_refl _, rfl⟩
theorem sum_le24 {l : List Ent} (h : ∀ k, k < l.length → (nm l k).length ≤ 24) : ∀ k, k ≤ l.length → sumN (fun k => (nm l k).length) k ≤ 24 * k := by
  intro k
  induction k with
  | zero => intro _; exact Nat.le_refl _
  | succ k ih => intro hk; have := ih (by omega); have := h k (by omega); show sumN _ k + (nm l k).length ≤ _; omega
set_option maxRecDepth 100000 in
set_option maxHeartbeats 400000 in
theorem c_L_nameBytes {lX : Launch} {G : Gx} {S : PS} {a nr va room : Nat} {l : List Ent} (hl : listC S a nr va room l) : Ct lX yX4_nameBytes cX4_nameBytes 3 (Option.some Jvm.ClassFile.FieldType.int) rm_X4_nameBytes G [.ref a] S (fun r S' => r = some (.int (nI (sumN (fun k => (nm l k).length) l.length))) ∧ S = S') := by
  obtain ⟨⟨k_a, ra_a, rb_a⟩, ⟨kn_a, ln_a⟩, ⟨kv_a, lv_a⟩, sz_a, le_a, rm_a, en_a⟩ := hl
  refine Ct.mk RX4 "nameBytes" hy_X4_nameBytes (Nat.le_of_ble_eq_true rfl) (fun X hX C => ?_)
  change Go X G _ 3 0 0 S 0 [(0, .ref a)] []
  refine g_iconst (v := nI 0) C dX4_nameBytes_0 (by decide) ?_
  refine g_istore_n (lv' := [(1, .int (nI 0)), (0, .ref a)]) C dX4_nameBytes_1 rfl (by decide) rfl ?_
  refine g_iconst (v := nI 0) C dX4_nameBytes_2 (by decide) ?_
  refine g_istore_n (lv' := [(2, .int (nI 0)), (1, .int (nI 0)), (0, .ref a)]) C dX4_nameBytes_3 rfl (by decide) rfl ?_
  have lp : ∀ (n_ : Nat) (k : Nat), l.length - k < n_ → (k ≤ l.length) → Go X G (Qe X G (fun r S' => r = some (.int (nI (sumN (fun k => (nm l k).length) l.length))) ∧ S = S') rm_X4_nameBytes.cells rm_X4_nameBytes.slots) 3 0 0 S 4 [(2, .int (nI k)), (1, .int (nI (sumN (fun k => (nm l k).length) k))), (0, .ref a)] [] := by
    intro n_
    induction n_ with
    | zero => intro k hm_; exact absurd hm_ (Nat.not_lt_zero _)
    | succ n_ ih_ =>
      intro k hm_ hi
      have hs := sum_le24 (l := l) (fun k hk => by obtain ⟨_, _, _, h, _⟩ := en_a k hk; exact h.2.1) k hi
      refine g_iload_n 0 2 C dX4_nameBytes_4 rfl rfl ?_
      refine g_aload_n 2 0 C dX4_nameBytes_5 rfl rfl ?_
      refine gf_ls_size C dX4_nameBytes_6 k_a wF_X4_9 ?_
      refine g_topi (sz_a) ?_
      refine g_ncmp_ge 31 (by omega) (by omega) C dX4_nameBytes_9 (by decide) (fun c9 => ?_) (fun c9 => ?_)
      · have e : k = l.length := by omega
        refine g_iload_n 1 1 C dX4_nameBytes_31 rfl rfl ?_
        exact g_iret C dX4_nameBytes_32 (by decide) (by decide) (⟨by rw [e], rfl⟩)
      · obtain ⟨m_, e1, e2, e3, e4⟩ := en_a k (by omega)
        obtain ⟨f1, b_, f2, f3, f4, f5⟩ := e2
        have f4' : ln S b_ = (nm l k).length := f4
        have f6 : (nm l k).length ≤ 24 := e3.2.1
        refine g_iload_n 1 1 C dX4_nameBytes_12 rfl rfl ?_
        refine g_aload_n 2 0 C dX4_nameBytes_13 rfl rfl ?_
        refine gr_ls_names C dX4_nameBytes_14 k_a wF_X4_17 ra_a ?_
        refine g_iload_n 0 2 C dX4_nameBytes_17 rfl rfl ?_
        refine gar_nr_a C dX4_nameBytes_18 kn_a (by omega) (by omega) e1 ?_
        refine gr_nm_bytes C dX4_nameBytes_19 f1 wF_X4_61 f2 ?_
        refine gl_nb_a C dX4_nameBytes_22 f3 ?_
        refine g_topi (congrArg nI f4') ?_
        refine g_iadd C dX4_nameBytes_23 ?_
        refine g_topi (nI_add _ _ : _ = nI (sumN (fun k => (nm l k).length) k + ((nm l k).length))) ?_
        refine g_istore_n (lv' := [(1, .int (nI (sumN (fun k => (nm l k).length) k + ((nm l k).length)))), (2, .int (nI k)), (0, .ref a)]) C dX4_nameBytes_24 rfl (by decide) rfl ?_
        refine g_iinc (v := nI (k + 1)) (lv' := [(2, .int (nI (k + 1))), (1, .int (nI (sumN (fun k => (nm l k).length) k + ((nm l k).length)))), (0, .ref a)]) 1 C dX4_nameBytes_25 rfl (nI_add _ 1) (by decide) rfl ?_
        refine g_goto 4 C dX4_nameBytes_28 (by decide) ?_
        exact ih_ (k + 1) (by omega) (by omega)
  exact lp (l.length + 1) 0 (by omega) (Nat.zero_le _)
set_option maxRecDepth 100000 in
set_option maxHeartbeats 400000 in
theorem c_L_all8 {lX : Launch} {G : Gx} {S : PS} {a nr va room : Nat} {l : List Ent} (hl : listC S a nr va room l) : Ct lX yX4_allHaveBytes cX4_allHaveBytes 3 (Option.some Jvm.ClassFile.FieldType.boolean) rm_X4_allHaveBytes G [.ref a, .int (nI 8)] S (fun r S' => r = some (.int (bI (all8 l l.length))) ∧ S = S') := by
  obtain ⟨⟨k_a, ra_a, rb_a⟩, ⟨kn_a, ln_a⟩, ⟨kv_a, lv_a⟩, sz_a, le_a, rm_a, en_a⟩ := hl
  refine Ct.mk RX4 "allHaveBytes" hy_X4_allHaveBytes (Nat.le_of_ble_eq_true rfl) (fun X hX C => ?_)
  change Go X G _ 3 0 0 S 0 [(0, .ref a), (1, .int (nI 8))] []
  refine g_iconst (v := nI 0) C dX4_allHaveBytes_0 (by decide) ?_
  refine g_istore_n (lv' := [(2, .int (nI 0)), (0, .ref a), (1, .int (nI 8))]) C dX4_allHaveBytes_1 rfl (by decide) rfl ?_
  have lp : ∀ (n_ : Nat) (k : Nat), l.length - k < n_ → (k ≤ l.length ∧ all8 l k = true) → Go X G (Qe X G (fun r S' => r = some (.int (bI (all8 l l.length))) ∧ S = S') rm_X4_allHaveBytes.cells rm_X4_allHaveBytes.slots) 3 0 0 S 2 [(2, .int (nI k)), (0, .ref a), (1, .int (nI 8))] [] := by
    intro n_
    induction n_ with
    | zero => intro k hm_; exact absurd hm_ (Nat.not_lt_zero _)
    | succ n_ ih_ =>
      intro k hm_ hi
      have hi1 := hi.1
      refine g_iload_n 0 2 C dX4_allHaveBytes_2 rfl rfl ?_
      refine g_aload_n 1 0 C dX4_allHaveBytes_3 rfl rfl ?_
      refine gf_ls_size C dX4_allHaveBytes_4 k_a wF_X4_9 ?_
      refine g_topi (sz_a) ?_
      refine g_ncmp_ge 32 (by omega) (by omega) C dX4_allHaveBytes_7 (by decide) (fun c7 => ?_) (fun c7 => ?_)
      · have e : k = l.length := by omega
        refine g_iconst (v := nI 1) C dX4_allHaveBytes_32 (by decide) ?_
        exact g_zret C dX4_allHaveBytes_33 (by decide) (by decide) (Or.inr rfl) (⟨by rw [← e, hi.2]; rfl, rfl⟩)
      · obtain ⟨m_, e1, e2, e3, e4⟩ := en_a k (by omega)
        obtain ⟨f1, b_, f2, f3, f4, f5⟩ := e2
        have f4' : ln S b_ = (nm l k).length := f4
        have f6 : (nm l k).length ≤ 24 := e3.2.1
        refine g_aload_n 1 0 C dX4_allHaveBytes_10 rfl rfl ?_
        refine gr_ls_names C dX4_allHaveBytes_11 k_a wF_X4_17 ra_a ?_
        refine g_iload_n 0 2 C dX4_allHaveBytes_14 rfl rfl ?_
        refine gar_nr_a C dX4_allHaveBytes_15 kn_a (by omega) (by omega) e1 ?_
        refine gr_nm_bytes C dX4_allHaveBytes_16 f1 wF_X4_61 f2 ?_
        refine gl_nb_a C dX4_allHaveBytes_19 f3 ?_
        refine g_topi (congrArg nI f4') ?_
        refine g_iload_n 2 1 C dX4_allHaveBytes_20 rfl rfl ?_
        refine g_ncmp_eq 26 (by omega) (by omega) C dX4_allHaveBytes_21 (by decide) (fun c21 => ?_) (fun c21 => ?_)
        · refine g_iinc (v := nI (k + 1)) (lv' := [(2, .int (nI (k + 1))), (0, .ref a), (1, .int (nI 8))]) 0 C dX4_allHaveBytes_26 rfl (nI_add _ 1) (by decide) rfl ?_
          refine g_goto 2 C dX4_allHaveBytes_29 (by decide) ?_
          exact ih_ (k + 1) (by omega) ⟨by omega, by rw [all8_s, hi.2, decide_eq_true c21]; rfl⟩
        · refine g_iconst (v := nI 0) C dX4_allHaveBytes_24 (by decide) ?_
          exact g_zret C dX4_allHaveBytes_25 (by decide) (by decide) (Or.inl rfl) (⟨by rw [show all8 l l.length = false from Bool.eq_false_iff.mpr (fun h => c21 (all8_iff.mp h k (by omega)))]; rfl, rfl⟩)
  exact lp (l.length + 1) 0 (by omega) ⟨Nat.zero_le _, all8_0 l⟩
set_option maxRecDepth 100000 in
set_option maxHeartbeats 400000 in
theorem c_L_highBits {lX : Launch} {G : Gx} {S : PS} {a nr va room : Nat} {l : List Ent} (hl : listC S a nr va room l) : Ct lX yX4_highBits cX4_highBits 2 (Option.some Jvm.ClassFile.FieldType.int) rm_X4_highBits G [.ref a] S (fun r S' => r = some (.int (nI (hbN l.length))) ∧ S = S') := by
  obtain ⟨⟨k_a, ra_a, rb_a⟩, ⟨kn_a, ln_a⟩, ⟨kv_a, lv_a⟩, sz_a, le_a, rm_a, en_a⟩ := hl
  refine Ct.mk RX4 "highBits" hy_X4_highBits (Nat.le_of_ble_eq_true rfl) (fun X hX C => ?_)
  change Go X G _ 2 0 0 S 0 [(0, .ref a)] []
  refine g_iconst (v := nI 0) C dX4_highBits_0 (by decide) ?_
  refine g_istore_n (lv' := [(1, .int (nI 0)), (0, .ref a)]) C dX4_highBits_1 rfl (by decide) rfl ?_
  have lp : ∀ (n_ : Nat) (h : Nat), 31 - h < n_ → (h ≤ 7 ∧ ∀ q, q < h → decide (2 ^ q ≤ l.length) = true) → Go X G (Qe X G (fun r S' => r = some (.int (nI (hbN l.length))) ∧ S = S') rm_X4_highBits.cells rm_X4_highBits.slots) 2 0 0 S 2 [(1, .int (nI h)), (0, .ref a)] [] := by
    intro n_
    induction n_ with
    | zero => intro h hm_; exact absurd hm_ (Nat.not_lt_zero _)
    | succ n_ ih_ =>
      intro h hm_ hi
      have hi1 := hi.1
      refine g_iload_n 0 1 C dX4_highBits_2 rfl rfl ?_
      refine g_bipush (v := nI 31) C dX4_highBits_3 (by decide) ?_
      refine g_ncmp_ge 24 (by omega) (by omega) C dX4_highBits_5 (by decide) (fun c5 => ?_) (fun c5 => ?_)
      · omega
      · refine g_iconst (v := nI 1) C dX4_highBits_8 (by decide) ?_
        refine g_iload_n 0 1 C dX4_highBits_9 rfl rfl ?_
        refine g_ishl C dX4_highBits_10 ?_
        refine g_topi (shl1 h (by omega)) ?_
        refine g_aload_n 1 0 C dX4_highBits_11 rfl rfl ?_
        refine gf_ls_size C dX4_highBits_12 k_a wF_X4_9 ?_
        refine g_topi (sz_a) ?_
        have hp : 2 ^ h ≤ 128 := Nat.pow_le_pow_right (by decide) hi.1
        refine g_ncmp_gt 24 (by omega) (by omega) C dX4_highBits_15 (by decide) (fun c15 => ?_) (fun c15 => ?_)
        · have e : hbN l.length = h := fN_eq (by omega) hi.2 (Or.inr (decide_eq_false (by omega)))
          refine g_iload_n 0 1 C dX4_highBits_24 rfl rfl ?_
          exact g_iret C dX4_highBits_25 (by decide) (by decide) (⟨by rw [e], rfl⟩)
        · refine g_iinc (v := nI (h + 1)) (lv' := [(1, .int (nI (h + 1))), (0, .ref a)]) 0 C dX4_highBits_18 rfl (nI_add _ 1) (by decide) rfl ?_
          refine g_goto 2 C dX4_highBits_21 (by decide) ?_
          have h7 : ∀ q, q < h + 1 → 2 ^ q ≤ l.length := fun q hq => by
            by_cases e : q = h
            · rw [e]; exact c15
            · exact of_decide_eq_true (hi.2 q (by omega))
          exact ih_ (h + 1) (by omega) ⟨hbN_7 (by omega) h7, fun q hq => decide_eq_true (h7 q hq)⟩
  exact lp 32 0 (by omega) ⟨by decide, fun q hq => absurd hq (Nat.not_lt_zero _)⟩
def ordL (la : List Ent) (i : Nat) (lb : List Ent) (j : Nat) : Int32 := if i < la.length then (if j < lb.length then cmpV (nm la i) (nm lb j) else -1) else 1
set_option maxRecDepth 100000 in
set_option maxHeartbeats 400000 in
theorem c_L_orderOf {lX : Launch} {G : Gx} {S : PS} {a nr va room : Nat} {l : List Ent} (hl : listC S a nr va room l) {a2 nr2 va2 room2 : Nat} {l2 : List Ent} (hl2 : listC S a2 nr2 va2 room2 l2) {i j : Nat} (hi : i ≤ 1000) (hj : j ≤ 1000) : Ct lX yX4_orderOf cX4_orderOf 4 (Option.some Jvm.ClassFile.FieldType.int) rm_X4_orderOf G [.ref a, .int (nI i), .ref a2, .int (nI j)] S (fun r S' => r = some (.int (ordL l i l2 j)) ∧ S = S') := by
  have hl' := hl
  have hl2' := hl2
  obtain ⟨⟨k_a, ra_a, rb_a⟩, ⟨kn_a, ln_a⟩, ⟨kv_a, lv_a⟩, sz_a, le_a, rm_a, en_a⟩ := hl
  obtain ⟨⟨k_a2, ra_a2, rb_a2⟩, ⟨kn_a2, ln_a2⟩, ⟨kv_a2, lv_a2⟩, sz_a2, le_a2, rm_a2, en_a2⟩ := hl2
  refine Ct.mk RX4 "orderOf" hy_X4_orderOf (Nat.le_of_ble_eq_true rfl) (fun X hX C => ?_)
  change Go X G _ 4 0 0 S 0 [(0, .ref a), (1, .int (nI i)), (2, .ref a2), (3, .int (nI j))] []
  refine g_aload_n 0 0 C dX4_orderOf_0 rfl rfl ?_
  refine g_iload_n 1 1 C dX4_orderOf_1 rfl rfl ?_
  refine g_callV (As := [.int (nI i)]) (rest := []) C dX4_orderOf_2 (c_L_hasNumber hl') wC_X4_hasNumber wM_X4_29 wI_X4_hasNumber wS_X4_hasNumber wN_X4 (kne k_a) (pf_5 k_a) rfl hd_X4_hasNumber ⟨by decide, by decide, by decide, by decide⟩ (Nat.le_of_ble_eq_true rfl) (fun r_ S_ h_ => ?_)
  obtain ⟨rfl, rfl⟩ := h_
  change Go X G _ 4 _ _ S 5 [(0, .ref a), (1, .int (nI i)), (2, .ref a2), (3, .int (nI j))] [.int (bI (inR (nI i) l.length))]
  refine g_topi (show bI (inR (nI i) l.length) = bI (decide (i < l.length)) by rw [inR_nI (by omega)]) ?_
  refine g_if_ne 10 C dX4_orderOf_5 (by decide) (fun c5 => ?_) (fun c5 => ?_)
  · have hi2 := of_decide_eq_true (bI_t c5)
    refine g_aload_n 2 2 C dX4_orderOf_10 rfl rfl ?_
    refine g_iload_n 3 3 C dX4_orderOf_11 rfl rfl ?_
    refine g_callV (As := [.int (nI j)]) (rest := []) C dX4_orderOf_12 (c_L_hasNumber hl2') wC_X4_hasNumber wM_X4_29 wI_X4_hasNumber wS_X4_hasNumber wN_X4 (kne k_a2) (pf_5 k_a2) rfl hd_X4_hasNumber ⟨by decide, by decide, by decide, by decide⟩ (Nat.le_of_ble_eq_true rfl) (fun r_ S_ h_ => ?_)
    obtain ⟨rfl, rfl⟩ := h_
    change Go X G _ 4 _ _ S 15 [(0, .ref a), (1, .int (nI i)), (2, .ref a2), (3, .int (nI j))] [.int (bI (inR (nI j) l2.length))]
    refine g_topi (show bI (inR (nI j) l2.length) = bI (decide (j < l2.length)) by rw [inR_nI (by omega)]) ?_
    refine g_if_eq 36 C dX4_orderOf_15 (by decide) (fun c15 => ?_) (fun c15 => ?_)
    · have hj2 : ¬ j < l2.length := of_decide_eq_false (bI_f c15)
      have e : ordL l i l2 j = -1 := by unfold ordL; rw [if_pos hi2, if_neg hj2]
      refine g_iconst (v := -1) C dX4_orderOf_36 (by decide) ?_
      exact g_iret C dX4_orderOf_37 (by decide) (by decide) (⟨by rw [e], rfl⟩)
    · have hj2 := of_decide_eq_true (bI_t c15)
      have e : ordL l i l2 j = cmpV (nm l i) (nm l2 j) := by unfold ordL; rw [if_pos hi2, if_pos hj2]
      obtain ⟨m1, e1, e2, e3, e4⟩ := en_a i hi2
      obtain ⟨m2, g1, g2, g3, g4⟩ := en_a2 j hj2
      refine g_aload_n 0 0 C dX4_orderOf_18 rfl rfl ?_
      refine gr_ls_names C dX4_orderOf_19 k_a wF_X4_17 ra_a ?_
      refine g_iload_n 1 1 C dX4_orderOf_22 rfl rfl ?_
      refine gar_nr_a C dX4_orderOf_23 kn_a (by omega) (by omega) e1 ?_
      refine g_aload_n 2 2 C dX4_orderOf_24 rfl rfl ?_
      refine gr_ls_names C dX4_orderOf_25 k_a2 wF_X4_17 ra_a2 ?_
      refine g_iload_n 3 3 C dX4_orderOf_28 rfl rfl ?_
      refine gar_nr_a C dX4_orderOf_29 kn_a2 (by omega) (by omega) g1 ?_
      refine g_callV (As := [.ref m2]) (rest := []) C dX4_orderOf_30 (c_N_compare e2 g2 e3 g3) wC_X5_compareWith wM_X4_25 wI_X5_compareWith wS_X5_compareWith wN_X5 (kne e2.1) (pf_6 e2.1) rfl hd_X5_compareWith ⟨by decide, by decide, by decide, by decide⟩ (Nat.le_of_ble_eq_true rfl) (fun r_ S_ h_ => ?_)
      obtain ⟨rfl, rfl⟩ := h_
      change Go X G _ 4 _ _ S 33 [(0, .ref a), (1, .int (nI i)), (2, .ref a2), (3, .int (nI j))] [.int (cmpV (nm l i) (nm l2 j))]
      refine g_goto 37 C dX4_orderOf_33 (by decide) ?_
      exact g_iret C dX4_orderOf_37 (by decide) (by decide) (⟨by rw [e], rfl⟩)
  · have hi2 : ¬ i < l.length := of_decide_eq_false (bI_f c5)
    refine g_iconst (v := nI 1) C dX4_orderOf_8 (by decide) ?_
    exact g_iret C dX4_orderOf_9 (by decide) (by decide) (⟨by unfold ordL; rw [if_neg hi2]; rfl, rfl⟩)
theorem fit_bv (x : BitVec 64) (k : Nat) (hk : k = 56 ∨ k = 48 ∨ k = 32) : (x <<< k).sshiftRight k = x ↔ -(2 ^ (63 - k) : Int) ≤ x.toInt ∧ x.toInt < 2 ^ (63 - k) := by
  rw [← BitVec.toInt_inj, BitVec.toInt_sshiftRight, BitVec.toInt_shiftLeft, BitVec.toInt_eq_toNat_bmod, Int.shiftRight_eq_div_pow, Nat.shiftLeft_eq]
  have h := x.isLt
  generalize x.toNat = n at h
  unfold Int.bmod
  rcases hk with rfl | rfl | rfl
  · simp only [Nat.reducePow, Nat.reduceSub]
    constructor <;> intro g <;> omega
  · simp only [Nat.reducePow, Nat.reduceSub]
    constructor <;> intro g <;> omega
  · simp only [Nat.reducePow, Nat.reduceSub]
    constructor <;> intro g <;> omega
theorem fit_sh {v : Int64} {w : Nat} (hw : w = 1 ∨ w = 2 ∨ w = 4) : ((v <<< ((nI (64 - 8 * w)).toInt64 &&& 63)) >>> ((nI (64 - 8 * w)).toInt64 &&& 63)) = v ↔ fitW v w = true := by
  unfold fitW
  rw [decide_eq_true_iff, ← Int64.toBitVec_inj, Int64.toBitVec_shiftRight, Int64.toBitVec_shiftLeft, wb_c _ (by omega), wb_tb, wb_sm _ (by omega)]
  rcases hw with rfl | rfl | rfl
  · show (v.toBitVec <<< (BitVec.ofNat 64 56).toNat).sshiftRight (BitVec.ofNat 64 56).toNat = _ ↔ _
    exact fit_bv v.toBitVec 56 (by decide)
  · show (v.toBitVec <<< (BitVec.ofNat 64 48).toNat).sshiftRight (BitVec.ofNat 64 48).toNat = _ ↔ _
    exact fit_bv v.toBitVec 48 (by decide)
  · show (v.toBitVec <<< (BitVec.ofNat 64 32).toNat).sshiftRight (BitVec.ofNat 64 32).toNat = _ ↔ _
    exact fit_bv v.toBitVec 32 (by decide)
theorem cmp0 {x y : Int64} : lg_cmp x y = 0 ↔ x = y := by
  unfold lg_cmp
  constructor
  · intro h
    by_cases e : x = y
    · exact e
    · exfalso
      rw [if_neg e] at h
      split at h
      · exact absurd h (by decide)
      · exact absurd h (by decide)
  · rintro rfl
    rw [if_neg (show ¬ x > x from Int64.lt_irrefl), if_pos rfl]
set_option maxRecDepth 100000 in
set_option maxHeartbeats 400000 in
theorem c_L_fits {lX : Launch} {G : Gx} {S : PS} {v : Int64} {w : Nat} (hw : w = 1 ∨ w = 2 ∨ w = 4) : Ct lX yX4_fits cX4_fits 4 (Option.some Jvm.ClassFile.FieldType.boolean) rm_X4_fits G [.long v, .int (nI w)] S (fun r S' => r = some (.int (bI (fitW v w))) ∧ S = S') := by
  refine Ct.mk RX4 "fits" hy_X4_fits (Nat.le_of_ble_eq_true rfl) (fun X hX C => ?_)
  change Go X G _ 4 0 0 S 0 [(0, .long v), (2, .int (nI w))] []
  refine g_bipush (v := nI 64) C dX4_fits_0 (by decide) ?_
  refine g_bipush (v := nI 8) C dX4_fits_2 (by decide) ?_
  refine g_iload_n 1 2 C dX4_fits_4 rfl rfl ?_
  refine g_imul C dX4_fits_5 ?_
  refine g_topi (pk_mul _ _ : _ = nI (8 * w)) ?_
  refine g_isub C dX4_fits_6 ?_
  refine g_topi (pk_sub (by omega) : _ = nI (64 - (8 * w))) ?_
  refine g_istore_n (lv' := [(3, .int (nI (64 - (8 * w)))), (0, .long v), (2, .int (nI w))]) C dX4_fits_7 rfl (by decide) rfl ?_
  refine g_lload_n 1 0 C dX4_fits_8 rfl rfl ?_
  refine g_iload_n 0 3 C dX4_fits_9 rfl rfl ?_
  refine g_lshl C dX4_fits_10 ?_
  refine g_iload_n 0 3 C dX4_fits_11 rfl rfl ?_
  refine g_lshr C dX4_fits_12 ?_
  refine g_lload_n 1 0 C dX4_fits_13 rfl rfl ?_
  refine g_lcmp C dX4_fits_14 ?_
  refine g_if_ne 22 C dX4_fits_15 (by decide) (fun c15 => ?_) (fun c15 => ?_)
  · have e : fitW v w = false := Bool.eq_false_iff.mpr (fun h => c15 (cmp0.mpr ((fit_sh hw).mpr h)))
    refine g_iconst (v := nI 0) C dX4_fits_22 (by decide) ?_
    exact g_zret C dX4_fits_23 (by decide) (by decide) (Or.inl rfl) (⟨by rw [e] <;> rfl, rfl⟩)
  · have e : fitW v w = true := (fit_sh hw).mp (cmp0.mp c15)
    refine g_iconst (v := nI 1) C dX4_fits_18 (by decide) ?_
    refine g_goto 23 C dX4_fits_19 (by decide) ?_
    exact g_zret C dX4_fits_23 (by decide) (by decide) (Or.inr rfl) (⟨by rw [e] <;> rfl, rfl⟩)
theorem wK_8 (l : List Ent) (k : Nat) : 1 ≤ wK l k ∧ wK l k ≤ 8 := by
  have := wK_w l k
  unfold isW at this
  omega
set_option maxRecDepth 100000 in
set_option maxHeartbeats 400000 in
theorem c_L_width {lX : Launch} {G : Gx} {S : PS} {a nr va room : Nat} {l : List Ent} (hl : listC S a nr va room l) : Ct lX yX4_width cX4_width 3 (Option.some Jvm.ClassFile.FieldType.int) rm_X4_width G [.ref a] S (fun r S' => r = some (.int (nI (widthN l))) ∧ S = S') := by
  obtain ⟨⟨k_a, ra_a, rb_a⟩, ⟨kn_a, ln_a⟩, ⟨kv_a, lv_a⟩, sz_a, le_a, rm_a, en_a⟩ := hl
  refine Ct.mk RX4 "width" hy_X4_width (Nat.le_of_ble_eq_true rfl) (fun X hX C => ?_)
  change Go X G _ 3 0 0 S 0 [(0, .ref a)] []
  refine g_iconst (v := nI 1) C dX4_width_0 (by decide) ?_
  refine g_istore_n (lv' := [(1, .int (nI 1)), (0, .ref a)]) C dX4_width_1 rfl (by decide) rfl ?_
  refine g_iconst (v := nI 0) C dX4_width_2 (by decide) ?_
  refine g_istore_n (lv' := [(2, .int (nI 0)), (1, .int (nI 1)), (0, .ref a)]) C dX4_width_3 rfl (by decide) rfl ?_
  have lp : ∀ (n_ : Nat) (k : Nat), l.length - k < n_ → (k ≤ l.length) → Go X G (Qe X G (fun r S' => r = some (.int (nI (widthN l))) ∧ S = S') rm_X4_width.cells rm_X4_width.slots) 3 0 0 S 4 [(2, .int (nI k)), (1, .int (nI (wK l k))), (0, .ref a)] [] := by
    intro n_
    induction n_ with
    | zero => intro k hm_; exact absurd hm_ (Nat.not_lt_zero _)
    | succ n_ iho_ =>
      intro k hm_ hi
      have h8 := wK_8 l k
      refine g_iload_n 0 2 C dX4_width_4 rfl rfl ?_
      refine g_aload_n 2 0 C dX4_width_5 rfl rfl ?_
      refine gf_ls_size C dX4_width_6 k_a wF_X4_9 ?_
      refine g_topi (sz_a) ?_
      refine g_ncmp_ge 44 (by omega) (by omega) C dX4_width_9 (by decide) (fun c9 => ?_) (fun c9 => ?_)
      · have e : k = l.length := by omega
        refine g_iload_n 1 1 C dX4_width_44 rfl rfl ?_
        exact g_iret C dX4_width_45 (by decide) (by decide) (⟨by rw [e] <;> rfl, rfl⟩)
      · have lp2 : ∀ (n_ : Nat) (f w : Nat), f < n_ → (isW w ∧ 8 ≤ w * 2 ^ f ∧ wUp (vl l k) f w = wK l (k + 1)) → Go X G (Qe X G (fun r S' => r = some (.int (nI (widthN l))) ∧ S = S') rm_X4_width.cells rm_X4_width.slots) 3 0 0 S 12 [(2, .int (nI k)), (1, .int (nI w)), (0, .ref a)] [] := by
          intro n_
          induction n_ with
          | zero => intro f w hm_; exact absurd hm_ (Nat.not_lt_zero _)
          | succ n_ ih_ =>
            intro f w hm_ h2
            have hw8 := h2.1
            unfold isW at hw8
            refine g_iload_n 1 1 C dX4_width_12 rfl rfl ?_
            refine g_bipush (v := nI 8) C dX4_width_13 (by decide) ?_
            refine g_ncmp_ge 38 (by omega) (by omega) C dX4_width_15 (by decide) (fun c15 => ?_) (fun c15 => ?_)
            · have ew : w = wK l (k + 1) := by rw [← h2.2.2, wUp_stop (fun z => by omega)]
              refine g_iinc (v := nI (k + 1)) (lv' := [(2, .int (nI (k + 1))), (1, .int (nI w)), (0, .ref a)]) 0 C dX4_width_38 rfl (nI_add _ 1) (by decide) rfl ?_
              refine g_goto 4 C dX4_width_41 (by decide) ?_
              rw [ew]
              exact iho_ (k + 1) (by omega) (by omega)
            · obtain ⟨m_, e1, e2, e3, e4⟩ := en_a k (by omega)
              have hw3 : w = 1 ∨ w = 2 ∨ w = 4 := by have := h2.1; unfold isW at this; omega
              refine g_aload_n 2 0 C dX4_width_18 rfl rfl ?_
              refine gr_ls_values C dX4_width_19 k_a wF_X4_21 rb_a ?_
              refine g_iload_n 0 2 C dX4_width_22 rfl rfl ?_
              refine ga_vl_a C dX4_width_23 kv_a (by omega) (by omega) ?_
              refine g_topl (e4) ?_
              refine g_iload_n 1 1 C dX4_width_24 rfl rfl ?_
              refine g_callS (As := [.long (vl l k), .int (nI w)]) (rest := []) C dX4_width_25 (c_L_fits hw3) wC_X4_fits wM_X4_65 wZ_X4_fits wN_X4 hd_X4_fits.2 ⟨by decide, by decide, by decide, by decide⟩ (Nat.le_of_ble_eq_true rfl) (fun r_ S_ h_ => ?_)
              obtain ⟨rfl, rfl⟩ := h_
              change Go X G _ 3 _ _ S 28 [(2, .int (nI k)), (1, .int (nI w)), (0, .ref a)] [.int (bI (fitW (vl l k) w))]
              refine g_if_ne 38 C dX4_width_28 (by decide) (fun c28 => ?_) (fun c28 => ?_)
              · have ew : w = wK l (k + 1) := by rw [← h2.2.2, wUp_stop (fun z => by rw [bI_t c28] at z; exact absurd z.2 (by decide))]
                refine g_iinc (v := nI (k + 1)) (lv' := [(2, .int (nI (k + 1))), (1, .int (nI w)), (0, .ref a)]) 0 C dX4_width_38 rfl (nI_add _ 1) (by decide) rfl ?_
                refine g_goto 4 C dX4_width_41 (by decide) ?_
                rw [ew]
                exact iho_ (k + 1) (by omega) (by omega)
              · refine g_iload_n 1 1 C dX4_width_31 rfl rfl ?_
                refine g_iconst (v := nI 2) C dX4_width_32 (by decide) ?_
                refine g_imul C dX4_width_33 ?_
                refine g_topi (pk_mul _ _ : _ = nI (w * 2)) ?_
                refine g_istore_n (lv' := [(1, .int (nI (w * 2))), (2, .int (nI k)), (0, .ref a)]) C dX4_width_34 rfl (by decide) rfl ?_
                refine g_goto 12 C dX4_width_35 (by decide) ?_
                refine Go.pick (lv' := [(2, .int (nI k)), (1, .int (nI (w * 2))), (0, .ref a)]) [1, 0, 2] rfl ?_
                obtain ⟨f, rfl⟩ : ∃ g, f = g + 1 := by
                  cases f with
                  | zero => exact absurd h2.2.1 (by rw [Nat.pow_zero]; omega)
                  | succ g => exact ⟨g, rfl⟩
                exact ih_ f (w * 2) (by omega) ⟨by rcases hw3 with rfl | rfl | rfl <;> unfold isW <;> decide, by have := h2.2.1; rw [Nat.pow_succ] at this; rw [Nat.mul_assoc, Nat.mul_comm 2]; exact this, by rw [← h2.2.2]; show _ = (if w < 8 ∧ fitW (vl l k) w = false then _ else w); rw [if_pos ⟨by omega, bI_f c28⟩]⟩
        exact lp2 5 4 (wK l k) (by omega) ⟨wK_w l k, by have := (wK_8 l k).1; omega, rfl⟩
  exact lp (l.length + 1) 0 (by omega) (Nat.zero_le _)
