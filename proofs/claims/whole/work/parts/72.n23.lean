set_option maxRecDepth 100000 in
set_option maxHeartbeats 400000 in
theorem c_B_same {lX : Launch} {G : Gx} {S : PS} {x : Nat} {c : Nat → Nat} (hC : CoC S x c) {a nr va room : Nat} {l : List Ent} (hL : listC S a nr va room l) (hl : okL l) {ns : List Nd} (hnd : ndF (fi_a S) (de_a S) (st_a S) ns) (hN : ns.length ≤ 2401) (hok : ∀ u, u < ns.length → okNd l (ns.getD u (0, 0, 0, 0))) {u v : Nat} {nu nv : Nd} (hu_ : u < ns.length) (hv_ : v < ns.length) (hnu : ns.getD u (0, 0, 0, 0) = nu) (hnv : ns.getD v (0, 0, 0, 0) = nv) : Ct lX yX1_isSameString cX1_isSameString 8 (Option.some Jvm.ClassFile.FieldType.boolean) rm_X1_isSameString G [.ref ((c 7)), .ref a, .int (nI u), .int (nI v)] S (fun r S' => r = some (.int (bI (sameStr l nu nv))) ∧ S = S') := by
  obtain ⟨⟨k_a, ra_a, rb_a⟩, ⟨kn_a, ln_a⟩, ⟨kv_a, lv_a⟩, sz_a, le_a, rm_a, en_a⟩ := hL
  have hl1 := hl.1
  have hu := hnd u hu_
  have hv := hnd v hv_
  have ou := hok u hu_
  have ov := hok v hv_
  rw [hnu] at hu ou
  rw [hnv] at hv ov
  obtain ⟨o1, o2, o3, -, o4⟩ := ou
  obtain ⟨o5, o6, o7, -, o8⟩ := ov
  have z1 : (nm l nu.1).length ≤ 24 := (hl.2.1 nu.1 (by omega)).2.1
  have z2 : (nm l nv.1).length ≤ 24 := (hl.2.1 nv.1 (by omega)).2.1
  obtain ⟨m1, e1, e2, e3, e4⟩ := en_a nu.1 (by omega)
  obtain ⟨e5, b1, e6, e7, e8, e9⟩ := id e2
  have e8' : ln S b1 = (nm l nu.1).length := e8
  have e9' : ∀ q, q < (nm l nu.1).length → nb_a S b1 q = nI ((nm l nu.1).getD q 0) := e9
  obtain ⟨m2, f1, f2, f3, f4⟩ := en_a nv.1 (by omega)
  obtain ⟨f5, b2, f6, f7, f8, f9⟩ := id f2
  have f8' : ln S b2 = (nm l nv.1).length := f8
  have f9' : ∀ q, q < (nm l nv.1).length → nb_a S b2 q = nI ((nm l nv.1).getD q 0) := f9
  refine Ct.mk RX1 "isSameString" hy_X1_isSameString (Nat.le_of_ble_eq_true rfl) (fun X hX C => ?_)
  change Go X G _ 8 0 0 S 0 [(0, .ref ((c 7))), (1, .ref a), (2, .int (nI u)), (3, .int (nI v))] []
  refine g_aload_n 0 0 C dX1_isSameString_0 rfl rfl ?_
  refine gr_bi_depth C dX1_isSameString_1 hC.2.2.2.2.1.2 wF_X1_18 hC.2.2.2.2.2.2.2.1.1 ?_
  refine g_iload_n 2 2 C dX1_isSameString_4 rfl rfl ?_
  refine ga_de_a C dX1_isSameString_5 hC.2.2.2.2.2.2.2.1.2 (by omega) ?_
  refine g_topi (hu.2.1) ?_
  refine g_aload_n 0 0 C dX1_isSameString_6 rfl rfl ?_
  refine gr_bi_stem C dX1_isSameString_7 hC.2.2.2.2.1.2 wF_X1_21 hC.2.2.2.2.2.2.2.2.1.1 ?_
  refine g_iload_n 2 2 C dX1_isSameString_10 rfl rfl ?_
  refine ga_st_a C dX1_isSameString_11 hC.2.2.2.2.2.2.2.2.1.2 (by omega) ?_
  refine g_topi (hu.2.2) ?_
  refine g_isub C dX1_isSameString_12 ?_
  refine g_topi (pk_sub (by omega) : _ = nI (nu.2.2.1 - nu.2.2.2)) ?_
  refine g_istore (lv' := [(4, .int (nI (nu.2.2.1 - nu.2.2.2))), (0, .ref ((c 7))), (1, .ref a), (2, .int (nI u)), (3, .int (nI v))]) C dX1_isSameString_13 (by decide) rfl ?_
  refine g_iload 0 C dX1_isSameString_15 rfl ?_
  refine g_aload_n 1 0 C dX1_isSameString_17 rfl rfl ?_
  refine gr_bi_depth C dX1_isSameString_18 hC.2.2.2.2.1.2 wF_X1_18 hC.2.2.2.2.2.2.2.1.1 ?_
  refine g_iload_n 4 3 C dX1_isSameString_21 rfl rfl ?_
  refine ga_de_a C dX1_isSameString_22 hC.2.2.2.2.2.2.2.1.2 (by omega) ?_
  refine g_topi (hv.2.1) ?_
  refine g_aload_n 1 0 C dX1_isSameString_23 rfl rfl ?_
  refine gr_bi_stem C dX1_isSameString_24 hC.2.2.2.2.1.2 wF_X1_21 hC.2.2.2.2.2.2.2.2.1.1 ?_
  refine g_iload_n 4 3 C dX1_isSameString_27 rfl rfl ?_
  refine ga_st_a C dX1_isSameString_28 hC.2.2.2.2.2.2.2.2.1.2 (by omega) ?_
  refine g_topi (hv.2.2) ?_
  refine g_isub C dX1_isSameString_29 ?_
  refine g_topi (pk_sub (by omega) : _ = nI (nv.2.2.1 - nv.2.2.2)) ?_
  refine g_ncmp_eq 35 (by omega) (by omega) C dX1_isSameString_30 (by decide) (fun c30 => ?_) (fun c30 => ?_)
  · refine g_aload_n 2 1 C dX1_isSameString_35 rfl rfl ?_
    refine gr_ls_names C dX1_isSameString_36 k_a wF_X1_84 ra_a ?_
    refine g_aload_n 1 0 C dX1_isSameString_39 rfl rfl ?_
    refine gr_bi_first C dX1_isSameString_40 hC.2.2.2.2.1.2 wF_X1_15 hC.2.2.2.2.2.2.1.1 ?_
    refine g_iload_n 3 2 C dX1_isSameString_43 rfl rfl ?_
    refine ga_fi_a C dX1_isSameString_44 hC.2.2.2.2.2.2.1.2 (by omega) ?_
    refine g_topi (hu.1) ?_
    refine gar_nr_a C dX1_isSameString_45 kn_a (by omega) (by omega) e1 ?_
    refine gr_nm_bytes C dX1_isSameString_46 e5 wF_X1_116 e6 ?_
    refine g_astore (lv' := [(5, .ref b1), (4, .int (nI (nu.2.2.1 - nu.2.2.2))), (0, .ref ((c 7))), (1, .ref a), (2, .int (nI u)), (3, .int (nI v))]) C dX1_isSameString_49 (by decide) rfl ?_
    refine g_aload_n 3 1 C dX1_isSameString_51 rfl rfl ?_
    refine gr_ls_names C dX1_isSameString_52 k_a wF_X1_84 ra_a ?_
    refine g_aload_n 2 0 C dX1_isSameString_55 rfl rfl ?_
    refine gr_bi_first C dX1_isSameString_56 hC.2.2.2.2.1.2 wF_X1_15 hC.2.2.2.2.2.2.1.1 ?_
    refine g_iload_n 5 3 C dX1_isSameString_59 rfl rfl ?_
    refine ga_fi_a C dX1_isSameString_60 hC.2.2.2.2.2.2.1.2 (by omega) ?_
    refine g_topi (hv.1) ?_
    refine gar_nr_a C dX1_isSameString_61 kn_a (by omega) (by omega) f1 ?_
    refine gr_nm_bytes C dX1_isSameString_62 f5 wF_X1_116 f6 ?_
    refine g_astore (lv' := [(6, .ref b2), (5, .ref b1), (4, .int (nI (nu.2.2.1 - nu.2.2.2))), (0, .ref ((c 7))), (1, .ref a), (2, .int (nI u)), (3, .int (nI v))]) C dX1_isSameString_65 (by decide) rfl ?_
    refine g_iconst (v := nI 0) C dX1_isSameString_67 (by decide) ?_
    refine g_istore (lv' := [(7, .int (nI 0)), (6, .ref b2), (5, .ref b1), (4, .int (nI (nu.2.2.1 - nu.2.2.2))), (0, .ref ((c 7))), (1, .ref a), (2, .int (nI u)), (3, .int (nI v))]) C dX1_isSameString_68 (by decide) rfl ?_
    have lp : ∀ (n_ : Nat) (i : Nat), nu.2.2.1 - i < n_ → (i ≤ nv.2.2.1 - nv.2.2.2 ∧ ∀ p, p < i → (nm l nu.1).getD (nu.2.2.2 + p) 0 = (nm l nv.1).getD (nv.2.2.2 + p) 0) → Go X G (Qe X G (fun r S' => r = some (.int (bI (sameStr l nu nv))) ∧ S = S') rm_X1_isSameString.cells rm_X1_isSameString.slots) 8 0 0 S 70 [(7, .int (nI i)), (4, .int (nI (nu.2.2.1 - nu.2.2.2))), (0, .ref ((c 7))), (2, .int (nI u)), (3, .int (nI v)), (5, .ref b1), (6, .ref b2)] [] := by
      intro n_
      induction n_ with
      | zero => intro i hm_; exact absurd hm_ (Nat.not_lt_zero _)
      | succ n_ ih_ =>
        intro i hm_ hh
        obtain ⟨i1, i2⟩ := hh
        refine g_iload 0 C dX1_isSameString_70 rfl ?_
        refine g_iload 1 C dX1_isSameString_72 rfl ?_
        refine g_ncmp_ge 112 (by omega) (by omega) C dX1_isSameString_74 (by decide) (fun c74 => ?_) (fun c74 => ?_)
        · have e : sameStr l nu nv = true := by unfold sameStr; rw [decide_eq_true c30, Bool.true_and]; exact decide_eq_true (fN_eq (Nat.le_refl _) (fun p hp => by simpa using i2 p (by omega)) (Or.inl rfl))
          refine g_iconst (v := nI 1) C dX1_isSameString_112 (by decide) ?_
          exact g_zret C dX1_isSameString_113 (by decide) (by decide) (Or.inr rfl) (⟨by rw [e]; rfl, rfl⟩)
        · have y1 := ((hl.2.1 nu.1 (by omega)).2.2 (nu.2.2.2 + i) (by omega)).2
          have y2 := ((hl.2.1 nv.1 (by omega)).2.2 (nv.2.2.2 + i) (by omega)).2
          refine g_aload 5 C dX1_isSameString_77 rfl ?_
          refine g_aload_n 2 0 C dX1_isSameString_79 rfl rfl ?_
          refine gr_bi_stem C dX1_isSameString_80 hC.2.2.2.2.1.2 wF_X1_21 hC.2.2.2.2.2.2.2.2.1.1 ?_
          refine g_iload_n 3 2 C dX1_isSameString_83 rfl rfl ?_
          refine ga_st_a C dX1_isSameString_84 hC.2.2.2.2.2.2.2.2.1.2 (by omega) ?_
          refine g_topi (hu.2.2) ?_
          refine g_iload 0 C dX1_isSameString_85 rfl ?_
          refine g_iadd C dX1_isSameString_87 ?_
          refine g_topi (nI_add _ _ : _ = nI (nu.2.2.2 + i)) ?_
          refine ga_nb_a C dX1_isSameString_88 e7 (by omega) (by omega) ?_
          refine g_topi (e9' _ (show nu.2.2.2 + i < (nm l nu.1).length by omega)) ?_
          refine g_aload 6 C dX1_isSameString_89 rfl ?_
          refine g_aload_n 2 0 C dX1_isSameString_91 rfl rfl ?_
          refine gr_bi_stem C dX1_isSameString_92 hC.2.2.2.2.1.2 wF_X1_21 hC.2.2.2.2.2.2.2.2.1.1 ?_
          refine g_iload_n 4 3 C dX1_isSameString_95 rfl rfl ?_
          refine ga_st_a C dX1_isSameString_96 hC.2.2.2.2.2.2.2.2.1.2 (by omega) ?_
          refine g_topi (hv.2.2) ?_
          refine g_iload 0 C dX1_isSameString_97 rfl ?_
          refine g_iadd C dX1_isSameString_99 ?_
          refine g_topi (nI_add _ _ : _ = nI (nv.2.2.2 + i)) ?_
          refine ga_nb_a C dX1_isSameString_100 f7 (by omega) (by omega) ?_
          refine g_topi (f9' _ (show nv.2.2.2 + i < (nm l nv.1).length by omega)) ?_
          refine g_ncmp_eq 106 (by omega) (by omega) C dX1_isSameString_101 (by decide) (fun c101 => ?_) (fun c101 => ?_)
          · refine g_iinc (v := nI (i + 1)) (lv' := [(7, .int (nI (i + 1))), (4, .int (nI (nu.2.2.1 - nu.2.2.2))), (0, .ref ((c 7))), (2, .int (nI u)), (3, .int (nI v)), (5, .ref b1), (6, .ref b2)]) 0 C dX1_isSameString_106 rfl (nI_add _ 1) (by decide) rfl ?_
            refine g_goto 70 C dX1_isSameString_109 (by decide) ?_
            exact ih_ (i + 1) (by omega) ⟨by omega, fun p hp => by
              by_cases z : p = i
              · rw [z]; exact c101
              · exact i2 p (by omega)⟩
          · have e : sameStr l nu nv = false := by
              unfold sameStr
              rw [decide_eq_true c30, Bool.true_and, fN_eq (k := i) i1 (fun p hp => by simpa using i2 p hp) (Or.inr (by simpa using c101))]
              exact decide_eq_false (by omega)
            refine g_iconst (v := nI 0) C dX1_isSameString_104 (by decide) ?_
            exact g_zret C dX1_isSameString_105 (by decide) (by decide) (Or.inl rfl) (⟨by rw [e]; rfl, rfl⟩)
    refine Go.pick (lv' := [(7, .int (nI 0)), (4, .int (nI (nu.2.2.1 - nu.2.2.2))), (0, .ref ((c 7))), (2, .int (nI u)), (3, .int (nI v)), (5, .ref b1), (6, .ref b2)]) [0, 3, 4, 6, 7, 2, 1] rfl ?_
    exact lp (nu.2.2.1 + 1) 0 (by omega) ⟨Nat.zero_le _, fun p hp => absurd hp (Nat.not_lt_zero _)⟩
  · have e : sameStr l nu nv = false := by unfold sameStr; rw [decide_eq_false c30, Bool.false_and]
    refine g_iconst (v := nI 0) C dX1_isSameString_33 (by decide) ?_
    exact g_zret C dX1_isSameString_34 (by decide) (by decide) (Or.inl rfl) (⟨by rw [e]; rfl, rfl⟩)
set_option maxRecDepth 100000 in
set_option maxHeartbeats 400000 in
theorem c_B_before {lX : Launch} {G : Gx} {S : PS} {x : Nat} {c : Nat → Nat} (hC : CoC S x c) {a nr va room : Nat} {l : List Ent} (hL : listC S a nr va room l) (hl : okL l) {ns : List Nd} (hnd : ndF (fi_a S) (de_a S) (st_a S) ns) (hN : ns.length ≤ 2401) (hok : ∀ u, u < ns.length → okNd l (ns.getD u (0, 0, 0, 0))) {v : Nat} (hv0 : 0 < v) (hv_ : v < ns.length) : Ct lX yX1_isStringBefore cX1_isStringBefore 4 (Option.some Jvm.ClassFile.FieldType.boolean) rm_X1_isStringBefore G [.ref ((c 7)), .ref a, .int (nI v)] S (fun r S' => r = some (.int (bI (again l ns v))) ∧ S = S') := by
  have hL' := hL
  obtain ⟨⟨k_a, ra_a, rb_a⟩, ⟨kn_a, ln_a⟩, ⟨kv_a, lv_a⟩, sz_a, le_a, rm_a, en_a⟩ := hL
  refine Ct.mk RX1 "isStringBefore" hy_X1_isStringBefore (Nat.le_of_ble_eq_true rfl) (fun X hX C => ?_)
  change Go X G _ 4 0 0 S 0 [(0, .ref ((c 7))), (1, .ref a), (2, .int (nI v))] []
  refine g_iconst (v := nI 1) C dX1_isStringBefore_0 (by decide) ?_
  refine g_istore_n (lv' := [(3, .int (nI 1)), (0, .ref ((c 7))), (1, .ref a), (2, .int (nI v))]) C dX1_isStringBefore_1 rfl (by decide) rfl ?_
  have lp : ∀ (n_ : Nat) (q : Nat), v - q < n_ → (1 + q ≤ v ∧ ∀ p, p < q → sameStr l (ns.getD (1 + p) (0, 0, 0, 0)) (ns.getD v (0, 0, 0, 0)) = false) → Go X G (Qe X G (fun r S' => r = some (.int (bI (again l ns v))) ∧ S = S') rm_X1_isStringBefore.cells rm_X1_isStringBefore.slots) 4 0 0 S 2 [(3, .int (nI (1 + q))), (0, .ref ((c 7))), (1, .ref a), (2, .int (nI v))] [] := by
    intro n_
    induction n_ with
    | zero => intro q hm_; exact absurd hm_ (Nat.not_lt_zero _)
    | succ n_ ih_ =>
      intro q hm_ hh
      obtain ⟨i1, i2⟩ := hh
      refine g_iload_n 0 3 C dX1_isStringBefore_2 rfl rfl ?_
      refine g_iload_n 3 2 C dX1_isStringBefore_3 rfl rfl ?_
      refine g_ncmp_ge 25 (by omega) (by omega) C dX1_isStringBefore_4 (by decide) (fun c4 => ?_) (fun c4 => ?_)
      · have e : again l ns v = false := by
          unfold again
          rw [fN_eq (k := v - 1) (Nat.le_refl _) (fun p hp => by rw [i2 p (by omega)]; rfl) (Or.inl rfl)]
          exact decide_eq_false (by omega)
        refine g_iconst (v := nI 0) C dX1_isStringBefore_25 (by decide) ?_
        exact g_zret C dX1_isStringBefore_26 (by decide) (by decide) (Or.inl rfl) (⟨by rw [e]; rfl, rfl⟩)
      · refine g_aload_n 1 0 C dX1_isStringBefore_7 rfl rfl ?_
        refine g_aload_n 2 1 C dX1_isStringBefore_8 rfl rfl ?_
        refine g_iload_n 0 3 C dX1_isStringBefore_9 rfl rfl ?_
        refine g_iload_n 3 2 C dX1_isStringBefore_10 rfl rfl ?_
        refine g_callV (As := [.ref a, .int (nI (1 + q)), .int (nI v)]) (rest := []) C dX1_isStringBefore_11 (c_B_same hC hL' hl hnd hN hok (show 1 + q < ns.length by omega) hv_ rfl rfl) wC_X1_isSameString wM_X1_133 wI_X1_isSameString wS_X1_isSameString wN_X1 (kne hC.2.2.2.2.1.2) (pf_2 hC.2.2.2.2.1.2) rfl hd_X1_isSameString ⟨by decide, by decide, by decide, by decide⟩ (Nat.le_of_ble_eq_true rfl) (fun r_ S_ h_ => ?_)
        obtain ⟨rfl, rfl⟩ := h_
        change Go X G _ 4 _ _ S 14 [(3, .int (nI (1 + q))), (0, .ref ((c 7))), (1, .ref a), (2, .int (nI v))] [.int (bI (sameStr l (ns.getD (1 + q) (0, 0, 0, 0)) (ns.getD v (0, 0, 0, 0))))]
        refine g_if_eq 19 C dX1_isStringBefore_14 (by decide) (fun c14 => ?_) (fun c14 => ?_)
        · have hs := bI_f c14
          refine g_iinc (v := nI (1 + q + 1)) (lv' := [(3, .int (nI (1 + q + 1))), (0, .ref ((c 7))), (1, .ref a), (2, .int (nI v))]) 0 C dX1_isStringBefore_19 rfl (nI_add _ 1) (by decide) rfl ?_
          refine g_goto 2 C dX1_isStringBefore_22 (by decide) ?_
          exact ih_ (q + 1) (by omega) ⟨by omega, fun p hp => by
            by_cases z : p = q
            · rw [z]; exact hs
            · exact i2 p (by omega)⟩
        · have hs := bI_t c14
          have e : again l ns v = true := by
            unfold again
            rw [fN_eq (k := q) (by omega) (fun p hp => by rw [i2 p hp]; rfl) (Or.inr (by rw [hs]; rfl))]
            exact decide_eq_true (by omega)
          refine g_iconst (v := nI 1) C dX1_isStringBefore_17 (by decide) ?_
          exact g_zret C dX1_isStringBefore_18 (by decide) (by decide) (Or.inr rfl) (⟨by rw [e]; rfl, rfl⟩)
  exact lp (v + 1) 0 (by omega) ⟨by omega, fun p hp => absurd hp (Nat.not_lt_zero _)⟩
