/-- the binder's own rows -/
def scr (S : PS) : Int32 × (Nat → Int32) × (Nat → Int32) × (Nat → Int32) × (Nat → Int32) × (Nat → Int32) := (bi_nodes S, al_a S, fi_a S, de_a S, st_a S, dg_a S)
theorem Fr.ebn {S : PS} {q n : Nat} {f : Nat → Int32} (h0 : kd S q = 0) : Fr S (eb_a_ (na_eb_a S q n) (va_up (eb_a S) q f)) No := by
  have := ((Fr.refl S No).a_eb_a (n := n) h0).u_eb_a (v := f) (Or.inl h0)
  rwa [show va_up (eb_a (na_eb_a S q n)) q f = va_up (eb_a S) q f from va_up_up _ _ _ _] at this
set_option maxRecDepth 100000 in
set_option maxHeartbeats 2000000 in
theorem c_R_init2 {lX : Launch} {G : Gx} {S : PS} {a n : Nat} (hk : kd S a = 7) (hn : n ≤ 4802) : Ct lX yX6_init cX6_init 2 (Option.none : Option Jvm.ClassFile.FieldType) rm_X6_init G [.ref a, .int (nI n)] S (fun r S' => ∃ wd ta tb, r = none ∧ Fr S S' (fun q => q = a) ∧ mu S' = mu S ∧ scr S' = scr S ∧ rowC S' a wd ta tb (List.replicate n 0) false false ∧ kd S wd = 0 ∧ kd S ta = 0 ∧ kd S tb = 0) := by
  refine Ct.mk RX6 "<init>" hy_X6_init (Nat.le_of_ble_eq_true rfl) (fun X hX C => ?_)
  change Go X G _ 2 0 0 S 0 [(0, .ref a), (1, .int (nI n))] []
  refine g_aload_n 0 0 C dX6_init_0 rfl rfl ?_
  refine g_objInit C dX6_init_1 wM_X6_3 ⟨by decide, by decide⟩ (Nat.le_of_ble_eq_true rfl) ?_
  refine g_aload_n 0 0 C dX6_init_4 rfl rfl ?_
  refine g_iconst (v := nI 0) C dX6_init_5 (by decide) ?_
  refine pp_rw_la C dX6_init_6 hk wF_X6_9 (Or.inl rfl) (by decide) ?_
  refine g_aload_n 0 0 C dX6_init_9 rfl rfl ?_
  refine g_iconst (v := nI 0) C dX6_init_10 (by decide) ?_
  refine pp_rw_lb C dX6_init_11 hk wF_X6_15 (Or.inl rfl) (by decide) ?_
  refine g_aload_n 0 0 C dX6_init_14 rfl rfl ?_
  refine g_iconst (v := nI 0) C dX6_init_15 (by decide) ?_
  refine pp_rw_ones C dX6_init_16 hk wF_X6_18 (Or.inl rfl) ?_
  refine g_aload_n 0 0 C dX6_init_19 rfl rfl ?_
  refine g_iload_n 1 1 C dX6_init_20 rfl rfl ?_
  refine pp_rw_bits C dX6_init_21 hk wF_X6_22 (Or.inr ⟨rfl, rfl, rfl⟩) ?_
  refine g_aload_n 0 0 C dX6_init_24 rfl rfl ?_
  refine g_iload_n 1 1 C dX6_init_25 rfl rfl ?_
  refine g_bipush (v := nI 64) C dX6_init_26 (by decide) ?_
  refine g_idiv C dX6_init_28 (by decide) ?_
  refine g_topi (pk_div (by omega) (by omega) (by omega) : _ = nI (n / 64)) ?_
  refine g_iconst (v := nI 1) C dX6_init_29 (by decide) ?_
  refine g_iadd C dX6_init_30 ?_
  refine g_topi (nI_add _ _ : _ = nI (n / 64 + 1)) ?_
  refine gy_wd_a C dX6_init_31 (by omega) ⟨by decide, by show (_ : Nat) ≤ 162; omega⟩ (fun q1 h0_q1 => ?_)
  refine Go.wide (k2 := 1) (n2 := 76) (by first | decide | omega) (by first | decide | omega) ?_
  refine pp_rw_words C dX6_init_33 (kup h0_q1 hk) wF_X6_25 (Or.inr ⟨rfl, rfl, rfl⟩) ?_
  refine g_aload_n 0 0 C dX6_init_36 rfl rfl ?_
  refine g_iload_n 1 1 C dX6_init_37 rfl rfl ?_
  refine g_sipush (v := nI 512) C dX6_init_38 (by decide) ?_
  refine g_idiv C dX6_init_41 (by decide) ?_
  refine g_topi (pk_div (by omega) (by omega) (by omega) : _ = nI (n / 512)) ?_
  refine g_iconst (v := nI 1) C dX6_init_42 (by decide) ?_
  refine g_iadd C dX6_init_43 ?_
  refine g_topi (nI_add _ _ : _ = nI (n / 512 + 1)) ?_
  refine gy_ta_a C dX6_init_44 (by omega) ⟨by decide, by show (_ : Nat) ≤ 162; omega⟩ (fun q2 h0_q2 => ?_)
  refine Go.wide (k2 := 2) (n2 := 86) (by first | decide | omega) (by first | decide | omega) ?_
  refine pp_rw_ta C dX6_init_46 (kup h0_q2 (kup h0_q1 hk)) wF_X6_29 (Or.inr ⟨rfl, rfl, rfl⟩) ?_
  refine g_aload_n 0 0 C dX6_init_49 rfl rfl ?_
  refine g_iload_n 1 1 C dX6_init_50 rfl rfl ?_
  refine g_bipush (v := nI 64) C dX6_init_51 (by decide) ?_
  refine g_idiv C dX6_init_53 (by decide) ?_
  refine g_topi (pk_div (by omega) (by omega) (by omega) : _ = nI (n / 64)) ?_
  refine g_iconst (v := nI 1) C dX6_init_54 (by decide) ?_
  refine g_iadd C dX6_init_55 ?_
  refine g_topi (nI_add _ _ : _ = nI (n / 64 + 1)) ?_
  refine gy_tb_a C dX6_init_56 (by omega) ⟨by decide, by show (_ : Nat) ≤ 162; omega⟩ (fun q3 h0_q3 => ?_)
  refine Go.wide (k2 := 3) (n2 := 162) (by first | decide | omega) (by first | decide | omega) ?_
  refine pp_rw_tb C dX6_init_58 (kup h0_q3 (kup h0_q2 (kup h0_q1 hk))) wF_X6_33 (Or.inr ⟨rfl, rfl, rfl⟩) ?_
  have hb : Fb S (fun q => q = a) a := Fb.of hk rfl
  have f1 := (((((Fr.refl S (fun q => q = a)).u_rw_la (v := nI 0) hb).u_rw_lb (v := nI 0) hb).u_rw_ones (v := nI 0) hb).u_rw_bits (v := nI n) hb).a_wd_a (n := n / 64 + 1) h0_q1
  have f2 := (f1.u_rw_words (v := some q1) hb).a_ta_a (n := n / 512 + 1) h0_q2
  have f3 := (f2.u_rw_ta (v := some q2) hb).a_tb_a (n := n / 64 + 1) h0_q3
  have hne1 : q1 ≠ q2 := fun e => by rw [← e] at h0_q2; exact absurd ((va_up_self (kd S) q1 17).symm.trans h0_q2) (by decide)
  have hk1 : va_up (va_up (kd S) q1 17) q2 13 q1 = 17 := kup (S := na_wd_a S q1 0) h0_q2 (va_up_self _ _ _)
  have hk2 : va_up (va_up (kd S) q1 17) q2 13 q2 = 13 := va_up_self _ _ _
  have hne2 : q1 ≠ q3 := fun e => by rw [← e] at h0_q3; exact absurd (hk1.symm.trans h0_q3) (by decide)
  have hne3 : q2 ≠ q3 := fun e => by rw [← e] at h0_q3; exact absurd (hk2.symm.trans h0_q3) (by decide)
  have hL : (List.replicate n 0 : List Nat).length = n := List.length_replicate
  exact g_vret C dX6_init_61 (by decide) (by decide) ⟨q1, q2, q3, rfl, f3.u_rw_tb hb, rfl, rfl, ⟨⟨⟨kup h0_q3 (kup h0_q2 (kup h0_q1 hk)), (va_up_self _ _ _).trans (by rw [hL]), va_up_self _ _ _, va_up_self _ _ _, va_up_self _ _ _⟩, ⟨kup h0_q3 (kup h0_q2 (va_up_self _ _ _)), by rw [hL]; exact (va_up_ne _ _ hne2).trans ((va_up_ne _ _ hne1).trans (va_up_self _ _ _))⟩, ⟨kup h0_q3 (va_up_self _ _ _), by rw [hL]; exact (va_up_ne _ _ hne3).trans (va_up_self _ _ _)⟩, ⟨va_up_self _ _ _, by rw [hL]; exact va_up_self _ _ _⟩, ⟨va_up_self _ _ _, va_up_self _ _ _⟩, (va_up_self _ _ _).trans (by rw [rep_ones]), ⟨by rw [hL]; exact hn, fun i => by rw [rep_get]; exact Nat.zero_le _⟩, fun j hj => (congrFun (va_up_self _ _ _) j).trans (by rw [rep_bits]; rfl)⟩, fun _ j hj => (congrFun (va_up_self _ _ _) j).trans (by rw [rep_ones]; rfl), fun _ j hj => (congrFun (va_up_self _ _ _) j).trans (by rw [rep_ones, rep_ones]; rfl)⟩, h0_q1, f1.new h0_q2, f2.new h0_q3⟩
set_option maxRecDepth 100000 in
set_option maxHeartbeats 400000 in
theorem c_B_edge {lX : Launch} {G : Gx} {S : PS} {x : Nat} {c : Nat → Nat} (hC : CoC S x c) {a nr va room : Nat} {l : List Ent} (hL : listC S a nr va room l) (hl : okL l) {ns : List Nd} (hnd : ndF (fi_a S) (de_a S) (st_a S) ns) (hN : ns.length ≤ 2401) (hok : ∀ u, u < ns.length → okNd l (ns.getD u (0, 0, 0, 0))) (hn_ : bi_nodes S = nI ns.length) (h1_ : 1 ≤ ns.length) (hst : ∀ u, 0 < u → u < ns.length → (ns.getD u (0, 0, 0, 0)).2.2.2 < (nm l (ns.getD u (0, 0, 0, 0)).1).length) : Ct lX yX1_edgeBytes cX1_edgeBytes 4 (Option.some (Jvm.ClassFile.FieldType.array Jvm.ClassFile.FieldType.int)) rm_X1_edgeBytes G [.ref ((c 7)), .ref a] S (fun r S' => ∃ q, r = some (.ref q) ∧ Fr S S' No ∧ mu S' = mu S ∧ scr S' = scr S ∧ kd S q = 0 ∧ kd S' q = 15 ∧ ln S' q = ns.length - 1 ∧ ∀ e, e < ns.length - 1 → eb_a S' q e = nI ((nm l (ns.getD (e + 1) (0, 0, 0, 0)).1).getD (ns.getD (e + 1) (0, 0, 0, 0)).2.2.2 0)) := by
  obtain ⟨⟨k_a, ra_a, rb_a⟩, ⟨kn_a, ln_a⟩, ⟨kv_a, lv_a⟩, sz_a, le_a, rm_a, en_a⟩ := hL
  have hl1 := hl.1
  refine Ct.mk RX1 "edgeBytes" hy_X1_edgeBytes (Nat.le_of_ble_eq_true rfl) (fun X hX C => ?_)
  change Go X G _ 4 0 0 S 0 [(0, .ref ((c 7))), (1, .ref a)] []
  refine g_aload_n 0 0 C dX1_edgeBytes_0 rfl rfl ?_
  refine gf_bi_nodes C dX1_edgeBytes_1 hC.2.2.2.2.1.2 wF_X1_27 ?_
  refine g_topi (hn_) ?_
  refine g_iconst (v := nI 1) C dX1_edgeBytes_4 (by decide) ?_
  refine g_isub C dX1_edgeBytes_5 ?_
  refine g_topi (pk_sub (by omega) : _ = nI (ns.length - 1)) ?_
  refine gy_eb_a C dX1_edgeBytes_6 (by omega) ⟨by decide, by show (_ : Nat) ≤ 2400; omega⟩ (fun q1 h0_q1 => ?_)
  refine Go.wide (k2 := 1) (n2 := 2400) (by first | decide | omega) (by first | decide | omega) ?_
  refine g_st (S' := (eb_a_ (na_eb_a S q1 (ns.length - 1)) (va_up (eb_a S) q1 (fun _ => 0)))) ?_ ?_
  · show na_eb_a S q1 (ns.length - 1) = eb_a_ (na_eb_a S q1 (ns.length - 1)) (va_up (eb_a S) q1 (fun _ => 0))
    rfl
  refine g_astore_n (lv' := [(2, .ref q1), (0, .ref ((c 7))), (1, .ref a)]) C dX1_edgeBytes_8 rfl (by decide) rfl ?_
  refine g_iconst (v := nI 0) C dX1_edgeBytes_9 (by decide) ?_
  refine g_istore_n (lv' := [(3, .int (nI 0)), (2, .ref q1), (0, .ref ((c 7))), (1, .ref a)]) C dX1_edgeBytes_10 rfl (by decide) rfl ?_
  have lp : ∀ (n_ : Nat) (e : Nat) (f : Nat → Int32), ns.length - e < n_ → (e ≤ (ns.length - 1) ∧ ∀ q, q < e → f q = nI ((nm l (ns.getD (q + 1) (0, 0, 0, 0)).1).getD (ns.getD (q + 1) (0, 0, 0, 0)).2.2.2 0)) → Go X G (Qe X G (fun r S' => ∃ q, r = some (.ref q) ∧ Fr S S' No ∧ mu S' = mu S ∧ scr S' = scr S ∧ kd S q = 0 ∧ kd S' q = 15 ∧ ln S' q = ns.length - 1 ∧ ∀ e, e < ns.length - 1 → eb_a S' q e = nI ((nm l (ns.getD (e + 1) (0, 0, 0, 0)).1).getD (ns.getD (e + 1) (0, 0, 0, 0)).2.2.2 0)) rm_X1_edgeBytes.cells rm_X1_edgeBytes.slots) 4 1 2400 (eb_a_ (na_eb_a S q1 (ns.length - 1)) (va_up (eb_a S) q1 f)) 11 [(3, .int (nI e)), (2, .ref q1), (0, .ref ((c 7))), (1, .ref a)] [] := by
    intro n_
    induction n_ with
    | zero => intro e f hm_; exact absurd hm_ (Nat.not_lt_zero _)
    | succ n_ ih_ =>
      intro e f hm_ hh
      have hh1 := hh.1
      refine g_iload_n 0 3 C dX1_edgeBytes_11 rfl rfl ?_
      refine g_aload_n 1 2 C dX1_edgeBytes_12 rfl rfl ?_
      refine gl_eb_a C dX1_edgeBytes_13 (va_up_self _ _ _) ?_
      refine g_topi (congrArg nI (va_up_self _ _ _)) ?_
      refine g_ncmp_ge 51 (by omega) (by omega) C dX1_edgeBytes_14 (by decide) (fun c14 => ?_) (fun c14 => ?_)
      · refine g_aload_n 1 2 C dX1_edgeBytes_51 rfl rfl ?_
        exact g_aret (r := some q1) C dX1_edgeBytes_52 (Or.inr ⟨_, rfl⟩) (by decide) (by decide) ⟨q1, rfl, Fr.ebn h0_q1, rfl, rfl, h0_q1, va_up_self _ _ _, va_up_self _ _ _, fun q hq => (congrFun (va_up_self (eb_a S) q1 f) q).trans (hh.2 q (by omega))⟩
      · have he1 : e + 1 < ns.length := by omega
        have hv := hnd (e + 1) he1
        have ov := hok (e + 1) he1
        have hs := hst (e + 1) (by omega) he1
        have h24 : (nm l (ns.getD (e + 1) (0, 0, 0, 0)).1).length ≤ 24 := (hl.2.1 _ (by have := ov.1; have := ov.2.1; omega)).2.1
        have hnl : (ns.getD (e + 1) (0, 0, 0, 0)).1 < l.length := by have := ov.1; have := ov.2.1; omega
        obtain ⟨m1, e1, e2, e3, e4⟩ := en_a (ns.getD (e + 1) (0, 0, 0, 0)).1 hnl
        obtain ⟨e5, b1, e6, e7, e8, e9⟩ := id e2
        have e8' : ln S b1 = (nm l (ns.getD (e + 1) (0, 0, 0, 0)).1).length := e8
        have e9' : ∀ q, q < (nm l (ns.getD (e + 1) (0, 0, 0, 0)).1).length → nb_a S b1 q = nI ((nm l (ns.getD (e + 1) (0, 0, 0, 0)).1).getD q 0) := e9
        have y1 := ((hl.2.1 _ hnl).2.2 _ hs).2
        have km : kd (eb_a_ (na_eb_a S q1 (ns.length - 1)) (va_up (eb_a S) q1 f)) m1 = 6 := kup h0_q1 e5
        have kb : kd (eb_a_ (na_eb_a S q1 (ns.length - 1)) (va_up (eb_a S) q1 f)) b1 = 12 := kup h0_q1 e7
        have hqb : b1 ≠ q1 := fun z => by rw [z] at e7; exact absurd (e7.symm.trans h0_q1) (by decide)
        have lb : ln (eb_a_ (na_eb_a S q1 (ns.length - 1)) (va_up (eb_a S) q1 f)) b1 = (nm l (ns.getD (e + 1) (0, 0, 0, 0)).1).length := (va_up_ne _ _ hqb).trans e8'
        have hqn : nr ≠ q1 := fun z => by rw [z] at kn_a; exact absurd (kn_a.symm.trans h0_q1) (by decide)
        have lnr : ln (eb_a_ (na_eb_a S q1 (ns.length - 1)) (va_up (eb_a S) q1 f)) nr = room := (va_up_ne _ _ hqn).trans ln_a
        refine g_aload_n 1 2 C dX1_edgeBytes_17 rfl rfl ?_
        refine g_iload_n 0 3 C dX1_edgeBytes_18 rfl rfl ?_
        refine g_aload_n 3 1 C dX1_edgeBytes_19 rfl rfl ?_
        refine gr_ls_names C dX1_edgeBytes_20 (kup h0_q1 k_a) wF_X1_84 ra_a ?_
        refine g_aload_n 2 0 C dX1_edgeBytes_23 rfl rfl ?_
        refine gr_bi_first C dX1_edgeBytes_24 (kup h0_q1 hC.2.2.2.2.1.2) wF_X1_15 hC.2.2.2.2.2.2.1.1 ?_
        refine g_iload_n 0 3 C dX1_edgeBytes_27 rfl rfl ?_
        refine g_iconst (v := nI 1) C dX1_edgeBytes_28 (by decide) ?_
        refine g_iadd C dX1_edgeBytes_29 ?_
        refine g_topi (nI_add _ _ : _ = nI (e + 1)) ?_
        refine ga_fi_a C dX1_edgeBytes_30 (kup h0_q1 hC.2.2.2.2.2.2.1.2) (by omega) ?_
        refine g_topi (hv.1) ?_
        refine gar_nr_a C dX1_edgeBytes_31 (kup h0_q1 kn_a) (by have h_ : ln (eb_a_ (na_eb_a S q1 (ns.length - 1)) (va_up (eb_a S) q1 f)) nr = room := lnr; omega) (by have h_ : ln (eb_a_ (na_eb_a S q1 (ns.length - 1)) (va_up (eb_a S) q1 f)) nr = room := lnr; omega) e1 ?_
        refine gr_nm_bytes C dX1_edgeBytes_32 km wF_X1_116 e6 ?_
        refine g_aload_n 2 0 C dX1_edgeBytes_35 rfl rfl ?_
        refine gr_bi_stem C dX1_edgeBytes_36 (kup h0_q1 hC.2.2.2.2.1.2) wF_X1_21 hC.2.2.2.2.2.2.2.2.1.1 ?_
        refine g_iload_n 0 3 C dX1_edgeBytes_39 rfl rfl ?_
        refine g_iconst (v := nI 1) C dX1_edgeBytes_40 (by decide) ?_
        refine g_iadd C dX1_edgeBytes_41 ?_
        refine g_topi (nI_add _ _ : _ = nI (e + 1)) ?_
        refine ga_st_a C dX1_edgeBytes_42 (kup h0_q1 hC.2.2.2.2.2.2.2.2.1.2) (by omega) ?_
        refine g_topi (hv.2.2) ?_
        refine ga_nb_a C dX1_edgeBytes_43 kb (by have h_ : ln (eb_a_ (na_eb_a S q1 (ns.length - 1)) (va_up (eb_a S) q1 f)) b1 = (nm l (ns.getD (e + 1) (0, 0, 0, 0)).1).length := lb; omega) (by have h_ : ln (eb_a_ (na_eb_a S q1 (ns.length - 1)) (va_up (eb_a S) q1 f)) b1 = (nm l (ns.getD (e + 1) (0, 0, 0, 0)).1).length := lb; omega) ?_
        refine g_topi (e9' _ hs) ?_
        refine gs_eb_a C dX1_edgeBytes_44 (va_up_self _ _ _) (by have h_ : ln (eb_a_ (na_eb_a S q1 (ns.length - 1)) (va_up (eb_a S) q1 f)) q1 = (ns.length - 1) := (va_up_self _ _ _); omega) (by have h_ : ln (eb_a_ (na_eb_a S q1 (ns.length - 1)) (va_up (eb_a S) q1 f)) q1 = (ns.length - 1) := (va_up_self _ _ _); omega) ?_
        refine g_st (S' := (eb_a_ (na_eb_a S q1 (ns.length - 1)) (va_up (eb_a S) q1 (upd f e (nI ((nm l (ns.getD (e + 1) (0, 0, 0, 0)).1).getD (ns.getD (e + 1) (0, 0, 0, 0)).2.2.2 0)))))) (by show eb_a_ (na_eb_a S q1 (ns.length - 1)) (va_up (va_up (eb_a S) q1 f) q1 (upd (va_up (eb_a S) q1 f q1) e (nI ((nm l (ns.getD (e + 1) (0, 0, 0, 0)).1).getD (ns.getD (e + 1) (0, 0, 0, 0)).2.2.2 0)))) = _; rw [va_up_up, va_up_self]) ?_
        refine g_iinc (v := nI (e + 1)) (lv' := [(3, .int (nI (e + 1))), (2, .ref q1), (0, .ref ((c 7))), (1, .ref a)]) 0 C dX1_edgeBytes_45 rfl (nI_add _ 1) (by decide) rfl ?_
        refine g_goto 11 C dX1_edgeBytes_48 (by decide) ?_
        exact ih_ (e + 1) _ (by omega) ⟨by omega, fun q hq => by
          by_cases z : q = e
          · rw [z]; exact pk_us
          · exact (pk_un z).trans (hh.2 q (by omega))⟩
  exact lp (ns.length + 1) 0 _ (by omega) ⟨Nat.zero_le _, fun q hq => absurd hq (Nat.not_lt_zero _)⟩
