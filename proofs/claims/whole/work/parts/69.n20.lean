abbrev biS (S : PS) (f d s : Nat → Int32) (n : Int32) : PS := bi_nodes_ (st_a_ (de_a_ (fi_a_ S f) d) s) n
def alF (a : Nat → Int32) (l : List Ent) : Prop := ∀ k, k < l.length → a k = nI (alC l k)
def ndF (f d s : Nat → Int32) (ns : List Nd) : Prop := ∀ v, v < ns.length → f v = nI (ns.getD v (0, 0, 0, 0)).1 ∧ d v = nI (ns.getD v (0, 0, 0, 0)).2.2.1 ∧ s v = nI (ns.getD v (0, 0, 0, 0)).2.2.2
theorem alF.at {a : Nat → Int32} {l : List Ent} (h : alF a l) {k : Nat} (hk : k < l.length) (h0 : 0 < k) : a k = nI (alN l k) := by
  rw [h k hk]; unfold alC; rw [if_neg (by omega)]
theorem ndF.add {f d s : Nat → Int32} {ns : List Nd} (h : ndF f d s ns) (a e b c : Nat) : ndF (upd f ns.length (nI a)) (upd d ns.length (nI b)) (upd s ns.length (nI c)) (ns ++ [(a, e, b, c)]) := by
  intro v hv
  rw [List.length_append] at hv
  have hv' : v < ns.length + 1 := hv
  by_cases z : v = ns.length
  · subst z
    rw [getD_app, if_neg (Nat.lt_irrefl _), Nat.sub_self]
    exact ⟨pk_us, pk_us, pk_us⟩
  · rw [getD_app, if_pos (by omega)]
    obtain ⟨h1, h2, h3⟩ := h v (by omega)
    exact ⟨(pk_un (by omega)).trans h1, (pk_un (by omega)).trans h2, (pk_un (by omega)).trans h3⟩
theorem al_24 {l : List Ent} (hl : okL l) {k : Nat} (hk : k < l.length) : alN l k ≤ 24 := by
  have := lcp_le2 (nm l (k - 1)) (nm l k)
  have := (hl.2.1 k hk).2.1
  unfold alN
  omega
set_option maxRecDepth 100000 in
set_option maxHeartbeats 400000 in
theorem c_B_past {lX : Launch} {G : Gx} {S : PS} {x : Nat} {c : Nat → Nat} (hC : CoC S x c) {l : List Ent} (hl : okL l) (ha : alF (al_a S) l) {k d e : Nat} (hk : k < e) (he : e ≤ l.length) (hd : d ≤ 25) : Ct lX yX1_pastAlike cX1_pastAlike 5 (Option.some Jvm.ClassFile.FieldType.int) rm_X1_pastAlike G [.ref ((c 7)), .int (nI k), .int (nI d), .int (nI e)] S (fun r S' => r = some (.int (nI (pA l k d e))) ∧ S = S') := by
  have hl1 := hl.1
  refine Ct.mk RX1 "pastAlike" hy_X1_pastAlike (Nat.le_of_ble_eq_true rfl) (fun X hX C => ?_)
  change Go X G _ 5 0 0 S 0 [(0, .ref ((c 7))), (1, .int (nI k)), (2, .int (nI d)), (3, .int (nI e))] []
  refine g_iload_n 1 1 C dX1_pastAlike_0 rfl rfl ?_
  refine g_iconst (v := nI 1) C dX1_pastAlike_1 (by decide) ?_
  refine g_iadd C dX1_pastAlike_2 ?_
  refine g_topi (nI_add _ _ : _ = nI (k + 1)) ?_
  refine g_istore (lv' := [(4, .int (nI (k + 1))), (0, .ref ((c 7))), (1, .int (nI k)), (2, .int (nI d)), (3, .int (nI e))]) C dX1_pastAlike_3 (by decide) rfl ?_
  have lp : ∀ (n_ : Nat) (q : Nat), e - q < n_ → (k + 1 + q ≤ e ∧ ∀ p, k < p → p < k + 1 + q → d ≤ alN l p) → Go X G (Qe X G (fun r S' => r = some (.int (nI (pA l k d e))) ∧ S = S') rm_X1_pastAlike.cells rm_X1_pastAlike.slots) 5 0 0 S 5 [(4, .int (nI (k + 1 + q))), (0, .ref ((c 7))), (1, .int (nI k)), (2, .int (nI d)), (3, .int (nI e))] [] := by
    intro n_
    induction n_ with
    | zero => intro q hm_; exact absurd hm_ (Nat.not_lt_zero _)
    | succ n_ ih_ =>
      intro q hm_ hh
      obtain ⟨i1, i2⟩ := hh
      refine g_iload 0 C dX1_pastAlike_5 rfl ?_
      refine g_iload_n 4 3 C dX1_pastAlike_7 rfl rfl ?_
      refine g_ncmp_ge 28 (by omega) (by omega) C dX1_pastAlike_8 (by decide) (fun c8 => ?_) (fun c8 => ?_)
      · have e_ : pA l k d e = k + 1 + q := pA_eq (by omega) i1 i2 (Or.inl (by omega))
        refine g_iload 0 C dX1_pastAlike_28 rfl ?_
        exact g_iret C dX1_pastAlike_30 (by decide) (by decide) (⟨by rw [e_], rfl⟩)
      · have h24 := al_24 hl (k := k + 1 + q) (by omega)
        refine g_aload_n 1 0 C dX1_pastAlike_11 rfl rfl ?_
        refine gr_bi_alike C dX1_pastAlike_12 hC.2.2.2.2.1.2 wF_X1_9 hC.2.2.2.2.2.1.1 ?_
        refine g_iload 0 C dX1_pastAlike_15 rfl ?_
        refine ga_al_a C dX1_pastAlike_17 hC.2.2.2.2.2.1.2 (by omega) ?_
        refine g_topi (ha.at (by omega) (by omega)) ?_
        refine g_iload_n 3 2 C dX1_pastAlike_18 rfl rfl ?_
        refine g_ncmp_lt 28 (by omega) (by omega) C dX1_pastAlike_19 (by decide) (fun c19 => ?_) (fun c19 => ?_)
        · have e_ : pA l k d e = k + 1 + q := pA_eq (by omega) i1 i2 (Or.inr (by omega))
          refine g_iload 0 C dX1_pastAlike_28 rfl ?_
          exact g_iret C dX1_pastAlike_30 (by decide) (by decide) (⟨by rw [e_], rfl⟩)
        · refine g_iinc (v := nI (k + 1 + q + 1)) (lv' := [(4, .int (nI (k + 1 + q + 1))), (0, .ref ((c 7))), (1, .int (nI k)), (2, .int (nI d)), (3, .int (nI e))]) 0 C dX1_pastAlike_22 rfl (nI_add _ 1) (by decide) rfl ?_
          refine g_goto 5 C dX1_pastAlike_25 (by decide) ?_
          exact ih_ (q + 1) (by omega) ⟨by omega, fun p h1 h2 => by
            by_cases z : p = k + 1 + q
            · rw [z]; omega
            · exact i2 p h1 (by omega)⟩
  exact lp (e + 1) 0 (by omega) ⟨by omega, fun p h1 h2 => by omega⟩
set_option maxRecDepth 100000 in
set_option maxHeartbeats 400000 in
theorem c_B_addNode {lX : Launch} {G : Gx} {S : PS} {x : Nat} {c : Nat → Nat} (hC : CoC S x c) {f d s : Nat → Int32} {ns : List Nd} {a e b g : Nat} (hn : ns.length < 2401) : Ct lX yX1_addNode cX1_addNode 4 (Option.none : Option Jvm.ClassFile.FieldType) rm_X1_addNode G [.ref ((c 7)), .int (nI a), .int (nI b), .int (nI g)] (biS S f d s (nI ns.length)) (fun r S' => r = none ∧ S' = biS S (upd f ns.length (nI a)) (upd d ns.length (nI b)) (upd s ns.length (nI g)) (nI (ns ++ [(a, e, b, g)]).length)) := by
  refine Ct.mk RX1 "addNode" hy_X1_addNode (Nat.le_of_ble_eq_true rfl) (fun X hX C => ?_)
  change Go X G _ 4 0 0 (biS S f d s (nI ns.length)) 0 [(0, .ref ((c 7))), (1, .int (nI a)), (2, .int (nI b)), (3, .int (nI g))] []
  refine g_aload_n 0 0 C dX1_addNode_0 rfl rfl ?_
  refine gf_bi_nodes C dX1_addNode_1 hC.2.2.2.2.1.2 wF_X1_27 ?_
  refine g_topi (rfl) ?_
  refine g_sipush (v := nI 2401) C dX1_addNode_4 (by decide) ?_
  refine g_ncmp_lt 11 (by omega) (by omega) C dX1_addNode_7 (by decide) (fun c7 => ?_) (fun c7 => ?_)
  · refine g_aload_n 0 0 C dX1_addNode_11 rfl rfl ?_
    refine gr_bi_first C dX1_addNode_12 hC.2.2.2.2.1.2 wF_X1_15 hC.2.2.2.2.2.2.1.1 ?_
    refine g_aload_n 0 0 C dX1_addNode_15 rfl rfl ?_
    refine gf_bi_nodes C dX1_addNode_16 hC.2.2.2.2.1.2 wF_X1_27 ?_
    refine g_topi (rfl) ?_
    refine g_iload_n 1 1 C dX1_addNode_19 rfl rfl ?_
    refine gs_fi_a C dX1_addNode_20 hC.2.2.2.2.2.2.1.2 (by omega) ?_
    refine g_aload_n 0 0 C dX1_addNode_21 rfl rfl ?_
    refine gr_bi_depth C dX1_addNode_22 hC.2.2.2.2.1.2 wF_X1_18 hC.2.2.2.2.2.2.2.1.1 ?_
    refine g_aload_n 0 0 C dX1_addNode_25 rfl rfl ?_
    refine gf_bi_nodes C dX1_addNode_26 hC.2.2.2.2.1.2 wF_X1_27 ?_
    refine g_topi (rfl) ?_
    refine g_iload_n 2 2 C dX1_addNode_29 rfl rfl ?_
    refine gs_de_a C dX1_addNode_30 hC.2.2.2.2.2.2.2.1.2 (by omega) ?_
    refine g_aload_n 0 0 C dX1_addNode_31 rfl rfl ?_
    refine gr_bi_stem C dX1_addNode_32 hC.2.2.2.2.1.2 wF_X1_21 hC.2.2.2.2.2.2.2.2.1.1 ?_
    refine g_aload_n 0 0 C dX1_addNode_35 rfl rfl ?_
    refine gf_bi_nodes C dX1_addNode_36 hC.2.2.2.2.1.2 wF_X1_27 ?_
    refine g_topi (rfl) ?_
    refine g_iload_n 3 3 C dX1_addNode_39 rfl rfl ?_
    refine gs_st_a C dX1_addNode_40 hC.2.2.2.2.2.2.2.2.1.2 (by omega) ?_
    refine g_aload_n 0 0 C dX1_addNode_41 rfl rfl ?_
    refine g_dup C dX1_addNode_42 rfl ?_
    refine gf_bi_nodes C dX1_addNode_43 hC.2.2.2.2.1.2 wF_X1_27 ?_
    refine g_topi (rfl) ?_
    refine g_iconst (v := nI 1) C dX1_addNode_46 (by decide) ?_
    refine g_iadd C dX1_addNode_47 ?_
    refine g_topi (nI_add _ _ : _ = nI (ns.length + 1)) ?_
    refine pp_bi_nodes C dX1_addNode_48 hC.2.2.2.2.1.2 wF_X1_27 (Or.inl rfl) ?_
    exact g_vret C dX1_addNode_51 (by decide) (by decide) (⟨rfl, by rw [List.length_append]; rfl⟩)
  · omega
theorem pA_spec (l : List Ent) {k d e : Nat} (h : k < e) : k < pA l k d e ∧ pA l k d e ≤ e ∧ ∀ p, k < p → p < pA l k d e → d ≤ alN l p := by
  unfold pA
  have := fN_le (fun i => decide (d ≤ alN l (k + 1 + i))) (e - (k + 1))
  refine ⟨by omega, by omega, fun p h1 h2 => ?_⟩
  have := of_decide_eq_true (fN_all (p := fun i => decide (d ≤ alN l (k + 1 + i))) (n := e - (k + 1)) (j := p - (k + 1)) (by omega))
  rwa [show k + 1 + (p - (k + 1)) = p by omega] at this
set_option maxRecDepth 100000 in
set_option maxHeartbeats 400000 in
theorem c_B_common {lX : Launch} {G : Gx} {S : PS} {x : Nat} {c : Nat → Nat} (hC : CoC S x c) {a nr va room : Nat} {l : List Ent} (hL : listC S a nr va room l) (hl : okL l) (ha : alF (al_a S) l) {k d : Nat} (hk : k < l.length) (hd : d < (nm l k).length) : Ct lX yX1_lengthInCommon cX1_lengthInCommon 7 (Option.some Jvm.ClassFile.FieldType.int) rm_X1_lengthInCommon G [.ref ((c 7)), .ref a, .int (nI k), .int (nI (d + 1))] S (fun r S' => r = some (.int (nI (gTo l k (pA l k (d + 1) l.length) d))) ∧ S = S') := by
  obtain ⟨⟨k_a, ra_a, rb_a⟩, ⟨kn_a, ln_a⟩, ⟨kv_a, lv_a⟩, sz_a, le_a, rm_a, en_a⟩ := hL
  have hl1 := hl.1
  obtain ⟨hkp, hpl, hpa⟩ := pA_spec l (d := d + 1) hk
  obtain ⟨m_, e1, e2, e3, e4⟩ := en_a k hk
  obtain ⟨g1, b_, g2, g3, g4, g5⟩ := id e2
  have g4' : ln S b_ = (nm l k).length := g4
  have ok2 := (hl.2.1 k hk).2.1
  refine Ct.mk RX1 "lengthInCommon" hy_X1_lengthInCommon (Nat.le_of_ble_eq_true rfl) (fun X hX C => ?_)
  change Go X G _ 7 0 0 S 0 [(0, .ref ((c 7))), (1, .ref a), (2, .int (nI k)), (3, .int (nI (d + 1)))] []
  refine g_aload_n 0 0 C dX1_lengthInCommon_0 rfl rfl ?_
  refine g_iload_n 2 2 C dX1_lengthInCommon_1 rfl rfl ?_
  refine g_iload_n 3 3 C dX1_lengthInCommon_2 rfl rfl ?_
  refine g_aload_n 1 1 C dX1_lengthInCommon_3 rfl rfl ?_
  refine gf_ls_size C dX1_lengthInCommon_4 k_a wF_X1_35 ?_
  refine g_topi (sz_a) ?_
  refine g_callV (As := [.int (nI k), .int (nI (d + 1)), .int (nI (l.length))]) (rest := []) C dX1_lengthInCommon_7 (c_B_past hC hl ha hk (Nat.le_refl _) (by omega)) wC_X1_pastAlike wM_X1_112 wI_X1_pastAlike wS_X1_pastAlike wN_X1 (kne hC.2.2.2.2.1.2) (pf_2 hC.2.2.2.2.1.2) rfl hd_X1_pastAlike ⟨by decide, by decide, by decide, by decide⟩ (Nat.le_of_ble_eq_true rfl) (fun r_ S_ h_ => ?_)
  obtain ⟨rfl, rfl⟩ := h_
  change Go X G _ 7 _ _ S 10 [(0, .ref ((c 7))), (1, .ref a), (2, .int (nI k)), (3, .int (nI (d + 1)))] [.int (nI ((pA l k (d + 1) l.length)))]
  refine g_istore (lv' := [(4, .int (nI ((pA l k (d + 1) l.length)))), (0, .ref ((c 7))), (1, .ref a), (2, .int (nI k)), (3, .int (nI (d + 1)))]) C dX1_lengthInCommon_10 (by decide) rfl ?_
  refine g_aload_n 2 1 C dX1_lengthInCommon_12 rfl rfl ?_
  refine gr_ls_names C dX1_lengthInCommon_13 k_a wF_X1_84 ra_a ?_
  refine g_iload_n 3 2 C dX1_lengthInCommon_16 rfl rfl ?_
  refine gar_nr_a C dX1_lengthInCommon_17 kn_a (by omega) (by omega) e1 ?_
  refine gr_nm_bytes C dX1_lengthInCommon_18 g1 wF_X1_116 g2 ?_
  refine gl_nb_a C dX1_lengthInCommon_21 g3 ?_
  refine g_topi (congrArg nI g4') ?_
  refine g_istore (lv' := [(5, .int (nI ((nm l k).length))), (4, .int (nI ((pA l k (d + 1) l.length)))), (0, .ref ((c 7))), (1, .ref a), (2, .int (nI k)), (3, .int (nI (d + 1)))]) C dX1_lengthInCommon_22 (by decide) rfl ?_
  refine g_iload_n 4 2 C dX1_lengthInCommon_24 rfl rfl ?_
  refine g_iconst (v := nI 1) C dX1_lengthInCommon_25 (by decide) ?_
  refine g_iadd C dX1_lengthInCommon_26 ?_
  refine g_topi (nI_add _ _ : _ = nI (k + 1)) ?_
  refine g_istore (lv' := [(6, .int (nI (k + 1))), (5, .int (nI ((nm l k).length))), (4, .int (nI ((pA l k (d + 1) l.length)))), (0, .ref ((c 7))), (1, .ref a), (2, .int (nI k)), (3, .int (nI (d + 1)))]) C dX1_lengthInCommon_27 (by decide) rfl ?_
  have lp : ∀ (n_ : Nat) (q mm : Nat), l.length - q < n_ → (k + 1 + q ≤ (pA l k (d + 1) l.length) ∧ d < mm ∧ mm ≤ (nm l k).length ∧ (∀ p, k < p → p < k + 1 + q → mm ≤ alN l p) ∧ (mm = (nm l k).length ∨ ∃ p, k < p ∧ p < k + 1 + q ∧ alN l p = mm)) → Go X G (Qe X G (fun r S' => r = some (.int (nI (gTo l k (pA l k (d + 1) l.length) d))) ∧ S = S') rm_X1_lengthInCommon.cells rm_X1_lengthInCommon.slots) 7 0 0 S 29 [(6, .int (nI (k + 1 + q))), (5, .int (nI mm)), (0, .ref ((c 7))), (4, .int (nI ((pA l k (d + 1) l.length))))] [] := by
    intro n_
    induction n_ with
    | zero => intro q mm hm_; exact absurd hm_ (Nat.not_lt_zero _)
    | succ n_ ih_ =>
      intro q mm hm_ hh
      obtain ⟨i1, i2, i3, i4, i5⟩ := hh
      refine g_iload 0 C dX1_lengthInCommon_29 rfl ?_
      refine g_iload 3 C dX1_lengthInCommon_31 rfl ?_
      refine g_ncmp_ge 56 (by omega) (by omega) C dX1_lengthInCommon_33 (by decide) (fun c33 => ?_) (fun c33 => ?_)
      · have e_ : gTo l k (pA l k (d + 1) l.length) d = mm := gTo_eq ok2 hkp i2 i3 (fun p h1 h2 => i4 p h1 (by omega)) (i5.imp id (fun ⟨p, h1, h2, h3⟩ => ⟨p, h1, by omega, h3⟩))
        refine g_iload 1 C dX1_lengthInCommon_56 rfl ?_
        exact g_iret C dX1_lengthInCommon_58 (by decide) (by decide) (⟨by rw [e_], rfl⟩)
      · have h24 := al_24 hl (k := k + 1 + q) (by omega)
        refine g_iload 1 C dX1_lengthInCommon_36 rfl ?_
        refine g_aload_n 2 0 C dX1_lengthInCommon_38 rfl rfl ?_
        refine gr_bi_alike C dX1_lengthInCommon_39 hC.2.2.2.2.1.2 wF_X1_9 hC.2.2.2.2.2.1.1 ?_
        refine g_iload 0 C dX1_lengthInCommon_42 rfl ?_
        refine ga_al_a C dX1_lengthInCommon_44 hC.2.2.2.2.2.1.2 (by omega) ?_
        refine g_topi (ha.at (by omega) (by omega)) ?_
        refine g_mmin (by omega) (by omega) C dX1_lengthInCommon_45 wM_X1_123 ⟨by decide, by decide, by decide, by decide⟩ (Nat.le_of_ble_eq_true rfl) ?_
        refine g_istore (lv' := [(5, .int (nI (min mm (alN l (k + 1 + q))))), (6, .int (nI (k + 1 + q))), (0, .ref ((c 7))), (4, .int (nI ((pA l k (d + 1) l.length))))]) C dX1_lengthInCommon_48 (by decide) rfl ?_
        refine g_iinc (v := nI (k + 1 + q + 1)) (lv' := [(6, .int (nI (k + 1 + q + 1))), (5, .int (nI (min mm (alN l (k + 1 + q))))), (0, .ref ((c 7))), (4, .int (nI ((pA l k (d + 1) l.length))))]) 1 C dX1_lengthInCommon_50 rfl (nI_add _ 1) (by decide) rfl ?_
        refine g_goto 29 C dX1_lengthInCommon_53 (by decide) ?_
        exact ih_ (q + 1) (min mm (alN l (k + 1 + q))) (by omega) ⟨by omega, by have := hpa _ (show k < k + 1 + q by omega) (by omega); omega, by omega, fun p h1 h2 => by
            by_cases z : p = k + 1 + q
            · rw [z]; omega
            · have := i4 p h1 (by omega); omega, by
            rcases Nat.lt_or_ge (alN l (k + 1 + q)) mm with z | z
            · exact Or.inr ⟨k + 1 + q, by omega, by omega, by omega⟩
            · rw [Nat.min_eq_left z]
              exact i5.imp id (fun ⟨p, h1, h2, h3⟩ => ⟨p, h1, by omega, h3⟩)⟩
  refine Go.pick (lv' := [(6, .int (nI (k + 1))), (5, .int (nI ((nm l k).length))), (0, .ref ((c 7))), (4, .int (nI ((pA l k (d + 1) l.length))))]) [0, 1, 3, 2] rfl ?_
  exact lp (l.length + 1) 0 (nm l k).length (by omega) ⟨by omega, hd, Nat.le_refl _, fun p h1 h2 => by omega, Or.inl rfl⟩
