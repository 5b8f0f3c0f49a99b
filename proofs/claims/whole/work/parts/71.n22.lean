abbrev grS (S : PS) (al g f d s : Nat → Int32) (n : Int32) : PS := biS (dg_a_ (al_a_ S al) g) f d s n
def dgF (g : Nat → Int32) (l : List Ent) (pr : Bool) (ns : List Nd) (v : Nat) : Prop := ∀ u, u < v → g u = nI (kids l pr (ns.getD u (0, 0, 0, 0))).length
theorem dgF.add {g : Nat → Int32} {l : List Ent} {pr : Bool} {ns : List Nd} {v : Nat} (h : dgF g l pr ns v) (hv : v < ns.length) (K : List Nd) : dgF (upd g v (nI (kids l pr (ns.getD v (0, 0, 0, 0))).length)) l pr (ns ++ K) (v + 1) := by
  intro u hu
  rw [getD_app, if_pos (by omega)]
  by_cases z : u = v
  · rw [z]; exact pk_us
  · exact (pk_un (by omega)).trans (h u (by omega))
theorem trS_next {l : List Ent} {pr : Bool} {v : Nat} {ns : List Nd} (h : ns = trS l pr v) (hv : v < ns.length) : ns ++ kids l pr (ns.getD v (0, 0, 0, 0)) = trS l pr (v + 1) := by
  subst h
  exact (if_pos hv).symm
set_option maxRecDepth 100000 in
set_option maxHeartbeats 400000 in
theorem c_B_grow {lX : Launch} {G : Gx} {S : PS} {x : Nat} {c : Nat → Nat} (hC : CoC S x c) {a nr va room : Nat} {l : List Ent} (hL : listC S a nr va room l) (hl : okL l) (h0 : 0 < l.length) {pr : Bool} : Ct lX yX1_growTree cX1_growTree 5 (Option.none : Option Jvm.ClassFile.FieldType) rm_X1_growTree G [.ref ((c 7)), .ref a, .int (bI (!pr))] S (fun r S' => ∃ al g f d s, r = none ∧ S' = grS S al g f d s (nI (tr l pr).length) ∧ alF al l ∧ ndF f d s (tr l pr) ∧ dgF g l pr (tr l pr) (tr l pr).length) := by
  have hL' := hL
  obtain ⟨⟨k_a, ra_a, rb_a⟩, ⟨kn_a, ln_a⟩, ⟨kv_a, lv_a⟩, sz_a, le_a, rm_a, en_a⟩ := hL
  have hl1 := hl.1
  refine Ct.mk RX1 "growTree" hy_X1_growTree (Nat.le_of_ble_eq_true rfl) (fun X hX C => ?_)
  change Go X G _ 5 0 0 S 0 [(0, .ref ((c 7))), (1, .ref a), (2, .int (bI (!pr)))] []
  refine g_iconst (v := nI 0) C dX1_growTree_0 (by decide) ?_
  refine g_istore_n (lv' := [(3, .int (nI 0)), (0, .ref ((c 7))), (1, .ref a), (2, .int (bI (!pr)))]) C dX1_growTree_1 rfl (by decide) rfl ?_
  have lp : ∀ (n_ : Nat) (k : Nat) (al : Nat → Int32), l.length - k < n_ → (k ≤ l.length ∧ ∀ j, j < k → al j = nI (alC l j)) → Go X G (Qe X G (fun r S' => ∃ al g f d s, r = none ∧ S' = grS S al g f d s (nI (tr l pr).length) ∧ alF al l ∧ ndF f d s (tr l pr) ∧ dgF g l pr (tr l pr) (tr l pr).length) rm_X1_growTree.cells rm_X1_growTree.slots) 5 0 0 (al_a_ S al) 2 [(3, .int (nI k)), (0, .ref ((c 7))), (1, .ref a), (2, .int (bI (!pr)))] [] := by
    intro n_
    induction n_ with
    | zero => intro k al hm_; exact absurd hm_ (Nat.not_lt_zero _)
    | succ n_ ih_ =>
      intro k al hm_ hh
      obtain ⟨i1, i2⟩ := hh
      refine g_iload_n 0 3 C dX1_growTree_2 rfl rfl ?_
      refine g_aload_n 2 1 C dX1_growTree_3 rfl rfl ?_
      refine gf_ls_size C dX1_growTree_4 k_a wF_X1_35 ?_
      refine g_topi (sz_a) ?_
      refine g_ncmp_ge 47 (by omega) (by omega) C dX1_growTree_7 (by decide) (fun c7 => ?_) (fun c7 => ?_)
      · have hal : alF al l := fun j hj => i2 j (by omega)
        refine g_aload_n 1 0 C dX1_growTree_47 rfl rfl ?_
        refine g_iconst (v := nI 0) C dX1_growTree_48 (by decide) ?_
        refine pp_bi_nodes C dX1_growTree_49 hC.2.2.2.2.1.2 wF_X1_27 (Or.inl rfl) ?_
        refine g_aload_n 1 0 C dX1_growTree_52 rfl rfl ?_
        refine g_iconst (v := nI 0) C dX1_growTree_53 (by decide) ?_
        refine g_iconst (v := nI 0) C dX1_growTree_54 (by decide) ?_
        refine g_iconst (v := nI 0) C dX1_growTree_55 (by decide) ?_
        refine g_st (S' := grS S al (dg_a S) (fi_a S) (de_a S) (st_a S) (nI ([] : List Nd).length)) rfl ?_
        refine g_callV (As := [.int (nI 0), .int (nI 0), .int (nI 0)]) (rest := []) C dX1_growTree_56 (c_B_addNode (S := dg_a_ (al_a_ S al) (dg_a S)) (f := fi_a S) (d := de_a S) (s := st_a S) (ns := []) (e := l.length) hC (by decide)) wC_X1_addNode wM_X1_104 wI_X1_addNode wS_X1_addNode wN_X1 (kne hC.2.2.2.2.1.2) (pf_2 hC.2.2.2.2.1.2) rfl hd_X1_addNode ⟨by decide, by decide, by decide, by decide⟩ (Nat.le_of_ble_eq_true rfl) (fun r_ S_ h_ => ?_)
        obtain ⟨rfl, rfl⟩ := h_
        change Go X G _ 5 _ _ (grS S al (dg_a S) (upd (fi_a S) 0 (nI 0)) (upd (de_a S) 0 (nI 0)) (upd (st_a S) 0 (nI 0)) (nI [((0 : Nat), l.length, (0 : Nat), (0 : Nat))].length)) 59 [(3, .int (nI k)), (0, .ref ((c 7))), (1, .ref a), (2, .int (bI (!pr)))] []
        refine g_iconst (v := nI 0) C dX1_growTree_59 (by decide) ?_
        refine g_istore_n (lv' := [(3, .int (nI 0)), (0, .ref ((c 7))), (1, .ref a), (2, .int (bI (!pr)))]) C dX1_growTree_60 rfl (by decide) rfl ?_
        have lp2 : ∀ (n_ : Nat) (v : Nat) (NS : List Nd) (f d s g : Nat → Int32), 2402 - v < n_ → (NS = trS l pr v ∧ v ≤ NS.length ∧ ndF f d s NS ∧ dgF g l pr NS v) → Go X G (Qe X G (fun r S' => ∃ al g f d s, r = none ∧ S' = grS S al g f d s (nI (tr l pr).length) ∧ alF al l ∧ ndF f d s (tr l pr) ∧ dgF g l pr (tr l pr) (tr l pr).length) rm_X1_growTree.cells rm_X1_growTree.slots) 5 0 0 (grS S al g f d s (nI NS.length)) 61 [(3, .int (nI v)), (0, .ref ((c 7))), (1, .ref a), (2, .int (bI (!pr)))] [] := by
          intro n_
          induction n_ with
          | zero => intro v NS f d s g hm_; exact absurd hm_ (Nat.not_lt_zero _)
          | succ n_ ih_ =>
            intro v NS f d s g hm_ hh2
            obtain ⟨hNS, hvN, hnd, hdg⟩ := hh2
            have hN2 : NS.length ≤ 2401 := by rw [hNS]; exact trS_len hl h0 pr v
            refine g_iload_n 0 3 C dX1_growTree_61 rfl rfl ?_
            refine g_aload_n 1 0 C dX1_growTree_62 rfl rfl ?_
            refine gf_bi_nodes C dX1_growTree_63 hC.2.2.2.2.1.2 wF_X1_27 ?_
            refine g_topi (rfl) ?_
            refine g_ncmp_ge 108 (by omega) (by omega) C dX1_growTree_66 (by decide) (fun c66 => ?_) (fun c66 => ?_)
            · have eT : tr l pr = NS := by rw [hNS]; exact tr_eq hl h0 (by rw [← hNS]; omega)
              exact g_vret C dX1_growTree_108 (by decide) (by decide) ⟨al, g, f, d, s, rfl, by rw [eT], hal, by rw [eT]; exact hnd, by rw [eT]; intro u hu; exact hdg u (by omega)⟩
            · have hnx := trS_next hNS c66
              have hal2 := List.length_append (as := NS) (bs := kids l pr (NS.getD v (0, 0, 0, 0)))
              have hmem : NS.getD v (0, 0, 0, 0) ∈ trS l pr v := by
                rw [← hNS, List.getD_eq_getElem?_getD, List.getElem?_eq_getElem c66]; exact List.getElem_mem c66
              have hok := (trS_ok hl.2.2 h0 pr v).2.1 _ hmem
              have hed := trS_edg hl.2.2 h0 pr v _ hmem
              refine g_iload_n 0 3 C dX1_growTree_69 rfl rfl ?_
              refine g_sipush (v := nI 2401) C dX1_growTree_70 (by decide) ?_
              refine g_ncmp_ge 108 (by omega) (by omega) C dX1_growTree_73 (by decide) (fun c73 => ?_) (fun c73 => ?_)
              · omega
              · refine g_aload_n 1 0 C dX1_growTree_76 rfl rfl ?_
                refine gf_bi_nodes C dX1_growTree_77 hC.2.2.2.2.1.2 wF_X1_27 ?_
                refine g_topi (rfl) ?_
                refine g_istore (lv' := [(4, .int (nI (NS.length))), (3, .int (nI v)), (0, .ref ((c 7))), (1, .ref a), (2, .int (bI (!pr)))]) C dX1_growTree_80 (by decide) rfl ?_
                refine g_aload_n 2 0 C dX1_growTree_82 rfl rfl ?_
                refine g_aload_n 3 1 C dX1_growTree_83 rfl rfl ?_
                refine g_iload_n 1 3 C dX1_growTree_84 rfl rfl ?_
                refine g_iload_n 4 2 C dX1_growTree_85 rfl rfl ?_
                refine g_callV (As := [.ref a, .int (nI v), .int (bI (!pr))]) (rest := []) C dX1_growTree_86 (c_B_below (S := dg_a_ (al_a_ S al) g) (pr := pr) hC hL' hl hal c66 rfl hnd hok hed (by rw [← List.length_append, hnx]; exact trS_len hl h0 pr (v + 1))) wC_X1_addBelow wM_X1_108 wI_X1_addBelow wS_X1_addBelow wN_X1 (kne hC.2.2.2.2.1.2) (pf_2 hC.2.2.2.2.1.2) rfl hd_X1_addBelow ⟨by decide, by decide, by decide, by decide⟩ (Nat.le_of_ble_eq_true rfl) (fun r_ S_ h_ => ?_)
                obtain ⟨f3, d3, s3, rfl, rfl, hn3⟩ := h_
                change Go X G _ 5 _ _ (grS S al g f3 d3 s3 (nI (NS ++ (kids l pr (NS.getD v (0, 0, 0, 0)))).length)) 89 [(4, .int (nI (NS.length))), (3, .int (nI v)), (0, .ref ((c 7))), (1, .ref a), (2, .int (bI (!pr)))] []
                refine g_aload_n 2 0 C dX1_growTree_89 rfl rfl ?_
                refine gr_bi_degree C dX1_growTree_90 hC.2.2.2.2.1.2 wF_X1_24 hC.2.2.2.2.2.2.2.2.2.1.1 ?_
                refine g_iload_n 1 3 C dX1_growTree_93 rfl rfl ?_
                refine g_aload_n 2 0 C dX1_growTree_94 rfl rfl ?_
                refine gf_bi_nodes C dX1_growTree_95 hC.2.2.2.2.1.2 wF_X1_27 ?_
                refine g_topi (rfl) ?_
                refine g_iload 0 C dX1_growTree_98 rfl ?_
                refine g_isub C dX1_growTree_100 ?_
                refine g_topi (pk_sub (by omega) : _ = nI ((NS ++ (kids l pr (NS.getD v (0, 0, 0, 0)))).length - NS.length)) ?_
                rw [show (NS ++ (kids l pr (NS.getD v (0, 0, 0, 0)))).length - NS.length = (kids l pr (NS.getD v (0, 0, 0, 0))).length by rw [List.length_append]; omega]
                refine gs_dg_a C dX1_growTree_101 hC.2.2.2.2.2.2.2.2.2.1.2 (by omega) ?_
                refine g_iinc (v := nI (v + 1)) (lv' := [(3, .int (nI (v + 1))), (4, .int (nI (NS.length))), (0, .ref ((c 7))), (1, .ref a), (2, .int (bI (!pr)))]) 1 C dX1_growTree_102 rfl (nI_add _ 1) (by decide) rfl ?_
                refine g_goto 61 C dX1_growTree_105 (by decide) ?_
                refine Go.pick (lv' := [(3, .int (nI (v + 1))), (0, .ref ((c 7))), (1, .ref a), (2, .int (bI (!pr)))]) [0, 2, 3, 4] rfl ?_
                exact ih_ (v + 1) (NS ++ (kids l pr (NS.getD v (0, 0, 0, 0)))) f3 d3 s3 (upd g v (nI (kids l pr (NS.getD v (0, 0, 0, 0))).length)) (by omega) ⟨hnx, by rw [List.length_append]; omega, hn3, hdg.add c66 _⟩
        exact lp2 2403 0 [(0, l.length, 0, 0)] _ _ _ _ (by omega) ⟨rfl, Nat.zero_le _, ndF.add (ns := []) (fun v hv => absurd hv (Nat.not_lt_zero _)) 0 l.length 0 0, fun u hu => absurd hu (Nat.not_lt_zero _)⟩
      · refine g_aload_n 1 0 C dX1_growTree_10 rfl rfl ?_
        refine gr_bi_alike C dX1_growTree_11 hC.2.2.2.2.1.2 wF_X1_9 hC.2.2.2.2.2.1.1 ?_
        refine g_iload_n 0 3 C dX1_growTree_14 rfl rfl ?_
        refine g_iload_n 0 3 C dX1_growTree_15 rfl rfl ?_
        refine g_nif_ne 23 (by omega) C dX1_growTree_16 (by decide) (fun c16 => ?_) (fun c16 => ?_)
        · obtain ⟨m1, e1, e2, e3, e4⟩ := en_a k (by omega)
          obtain ⟨m2, f1, f2, f3, f4⟩ := en_a (k - 1) (by omega)
          refine g_aload_n 2 1 C dX1_growTree_23 rfl rfl ?_
          refine gr_ls_names C dX1_growTree_24 k_a wF_X1_84 ra_a ?_
          refine g_iload_n 0 3 C dX1_growTree_27 rfl rfl ?_
          refine gar_nr_a C dX1_growTree_28 kn_a (by have h_ : ln (al_a_ S al) nr = room := ln_a; omega) (by have h_ : ln (al_a_ S al) nr = room := ln_a; omega) e1 ?_
          refine g_aload_n 2 1 C dX1_growTree_29 rfl rfl ?_
          refine gr_ls_names C dX1_growTree_30 k_a wF_X1_84 ra_a ?_
          refine g_iload_n 0 3 C dX1_growTree_33 rfl rfl ?_
          refine g_iconst (v := nI 1) C dX1_growTree_34 (by decide) ?_
          refine g_isub C dX1_growTree_35 ?_
          refine g_topi (pk_sub (by omega) : _ = nI (k - 1)) ?_
          refine gar_nr_a C dX1_growTree_36 kn_a (by have h_ : ln (al_a_ S al) nr = room := ln_a; omega) (by have h_ : ln (al_a_ S al) nr = room := ln_a; omega) f1 ?_
          refine g_callV (As := [.ref m2]) (rest := [.int (nI k), .ref ((c 8))]) C dX1_growTree_37 (c_N_alike e2 f2 e3 f3) wC_X5_alike wM_X1_101 wI_X5_alike wS_X5_alike wN_X5 (kne e2.1) (pf_6 e2.1) rfl hd_X5_alike ⟨by decide, by decide, by decide, by decide⟩ (Nat.le_of_ble_eq_true rfl) (fun r_ S_ h_ => ?_)
          obtain ⟨rfl, rfl⟩ := h_
          change Go X G _ 5 _ _ (al_a_ S al) 40 [(3, .int (nI k)), (0, .ref ((c 7))), (1, .ref a), (2, .int (bI (!pr)))] [.int (nI (lcp (nm l k) (nm l (k - 1)))), .int (nI k), .ref ((c 8))]
          have hal : nI (lcp (nm l k) (nm l (k - 1))) = nI (alC l k) := by unfold alC alN; rw [if_neg (by omega), lcp_comm]
          refine g_topi hal ?_
          refine gs_al_a C dX1_growTree_40 hC.2.2.2.2.2.1.2 (by omega) ?_
          refine g_iinc (v := nI (k + 1)) (lv' := [(3, .int (nI (k + 1))), (0, .ref ((c 7))), (1, .ref a), (2, .int (bI (!pr)))]) 0 C dX1_growTree_41 rfl (nI_add _ 1) (by decide) rfl ?_
          refine g_goto 2 C dX1_growTree_44 (by decide) ?_
          exact ih_ (k + 1) (upd al k (nI (alC l k))) (by omega) ⟨by omega, fun j hj => by
            by_cases z : j = k
            · rw [z]; exact pk_us
            · exact (pk_un (by omega)).trans (i2 j (by omega))⟩
        · refine g_iconst (v := nI 0) C dX1_growTree_19 (by decide) ?_
          refine g_goto 40 C dX1_growTree_20 (by decide) ?_
          have hal : nI 0 = nI (alC l k) := by rw [show k = 0 by omega]; rfl
          refine g_topi hal ?_
          refine gs_al_a C dX1_growTree_40 hC.2.2.2.2.2.1.2 (by omega) ?_
          refine g_iinc (v := nI (k + 1)) (lv' := [(3, .int (nI (k + 1))), (0, .ref ((c 7))), (1, .ref a), (2, .int (bI (!pr)))]) 0 C dX1_growTree_41 rfl (nI_add _ 1) (by decide) rfl ?_
          refine g_goto 2 C dX1_growTree_44 (by decide) ?_
          exact ih_ (k + 1) (upd al k (nI (alC l k))) (by omega) ⟨by omega, fun j hj => by
            by_cases z : j = k
            · rw [z]; exact pk_us
            · exact (pk_un (by omega)).trans (i2 j (by omega))⟩
  exact lp (l.length + 1) 0 (al_a S) (by omega) ⟨Nat.zero_le _, fun j hj => absurd hj (Nat.not_lt_zero _)⟩
