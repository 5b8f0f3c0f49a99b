set_option maxRecDepth 100000 in
set_option maxHeartbeats 400000 in
theorem c_B_below {lX : Launch} {G : Gx} {S : PS} {x : Nat} {c : Nat → Nat} (hC : CoC S x c) {a nr va room : Nat} {l : List Ent} (hL : listC S a nr va room l) (hl : okL l) (ha : alF (al_a S) l) {pr : Bool} {f d s : Nat → Int32} {ns : List Nd} {v : Nat} {nv : Nd} (hv : v < ns.length) (hnv : ns.getD v (0, 0, 0, 0) = nv) (hnd : ndF f d s ns) (hok : okNd l nv) (hed : edg l nv) (hN : ns.length + (kids l pr nv).length ≤ 2401) : Ct lX yX1_addBelow cX1_addBelow 9 (Option.none : Option Jvm.ClassFile.FieldType) rm_X1_addBelow G [.ref ((c 7)), .ref a, .int (nI v), .int (bI (!pr))] (biS S f d s (nI ns.length)) (fun r S' => ∃ f' d' s', r = none ∧ S' = biS S f' d' s' (nI (ns ++ kids l pr nv).length) ∧ ndF f' d' s' (ns ++ kids l pr nv)) := by
  have hL' := hL
  obtain ⟨⟨k_a, ra_a, rb_a⟩, ⟨kn_a, ln_a⟩, ⟨kv_a, lv_a⟩, sz_a, le_a, rm_a, en_a⟩ := hL
  have hl1 := hl.1
  have hnd0 := hnd v hv
  rw [hnv] at hnd0
  have h2 := hok.2.1
  have h1 : nv.1 < l.length := by have := hok.1; omega
  have h0_ := hok.1
  have h3 := hok.2.2.1
  have h4 : (nm l nv.1).length ≤ 24 := (hl.2.1 nv.1 h1).2.1
  refine Ct.mk RX1 "addBelow" hy_X1_addBelow (Nat.le_of_ble_eq_true rfl) (fun X hX C => ?_)
  change Go X G _ 9 0 0 (biS S f d s (nI ns.length)) 0 [(0, .ref ((c 7))), (1, .ref a), (2, .int (nI v)), (3, .int (bI (!pr)))] []
  refine g_aload_n 0 0 C dX1_addBelow_0 rfl rfl ?_
  refine gr_bi_depth C dX1_addBelow_1 hC.2.2.2.2.1.2 wF_X1_18 hC.2.2.2.2.2.2.2.1.1 ?_
  refine g_iload_n 2 2 C dX1_addBelow_4 rfl rfl ?_
  refine ga_de_a C dX1_addBelow_5 hC.2.2.2.2.2.2.2.1.2 (by omega) ?_
  refine g_topi (hnd0.2.1) ?_
  refine g_istore (lv' := [(4, .int (nI (nv.2.2.1))), (0, .ref ((c 7))), (1, .ref a), (2, .int (nI v)), (3, .int (bI (!pr)))]) C dX1_addBelow_6 (by decide) rfl ?_
  refine g_aload_n 1 0 C dX1_addBelow_8 rfl rfl ?_
  refine g_aload_n 1 0 C dX1_addBelow_9 rfl rfl ?_
  refine gr_bi_first C dX1_addBelow_10 hC.2.2.2.2.1.2 wF_X1_15 hC.2.2.2.2.2.2.1.1 ?_
  refine g_iload_n 3 2 C dX1_addBelow_13 rfl rfl ?_
  refine ga_fi_a C dX1_addBelow_14 hC.2.2.2.2.2.2.1.2 (by omega) ?_
  refine g_topi (hnd0.1) ?_
  refine g_iload 0 C dX1_addBelow_15 rfl ?_
  refine g_aload_n 2 1 C dX1_addBelow_17 rfl rfl ?_
  refine gf_ls_size C dX1_addBelow_18 k_a wF_X1_35 ?_
  refine g_topi (sz_a) ?_
  refine g_callV (As := [.int (nI (nv.1)), .int (nI (nv.2.2.1)), .int (nI (l.length))]) (rest := []) C dX1_addBelow_21 (c_B_past (S := biS S f d s (nI ns.length)) hC hl ha h1 (Nat.le_refl _) (by omega)) wC_X1_pastAlike wM_X1_112 wI_X1_pastAlike wS_X1_pastAlike wN_X1 (kne hC.2.2.2.2.1.2) (pf_2 hC.2.2.2.2.1.2) rfl hd_X1_pastAlike ⟨by decide, by decide, by decide, by decide⟩ (Nat.le_of_ble_eq_true rfl) (fun r_ S_ h_ => ?_)
  obtain ⟨rfl, rfl⟩ := h_
  change Go X G _ 9 _ _ (biS S f d s (nI ns.length)) 24 [(4, .int (nI (nv.2.2.1))), (0, .ref ((c 7))), (1, .ref a), (2, .int (nI v)), (3, .int (bI (!pr)))] [.int (nI (pA l nv.1 nv.2.2.1 l.length))]
  rw [pA_node hok hed]
  refine g_istore (lv' := [(5, .int (nI (nv.2.1))), (4, .int (nI (nv.2.2.1))), (0, .ref ((c 7))), (1, .ref a), (2, .int (nI v)), (3, .int (bI (!pr)))]) C dX1_addBelow_24 (by decide) rfl ?_
  refine g_aload_n 2 0 C dX1_addBelow_26 rfl rfl ?_
  refine gr_bi_first C dX1_addBelow_27 hC.2.2.2.2.1.2 wF_X1_15 hC.2.2.2.2.2.2.1.1 ?_
  refine g_iload_n 4 2 C dX1_addBelow_30 rfl rfl ?_
  refine ga_fi_a C dX1_addBelow_31 hC.2.2.2.2.2.2.1.2 (by omega) ?_
  refine g_topi (hnd0.1) ?_
  refine g_istore (lv' := [(6, .int (nI (nv.1))), (5, .int (nI (nv.2.1))), (4, .int (nI (nv.2.2.1))), (0, .ref ((c 7))), (1, .ref a), (2, .int (nI v)), (3, .int (bI (!pr)))]) C dX1_addBelow_32 (by decide) rfl ?_
  have lp : ∀ (n_ : Nat) (k : Nat) (W NS : List Nd) (f2 d2 s2 : Nat → Int32), nv.2.1 - k < n_ → (nv.1 ≤ k ∧ k ≤ nv.2.1 ∧ scI l pr nv W k ∧ NS = ns ++ W ∧ ndF f2 d2 s2 NS) → Go X G (Qe X G (fun r S' => ∃ f' d' s', r = none ∧ S' = biS S f' d' s' (nI (ns ++ kids l pr nv).length) ∧ ndF f' d' s' (ns ++ kids l pr nv)) rm_X1_addBelow.cells rm_X1_addBelow.slots) 9 0 0 (biS S f2 d2 s2 (nI NS.length)) 34 [(6, .int (nI k)), (4, .int (nI (nv.2.2.1))), (5, .int (nI (nv.2.1))), (0, .ref ((c 7))), (1, .ref a), (3, .int (bI (!pr)))] [] := by
    intro n_
    induction n_ with
    | zero => intro k W NS f2 d2 s2 hm_; exact absurd hm_ (Nat.not_lt_zero _)
    | succ n_ ih_ =>
      intro k W NS f2 d2 s2 hm_ hh
      obtain ⟨i0, i1, hsc, hNS, hn2⟩ := hh
      refine g_iload 0 C dX1_addBelow_34 rfl ?_
      refine g_iload 2 C dX1_addBelow_36 rfl ?_
      refine g_ncmp_ge 129 (by omega) (by omega) C dX1_addBelow_38 (by decide) (fun c38 => ?_) (fun c38 => ?_)
      · have eW := scI_end hsc (by omega)
        exact g_vret C dX1_addBelow_129 (by decide) (by decide) ⟨f2, d2, s2, rfl, by rw [← eW, ← hNS], by rw [← eW, ← hNS]; exact hn2⟩
      · obtain ⟨m_, e1, e2, e3, e4⟩ := en_a k (by omega)
        obtain ⟨g1, b_, g2, g3, g4, g5⟩ := id e2
        have g4' : ln S b_ = (nm l k).length := g4
        have g6 : (nm l k).length ≤ 24 := (hl.2.1 k (by omega)).2.1
        have hac : alC l k ≤ 24 := by
          unfold alC
          by_cases z : k = 0
          · rw [if_pos z]; omega
          · rw [if_neg z]; exact al_24 hl (by omega)
        refine g_aload_n 4 1 C dX1_addBelow_41 rfl rfl ?_
        refine gr_ls_names C dX1_addBelow_42 k_a wF_X1_84 ra_a ?_
        refine g_iload 0 C dX1_addBelow_45 rfl ?_
        refine gar_nr_a C dX1_addBelow_47 kn_a (by have h_ : ln (biS S f2 d2 s2 (nI NS.length)) nr = room := ln_a; omega) (by have h_ : ln (biS S f2 d2 s2 (nI NS.length)) nr = room := ln_a; omega) e1 ?_
        refine gr_nm_bytes C dX1_addBelow_48 g1 wF_X1_116 g2 ?_
        refine gl_nb_a C dX1_addBelow_51 g3 ?_
        refine g_topi (congrArg nI g4') ?_
        refine g_iload 1 C dX1_addBelow_52 rfl ?_
        refine g_ncmp_le 61 (by omega) (by omega) C dX1_addBelow_54 (by decide) (fun c54 => ?_) (fun c54 => ?_)
        · have ht : takes l nv.2.2.1 k = false := by unfold takes; first | (rw [decide_eq_false (show ¬ nv.2.2.1 < (nm l k).length by omega), Bool.false_and]) | (rw [decide_eq_false (show ¬ alC l k ≤ nv.2.2.1 by omega), Bool.and_false])
          refine g_iconst (v := nI 0) C dX1_addBelow_61 (by decide) ?_
          refine g_istore (lv' := [(7, .int (nI 0)), (6, .int (nI k)), (4, .int (nI (nv.2.2.1))), (5, .int (nI (nv.2.1))), (0, .ref ((c 7))), (1, .ref a), (3, .int (bI (!pr)))]) C dX1_addBelow_62 (by decide) rfl ?_
          refine g_aload_n 4 0 C dX1_addBelow_64 rfl rfl ?_
          refine gr_bi_alike C dX1_addBelow_65 hC.2.2.2.2.1.2 wF_X1_9 hC.2.2.2.2.2.1.1 ?_
          refine g_iload 1 C dX1_addBelow_68 rfl ?_
          refine ga_al_a C dX1_addBelow_70 hC.2.2.2.2.2.1.2 (by omega) ?_
          refine g_topi (ha k (by omega)) ?_
          refine g_iload 2 C dX1_addBelow_71 rfl ?_
          refine g_ncmp_gt 80 (by omega) (by omega) C dX1_addBelow_73 (by decide) (fun c73 => ?_) (fun c73 => ?_)
          · refine g_iconst (v := nI 0) C dX1_addBelow_80 (by decide) ?_
            refine g_istore (lv' := [(8, .int (nI 0)), (7, .int (nI 0)), (6, .int (nI k)), (4, .int (nI (nv.2.2.1))), (5, .int (nI (nv.2.1))), (0, .ref ((c 7))), (1, .ref a), (3, .int (bI (!pr)))]) C dX1_addBelow_81 (by decide) rfl ?_
            refine g_iload 1 C dX1_addBelow_83 rfl ?_
            refine g_nif_eq 123 (by decide) C dX1_addBelow_85 (by decide) (fun _ => ?_) (fun c => absurd c (by decide))
            refine g_iinc (v := nI (k + 1)) (lv' := [(6, .int (nI (k + 1))), (8, .int (nI 0)), (7, .int (nI 0)), (4, .int (nI (nv.2.2.1))), (5, .int (nI (nv.2.1))), (0, .ref ((c 7))), (1, .ref a), (3, .int (bI (!pr)))]) 2 C dX1_addBelow_123 rfl (nI_add _ 1) (by decide) rfl ?_
            refine g_goto 34 C dX1_addBelow_126 (by decide) ?_
            refine Go.pick (lv' := [(6, .int (nI (k + 1))), (4, .int (nI (nv.2.2.1))), (5, .int (nI (nv.2.1))), (0, .ref ((c 7))), (1, .ref a), (3, .int (bI (!pr)))]) [0, 3, 4, 5, 6, 7] rfl ?_
            exact ih_ (k + 1) W NS f2 d2 s2 (by omega) ⟨by omega, by omega, scI_no hsc c38 ht, hNS, hn2⟩
          · refine g_iconst (v := nI 1) C dX1_addBelow_76 (by decide) ?_
            refine g_goto 81 C dX1_addBelow_77 (by decide) ?_
            refine g_istore (lv' := [(8, .int (nI 1)), (7, .int (nI 0)), (6, .int (nI k)), (4, .int (nI (nv.2.2.1))), (5, .int (nI (nv.2.1))), (0, .ref ((c 7))), (1, .ref a), (3, .int (bI (!pr)))]) C dX1_addBelow_81 (by decide) rfl ?_
            refine g_iload 1 C dX1_addBelow_83 rfl ?_
            refine g_nif_eq 123 (by decide) C dX1_addBelow_85 (by decide) (fun _ => ?_) (fun c => absurd c (by decide))
            refine g_iinc (v := nI (k + 1)) (lv' := [(6, .int (nI (k + 1))), (8, .int (nI 1)), (7, .int (nI 0)), (4, .int (nI (nv.2.2.1))), (5, .int (nI (nv.2.1))), (0, .ref ((c 7))), (1, .ref a), (3, .int (bI (!pr)))]) 2 C dX1_addBelow_123 rfl (nI_add _ 1) (by decide) rfl ?_
            refine g_goto 34 C dX1_addBelow_126 (by decide) ?_
            refine Go.pick (lv' := [(6, .int (nI (k + 1))), (4, .int (nI (nv.2.2.1))), (5, .int (nI (nv.2.1))), (0, .ref ((c 7))), (1, .ref a), (3, .int (bI (!pr)))]) [0, 3, 4, 5, 6, 7] rfl ?_
            exact ih_ (k + 1) W NS f2 d2 s2 (by omega) ⟨by omega, by omega, scI_no hsc c38 ht, hNS, hn2⟩
        · refine g_iconst (v := nI 1) C dX1_addBelow_57 (by decide) ?_
          refine g_goto 62 C dX1_addBelow_58 (by decide) ?_
          refine g_istore (lv' := [(7, .int (nI 1)), (6, .int (nI k)), (4, .int (nI (nv.2.2.1))), (5, .int (nI (nv.2.1))), (0, .ref ((c 7))), (1, .ref a), (3, .int (bI (!pr)))]) C dX1_addBelow_62 (by decide) rfl ?_
          refine g_aload_n 4 0 C dX1_addBelow_64 rfl rfl ?_
          refine gr_bi_alike C dX1_addBelow_65 hC.2.2.2.2.1.2 wF_X1_9 hC.2.2.2.2.2.1.1 ?_
          refine g_iload 1 C dX1_addBelow_68 rfl ?_
          refine ga_al_a C dX1_addBelow_70 hC.2.2.2.2.2.1.2 (by omega) ?_
          refine g_topi (ha k (by omega)) ?_
          refine g_iload 2 C dX1_addBelow_71 rfl ?_
          refine g_ncmp_gt 80 (by omega) (by omega) C dX1_addBelow_73 (by decide) (fun c73 => ?_) (fun c73 => ?_)
          · have ht : takes l nv.2.2.1 k = false := by unfold takes; first | (rw [decide_eq_false (show ¬ nv.2.2.1 < (nm l k).length by omega), Bool.false_and]) | (rw [decide_eq_false (show ¬ alC l k ≤ nv.2.2.1 by omega), Bool.and_false])
            refine g_iconst (v := nI 0) C dX1_addBelow_80 (by decide) ?_
            refine g_istore (lv' := [(8, .int (nI 0)), (7, .int (nI 1)), (6, .int (nI k)), (4, .int (nI (nv.2.2.1))), (5, .int (nI (nv.2.1))), (0, .ref ((c 7))), (1, .ref a), (3, .int (bI (!pr)))]) C dX1_addBelow_81 (by decide) rfl ?_
            refine g_iload 1 C dX1_addBelow_83 rfl ?_
            refine g_nif_eq 123 (by decide) C dX1_addBelow_85 (by decide) (fun c => absurd c (by decide)) (fun _ => ?_)
            refine g_iload 0 C dX1_addBelow_88 rfl ?_
            refine g_nif_eq 123 (by decide) C dX1_addBelow_90 (by decide) (fun _ => ?_) (fun c => absurd c (by decide))
            refine g_iinc (v := nI (k + 1)) (lv' := [(6, .int (nI (k + 1))), (8, .int (nI 0)), (7, .int (nI 1)), (4, .int (nI (nv.2.2.1))), (5, .int (nI (nv.2.1))), (0, .ref ((c 7))), (1, .ref a), (3, .int (bI (!pr)))]) 2 C dX1_addBelow_123 rfl (nI_add _ 1) (by decide) rfl ?_
            refine g_goto 34 C dX1_addBelow_126 (by decide) ?_
            refine Go.pick (lv' := [(6, .int (nI (k + 1))), (4, .int (nI (nv.2.2.1))), (5, .int (nI (nv.2.1))), (0, .ref ((c 7))), (1, .ref a), (3, .int (bI (!pr)))]) [0, 3, 4, 5, 6, 7] rfl ?_
            exact ih_ (k + 1) W NS f2 d2 s2 (by omega) ⟨by omega, by omega, scI_no hsc c38 ht, hNS, hn2⟩
          · have ht : takes l nv.2.2.1 k = true := by unfold takes; rw [decide_eq_true (show nv.2.2.1 < (nm l k).length by omega), decide_eq_true (show alC l k ≤ nv.2.2.1 by omega)]; rfl
            obtain ⟨hy, hyl⟩ := scI_yes hl.2.2 hsc c38 ht
            have hNl : NS.length = ns.length + W.length := by rw [hNS, List.length_append]
            refine g_iconst (v := nI 1) C dX1_addBelow_76 (by decide) ?_
            refine g_goto 81 C dX1_addBelow_77 (by decide) ?_
            refine g_istore (lv' := [(8, .int (nI 1)), (7, .int (nI 1)), (6, .int (nI k)), (4, .int (nI (nv.2.2.1))), (5, .int (nI (nv.2.1))), (0, .ref ((c 7))), (1, .ref a), (3, .int (bI (!pr)))]) C dX1_addBelow_81 (by decide) rfl ?_
            refine g_iload 1 C dX1_addBelow_83 rfl ?_
            refine g_nif_eq 123 (by decide) C dX1_addBelow_85 (by decide) (fun c => absurd c (by decide)) (fun _ => ?_)
            refine g_iload 0 C dX1_addBelow_88 rfl ?_
            refine g_nif_eq 123 (by decide) C dX1_addBelow_90 (by decide) (fun c => absurd c (by decide)) (fun _ => ?_)
            refine g_aload_n 5 0 C dX1_addBelow_93 rfl rfl ?_
            refine g_iload 2 C dX1_addBelow_94 rfl ?_
            refine g_iload_n 7 3 C dX1_addBelow_96 rfl rfl ?_
            refine g_if_eq 107 C dX1_addBelow_97 (by decide) (fun c97 => ?_) (fun c97 => ?_)
            · have hpr : pr = true := by have := bI_f c97; cases pr <;> simp_all
              rw [if_pos hpr] at hy
              refine g_aload_n 5 0 C dX1_addBelow_107 rfl rfl ?_
              refine g_aload_n 6 1 C dX1_addBelow_108 rfl rfl ?_
              refine g_iload 2 C dX1_addBelow_109 rfl ?_
              refine g_iload 3 C dX1_addBelow_111 rfl ?_
              refine g_iconst (v := nI 1) C dX1_addBelow_113 (by decide) ?_
              refine g_iadd C dX1_addBelow_114 ?_
              refine g_topi (nI_add _ _ : _ = nI (nv.2.2.1 + 1)) ?_
              refine g_callV (As := [.ref a, .int (nI k), .int (nI (nv.2.2.1 + 1))]) (rest := [.int (nI k), .ref ((c 7))]) C dX1_addBelow_115 (c_B_common (S := (biS S f2 d2 s2 (nI NS.length))) hC hL' hl ha (show k < l.length by omega) (show nv.2.2.1 < (nm l k).length by omega)) wC_X1_lengthInCommon wM_X1_119 wI_X1_lengthInCommon wS_X1_lengthInCommon wN_X1 (kne hC.2.2.2.2.1.2) (pf_2 hC.2.2.2.2.1.2) rfl hd_X1_lengthInCommon ⟨by decide, by decide, by decide, by decide⟩ (Nat.le_of_ble_eq_true rfl) (fun r_ S_ h_ => ?_)
              obtain ⟨rfl, rfl⟩ := h_
              change Go X G _ 9 _ _ (biS S f2 d2 s2 (nI NS.length)) 118 [(8, .int (nI 1)), (7, .int (nI 1)), (6, .int (nI k)), (4, .int (nI (nv.2.2.1))), (5, .int (nI (nv.2.1))), (0, .ref ((c 7))), (1, .ref a), (3, .int (bI (!pr)))] [.int (nI (gTo l k (pA l k (nv.2.2.1 + 1) l.length) nv.2.2.1)), .int (nI k), .ref ((c 7))]
              rw [pA_kid c38 h2 hed.2]
              refine g_iload 3 C dX1_addBelow_118 rfl ?_
              refine g_callV (As := [.int (nI k), .int (nI (gTo l k (gEnd l k nv.2.1 nv.2.2.1) nv.2.2.1)), .int (nI (nv.2.2.1))]) (rest := []) C dX1_addBelow_120 (c_B_addNode (S := S) (f := f2) (d := d2) (s := s2) (ns := NS) (e := gEnd l k nv.2.1 nv.2.2.1) hC (by omega)) wC_X1_addNode wM_X1_104 wI_X1_addNode wS_X1_addNode wN_X1 (kne hC.2.2.2.2.1.2) (pf_2 hC.2.2.2.2.1.2) rfl hd_X1_addNode ⟨by decide, by decide, by decide, by decide⟩ (Nat.le_of_ble_eq_true rfl) (fun r_ S_ h_ => ?_)
              obtain ⟨rfl, rfl⟩ := h_
              change Go X G _ 9 _ _ (biS S (upd f2 NS.length (nI k)) (upd d2 NS.length (nI (gTo l k (gEnd l k nv.2.1 nv.2.2.1) nv.2.2.1))) (upd s2 NS.length (nI nv.2.2.1)) (nI (NS ++ [(k, gEnd l k nv.2.1 nv.2.2.1, gTo l k (gEnd l k nv.2.1 nv.2.2.1) nv.2.2.1, nv.2.2.1)]).length)) 123 [(8, .int (nI 1)), (7, .int (nI 1)), (6, .int (nI k)), (4, .int (nI (nv.2.2.1))), (5, .int (nI (nv.2.1))), (0, .ref ((c 7))), (1, .ref a), (3, .int (bI (!pr)))] []
              refine g_iinc (v := nI (k + 1)) (lv' := [(6, .int (nI (k + 1))), (8, .int (nI 1)), (7, .int (nI 1)), (4, .int (nI (nv.2.2.1))), (5, .int (nI (nv.2.1))), (0, .ref ((c 7))), (1, .ref a), (3, .int (bI (!pr)))]) 2 C dX1_addBelow_123 rfl (nI_add _ 1) (by decide) rfl ?_
              refine g_goto 34 C dX1_addBelow_126 (by decide) ?_
              refine Go.pick (lv' := [(6, .int (nI (k + 1))), (4, .int (nI (nv.2.2.1))), (5, .int (nI (nv.2.1))), (0, .ref ((c 7))), (1, .ref a), (3, .int (bI (!pr)))]) [0, 3, 4, 5, 6, 7] rfl ?_
              exact ih_ (k + 1) (W ++ [(k, gEnd l k nv.2.1 nv.2.2.1, gTo l k (gEnd l k nv.2.1 nv.2.2.1) nv.2.2.1, nv.2.2.1)]) (NS ++ [(k, gEnd l k nv.2.1 nv.2.2.1, gTo l k (gEnd l k nv.2.1 nv.2.2.1) nv.2.2.1, nv.2.2.1)]) _ _ _ (by omega) ⟨by omega, by omega, hy, by rw [hNS, List.append_assoc], hn2.add _ _ _ _⟩
            · have hpr : pr = false := by have := bI_t c97; cases pr <;> simp_all
              rw [if_neg (by rw [hpr]; decide)] at hy
              refine g_iload 3 C dX1_addBelow_100 rfl ?_
              refine g_iconst (v := nI 1) C dX1_addBelow_102 (by decide) ?_
              refine g_iadd C dX1_addBelow_103 ?_
              refine g_topi (nI_add _ _ : _ = nI (nv.2.2.1 + 1)) ?_
              refine g_goto 118 C dX1_addBelow_104 (by decide) ?_
              refine g_iload 3 C dX1_addBelow_118 rfl ?_
              refine g_callV (As := [.int (nI k), .int (nI (nv.2.2.1 + 1)), .int (nI (nv.2.2.1))]) (rest := []) C dX1_addBelow_120 (c_B_addNode (S := S) (f := f2) (d := d2) (s := s2) (ns := NS) (e := gEnd l k nv.2.1 nv.2.2.1) hC (by omega)) wC_X1_addNode wM_X1_104 wI_X1_addNode wS_X1_addNode wN_X1 (kne hC.2.2.2.2.1.2) (pf_2 hC.2.2.2.2.1.2) rfl hd_X1_addNode ⟨by decide, by decide, by decide, by decide⟩ (Nat.le_of_ble_eq_true rfl) (fun r_ S_ h_ => ?_)
              obtain ⟨rfl, rfl⟩ := h_
              change Go X G _ 9 _ _ (biS S (upd f2 NS.length (nI k)) (upd d2 NS.length (nI (nv.2.2.1 + 1))) (upd s2 NS.length (nI nv.2.2.1)) (nI (NS ++ [(k, gEnd l k nv.2.1 nv.2.2.1, nv.2.2.1 + 1, nv.2.2.1)]).length)) 123 [(8, .int (nI 1)), (7, .int (nI 1)), (6, .int (nI k)), (4, .int (nI (nv.2.2.1))), (5, .int (nI (nv.2.1))), (0, .ref ((c 7))), (1, .ref a), (3, .int (bI (!pr)))] []
              refine g_iinc (v := nI (k + 1)) (lv' := [(6, .int (nI (k + 1))), (8, .int (nI 1)), (7, .int (nI 1)), (4, .int (nI (nv.2.2.1))), (5, .int (nI (nv.2.1))), (0, .ref ((c 7))), (1, .ref a), (3, .int (bI (!pr)))]) 2 C dX1_addBelow_123 rfl (nI_add _ 1) (by decide) rfl ?_
              refine g_goto 34 C dX1_addBelow_126 (by decide) ?_
              refine Go.pick (lv' := [(6, .int (nI (k + 1))), (4, .int (nI (nv.2.2.1))), (5, .int (nI (nv.2.1))), (0, .ref ((c 7))), (1, .ref a), (3, .int (bI (!pr)))]) [0, 3, 4, 5, 6, 7] rfl ?_
              exact ih_ (k + 1) (W ++ [(k, gEnd l k nv.2.1 nv.2.2.1, nv.2.2.1 + 1, nv.2.2.1)]) (NS ++ [(k, gEnd l k nv.2.1 nv.2.2.1, nv.2.2.1 + 1, nv.2.2.1)]) _ _ _ (by omega) ⟨by omega, by omega, hy, by rw [hNS, List.append_assoc], hn2.add _ _ _ _⟩
  refine Go.pick (lv' := [(6, .int (nI (nv.1))), (4, .int (nI (nv.2.2.1))), (5, .int (nI (nv.2.1))), (0, .ref ((c 7))), (1, .ref a), (3, .int (bI (!pr)))]) [0, 2, 1, 3, 4, 6] rfl ?_
  exact lp (nv.2.1 + 1) nv.1 [] ns f d s (by omega) ⟨Nat.le_refl _, by omega, scI_0 hl.2.2 hok hed, (List.append_nil _).symm, hnd⟩
