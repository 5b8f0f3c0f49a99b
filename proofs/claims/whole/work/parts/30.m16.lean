/-- the model's rows of a tree -/
def treeM (M : MoT) (ns : List Nd) : Prop := m_nodes M = nI ns.length ∧ ∀ u, u < ns.length → m_low M u = nI (ns.getD u (0, 0, 0, 0)).1 ∧ m_high M u = nI (ns.getD u (0, 0, 0, 0)).2.1 ∧ m_deep M u = nI (ns.getD u (0, 0, 0, 0)).2.2.1 ∧ m_stringFrom M u = nI (ns.getD u (0, 0, 0, 0)).2.2.2
def feM (M : MoT) (l : List Ent) (pr : Bool) (n : Nat) : Prop := ∀ u, u < n → m_firstEdge M u = nI ((trS l pr u).length - 1)
/-- only the rows of a tree change -/
def TF (M M' : MoT) : Prop := ∃ (fl fh fd ff fs : Nat → Int32) (n : Int32), M' = m_nodes_ (m_stringFrom_ (m_firstEdge_ (m_deep_ (m_high_ (m_low_ M fl) fh) fd) ff) fs) n
theorem TF.refl (M : MoT) : TF M M := ⟨m_low M, m_high M, m_deep M, m_firstEdge M, m_stringFrom M, m_nodes M, rfl⟩
theorem TF.trans {M M1 M2 : MoT} (h1 : TF M M1) (h2 : TF M1 M2) : TF M M2 := by
  obtain ⟨_, _, _, _, _, _, rfl⟩ := h1
  obtain ⟨a, b, c, d, e, f, rfl⟩ := h2
  exact ⟨a, b, c, d, e, f, rfl⟩
theorem TF.mo_r {M M' : MoT} (h : TF M M') : mo_r M' = mo_r M := by obtain ⟨_, _, _, _, _, _, rfl⟩ := h; rfl
theorem TF.names {M M' : MoT} (h : TF M M') {t : Nat} {l : List Ent} (hl : namesM M t l) : namesM M' t l := by obtain ⟨_, _, _, _, _, _, rfl⟩ := h; exact hl
theorem TF.fe {M : MoT} {f : Nat → Int32} : TF M (m_firstEdge_ M f) := ⟨m_low M, m_high M, m_deep M, f, m_stringFrom M, m_nodes M, rfl⟩
theorem TF.ad {M : MoT} {n a b d f : Nat} : TF M (addN M n a b d f) := ⟨upd (m_low M) n (nI a), upd (m_high M) n (nI b), upd (m_deep M) n (nI d), m_firstEdge M, upd (m_stringFrom M) n (nI f), nI (n + 1), rfl⟩
theorem treeM.add {M : MoT} {ns : List Nd} (h : treeM M ns) {a b d f : Nat} : treeM (addN M ns.length a b d f) (ns ++ [(a, b, d, f)]) := by
  refine ⟨by rw [List.length_append]; rfl, fun u hu => ?_⟩
  rw [List.length_append] at hu
  have hu : u < ns.length + 1 := hu
  rw [getD_app]
  by_cases e : u < ns.length
  · rw [if_pos e]
    have := h.2 u e
    exact ⟨(pk_un (by omega)).trans this.1, (pk_un (by omega)).trans this.2.1, (pk_un (by omega)).trans this.2.2.1, (pk_un (by omega)).trans this.2.2.2⟩
  · rw [if_neg e, show u - ns.length = 0 by omega, show u = ns.length by omega]
    exact ⟨pk_us, pk_us, pk_us, pk_us⟩
theorem kidsF_len {l : List Ent} {pr : Bool} {hi d : Nat} {f k : Nat} (h : ¬ k < hi) : kidsF l pr hi d f k = [] := by
  cases f with
  | zero => rfl
  | succ f => unfold kidsF; rw [if_neg h]
theorem trS_succ {l : List Ent} {pr : Bool} {v : Nat} (h : v < (trS l pr v).length) : trS l pr (v + 1) = trS l pr v ++ kids l pr ((trS l pr v).getD v (0, 0, 0, 0)) := by
  show (if v < (trS l pr v).length then _ else _) = _
  rw [if_pos h]
set_option maxRecDepth 100000 in
set_option maxHeartbeats 400000 in
theorem c_M_tree {l : Launch} {G : Gx} {S : PS} {M : MoT} {x : Nat} (hx : MoOk S M x) {t : Nat} {pr : Bool} {ls : List Ent} (ht : t < 12) (hl : namesM M t ls) (hO : okL ls) (hO0 : 0 < ls.length) : Ct l yX11_tree cX11_tree 9 (Option.none : Option Jvm.ClassFile.FieldType) rm_X11_tree G [.ref x, .int (nI t), .int (bI pr)] (mo_ S M) (fun r S' => ∃ M', r = none ∧ S' = mo_ S M' ∧ TF M M' ∧ treeM M' (tr ls pr) ∧ feM M' ls pr ((tr ls pr).length + 1)) := by
  obtain ⟨q_many, r_many, k_many⟩ := hx.2 3 (by decide)
  obtain ⟨q_firstEdge, r_firstEdge, k_firstEdge⟩ := hx.2 17 (by decide)
  obtain ⟨q_deep, r_deep, k_deep⟩ := hx.2 16 (by decide)
  obtain ⟨q_low, r_low, k_low⟩ := hx.2 14 (by decide)
  obtain ⟨q_size, r_size, k_size⟩ := hx.2 10 (by decide)
  obtain ⟨q_high, r_high, k_high⟩ := hx.2 15 (by decide)
  have hl1 := hl.1
  have hs := hO.2.2
  refine Ct.mk RX11 "tree" hy_X11_tree (Nat.le_of_ble_eq_true rfl) (fun X hX C => ?_)
  change Go X G _ 9 0 0 (mo_ S M) 0 [(0, .ref x), (1, .int (nI t)), (2, .int (bI pr))] []
  refine g_aload_n 0 0 C dX11_tree_0 rfl rfl ?_
  refine g_iconst (v := nI 0) C dX11_tree_1 (by decide) ?_
  refine pp_m_nodes C dX11_tree_2 hx.1 wF_X11_77 (Or.inl rfl) ?_
  refine g_aload_n 0 0 C dX11_tree_5 rfl rfl ?_
  refine g_iconst (v := nI 0) C dX11_tree_6 (by decide) ?_
  refine g_aload_n 0 0 C dX11_tree_7 rfl rfl ?_
  refine gr_m_many C dX11_tree_8 hx.1 wF_X11_23 r_many ?_
  refine g_iload_n 1 1 C dX11_tree_11 rfl rfl ?_
  refine ga_m_many C dX11_tree_12 k_many (by omega) ?_
  refine g_topi (hl.2.1) ?_
  refine g_iconst (v := nI 0) C dX11_tree_13 (by decide) ?_
  refine g_iconst (v := nI 0) C dX11_tree_14 (by decide) ?_
  refine g_callV (As := [.int (nI 0), .int (nI (ls.length)), .int (nI 0), .int (nI 0)]) (rest := []) C dX11_tree_15 (c_M_addNode (M := m_nodes_ M (nI 0)) (n := 0) hx (by decide) rfl) wC_X11_addNode wM_X11_141 wI_X11_addNode wS_X11_addNode wN_X11 (kne hx.1) (pf_11 hx.1) rfl hd_X11_addNode ⟨by decide, by decide, by decide, by decide⟩ (Nat.le_of_ble_eq_true rfl) (fun r_ S_ h_ => ?_)
  obtain ⟨rfl, rfl⟩ := h_
  change Go X G _ 9 _ _ (mo_ S (addN (m_nodes_ M (nI 0)) 0 0 ls.length 0 0)) 18 [(0, .ref x), (1, .int (nI t)), (2, .int (bI pr))] []
  refine g_iconst (v := nI 0) C dX11_tree_18 (by decide) ?_
  refine g_istore_n (lv' := [(3, .int (nI 0)), (0, .ref x), (1, .int (nI t)), (2, .int (bI pr))]) C dX11_tree_19 rfl (by decide) rfl ?_
  refine g_iconst (v := nI 0) C dX11_tree_20 (by decide) ?_
  refine g_istore (lv' := [(4, .int (nI 0)), (3, .int (nI 0)), (0, .ref x), (1, .int (nI t)), (2, .int (bI pr))]) C dX11_tree_21 (by decide) rfl ?_
  have lp : ∀ (n_ : Nat) (v : Nat) (M1 : MoT), 2402 - v < n_ → (v ≤ (trS ls pr v).length ∧ TF M M1 ∧ treeM M1 (trS ls pr v) ∧ feM M1 ls pr v) → Go X G (Qe X G (fun r S' => ∃ M', r = none ∧ S' = mo_ S M' ∧ TF M M' ∧ treeM M' (tr ls pr) ∧ feM M' ls pr ((tr ls pr).length + 1)) rm_X11_tree.cells rm_X11_tree.slots) 9 0 0 (mo_ S M1) 23 [(4, .int (nI v)), (3, .int (nI ((trS ls pr v).length - 1))), (0, .ref x), (1, .int (nI t)), (2, .int (bI pr))] [] := by
    intro n_
    induction n_ with
    | zero => intro v M1 hm_; exact absurd hm_ (Nat.not_lt_zero _)
    | succ n_ iho_ =>
      intro v M1 hm_ hh
      have hx1 := hx.of hh.2.1.mo_r
      have hn1 := hh.2.1.names hl
      have hlenT := trS_len hO hO0 pr v
      obtain ⟨q_many, r_many, k_many⟩ := hx1.2 3 (by decide)
      obtain ⟨q_firstEdge, r_firstEdge, k_firstEdge⟩ := hx1.2 17 (by decide)
      obtain ⟨q_deep, r_deep, k_deep⟩ := hx1.2 16 (by decide)
      obtain ⟨q_low, r_low, k_low⟩ := hx1.2 14 (by decide)
      obtain ⟨q_size, r_size, k_size⟩ := hx1.2 10 (by decide)
      obtain ⟨q_high, r_high, k_high⟩ := hx1.2 15 (by decide)
      refine g_iload 0 C dX11_tree_23 rfl ?_
      refine g_aload_n 2 0 C dX11_tree_25 rfl rfl ?_
      refine gf_m_nodes C dX11_tree_26 hx.1 wF_X11_77 ?_
      refine g_topi (hh.2.2.1.1) ?_
      refine g_ncmp_ge 185 (by omega) (by omega) C dX11_tree_29 (by decide) (fun c29 => ?_) (fun c29 => ?_)
      · have ev : (trS ls pr v).length = v := by omega
        have etr := tr_eq hO hO0 ev
        refine g_aload_n 2 0 C dX11_tree_185 rfl rfl ?_
        refine gr_m_firstEdge C dX11_tree_186 hx.1 wF_X11_71 r_firstEdge ?_
        refine g_aload_n 2 0 C dX11_tree_189 rfl rfl ?_
        refine gf_m_nodes C dX11_tree_190 hx.1 wF_X11_77 ?_
        refine g_topi (hh.2.2.1.1) ?_
        refine g_iload_n 1 3 C dX11_tree_193 rfl rfl ?_
        refine gs_m_firstEdge C dX11_tree_194 k_firstEdge (by omega) ?_
        exact g_vret C dX11_tree_195 (by decide) (by decide) ⟨_, rfl, rfl, hh.2.1.trans TF.fe, by rw [etr]; exact hh.2.2.1, fun u hu => by
          rw [etr, ev] at hu
          by_cases e : u = v
          · rw [e]; exact (show upd (m_firstEdge M1) (trS ls pr v).length _ v = _ from by rw [ev]; exact pk_us)
          · exact (show upd (m_firstEdge M1) (trS ls pr v).length _ u = _ from (pk_un (by omega)).trans (hh.2.2.2 u (by omega)))⟩
      · have hv : v < (trS ls pr v).length := by omega
        obtain ⟨nd, hnd⟩ : ∃ nd, nd = (trS ls pr v).getD v (0, 0, 0, 0) := ⟨_, rfl⟩
        have hN := hh.2.2.1.2 v hv
        rw [← hnd] at hN
        have hm : nd ∈ (trS ls pr v) := by rw [hnd, List.getD_eq_getElem?_getD, List.getElem?_eq_getElem hv]; exact List.getElem_mem hv
        have hon := (trS_ok hO.2.2 hO0 pr v).2.1 nd hm
        have hk9 := hon.k0 hs
        have ho1 := hon.1
        have ho2 := hon.2.1
        have ho3 := hon.2.2.1
        have hlo := hn1.2.2 nd.1 (by omega)
        have hll := hlo.1.2.1
        refine g_aload_n 2 0 C dX11_tree_32 rfl rfl ?_
        refine gr_m_firstEdge C dX11_tree_33 hx.1 wF_X11_71 r_firstEdge ?_
        refine g_iload 0 C dX11_tree_36 rfl ?_
        refine g_iload_n 1 3 C dX11_tree_38 rfl rfl ?_
        refine gs_m_firstEdge C dX11_tree_39 k_firstEdge (by omega) ?_
        refine g_aload_n 2 0 C dX11_tree_40 rfl rfl ?_
        refine gr_m_deep C dX11_tree_41 hx.1 wF_X11_68 r_deep ?_
        refine g_iload 0 C dX11_tree_44 rfl ?_
        refine ga_m_deep C dX11_tree_46 k_deep (by omega) ?_
        refine g_topi (hN.2.2.1) ?_
        refine g_istore (lv' := [(5, .int (nI (nd.2.2.1))), (4, .int (nI v)), (3, .int (nI ((trS ls pr v).length - 1))), (0, .ref x), (1, .int (nI t)), (2, .int (bI pr))]) C dX11_tree_47 (by decide) rfl ?_
        refine g_aload_n 3 0 C dX11_tree_49 rfl rfl ?_
        refine gr_m_low C dX11_tree_50 hx.1 wF_X11_62 r_low ?_
        refine g_iload 1 C dX11_tree_53 rfl ?_
        refine ga_m_low C dX11_tree_55 k_low (by omega) ?_
        refine g_topi (hN.1) ?_
        refine g_istore (lv' := [(6, .int (nI (nd.1))), (5, .int (nI (nd.2.2.1))), (4, .int (nI v)), (3, .int (nI ((trS ls pr v).length - 1))), (0, .ref x), (1, .int (nI t)), (2, .int (bI pr))]) C dX11_tree_56 (by decide) rfl ?_
        refine g_aload_n 4 0 C dX11_tree_58 rfl rfl ?_
        refine gr_m_size C dX11_tree_59 hx.1 wF_X11_46 r_size ?_
        refine g_bipush (v := nI 100) C dX11_tree_62 (by decide) ?_
        refine g_iload_n 5 1 C dX11_tree_64 rfl rfl ?_
        refine g_imul C dX11_tree_65 ?_
        refine g_topi (pk_mul _ _ : _ = nI (100 * t)) ?_
        refine g_iload 0 C dX11_tree_66 rfl ?_
        refine g_iadd C dX11_tree_68 ?_
        refine g_topi (nI_add _ _ : _ = nI (100 * t + nd.1)) ?_
        refine ga_m_size C dX11_tree_69 k_size (by omega) ?_
        refine g_topi (hlo.2.1.1) ?_
        refine g_iload 1 C dX11_tree_70 rfl ?_
        refine g_ncmp_ne 78 (by omega) (by omega) C dX11_tree_72 (by decide) (fun c72 => ?_) (fun c72 => ?_)
        · have hk0 : kid0 ls nd = nd.1 := by unfold kid0; rw [if_neg c72]
          have lp2 : ∀ (n_ : Nat) (k f : Nat) (ks : List Nd) (M2 : MoT), nd.2.1 - k < n_ → (okK ls nd.2.1 nd.2.2.1 k ∧ k ≤ nd.2.1 ∧ TF M M2 ∧ treeM M2 ((trS ls pr v) ++ ks) ∧ feM M2 ls pr (v + 1) ∧ kids ls pr nd = ks ++ kidsF ls pr nd.2.1 nd.2.2.1 f k ∧ nd.2.1 - k < f) → Go X G (Qe X G (fun r S' => ∃ M', r = none ∧ S' = mo_ S M' ∧ TF M M' ∧ treeM M' (tr ls pr) ∧ feM M' ls pr ((tr ls pr).length + 1)) rm_X11_tree.cells rm_X11_tree.slots) 9 0 0 (mo_ S M2) 78 [(6, .int (nI k)), (5, .int (nI (nd.2.2.1))), (4, .int (nI v)), (3, .int (nI (((trS ls pr v) ++ ks).length - 1))), (0, .ref x), (1, .int (nI t)), (2, .int (bI pr))] [] := by
            intro n_
            induction n_ with
            | zero => intro k f ks M2 hm_; exact absurd hm_ (Nat.not_lt_zero _)
            | succ n_ ihk_ =>
              intro k f ks M2 hm_ hh
              obtain ⟨hK, hkh, hTF2, ht2, hfe2, hek, hf⟩ := hh
              have hx2 := hx.of hTF2.mo_r
              have hn2 := hTF2.names hl
              obtain ⟨q_many, r_many, k_many⟩ := hx2.2 3 (by decide)
              obtain ⟨q_firstEdge, r_firstEdge, k_firstEdge⟩ := hx2.2 17 (by decide)
              obtain ⟨q_deep, r_deep, k_deep⟩ := hx2.2 16 (by decide)
              obtain ⟨q_low, r_low, k_low⟩ := hx2.2 14 (by decide)
              obtain ⟨q_size, r_size, k_size⟩ := hx2.2 10 (by decide)
              obtain ⟨q_high, r_high, k_high⟩ := hx2.2 15 (by decide)
              have hT1 : 1 ≤ (trS ls pr v).length := (trS_ok hO.2.2 hO0 pr v).2.2
              have hvv := ht2.2 v (by rw [List.length_append]; omega)
              rw [getD_app, if_pos hv, ← hnd] at hvv
              refine g_iload 0 C dX11_tree_78 rfl ?_
              refine g_aload_n 4 0 C dX11_tree_80 rfl rfl ?_
              refine gr_m_high C dX11_tree_81 hx.1 wF_X11_65 r_high ?_
              refine g_iload 2 C dX11_tree_84 rfl ?_
              refine ga_m_high C dX11_tree_86 k_high (by omega) ?_
              refine g_topi (hvv.2.1) ?_
              refine g_ncmp_ge 179 (by omega) (by omega) C dX11_tree_87 (by decide) (fun c87 => ?_) (fun c87 => ?_)
              · have eT : trS ls pr (v + 1) = (trS ls pr v) ++ ks := by rw [trS_succ hv, ← hnd, hek, kidsF_len (by omega), List.append_nil]
                refine g_iinc (v := nI (v + 1)) (lv' := [(4, .int (nI (v + 1))), (6, .int (nI k)), (5, .int (nI (nd.2.2.1))), (3, .int (nI (((trS ls pr v) ++ ks).length - 1))), (0, .ref x), (1, .int (nI t)), (2, .int (bI pr))]) 2 C dX11_tree_179 rfl (nI_add _ 1) (by decide) rfl ?_
                refine g_goto 23 C dX11_tree_182 (by decide) ?_
                refine Go.pick (lv' := [(4, .int (nI (v + 1))), (3, .int (nI (((trS ls pr v) ++ ks).length - 1))), (0, .ref x), (1, .int (nI t)), (2, .int (bI pr))]) [0, 3, 4, 5, 6] rfl ?_
                have hle : v + 1 ≤ (trS ls pr (v + 1)).length := by rw [eT, List.length_append]; omega
                rw [← eT] at ht2 ⊢
                exact iho_ (v + 1) M2 (by omega) ⟨hle, hTF2, ht2, hfe2⟩
              · have g1 := gEnd_gt ls k nd.2.1 nd.2.2.1
                have g2 := gEnd_le (l := ls) (d := nd.2.2.1) c87
                obtain ⟨f, rfl⟩ : ∃ f0, f = f0 + 1 := ⟨f - 1, by omega⟩
                have ekf : kids ls pr nd = ks ++ (k, gEnd ls k nd.2.1 nd.2.2.1, (if pr then gTo ls k (gEnd ls k nd.2.1 nd.2.2.1) nd.2.2.1 else nd.2.2.1 + 1), nd.2.2.1) :: kidsF ls pr nd.2.1 nd.2.2.1 f (gEnd ls k nd.2.1 nd.2.2.1) := by
                  rw [hek]
                  show _ ++ (if k < nd.2.1 then _ else _) = _
                  rw [if_pos c87]
                have hkk := hn2.2.2 k (by omega)
                have hkl := hkk.1.2.1
                have hkd := hK.2.2 c87
                have hlen9 : ((trS ls pr v) ++ ks).length + 1 ≤ 2401 := by
                  have h8 := trS_len hO hO0 pr (v + 1)
                  rw [trS_succ hv, ← hnd, ekf, List.length_append, List.length_append] at h8
                  rw [List.length_append]
                  have : 1 ≤ ((k, gEnd ls k nd.2.1 nd.2.2.1, (if pr then gTo ls k (gEnd ls k nd.2.1 nd.2.2.1) nd.2.2.1 else nd.2.2.1 + 1), nd.2.2.1) :: kidsF ls pr nd.2.1 nd.2.2.1 f (gEnd ls k nd.2.1 nd.2.2.1)).length := by rw [List.length_cons]; omega
                  omega
                refine g_aload_n 4 0 C dX11_tree_90 rfl rfl ?_
                refine g_iload_n 5 1 C dX11_tree_91 rfl rfl ?_
                refine g_iload 0 C dX11_tree_92 rfl ?_
                refine g_aload_n 4 0 C dX11_tree_94 rfl rfl ?_
                refine gr_m_high C dX11_tree_95 hx.1 wF_X11_65 r_high ?_
                refine g_iload 2 C dX11_tree_98 rfl ?_
                refine ga_m_high C dX11_tree_100 k_high (by omega) ?_
                refine g_topi (hvv.2.1) ?_
                refine g_iload 1 C dX11_tree_101 rfl ?_
                refine g_callV (As := [.int (nI t), .int (nI k), .int (nI (nd.2.1)), .int (nI (nd.2.2.1))]) (rest := []) C dX11_tree_103 (c_M_groupEnd hx2 ht hn2 c87 (by omega) (by omega) (fun q a b => by
                  by_cases e : q = k
                  · rw [e]; exact hK.2.2 c87
                  · exact len_gt hs (by omega) (by omega) (hK.2.1 q (by omega) b)) hK.2.1) wC_X11_groupEnd wM_X11_144 wI_X11_groupEnd wS_X11_groupEnd wN_X11 (kne hx.1) (pf_11 hx.1) rfl hd_X11_groupEnd ⟨by decide, by decide, by decide, by decide⟩ (Nat.le_of_ble_eq_true rfl) (fun r_ S_ h_ => ?_)
                obtain ⟨rfl, rfl⟩ := h_
                change Go X G _ 9 _ _ (mo_ S M2) 106 [(6, .int (nI k)), (5, .int (nI (nd.2.2.1))), (4, .int (nI v)), (3, .int (nI (((trS ls pr v) ++ ks).length - 1))), (0, .ref x), (1, .int (nI t)), (2, .int (bI pr))] [.int (nI (gEnd ls k nd.2.1 nd.2.2.1))]
                refine g_istore (lv' := [(7, .int (nI (gEnd ls k nd.2.1 nd.2.2.1))), (6, .int (nI k)), (5, .int (nI (nd.2.2.1))), (4, .int (nI v)), (3, .int (nI (((trS ls pr v) ++ ks).length - 1))), (0, .ref x), (1, .int (nI t)), (2, .int (bI pr))]) C dX11_tree_106 (by decide) rfl ?_
                refine g_iload 2 C dX11_tree_108 rfl ?_
                refine g_iconst (v := nI 1) C dX11_tree_110 (by decide) ?_
                refine g_iadd C dX11_tree_111 ?_
                refine g_topi (nI_add _ _ : _ = nI (nd.2.2.1 + 1)) ?_
                refine g_istore (lv' := [(8, .int (nI (nd.2.2.1 + 1))), (7, .int (nI (gEnd ls k nd.2.1 nd.2.2.1))), (6, .int (nI k)), (5, .int (nI (nd.2.2.1))), (4, .int (nI v)), (3, .int (nI (((trS ls pr v) ++ ks).length - 1))), (0, .ref x), (1, .int (nI t)), (2, .int (bI pr))]) C dX11_tree_112 (by decide) rfl ?_
                have lp3 : ∀ (n_ : Nat) (i : Nat), 24 - i < n_ → (i ≤ 24 ∧ nd.2.2.1 + 1 + i ≤ 24 ∧ (pr = false → i = 0) ∧ (∀ q, q < i → nd.2.2.1 + 1 + q < (nm ls k).length ∧ gEnd ls k (gEnd ls k nd.2.1 nd.2.2.1) (nd.2.2.1 + 1 + q) = gEnd ls k nd.2.1 nd.2.2.1) ∧ ∀ q, k < q → q < gEnd ls k nd.2.1 nd.2.2.1 → nd.2.2.1 + 1 + i ≤ alN ls q) → Go X G (Qe X G (fun r S' => ∃ M', r = none ∧ S' = mo_ S M' ∧ TF M M' ∧ treeM M' (tr ls pr) ∧ feM M' ls pr ((tr ls pr).length + 1)) rm_X11_tree.cells rm_X11_tree.slots) 9 0 0 (mo_ S M2) 114 [(8, .int (nI (nd.2.2.1 + 1 + i))), (7, .int (nI (gEnd ls k nd.2.1 nd.2.2.1))), (6, .int (nI k)), (5, .int (nI (nd.2.2.1))), (4, .int (nI v)), (3, .int (nI (((trS ls pr v) ++ ks).length - 1))), (0, .ref x), (1, .int (nI t)), (2, .int (bI pr))] [] := by
                  intro n_
                  induction n_ with
                  | zero => intro i hm_; exact absurd hm_ (Nat.not_lt_zero _)
                  | succ n_ iht_ =>
                    intro i hm_ h3
                    refine g_iload_n 8 2 C dX11_tree_114 rfl rfl ?_
                    refine g_if_eq 157 C dX11_tree_115 (by decide) (fun c115 => ?_) (fun c115 => ?_)
                    · have epr := bI_f c115
                      have eto : (if pr then gTo ls k (gEnd ls k nd.2.1 nd.2.2.1) nd.2.2.1 else nd.2.2.1 + 1) = nd.2.2.1 + 1 + i := by rw [epr, h3.2.2.1 epr]; rfl
                      refine g_aload_n 6 0 C dX11_tree_157 rfl rfl ?_
                      refine g_iload 2 C dX11_tree_158 rfl ?_
                      refine g_iload 1 C dX11_tree_160 rfl ?_
                      refine g_iload 0 C dX11_tree_162 rfl ?_
                      refine g_iload 3 C dX11_tree_164 rfl ?_
                      refine g_callV (As := [.int (nI k), .int (nI (gEnd ls k nd.2.1 nd.2.2.1)), .int (nI (nd.2.2.1 + 1 + i)), .int (nI (nd.2.2.1))]) (rest := []) C dX11_tree_166 (c_M_addNode hx2 (by omega) ht2.1) wC_X11_addNode wM_X11_141 wI_X11_addNode wS_X11_addNode wN_X11 (kne hx.1) (pf_11 hx.1) rfl hd_X11_addNode ⟨by decide, by decide, by decide, by decide⟩ (Nat.le_of_ble_eq_true rfl) (fun r_ S_ h_ => ?_)
                      obtain ⟨rfl, rfl⟩ := h_
                      change Go X G _ 9 _ _ (mo_ S (addN M2 ((trS ls pr v) ++ ks).length k (gEnd ls k nd.2.1 nd.2.2.1) (nd.2.2.1 + 1 + i) nd.2.2.1)) 169 [(8, .int (nI (nd.2.2.1 + 1 + i))), (7, .int (nI (gEnd ls k nd.2.1 nd.2.2.1))), (6, .int (nI k)), (5, .int (nI (nd.2.2.1))), (4, .int (nI v)), (3, .int (nI (((trS ls pr v) ++ ks).length - 1))), (0, .ref x), (1, .int (nI t)), (2, .int (bI pr))] []
                      refine g_iinc (v := nI (((trS ls pr v) ++ ks).length - 1 + 1)) (lv' := [(3, .int (nI (((trS ls pr v) ++ ks).length - 1 + 1))), (8, .int (nI (nd.2.2.1 + 1 + i))), (7, .int (nI (gEnd ls k nd.2.1 nd.2.2.1))), (6, .int (nI k)), (5, .int (nI (nd.2.2.1))), (4, .int (nI v)), (0, .ref x), (1, .int (nI t)), (2, .int (bI pr))]) 5 C dX11_tree_169 rfl (nI_add _ 1) (by decide) rfl ?_
                      refine g_iload 2 C dX11_tree_172 rfl ?_
                      refine g_istore (lv' := [(6, .int (nI (gEnd ls k nd.2.1 nd.2.2.1))), (3, .int (nI (((trS ls pr v) ++ ks).length - 1 + 1))), (8, .int (nI (nd.2.2.1 + 1 + i))), (7, .int (nI (gEnd ls k nd.2.1 nd.2.2.1))), (5, .int (nI (nd.2.2.1))), (4, .int (nI v)), (0, .ref x), (1, .int (nI t)), (2, .int (bI pr))]) C dX11_tree_174 (by decide) rfl ?_
                      refine g_goto 78 C dX11_tree_176 (by decide) ?_
                      have eks : kids ls pr nd = (ks ++ [(k, gEnd ls k nd.2.1 nd.2.2.1, nd.2.2.1 + 1 + i, nd.2.2.1)]) ++ kidsF ls pr nd.2.1 nd.2.2.1 f (gEnd ls k nd.2.1 nd.2.2.1) := by
                        rw [← eto, List.append_assoc]; exact ekf
                      refine Go.pick (lv' := [(6, .int (nI (gEnd ls k nd.2.1 nd.2.2.1))), (5, .int (nI (nd.2.2.1))), (4, .int (nI v)), (3, .int (nI (((trS ls pr v) ++ ks).length - 1 + 1))), (0, .ref x), (1, .int (nI t)), (2, .int (bI pr))]) [0, 4, 5, 1, 6, 7, 8] rfl ?_
                      rw [show ((trS ls pr v) ++ ks).length - 1 + 1 = ((trS ls pr v) ++ (ks ++ [(k, gEnd ls k nd.2.1 nd.2.2.1, nd.2.2.1 + 1 + i, nd.2.2.1)])).length - 1 from by rw [← List.append_assoc, List.length_append (as := (trS ls pr v) ++ ks)]; show _ = _ + 1 - 1; have := hT1; rw [List.length_append]; omega]
                      exact ihk_ (gEnd ls k nd.2.1 nd.2.2.1) f _ _ (by omega) ⟨hK.next hs c87, g2, hTF2.trans TF.ad, by rw [← List.append_assoc]; exact ht2.add, hfe2, eks, by omega⟩
                    · have epr := bI_t c115
                      refine g_iload 0 C dX11_tree_118 rfl ?_
                      refine g_aload_n 6 0 C dX11_tree_120 rfl rfl ?_
                      refine gr_m_size C dX11_tree_121 hx.1 wF_X11_46 r_size ?_
                      refine g_bipush (v := nI 100) C dX11_tree_124 (by decide) ?_
                      refine g_iload_n 7 1 C dX11_tree_126 rfl rfl ?_
                      refine g_imul C dX11_tree_127 ?_
                      refine g_topi (pk_mul _ _ : _ = nI (100 * t)) ?_
                      refine g_iload 2 C dX11_tree_128 rfl ?_
                      refine g_iadd C dX11_tree_130 ?_
                      refine g_topi (nI_add _ _ : _ = nI (100 * t + k)) ?_
                      refine ga_m_size C dX11_tree_131 k_size (by omega) ?_
                      refine g_topi (hkk.2.1.1) ?_
                      refine g_ncmp_ge 157 (by omega) (by omega) C dX11_tree_132 (by decide) (fun c132 => ?_) (fun c132 => ?_)
                      · have eto : (if pr then gTo ls k (gEnd ls k nd.2.1 nd.2.2.1) nd.2.2.1 else nd.2.2.1 + 1) = nd.2.2.1 + 1 + i := by
                          rw [epr, if_pos rfl]
                          unfold gTo
                          rw [fN_eq (k := i) h3.1 (fun q hq => by rw [decide_eq_true (h3.2.2.2.1 q hq).1, decide_eq_true (h3.2.2.2.1 q hq).2]; rfl) (Or.inr (by rw [decide_eq_false (p := nd.2.2.1 + 1 + i < (nm ls k).length) (by omega)]; rfl))]
                        refine g_aload_n 6 0 C dX11_tree_157 rfl rfl ?_
                        refine g_iload 2 C dX11_tree_158 rfl ?_
                        refine g_iload 1 C dX11_tree_160 rfl ?_
                        refine g_iload 0 C dX11_tree_162 rfl ?_
                        refine g_iload 3 C dX11_tree_164 rfl ?_
                        refine g_callV (As := [.int (nI k), .int (nI (gEnd ls k nd.2.1 nd.2.2.1)), .int (nI (nd.2.2.1 + 1 + i)), .int (nI (nd.2.2.1))]) (rest := []) C dX11_tree_166 (c_M_addNode hx2 (by omega) ht2.1) wC_X11_addNode wM_X11_141 wI_X11_addNode wS_X11_addNode wN_X11 (kne hx.1) (pf_11 hx.1) rfl hd_X11_addNode ⟨by decide, by decide, by decide, by decide⟩ (Nat.le_of_ble_eq_true rfl) (fun r_ S_ h_ => ?_)
                        obtain ⟨rfl, rfl⟩ := h_
                        change Go X G _ 9 _ _ (mo_ S (addN M2 ((trS ls pr v) ++ ks).length k (gEnd ls k nd.2.1 nd.2.2.1) (nd.2.2.1 + 1 + i) nd.2.2.1)) 169 [(8, .int (nI (nd.2.2.1 + 1 + i))), (7, .int (nI (gEnd ls k nd.2.1 nd.2.2.1))), (6, .int (nI k)), (5, .int (nI (nd.2.2.1))), (4, .int (nI v)), (3, .int (nI (((trS ls pr v) ++ ks).length - 1))), (0, .ref x), (1, .int (nI t)), (2, .int (bI pr))] []
                        refine g_iinc (v := nI (((trS ls pr v) ++ ks).length - 1 + 1)) (lv' := [(3, .int (nI (((trS ls pr v) ++ ks).length - 1 + 1))), (8, .int (nI (nd.2.2.1 + 1 + i))), (7, .int (nI (gEnd ls k nd.2.1 nd.2.2.1))), (6, .int (nI k)), (5, .int (nI (nd.2.2.1))), (4, .int (nI v)), (0, .ref x), (1, .int (nI t)), (2, .int (bI pr))]) 5 C dX11_tree_169 rfl (nI_add _ 1) (by decide) rfl ?_
                        refine g_iload 2 C dX11_tree_172 rfl ?_
                        refine g_istore (lv' := [(6, .int (nI (gEnd ls k nd.2.1 nd.2.2.1))), (3, .int (nI (((trS ls pr v) ++ ks).length - 1 + 1))), (8, .int (nI (nd.2.2.1 + 1 + i))), (7, .int (nI (gEnd ls k nd.2.1 nd.2.2.1))), (5, .int (nI (nd.2.2.1))), (4, .int (nI v)), (0, .ref x), (1, .int (nI t)), (2, .int (bI pr))]) C dX11_tree_174 (by decide) rfl ?_
                        refine g_goto 78 C dX11_tree_176 (by decide) ?_
                        have eks : kids ls pr nd = (ks ++ [(k, gEnd ls k nd.2.1 nd.2.2.1, nd.2.2.1 + 1 + i, nd.2.2.1)]) ++ kidsF ls pr nd.2.1 nd.2.2.1 f (gEnd ls k nd.2.1 nd.2.2.1) := by
                          rw [← eto, List.append_assoc]; exact ekf
                        refine Go.pick (lv' := [(6, .int (nI (gEnd ls k nd.2.1 nd.2.2.1))), (5, .int (nI (nd.2.2.1))), (4, .int (nI v)), (3, .int (nI (((trS ls pr v) ++ ks).length - 1 + 1))), (0, .ref x), (1, .int (nI t)), (2, .int (bI pr))]) [0, 4, 5, 1, 6, 7, 8] rfl ?_
                        rw [show ((trS ls pr v) ++ ks).length - 1 + 1 = ((trS ls pr v) ++ (ks ++ [(k, gEnd ls k nd.2.1 nd.2.2.1, nd.2.2.1 + 1 + i, nd.2.2.1)])).length - 1 from by rw [← List.append_assoc, List.length_append (as := (trS ls pr v) ++ ks)]; show _ = _ + 1 - 1; have := hT1; rw [List.length_append]; omega]
                        exact ihk_ (gEnd ls k nd.2.1 nd.2.2.1) f _ _ (by omega) ⟨hK.next hs c87, g2, hTF2.trans TF.ad, by rw [← List.append_assoc]; exact ht2.add, hfe2, eks, by omega⟩
                      · refine g_aload_n 6 0 C dX11_tree_135 rfl rfl ?_
                        refine g_iload_n 7 1 C dX11_tree_136 rfl rfl ?_
                        refine g_iload 2 C dX11_tree_137 rfl ?_
                        refine g_iload 1 C dX11_tree_139 rfl ?_
                        refine g_iload 0 C dX11_tree_141 rfl ?_
                        refine g_callV (As := [.int (nI t), .int (nI k), .int (nI (gEnd ls k nd.2.1 nd.2.2.1)), .int (nI (nd.2.2.1 + 1 + i))]) (rest := []) C dX11_tree_143 (c_M_groupEnd hx2 ht hn2 g1 (by omega) (by omega) (fun q a b => by
                          by_cases e : q = k
                          · rw [e]; exact c132
                          · exact len_gt hs (by omega) (by omega) (h3.2.2.2.2 q (by omega) b)) h3.2.2.2.2) wC_X11_groupEnd wM_X11_144 wI_X11_groupEnd wS_X11_groupEnd wN_X11 (kne hx.1) (pf_11 hx.1) rfl hd_X11_groupEnd ⟨by decide, by decide, by decide, by decide⟩ (Nat.le_of_ble_eq_true rfl) (fun r_ S_ h_ => ?_)
                        obtain ⟨rfl, rfl⟩ := h_
                        change Go X G _ 9 _ _ (mo_ S M2) 146 [(8, .int (nI (nd.2.2.1 + 1 + i))), (7, .int (nI (gEnd ls k nd.2.1 nd.2.2.1))), (6, .int (nI k)), (5, .int (nI (nd.2.2.1))), (4, .int (nI v)), (3, .int (nI (((trS ls pr v) ++ ks).length - 1))), (0, .ref x), (1, .int (nI t)), (2, .int (bI pr))] [.int (nI (gEnd ls k (gEnd ls k nd.2.1 nd.2.2.1) (nd.2.2.1 + 1 + i)))]
                        have g9 := gEnd_le (l := ls) (d := nd.2.2.1 + 1 + i) g1
                        refine g_iload 1 C dX11_tree_146 rfl ?_
                        refine g_ncmp_ne 157 (by omega) (by omega) C dX11_tree_148 (by decide) (fun c148 => ?_) (fun c148 => ?_)
                        · have eto : (if pr then gTo ls k (gEnd ls k nd.2.1 nd.2.2.1) nd.2.2.1 else nd.2.2.1 + 1) = nd.2.2.1 + 1 + i := by
                            rw [epr, if_pos rfl]
                            unfold gTo
                            rw [fN_eq (k := i) h3.1 (fun q hq => by rw [decide_eq_true (h3.2.2.2.1 q hq).1, decide_eq_true (h3.2.2.2.1 q hq).2]; rfl) (Or.inr (by rw [decide_eq_false c148, Bool.and_false]))]
                          refine g_aload_n 6 0 C dX11_tree_157 rfl rfl ?_
                          refine g_iload 2 C dX11_tree_158 rfl ?_
                          refine g_iload 1 C dX11_tree_160 rfl ?_
                          refine g_iload 0 C dX11_tree_162 rfl ?_
                          refine g_iload 3 C dX11_tree_164 rfl ?_
                          refine g_callV (As := [.int (nI k), .int (nI (gEnd ls k nd.2.1 nd.2.2.1)), .int (nI (nd.2.2.1 + 1 + i)), .int (nI (nd.2.2.1))]) (rest := []) C dX11_tree_166 (c_M_addNode hx2 (by omega) ht2.1) wC_X11_addNode wM_X11_141 wI_X11_addNode wS_X11_addNode wN_X11 (kne hx.1) (pf_11 hx.1) rfl hd_X11_addNode ⟨by decide, by decide, by decide, by decide⟩ (Nat.le_of_ble_eq_true rfl) (fun r_ S_ h_ => ?_)
                          obtain ⟨rfl, rfl⟩ := h_
                          change Go X G _ 9 _ _ (mo_ S (addN M2 ((trS ls pr v) ++ ks).length k (gEnd ls k nd.2.1 nd.2.2.1) (nd.2.2.1 + 1 + i) nd.2.2.1)) 169 [(8, .int (nI (nd.2.2.1 + 1 + i))), (7, .int (nI (gEnd ls k nd.2.1 nd.2.2.1))), (6, .int (nI k)), (5, .int (nI (nd.2.2.1))), (4, .int (nI v)), (3, .int (nI (((trS ls pr v) ++ ks).length - 1))), (0, .ref x), (1, .int (nI t)), (2, .int (bI pr))] []
                          refine g_iinc (v := nI (((trS ls pr v) ++ ks).length - 1 + 1)) (lv' := [(3, .int (nI (((trS ls pr v) ++ ks).length - 1 + 1))), (8, .int (nI (nd.2.2.1 + 1 + i))), (7, .int (nI (gEnd ls k nd.2.1 nd.2.2.1))), (6, .int (nI k)), (5, .int (nI (nd.2.2.1))), (4, .int (nI v)), (0, .ref x), (1, .int (nI t)), (2, .int (bI pr))]) 5 C dX11_tree_169 rfl (nI_add _ 1) (by decide) rfl ?_
                          refine g_iload 2 C dX11_tree_172 rfl ?_
                          refine g_istore (lv' := [(6, .int (nI (gEnd ls k nd.2.1 nd.2.2.1))), (3, .int (nI (((trS ls pr v) ++ ks).length - 1 + 1))), (8, .int (nI (nd.2.2.1 + 1 + i))), (7, .int (nI (gEnd ls k nd.2.1 nd.2.2.1))), (5, .int (nI (nd.2.2.1))), (4, .int (nI v)), (0, .ref x), (1, .int (nI t)), (2, .int (bI pr))]) C dX11_tree_174 (by decide) rfl ?_
                          refine g_goto 78 C dX11_tree_176 (by decide) ?_
                          have eks : kids ls pr nd = (ks ++ [(k, gEnd ls k nd.2.1 nd.2.2.1, nd.2.2.1 + 1 + i, nd.2.2.1)]) ++ kidsF ls pr nd.2.1 nd.2.2.1 f (gEnd ls k nd.2.1 nd.2.2.1) := by
                            rw [← eto, List.append_assoc]; exact ekf
                          refine Go.pick (lv' := [(6, .int (nI (gEnd ls k nd.2.1 nd.2.2.1))), (5, .int (nI (nd.2.2.1))), (4, .int (nI v)), (3, .int (nI (((trS ls pr v) ++ ks).length - 1 + 1))), (0, .ref x), (1, .int (nI t)), (2, .int (bI pr))]) [0, 4, 5, 1, 6, 7, 8] rfl ?_
                          rw [show ((trS ls pr v) ++ ks).length - 1 + 1 = ((trS ls pr v) ++ (ks ++ [(k, gEnd ls k nd.2.1 nd.2.2.1, nd.2.2.1 + 1 + i, nd.2.2.1)])).length - 1 from by rw [← List.append_assoc, List.length_append (as := (trS ls pr v) ++ ks)]; show _ = _ + 1 - 1; have := hT1; rw [List.length_append]; omega]
                          exact ihk_ (gEnd ls k nd.2.1 nd.2.2.1) f _ _ (by omega) ⟨hK.next hs c87, g2, hTF2.trans TF.ad, by rw [← List.append_assoc]; exact ht2.add, hfe2, eks, by omega⟩
                        · refine g_iinc (v := nI (nd.2.2.1 + 1 + i + 1)) (lv' := [(8, .int (nI (nd.2.2.1 + 1 + i + 1))), (7, .int (nI (gEnd ls k nd.2.1 nd.2.2.1))), (6, .int (nI k)), (5, .int (nI (nd.2.2.1))), (4, .int (nI v)), (3, .int (nI (((trS ls pr v) ++ ks).length - 1))), (0, .ref x), (1, .int (nI t)), (2, .int (bI pr))]) 0 C dX11_tree_151 rfl (nI_add _ 1) (by decide) rfl ?_
                          refine g_goto 114 C dX11_tree_154 (by decide) ?_
                          exact iht_ (i + 1) (by omega) ⟨by omega, by omega, fun h => absurd h (by rw [epr]; decide), fun q hq => by
                            by_cases e : q = i
                            · rw [e]; exact ⟨c132, c148⟩
                            · exact h3.2.2.2.1 q (by omega), fun q a b => by have := gEnd_al (l := ls) (k := k) (hi := gEnd ls k nd.2.1 nd.2.2.1) (d := nd.2.2.1 + 1 + i) a (by rw [c148]; exact b); omega⟩
                rw [show nd.2.2.1 + 1 = nd.2.2.1 + 1 + 0 from rfl]
                exact lp3 25 0 (by omega) ⟨by omega, by omega, fun _ => rfl, fun q hq => absurd hq (Nat.not_lt_zero _), fun q a b => gEnd_al a b⟩
          rw [show (trS ls pr v).length - 1 = ((trS ls pr v) ++ []).length - 1 from by rw [List.append_nil]]
          exact lp2 (nd.2.1 + 1) nd.1 (nd.2.1 - nd.1 + 1) [] _ (by omega) ⟨by rw [← hk0]; exact hk9.1, by rw [← hk0]; exact hk9.2.1, hh.2.1.trans TF.fe, by rw [List.append_nil]; exact hh.2.2.1, fun u hu => by
            by_cases e : u = v
            · rw [e]; exact pk_us.trans (by rw [List.append_nil])
            · exact (pk_un e).trans (hh.2.2.2 u (by omega)), by show kidsF ls pr nd.2.1 nd.2.2.1 (nd.2.1 - nd.1 + 1) (kid0 ls nd) = _; rw [hk0]; rfl, by omega⟩
        · have hk0 : kid0 ls nd = nd.1 + 1 := by unfold kid0; rw [if_pos c72]
          refine g_iinc (v := nI (nd.1 + 1)) (lv' := [(6, .int (nI (nd.1 + 1))), (5, .int (nI (nd.2.2.1))), (4, .int (nI v)), (3, .int (nI ((trS ls pr v).length - 1))), (0, .ref x), (1, .int (nI t)), (2, .int (bI pr))]) 0 C dX11_tree_75 rfl (nI_add _ 1) (by decide) rfl ?_
          have lp2 : ∀ (n_ : Nat) (k f : Nat) (ks : List Nd) (M2 : MoT), nd.2.1 - k < n_ → (okK ls nd.2.1 nd.2.2.1 k ∧ k ≤ nd.2.1 ∧ TF M M2 ∧ treeM M2 ((trS ls pr v) ++ ks) ∧ feM M2 ls pr (v + 1) ∧ kids ls pr nd = ks ++ kidsF ls pr nd.2.1 nd.2.2.1 f k ∧ nd.2.1 - k < f) → Go X G (Qe X G (fun r S' => ∃ M', r = none ∧ S' = mo_ S M' ∧ TF M M' ∧ treeM M' (tr ls pr) ∧ feM M' ls pr ((tr ls pr).length + 1)) rm_X11_tree.cells rm_X11_tree.slots) 9 0 0 (mo_ S M2) 78 [(6, .int (nI k)), (5, .int (nI (nd.2.2.1))), (4, .int (nI v)), (3, .int (nI (((trS ls pr v) ++ ks).length - 1))), (0, .ref x), (1, .int (nI t)), (2, .int (bI pr))] [] := by
            intro n_
            induction n_ with
            | zero => intro k f ks M2 hm_; exact absurd hm_ (Nat.not_lt_zero _)
            | succ n_ ihk_ =>
              intro k f ks M2 hm_ hh
              obtain ⟨hK, hkh, hTF2, ht2, hfe2, hek, hf⟩ := hh
              have hx2 := hx.of hTF2.mo_r
              have hn2 := hTF2.names hl
              obtain ⟨q_many, r_many, k_many⟩ := hx2.2 3 (by decide)
              obtain ⟨q_firstEdge, r_firstEdge, k_firstEdge⟩ := hx2.2 17 (by decide)
              obtain ⟨q_deep, r_deep, k_deep⟩ := hx2.2 16 (by decide)
              obtain ⟨q_low, r_low, k_low⟩ := hx2.2 14 (by decide)
              obtain ⟨q_size, r_size, k_size⟩ := hx2.2 10 (by decide)
              obtain ⟨q_high, r_high, k_high⟩ := hx2.2 15 (by decide)
              have hT1 : 1 ≤ (trS ls pr v).length := (trS_ok hO.2.2 hO0 pr v).2.2
              have hvv := ht2.2 v (by rw [List.length_append]; omega)
              rw [getD_app, if_pos hv, ← hnd] at hvv
              refine g_iload 0 C dX11_tree_78 rfl ?_
              refine g_aload_n 4 0 C dX11_tree_80 rfl rfl ?_
              refine gr_m_high C dX11_tree_81 hx.1 wF_X11_65 r_high ?_
              refine g_iload 2 C dX11_tree_84 rfl ?_
              refine ga_m_high C dX11_tree_86 k_high (by omega) ?_
              refine g_topi (hvv.2.1) ?_
              refine g_ncmp_ge 179 (by omega) (by omega) C dX11_tree_87 (by decide) (fun c87 => ?_) (fun c87 => ?_)
              · have eT : trS ls pr (v + 1) = (trS ls pr v) ++ ks := by rw [trS_succ hv, ← hnd, hek, kidsF_len (by omega), List.append_nil]
                refine g_iinc (v := nI (v + 1)) (lv' := [(4, .int (nI (v + 1))), (6, .int (nI k)), (5, .int (nI (nd.2.2.1))), (3, .int (nI (((trS ls pr v) ++ ks).length - 1))), (0, .ref x), (1, .int (nI t)), (2, .int (bI pr))]) 2 C dX11_tree_179 rfl (nI_add _ 1) (by decide) rfl ?_
                refine g_goto 23 C dX11_tree_182 (by decide) ?_
                refine Go.pick (lv' := [(4, .int (nI (v + 1))), (3, .int (nI (((trS ls pr v) ++ ks).length - 1))), (0, .ref x), (1, .int (nI t)), (2, .int (bI pr))]) [0, 3, 4, 5, 6] rfl ?_
                have hle : v + 1 ≤ (trS ls pr (v + 1)).length := by rw [eT, List.length_append]; omega
                rw [← eT] at ht2 ⊢
                exact iho_ (v + 1) M2 (by omega) ⟨hle, hTF2, ht2, hfe2⟩
              · have g1 := gEnd_gt ls k nd.2.1 nd.2.2.1
                have g2 := gEnd_le (l := ls) (d := nd.2.2.1) c87
                obtain ⟨f, rfl⟩ : ∃ f0, f = f0 + 1 := ⟨f - 1, by omega⟩
                have ekf : kids ls pr nd = ks ++ (k, gEnd ls k nd.2.1 nd.2.2.1, (if pr then gTo ls k (gEnd ls k nd.2.1 nd.2.2.1) nd.2.2.1 else nd.2.2.1 + 1), nd.2.2.1) :: kidsF ls pr nd.2.1 nd.2.2.1 f (gEnd ls k nd.2.1 nd.2.2.1) := by
                  rw [hek]
                  show _ ++ (if k < nd.2.1 then _ else _) = _
                  rw [if_pos c87]
                have hkk := hn2.2.2 k (by omega)
                have hkl := hkk.1.2.1
                have hkd := hK.2.2 c87
                have hlen9 : ((trS ls pr v) ++ ks).length + 1 ≤ 2401 := by
                  have h8 := trS_len hO hO0 pr (v + 1)
                  rw [trS_succ hv, ← hnd, ekf, List.length_append, List.length_append] at h8
                  rw [List.length_append]
                  have : 1 ≤ ((k, gEnd ls k nd.2.1 nd.2.2.1, (if pr then gTo ls k (gEnd ls k nd.2.1 nd.2.2.1) nd.2.2.1 else nd.2.2.1 + 1), nd.2.2.1) :: kidsF ls pr nd.2.1 nd.2.2.1 f (gEnd ls k nd.2.1 nd.2.2.1)).length := by rw [List.length_cons]; omega
                  omega
                refine g_aload_n 4 0 C dX11_tree_90 rfl rfl ?_
                refine g_iload_n 5 1 C dX11_tree_91 rfl rfl ?_
                refine g_iload 0 C dX11_tree_92 rfl ?_
                refine g_aload_n 4 0 C dX11_tree_94 rfl rfl ?_
                refine gr_m_high C dX11_tree_95 hx.1 wF_X11_65 r_high ?_
                refine g_iload 2 C dX11_tree_98 rfl ?_
                refine ga_m_high C dX11_tree_100 k_high (by omega) ?_
                refine g_topi (hvv.2.1) ?_
                refine g_iload 1 C dX11_tree_101 rfl ?_
                refine g_callV (As := [.int (nI t), .int (nI k), .int (nI (nd.2.1)), .int (nI (nd.2.2.1))]) (rest := []) C dX11_tree_103 (c_M_groupEnd hx2 ht hn2 c87 (by omega) (by omega) (fun q a b => by
                  by_cases e : q = k
                  · rw [e]; exact hK.2.2 c87
                  · exact len_gt hs (by omega) (by omega) (hK.2.1 q (by omega) b)) hK.2.1) wC_X11_groupEnd wM_X11_144 wI_X11_groupEnd wS_X11_groupEnd wN_X11 (kne hx.1) (pf_11 hx.1) rfl hd_X11_groupEnd ⟨by decide, by decide, by decide, by decide⟩ (Nat.le_of_ble_eq_true rfl) (fun r_ S_ h_ => ?_)
                obtain ⟨rfl, rfl⟩ := h_
                change Go X G _ 9 _ _ (mo_ S M2) 106 [(6, .int (nI k)), (5, .int (nI (nd.2.2.1))), (4, .int (nI v)), (3, .int (nI (((trS ls pr v) ++ ks).length - 1))), (0, .ref x), (1, .int (nI t)), (2, .int (bI pr))] [.int (nI (gEnd ls k nd.2.1 nd.2.2.1))]
                refine g_istore (lv' := [(7, .int (nI (gEnd ls k nd.2.1 nd.2.2.1))), (6, .int (nI k)), (5, .int (nI (nd.2.2.1))), (4, .int (nI v)), (3, .int (nI (((trS ls pr v) ++ ks).length - 1))), (0, .ref x), (1, .int (nI t)), (2, .int (bI pr))]) C dX11_tree_106 (by decide) rfl ?_
                refine g_iload 2 C dX11_tree_108 rfl ?_
                refine g_iconst (v := nI 1) C dX11_tree_110 (by decide) ?_
                refine g_iadd C dX11_tree_111 ?_
                refine g_topi (nI_add _ _ : _ = nI (nd.2.2.1 + 1)) ?_
                refine g_istore (lv' := [(8, .int (nI (nd.2.2.1 + 1))), (7, .int (nI (gEnd ls k nd.2.1 nd.2.2.1))), (6, .int (nI k)), (5, .int (nI (nd.2.2.1))), (4, .int (nI v)), (3, .int (nI (((trS ls pr v) ++ ks).length - 1))), (0, .ref x), (1, .int (nI t)), (2, .int (bI pr))]) C dX11_tree_112 (by decide) rfl ?_
                have lp3 : ∀ (n_ : Nat) (i : Nat), 24 - i < n_ → (i ≤ 24 ∧ nd.2.2.1 + 1 + i ≤ 24 ∧ (pr = false → i = 0) ∧ (∀ q, q < i → nd.2.2.1 + 1 + q < (nm ls k).length ∧ gEnd ls k (gEnd ls k nd.2.1 nd.2.2.1) (nd.2.2.1 + 1 + q) = gEnd ls k nd.2.1 nd.2.2.1) ∧ ∀ q, k < q → q < gEnd ls k nd.2.1 nd.2.2.1 → nd.2.2.1 + 1 + i ≤ alN ls q) → Go X G (Qe X G (fun r S' => ∃ M', r = none ∧ S' = mo_ S M' ∧ TF M M' ∧ treeM M' (tr ls pr) ∧ feM M' ls pr ((tr ls pr).length + 1)) rm_X11_tree.cells rm_X11_tree.slots) 9 0 0 (mo_ S M2) 114 [(8, .int (nI (nd.2.2.1 + 1 + i))), (7, .int (nI (gEnd ls k nd.2.1 nd.2.2.1))), (6, .int (nI k)), (5, .int (nI (nd.2.2.1))), (4, .int (nI v)), (3, .int (nI (((trS ls pr v) ++ ks).length - 1))), (0, .ref x), (1, .int (nI t)), (2, .int (bI pr))] [] := by
                  intro n_
                  induction n_ with
                  | zero => intro i hm_; exact absurd hm_ (Nat.not_lt_zero _)
                  | succ n_ iht_ =>
                    intro i hm_ h3
                    refine g_iload_n 8 2 C dX11_tree_114 rfl rfl ?_
                    refine g_if_eq 157 C dX11_tree_115 (by decide) (fun c115 => ?_) (fun c115 => ?_)
                    · have epr := bI_f c115
                      have eto : (if pr then gTo ls k (gEnd ls k nd.2.1 nd.2.2.1) nd.2.2.1 else nd.2.2.1 + 1) = nd.2.2.1 + 1 + i := by rw [epr, h3.2.2.1 epr]; rfl
                      refine g_aload_n 6 0 C dX11_tree_157 rfl rfl ?_
                      refine g_iload 2 C dX11_tree_158 rfl ?_
                      refine g_iload 1 C dX11_tree_160 rfl ?_
                      refine g_iload 0 C dX11_tree_162 rfl ?_
                      refine g_iload 3 C dX11_tree_164 rfl ?_
                      refine g_callV (As := [.int (nI k), .int (nI (gEnd ls k nd.2.1 nd.2.2.1)), .int (nI (nd.2.2.1 + 1 + i)), .int (nI (nd.2.2.1))]) (rest := []) C dX11_tree_166 (c_M_addNode hx2 (by omega) ht2.1) wC_X11_addNode wM_X11_141 wI_X11_addNode wS_X11_addNode wN_X11 (kne hx.1) (pf_11 hx.1) rfl hd_X11_addNode ⟨by decide, by decide, by decide, by decide⟩ (Nat.le_of_ble_eq_true rfl) (fun r_ S_ h_ => ?_)
                      obtain ⟨rfl, rfl⟩ := h_
                      change Go X G _ 9 _ _ (mo_ S (addN M2 ((trS ls pr v) ++ ks).length k (gEnd ls k nd.2.1 nd.2.2.1) (nd.2.2.1 + 1 + i) nd.2.2.1)) 169 [(8, .int (nI (nd.2.2.1 + 1 + i))), (7, .int (nI (gEnd ls k nd.2.1 nd.2.2.1))), (6, .int (nI k)), (5, .int (nI (nd.2.2.1))), (4, .int (nI v)), (3, .int (nI (((trS ls pr v) ++ ks).length - 1))), (0, .ref x), (1, .int (nI t)), (2, .int (bI pr))] []
                      refine g_iinc (v := nI (((trS ls pr v) ++ ks).length - 1 + 1)) (lv' := [(3, .int (nI (((trS ls pr v) ++ ks).length - 1 + 1))), (8, .int (nI (nd.2.2.1 + 1 + i))), (7, .int (nI (gEnd ls k nd.2.1 nd.2.2.1))), (6, .int (nI k)), (5, .int (nI (nd.2.2.1))), (4, .int (nI v)), (0, .ref x), (1, .int (nI t)), (2, .int (bI pr))]) 5 C dX11_tree_169 rfl (nI_add _ 1) (by decide) rfl ?_
                      refine g_iload 2 C dX11_tree_172 rfl ?_
                      refine g_istore (lv' := [(6, .int (nI (gEnd ls k nd.2.1 nd.2.2.1))), (3, .int (nI (((trS ls pr v) ++ ks).length - 1 + 1))), (8, .int (nI (nd.2.2.1 + 1 + i))), (7, .int (nI (gEnd ls k nd.2.1 nd.2.2.1))), (5, .int (nI (nd.2.2.1))), (4, .int (nI v)), (0, .ref x), (1, .int (nI t)), (2, .int (bI pr))]) C dX11_tree_174 (by decide) rfl ?_
                      refine g_goto 78 C dX11_tree_176 (by decide) ?_
                      have eks : kids ls pr nd = (ks ++ [(k, gEnd ls k nd.2.1 nd.2.2.1, nd.2.2.1 + 1 + i, nd.2.2.1)]) ++ kidsF ls pr nd.2.1 nd.2.2.1 f (gEnd ls k nd.2.1 nd.2.2.1) := by
                        rw [← eto, List.append_assoc]; exact ekf
                      refine Go.pick (lv' := [(6, .int (nI (gEnd ls k nd.2.1 nd.2.2.1))), (5, .int (nI (nd.2.2.1))), (4, .int (nI v)), (3, .int (nI (((trS ls pr v) ++ ks).length - 1 + 1))), (0, .ref x), (1, .int (nI t)), (2, .int (bI pr))]) [0, 4, 5, 1, 6, 7, 8] rfl ?_
                      rw [show ((trS ls pr v) ++ ks).length - 1 + 1 = ((trS ls pr v) ++ (ks ++ [(k, gEnd ls k nd.2.1 nd.2.2.1, nd.2.2.1 + 1 + i, nd.2.2.1)])).length - 1 from by rw [← List.append_assoc, List.length_append (as := (trS ls pr v) ++ ks)]; show _ = _ + 1 - 1; have := hT1; rw [List.length_append]; omega]
                      exact ihk_ (gEnd ls k nd.2.1 nd.2.2.1) f _ _ (by omega) ⟨hK.next hs c87, g2, hTF2.trans TF.ad, by rw [← List.append_assoc]; exact ht2.add, hfe2, eks, by omega⟩
                    · have epr := bI_t c115
                      refine g_iload 0 C dX11_tree_118 rfl ?_
                      refine g_aload_n 6 0 C dX11_tree_120 rfl rfl ?_
                      refine gr_m_size C dX11_tree_121 hx.1 wF_X11_46 r_size ?_
                      refine g_bipush (v := nI 100) C dX11_tree_124 (by decide) ?_
                      refine g_iload_n 7 1 C dX11_tree_126 rfl rfl ?_
                      refine g_imul C dX11_tree_127 ?_
                      refine g_topi (pk_mul _ _ : _ = nI (100 * t)) ?_
                      refine g_iload 2 C dX11_tree_128 rfl ?_
                      refine g_iadd C dX11_tree_130 ?_
                      refine g_topi (nI_add _ _ : _ = nI (100 * t + k)) ?_
                      refine ga_m_size C dX11_tree_131 k_size (by omega) ?_
                      refine g_topi (hkk.2.1.1) ?_
                      refine g_ncmp_ge 157 (by omega) (by omega) C dX11_tree_132 (by decide) (fun c132 => ?_) (fun c132 => ?_)
                      · have eto : (if pr then gTo ls k (gEnd ls k nd.2.1 nd.2.2.1) nd.2.2.1 else nd.2.2.1 + 1) = nd.2.2.1 + 1 + i := by
                          rw [epr, if_pos rfl]
                          unfold gTo
                          rw [fN_eq (k := i) h3.1 (fun q hq => by rw [decide_eq_true (h3.2.2.2.1 q hq).1, decide_eq_true (h3.2.2.2.1 q hq).2]; rfl) (Or.inr (by rw [decide_eq_false (p := nd.2.2.1 + 1 + i < (nm ls k).length) (by omega)]; rfl))]
                        refine g_aload_n 6 0 C dX11_tree_157 rfl rfl ?_
                        refine g_iload 2 C dX11_tree_158 rfl ?_
                        refine g_iload 1 C dX11_tree_160 rfl ?_
                        refine g_iload 0 C dX11_tree_162 rfl ?_
                        refine g_iload 3 C dX11_tree_164 rfl ?_
                        refine g_callV (As := [.int (nI k), .int (nI (gEnd ls k nd.2.1 nd.2.2.1)), .int (nI (nd.2.2.1 + 1 + i)), .int (nI (nd.2.2.1))]) (rest := []) C dX11_tree_166 (c_M_addNode hx2 (by omega) ht2.1) wC_X11_addNode wM_X11_141 wI_X11_addNode wS_X11_addNode wN_X11 (kne hx.1) (pf_11 hx.1) rfl hd_X11_addNode ⟨by decide, by decide, by decide, by decide⟩ (Nat.le_of_ble_eq_true rfl) (fun r_ S_ h_ => ?_)
                        obtain ⟨rfl, rfl⟩ := h_
                        change Go X G _ 9 _ _ (mo_ S (addN M2 ((trS ls pr v) ++ ks).length k (gEnd ls k nd.2.1 nd.2.2.1) (nd.2.2.1 + 1 + i) nd.2.2.1)) 169 [(8, .int (nI (nd.2.2.1 + 1 + i))), (7, .int (nI (gEnd ls k nd.2.1 nd.2.2.1))), (6, .int (nI k)), (5, .int (nI (nd.2.2.1))), (4, .int (nI v)), (3, .int (nI (((trS ls pr v) ++ ks).length - 1))), (0, .ref x), (1, .int (nI t)), (2, .int (bI pr))] []
                        refine g_iinc (v := nI (((trS ls pr v) ++ ks).length - 1 + 1)) (lv' := [(3, .int (nI (((trS ls pr v) ++ ks).length - 1 + 1))), (8, .int (nI (nd.2.2.1 + 1 + i))), (7, .int (nI (gEnd ls k nd.2.1 nd.2.2.1))), (6, .int (nI k)), (5, .int (nI (nd.2.2.1))), (4, .int (nI v)), (0, .ref x), (1, .int (nI t)), (2, .int (bI pr))]) 5 C dX11_tree_169 rfl (nI_add _ 1) (by decide) rfl ?_
                        refine g_iload 2 C dX11_tree_172 rfl ?_
                        refine g_istore (lv' := [(6, .int (nI (gEnd ls k nd.2.1 nd.2.2.1))), (3, .int (nI (((trS ls pr v) ++ ks).length - 1 + 1))), (8, .int (nI (nd.2.2.1 + 1 + i))), (7, .int (nI (gEnd ls k nd.2.1 nd.2.2.1))), (5, .int (nI (nd.2.2.1))), (4, .int (nI v)), (0, .ref x), (1, .int (nI t)), (2, .int (bI pr))]) C dX11_tree_174 (by decide) rfl ?_
                        refine g_goto 78 C dX11_tree_176 (by decide) ?_
                        have eks : kids ls pr nd = (ks ++ [(k, gEnd ls k nd.2.1 nd.2.2.1, nd.2.2.1 + 1 + i, nd.2.2.1)]) ++ kidsF ls pr nd.2.1 nd.2.2.1 f (gEnd ls k nd.2.1 nd.2.2.1) := by
                          rw [← eto, List.append_assoc]; exact ekf
                        refine Go.pick (lv' := [(6, .int (nI (gEnd ls k nd.2.1 nd.2.2.1))), (5, .int (nI (nd.2.2.1))), (4, .int (nI v)), (3, .int (nI (((trS ls pr v) ++ ks).length - 1 + 1))), (0, .ref x), (1, .int (nI t)), (2, .int (bI pr))]) [0, 4, 5, 1, 6, 7, 8] rfl ?_
                        rw [show ((trS ls pr v) ++ ks).length - 1 + 1 = ((trS ls pr v) ++ (ks ++ [(k, gEnd ls k nd.2.1 nd.2.2.1, nd.2.2.1 + 1 + i, nd.2.2.1)])).length - 1 from by rw [← List.append_assoc, List.length_append (as := (trS ls pr v) ++ ks)]; show _ = _ + 1 - 1; have := hT1; rw [List.length_append]; omega]
                        exact ihk_ (gEnd ls k nd.2.1 nd.2.2.1) f _ _ (by omega) ⟨hK.next hs c87, g2, hTF2.trans TF.ad, by rw [← List.append_assoc]; exact ht2.add, hfe2, eks, by omega⟩
                      · refine g_aload_n 6 0 C dX11_tree_135 rfl rfl ?_
                        refine g_iload_n 7 1 C dX11_tree_136 rfl rfl ?_
                        refine g_iload 2 C dX11_tree_137 rfl ?_
                        refine g_iload 1 C dX11_tree_139 rfl ?_
                        refine g_iload 0 C dX11_tree_141 rfl ?_
                        refine g_callV (As := [.int (nI t), .int (nI k), .int (nI (gEnd ls k nd.2.1 nd.2.2.1)), .int (nI (nd.2.2.1 + 1 + i))]) (rest := []) C dX11_tree_143 (c_M_groupEnd hx2 ht hn2 g1 (by omega) (by omega) (fun q a b => by
                          by_cases e : q = k
                          · rw [e]; exact c132
                          · exact len_gt hs (by omega) (by omega) (h3.2.2.2.2 q (by omega) b)) h3.2.2.2.2) wC_X11_groupEnd wM_X11_144 wI_X11_groupEnd wS_X11_groupEnd wN_X11 (kne hx.1) (pf_11 hx.1) rfl hd_X11_groupEnd ⟨by decide, by decide, by decide, by decide⟩ (Nat.le_of_ble_eq_true rfl) (fun r_ S_ h_ => ?_)
                        obtain ⟨rfl, rfl⟩ := h_
                        change Go X G _ 9 _ _ (mo_ S M2) 146 [(8, .int (nI (nd.2.2.1 + 1 + i))), (7, .int (nI (gEnd ls k nd.2.1 nd.2.2.1))), (6, .int (nI k)), (5, .int (nI (nd.2.2.1))), (4, .int (nI v)), (3, .int (nI (((trS ls pr v) ++ ks).length - 1))), (0, .ref x), (1, .int (nI t)), (2, .int (bI pr))] [.int (nI (gEnd ls k (gEnd ls k nd.2.1 nd.2.2.1) (nd.2.2.1 + 1 + i)))]
                        have g9 := gEnd_le (l := ls) (d := nd.2.2.1 + 1 + i) g1
                        refine g_iload 1 C dX11_tree_146 rfl ?_
                        refine g_ncmp_ne 157 (by omega) (by omega) C dX11_tree_148 (by decide) (fun c148 => ?_) (fun c148 => ?_)
                        · have eto : (if pr then gTo ls k (gEnd ls k nd.2.1 nd.2.2.1) nd.2.2.1 else nd.2.2.1 + 1) = nd.2.2.1 + 1 + i := by
                            rw [epr, if_pos rfl]
                            unfold gTo
                            rw [fN_eq (k := i) h3.1 (fun q hq => by rw [decide_eq_true (h3.2.2.2.1 q hq).1, decide_eq_true (h3.2.2.2.1 q hq).2]; rfl) (Or.inr (by rw [decide_eq_false c148, Bool.and_false]))]
                          refine g_aload_n 6 0 C dX11_tree_157 rfl rfl ?_
                          refine g_iload 2 C dX11_tree_158 rfl ?_
                          refine g_iload 1 C dX11_tree_160 rfl ?_
                          refine g_iload 0 C dX11_tree_162 rfl ?_
                          refine g_iload 3 C dX11_tree_164 rfl ?_
                          refine g_callV (As := [.int (nI k), .int (nI (gEnd ls k nd.2.1 nd.2.2.1)), .int (nI (nd.2.2.1 + 1 + i)), .int (nI (nd.2.2.1))]) (rest := []) C dX11_tree_166 (c_M_addNode hx2 (by omega) ht2.1) wC_X11_addNode wM_X11_141 wI_X11_addNode wS_X11_addNode wN_X11 (kne hx.1) (pf_11 hx.1) rfl hd_X11_addNode ⟨by decide, by decide, by decide, by decide⟩ (Nat.le_of_ble_eq_true rfl) (fun r_ S_ h_ => ?_)
                          obtain ⟨rfl, rfl⟩ := h_
                          change Go X G _ 9 _ _ (mo_ S (addN M2 ((trS ls pr v) ++ ks).length k (gEnd ls k nd.2.1 nd.2.2.1) (nd.2.2.1 + 1 + i) nd.2.2.1)) 169 [(8, .int (nI (nd.2.2.1 + 1 + i))), (7, .int (nI (gEnd ls k nd.2.1 nd.2.2.1))), (6, .int (nI k)), (5, .int (nI (nd.2.2.1))), (4, .int (nI v)), (3, .int (nI (((trS ls pr v) ++ ks).length - 1))), (0, .ref x), (1, .int (nI t)), (2, .int (bI pr))] []
                          refine g_iinc (v := nI (((trS ls pr v) ++ ks).length - 1 + 1)) (lv' := [(3, .int (nI (((trS ls pr v) ++ ks).length - 1 + 1))), (8, .int (nI (nd.2.2.1 + 1 + i))), (7, .int (nI (gEnd ls k nd.2.1 nd.2.2.1))), (6, .int (nI k)), (5, .int (nI (nd.2.2.1))), (4, .int (nI v)), (0, .ref x), (1, .int (nI t)), (2, .int (bI pr))]) 5 C dX11_tree_169 rfl (nI_add _ 1) (by decide) rfl ?_
                          refine g_iload 2 C dX11_tree_172 rfl ?_
                          refine g_istore (lv' := [(6, .int (nI (gEnd ls k nd.2.1 nd.2.2.1))), (3, .int (nI (((trS ls pr v) ++ ks).length - 1 + 1))), (8, .int (nI (nd.2.2.1 + 1 + i))), (7, .int (nI (gEnd ls k nd.2.1 nd.2.2.1))), (5, .int (nI (nd.2.2.1))), (4, .int (nI v)), (0, .ref x), (1, .int (nI t)), (2, .int (bI pr))]) C dX11_tree_174 (by decide) rfl ?_
                          refine g_goto 78 C dX11_tree_176 (by decide) ?_
                          have eks : kids ls pr nd = (ks ++ [(k, gEnd ls k nd.2.1 nd.2.2.1, nd.2.2.1 + 1 + i, nd.2.2.1)]) ++ kidsF ls pr nd.2.1 nd.2.2.1 f (gEnd ls k nd.2.1 nd.2.2.1) := by
                            rw [← eto, List.append_assoc]; exact ekf
                          refine Go.pick (lv' := [(6, .int (nI (gEnd ls k nd.2.1 nd.2.2.1))), (5, .int (nI (nd.2.2.1))), (4, .int (nI v)), (3, .int (nI (((trS ls pr v) ++ ks).length - 1 + 1))), (0, .ref x), (1, .int (nI t)), (2, .int (bI pr))]) [0, 4, 5, 1, 6, 7, 8] rfl ?_
                          rw [show ((trS ls pr v) ++ ks).length - 1 + 1 = ((trS ls pr v) ++ (ks ++ [(k, gEnd ls k nd.2.1 nd.2.2.1, nd.2.2.1 + 1 + i, nd.2.2.1)])).length - 1 from by rw [← List.append_assoc, List.length_append (as := (trS ls pr v) ++ ks)]; show _ = _ + 1 - 1; have := hT1; rw [List.length_append]; omega]
                          exact ihk_ (gEnd ls k nd.2.1 nd.2.2.1) f _ _ (by omega) ⟨hK.next hs c87, g2, hTF2.trans TF.ad, by rw [← List.append_assoc]; exact ht2.add, hfe2, eks, by omega⟩
                        · refine g_iinc (v := nI (nd.2.2.1 + 1 + i + 1)) (lv' := [(8, .int (nI (nd.2.2.1 + 1 + i + 1))), (7, .int (nI (gEnd ls k nd.2.1 nd.2.2.1))), (6, .int (nI k)), (5, .int (nI (nd.2.2.1))), (4, .int (nI v)), (3, .int (nI (((trS ls pr v) ++ ks).length - 1))), (0, .ref x), (1, .int (nI t)), (2, .int (bI pr))]) 0 C dX11_tree_151 rfl (nI_add _ 1) (by decide) rfl ?_
                          refine g_goto 114 C dX11_tree_154 (by decide) ?_
                          exact iht_ (i + 1) (by omega) ⟨by omega, by omega, fun h => absurd h (by rw [epr]; decide), fun q hq => by
                            by_cases e : q = i
                            · rw [e]; exact ⟨c132, c148⟩
                            · exact h3.2.2.2.1 q (by omega), fun q a b => by have := gEnd_al (l := ls) (k := k) (hi := gEnd ls k nd.2.1 nd.2.2.1) (d := nd.2.2.1 + 1 + i) a (by rw [c148]; exact b); omega⟩
                rw [show nd.2.2.1 + 1 = nd.2.2.1 + 1 + 0 from rfl]
                exact lp3 25 0 (by omega) ⟨by omega, by omega, fun _ => rfl, fun q hq => absurd hq (Nat.not_lt_zero _), fun q a b => gEnd_al a b⟩
          rw [show (trS ls pr v).length - 1 = ((trS ls pr v) ++ []).length - 1 from by rw [List.append_nil]]
          exact lp2 (nd.2.1 + 1) (nd.1 + 1) (nd.2.1 - nd.1 + 1) [] _ (by omega) ⟨by rw [← hk0]; exact hk9.1, by rw [← hk0]; exact hk9.2.1, hh.2.1.trans TF.fe, by rw [List.append_nil]; exact hh.2.2.1, fun u hu => by
            by_cases e : u = v
            · rw [e]; exact pk_us.trans (by rw [List.append_nil])
            · exact (pk_un e).trans (hh.2.2.2 u (by omega)), by show kidsF ls pr nd.2.1 nd.2.2.1 (nd.2.1 - nd.1 + 1) (kid0 ls nd) = _; rw [hk0]; rfl, by omega⟩
  exact lp 2403 0 _ (by omega) ⟨Nat.zero_le _, TF.trans ⟨m_low M, m_high M, m_deep M, m_firstEdge M, m_stringFrom M, _, rfl⟩ (TF.ad (n := 0) (a := 0) (b := ls.length) (d := 0) (f := 0)), treeM.add (ns := []) ⟨rfl, fun u hu => absurd hu (Nat.not_lt_zero _)⟩, fun u hu => absurd hu (Nat.not_lt_zero _)⟩
