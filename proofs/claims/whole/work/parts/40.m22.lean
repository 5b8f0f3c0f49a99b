set_option maxRecDepth 100000 in
set_option maxHeartbeats 2000000 in
theorem c_M_goesDown {l : Launch} {G : Gx} {S : PS} {M : MoT} {x : Nat} (hx : MoOk S M x) {t : Nat} {ls : List Ent} {cur : List Nat} (ht : t < 12) (hl : namesM M t ls) (hO : okL ls) (hO0 : 0 < ls.length) (hc : curM M cur) (hc0 : okN cur) : Ct l yX11_goesDown cX11_goesDown 7 (Option.some Jvm.ClassFile.FieldType.int) rm_X11_goesDown G [.ref x, .int (nI t)] (mo_ S M) (fun r S' => ∃ M', r = some (.int (bI (dnIs ls cur))) ∧ S' = mo_ S M' ∧ (∃ M9, TF M M9 ∧ DF M9 M') ∧ dueM M' (dnD ls cur)) := by
  obtain ⟨q_firstEdge, r_firstEdge, k_firstEdge⟩ := hx.2 17 (by decide)
  obtain ⟨q_low, r_low, k_low⟩ := hx.2 14 (by decide)
  obtain ⟨q_name, r_name, k_name⟩ := hx.2 13 (by decide)
  have hl1 := hl.1
  have hcl := hc0.2.1
  have htok := tr_ok hO hO0 false
  refine Ct.mk RX11 "goesDown" hy_X11_goesDown (Nat.le_of_ble_eq_true rfl) (fun X hX C => ?_)
  change Go X G _ 7 0 0 (mo_ S M) 0 [(0, .ref x), (1, .int (nI t))] []
  refine g_aload_n 0 0 C dX11_goesDown_0 rfl rfl ?_
  refine g_iload_n 1 1 C dX11_goesDown_1 rfl rfl ?_
  refine g_iconst (v := nI 0) C dX11_goesDown_2 (by decide) ?_
  refine g_topi (show nI 0 = bI false from rfl) ?_
  refine g_callV (As := [.int (nI t), .int (bI false)]) (rest := []) C dX11_goesDown_3 (c_M_tree (pr := false) hx ht hl hO hO0) wC_X11_tree wM_X11_152 wI_X11_tree wS_X11_tree wN_X11 (kne hx.1) (pf_11 hx.1) rfl hd_X11_tree ⟨by decide, by decide, by decide, by decide⟩ (Nat.le_of_ble_eq_true rfl) (fun r_ S_ h_ => ?_)
  obtain ⟨M9, rfl, rfl, htf, htr, hfe⟩ := h_
  change Go X G _ 7 _ _ (mo_ S M9) 6 [(0, .ref x), (1, .int (nI t))] []
  have hx9 := hx.of htf.mo_r
  have hr0 : (ndAt ls false 0).2.2.1 = 0 := by rw [(nd_pre (n := 0) (pr := false) (l := ls) (by decide) (show 0 < 1 by decide)).2]; rfl
  refine g_aload_n 0 0 C dX11_goesDown_6 rfl rfl ?_
  refine g_iconst (v := nI 0) C dX11_goesDown_7 (by decide) ?_
  refine pp_m_dues C dX11_goesDown_8 hx.1 wF_X11_92 (Or.inl rfl) ?_
  refine g_iconst (v := nI 0) C dX11_goesDown_11 (by decide) ?_
  refine g_istore_n (lv' := [(2, .int (nI 0)), (0, .ref x), (1, .int (nI t))]) C dX11_goesDown_12 rfl (by decide) rfl ?_
  refine g_iconst (v := nI 0) C dX11_goesDown_13 (by decide) ?_
  refine g_istore_n (lv' := [(3, .int (nI 0)), (2, .int (nI 0)), (0, .ref x), (1, .int (nI t))]) C dX11_goesDown_14 rfl (by decide) rfl ?_
  refine g_iconst (v := nI 1) C dX11_goesDown_15 (by decide) ?_
  refine g_istore (lv' := [(4, .int (nI 1)), (3, .int (nI 0)), (2, .int (nI 0)), (0, .ref x), (1, .int (nI t))]) C dX11_goesDown_16 (by decide) rfl ?_
  have lp : ∀ (n_ : Nat) (i v : Nat) (D : List Int32) (M1 : MoT), cur.length - i < n_ → (i ≤ cur.length ∧ dnS ls cur i = (v, D, true) ∧ v < (tr ls false).length ∧ (ndAt ls false v).2.2.1 = i ∧ D.length = 3 * i ∧ DF M9 M1 ∧ dueM M1 D) → Go X G (Qe X G (fun r S' => ∃ M', r = some (.int (bI (dnIs ls cur))) ∧ S' = mo_ S M' ∧ (∃ M9, TF M M9 ∧ DF M9 M') ∧ dueM M' (dnD ls cur)) rm_X11_goesDown.cells rm_X11_goesDown.slots) 7 0 0 (mo_ S M1) 18 [(4, .int (nI 1)), (3, .int (nI i)), (2, .int (nI v)), (0, .ref x), (1, .int (nI t))] [] := by
    intro n_
    induction n_ with
    | zero => intro i v D M1 hm_; exact absurd hm_ (Nat.not_lt_zero _)
    | succ n_ iho_ =>
      intro i v D M1 hm_ hh
      obtain ⟨hi, hds, hv, hdp, hdl, hdf, hdu⟩ := hh
      have hx1 := hx9.of hdf.mo_r
      obtain ⟨kp1, kp2, kp3, kp4, -⟩ := hdf.keep
      have hn1 := kp1 _ _ (htf.names hl)
      have htr1 := kp2 _ htr
      have hfe1 := kp3 _ _ _ hfe
      have hc1 := kp4 _ (htf.keep.1 _ hc)
      have hfb : fe ls v + dgN ls v ≤ 2400 := by
        rw [← fe_succ hO hO0]
        have := trS_len hO hO0 false (v + 1)
        unfold fe
        omega
      obtain ⟨q_firstEdge, r_firstEdge, k_firstEdge⟩ := hx1.2 17 (by decide)
      obtain ⟨q_low, r_low, k_low⟩ := hx1.2 14 (by decide)
      obtain ⟨q_name, r_name, k_name⟩ := hx1.2 13 (by decide)
      refine g_iload_n 1 3 C dX11_goesDown_18 rfl rfl ?_
      refine g_aload_n 3 0 C dX11_goesDown_19 rfl rfl ?_
      refine gf_m_length C dX11_goesDown_20 hx.1 wF_X11_59 ?_
      refine g_topi (hc1.1) ?_
      refine g_ncmp_ge 147 (by omega) (by omega) C dX11_goesDown_23 (by decide) (fun c23 => ?_) (fun c23 => ?_)
      · refine g_iload_n 1 3 C dX11_goesDown_147 rfl rfl ?_
        refine g_aload_n 3 0 C dX11_goesDown_148 rfl rfl ?_
        refine gf_m_length C dX11_goesDown_149 hx.1 wF_X11_59 ?_
        refine g_topi (hc1.1) ?_
        refine g_ncmp_ne 168 (by omega) (by omega) C dX11_goesDown_152 (by decide) (fun c152 => ?_) (fun c152 => ?_)
        · omega
        · obtain ⟨nv, hnv⟩ : ∃ nv, nv = ndAt ls false v := ⟨_, rfl⟩
          have hNv := htr1.2 v hv
          rw [show (tr ls false).getD v (0, 0, 0, 0) = nv from hnv.symm] at hNv
          have hov := htok.2.2 v hv
          rw [← hnv] at hov
          have o1 := hov.1
          have o2 := hov.2.1
          have o3 := hov.2.2.1
          have hll := (hn1.2.2 nv.1 (by omega)).1.2.1
          refine g_aload_n 3 0 C dX11_goesDown_155 rfl rfl ?_
          refine g_iload_n 4 1 C dX11_goesDown_156 rfl rfl ?_
          refine g_iload_n 2 2 C dX11_goesDown_157 rfl rfl ?_
          refine g_callV (As := [.int (nI t), .int (nI v)]) (rest := []) C dX11_goesDown_158 (c_M_isEnd hx1 ht hn1 (by omega) hNv.1 (by omega) hNv.2.2.1 (by omega)) wC_X11_isEnd wM_X11_156 wI_X11_isEnd wS_X11_isEnd wN_X11 (kne hx.1) (pf_11 hx.1) rfl hd_X11_isEnd ⟨by decide, by decide, by decide, by decide⟩ (Nat.le_of_ble_eq_true rfl) (fun r_ S_ h_ => ?_)
          obtain ⟨rfl, rfl⟩ := h_
          change Go X G _ 7 _ _ (mo_ S M1) 161 [(4, .int (nI 1)), (3, .int (nI i)), (2, .int (nI v)), (0, .ref x), (1, .int (nI t))] [.int (bI (isEndN ls nv))]
          refine g_if_eq 168 C dX11_goesDown_161 (by decide) (fun c161 => ?_) (fun c161 => ?_)
          · refine g_iconst (v := nI 0) C dX11_goesDown_168 (by decide) ?_
            refine g_istore (lv' := [(5, .int (nI 0)), (4, .int (nI 1)), (3, .int (nI i)), (2, .int (nI v)), (0, .ref x), (1, .int (nI t))]) C dX11_goesDown_169 (by decide) rfl ?_
            refine g_aload_n 4 0 C dX11_goesDown_171 rfl rfl ?_
            refine g_iconst (v := -1) C dX11_goesDown_172 (by decide) ?_
            refine g_callV (As := [.int (-1)]) (rest := []) C dX11_goesDown_173 (c_M_tell (M := M1) hx1 (by omega) hdu.1) wC_X11_tell wM_X11_214 wI_X11_tell wS_X11_tell wN_X11 (kne hx.1) (pf_11 hx.1) rfl hd_X11_tell ⟨by decide, by decide, by decide, by decide⟩ (Nat.le_of_ble_eq_true rfl) (fun r_ S_ h_ => ?_)
            obtain ⟨rfl, rfl⟩ := h_
            change Go X G _ 7 _ _ (mo_ S (tlM M1 D.length (-1))) 176 [(5, .int (nI 0)), (4, .int (nI 1)), (3, .int (nI i)), (2, .int (nI v)), (0, .ref x), (1, .int (nI t))] []
            refine g_aload_n 4 0 C dX11_goesDown_176 rfl rfl ?_
            refine g_iload_n 3 2 C dX11_goesDown_177 rfl rfl ?_
            refine g_callV (As := [.int (nI v)]) (rest := []) C dX11_goesDown_178 (c_M_tell (M := (tlM M1 D.length (-1))) hx1 (by omega) rfl) wC_X11_tell wM_X11_214 wI_X11_tell wS_X11_tell wN_X11 (kne hx.1) (pf_11 hx.1) rfl hd_X11_tell ⟨by decide, by decide, by decide, by decide⟩ (Nat.le_of_ble_eq_true rfl) (fun r_ S_ h_ => ?_)
            obtain ⟨rfl, rfl⟩ := h_
            change Go X G _ 7 _ _ (mo_ S (tlM (tlM M1 D.length (-1)) (D.length + 1) (nI v))) 181 [(5, .int (nI 0)), (4, .int (nI 1)), (3, .int (nI i)), (2, .int (nI v)), (0, .ref x), (1, .int (nI t))] []
            refine g_aload_n 4 0 C dX11_goesDown_181 rfl rfl ?_
            refine g_iload 0 C dX11_goesDown_182 rfl ?_
            refine g_callV (As := [.int (nI 0)]) (rest := []) C dX11_goesDown_184 (c_M_tell (M := (tlM (tlM M1 D.length (-1)) (D.length + 1) (nI v))) hx1 (by omega) rfl) wC_X11_tell wM_X11_214 wI_X11_tell wS_X11_tell wN_X11 (kne hx.1) (pf_11 hx.1) rfl hd_X11_tell ⟨by decide, by decide, by decide, by decide⟩ (Nat.le_of_ble_eq_true rfl) (fun r_ S_ h_ => ?_)
            obtain ⟨rfl, rfl⟩ := h_
            change Go X G _ 7 _ _ (mo_ S (tlM (tlM (tlM M1 D.length (-1)) (D.length + 1) (nI v)) (D.length + 2) (nI 0))) 187 [(5, .int (nI 0)), (4, .int (nI 1)), (3, .int (nI i)), (2, .int (nI v)), (0, .ref x), (1, .int (nI t))] []
            refine g_iload 0 C dX11_goesDown_187 rfl ?_
            rw [show i = cur.length by omega] at hds
            obtain ⟨e1, e2⟩ := dn_end hds (s := false) (by rw [← hnv, bI_f c161]; rfl)
            exact g_iret C dX11_goesDown_189 (by decide) (by decide) (⟨_, by rw [e1]; rfl, rfl, ⟨M9, htf, ((hdf.trans DF.tl).trans DF.tl).trans DF.tl⟩, by rw [e2]; exact hdu.add3⟩)
          · refine g_iconst (v := nI 1) C dX11_goesDown_164 (by decide) ?_
            refine g_goto 169 C dX11_goesDown_165 (by decide) ?_
            refine g_istore (lv' := [(5, .int (nI 1)), (4, .int (nI 1)), (3, .int (nI i)), (2, .int (nI v)), (0, .ref x), (1, .int (nI t))]) C dX11_goesDown_169 (by decide) rfl ?_
            refine g_aload_n 4 0 C dX11_goesDown_171 rfl rfl ?_
            refine g_iconst (v := -1) C dX11_goesDown_172 (by decide) ?_
            refine g_callV (As := [.int (-1)]) (rest := []) C dX11_goesDown_173 (c_M_tell (M := M1) hx1 (by omega) hdu.1) wC_X11_tell wM_X11_214 wI_X11_tell wS_X11_tell wN_X11 (kne hx.1) (pf_11 hx.1) rfl hd_X11_tell ⟨by decide, by decide, by decide, by decide⟩ (Nat.le_of_ble_eq_true rfl) (fun r_ S_ h_ => ?_)
            obtain ⟨rfl, rfl⟩ := h_
            change Go X G _ 7 _ _ (mo_ S (tlM M1 D.length (-1))) 176 [(5, .int (nI 1)), (4, .int (nI 1)), (3, .int (nI i)), (2, .int (nI v)), (0, .ref x), (1, .int (nI t))] []
            refine g_aload_n 4 0 C dX11_goesDown_176 rfl rfl ?_
            refine g_iload_n 3 2 C dX11_goesDown_177 rfl rfl ?_
            refine g_callV (As := [.int (nI v)]) (rest := []) C dX11_goesDown_178 (c_M_tell (M := (tlM M1 D.length (-1))) hx1 (by omega) rfl) wC_X11_tell wM_X11_214 wI_X11_tell wS_X11_tell wN_X11 (kne hx.1) (pf_11 hx.1) rfl hd_X11_tell ⟨by decide, by decide, by decide, by decide⟩ (Nat.le_of_ble_eq_true rfl) (fun r_ S_ h_ => ?_)
            obtain ⟨rfl, rfl⟩ := h_
            change Go X G _ 7 _ _ (mo_ S (tlM (tlM M1 D.length (-1)) (D.length + 1) (nI v))) 181 [(5, .int (nI 1)), (4, .int (nI 1)), (3, .int (nI i)), (2, .int (nI v)), (0, .ref x), (1, .int (nI t))] []
            refine g_aload_n 4 0 C dX11_goesDown_181 rfl rfl ?_
            refine g_iload 0 C dX11_goesDown_182 rfl ?_
            refine g_callV (As := [.int (nI 1)]) (rest := []) C dX11_goesDown_184 (c_M_tell (M := (tlM (tlM M1 D.length (-1)) (D.length + 1) (nI v))) hx1 (by omega) rfl) wC_X11_tell wM_X11_214 wI_X11_tell wS_X11_tell wN_X11 (kne hx.1) (pf_11 hx.1) rfl hd_X11_tell ⟨by decide, by decide, by decide, by decide⟩ (Nat.le_of_ble_eq_true rfl) (fun r_ S_ h_ => ?_)
            obtain ⟨rfl, rfl⟩ := h_
            change Go X G _ 7 _ _ (mo_ S (tlM (tlM (tlM M1 D.length (-1)) (D.length + 1) (nI v)) (D.length + 2) (nI 1))) 187 [(5, .int (nI 1)), (4, .int (nI 1)), (3, .int (nI i)), (2, .int (nI v)), (0, .ref x), (1, .int (nI t))] []
            refine g_iload 0 C dX11_goesDown_187 rfl ?_
            rw [show i = cur.length by omega] at hds
            obtain ⟨e1, e2⟩ := dn_end hds (s := true) (by rw [← hnv, bI_t c161]; rfl)
            exact g_iret C dX11_goesDown_189 (by decide) (by decide) (⟨_, by rw [e1]; rfl, rfl, ⟨M9, htf, ((hdf.trans DF.tl).trans DF.tl).trans DF.tl⟩, by rw [e2]; exact hdu.add3⟩)
      · refine g_iload 0 C dX11_goesDown_26 rfl ?_
        refine g_nif_eq 147 (by decide) C dX11_goesDown_28 (by decide) (fun c => absurd c (by decide)) (fun _ => ?_)
        refine g_iconst (v := nI 0) C dX11_goesDown_31 (by decide) ?_
        refine g_istore (lv' := [(4, .int (nI 0)), (3, .int (nI i)), (2, .int (nI v)), (0, .ref x), (1, .int (nI t))]) C dX11_goesDown_32 (by decide) rfl ?_
        refine g_iload_n 2 2 C dX11_goesDown_34 rfl rfl ?_
        refine g_istore (lv' := [(5, .int (nI v)), (4, .int (nI 0)), (3, .int (nI i)), (2, .int (nI v)), (0, .ref x), (1, .int (nI t))]) C dX11_goesDown_35 (by decide) rfl ?_
        refine g_aload_n 4 0 C dX11_goesDown_37 rfl rfl ?_
        refine gr_m_firstEdge C dX11_goesDown_38 hx.1 wF_X11_71 r_firstEdge ?_
        refine g_iload 0 C dX11_goesDown_41 rfl ?_
        refine ga_m_firstEdge C dX11_goesDown_43 k_firstEdge (by omega) ?_
        refine g_topi (hfe1 v (by omega)) ?_
        refine g_istore (lv' := [(6, .int (nI (fe ls v))), (5, .int (nI v)), (4, .int (nI 0)), (3, .int (nI i)), (2, .int (nI v)), (0, .ref x), (1, .int (nI t))]) C dX11_goesDown_44 (by decide) rfl ?_
        have lp2 : ∀ (n_ : Nat) (q : Nat), dgN ls v - q < n_ → (q ≤ dgN ls v ∧ ∀ p, p < q → edB ls (fe ls v + p) i ≠ cur.getD i 0) → Go X G (Qe X G (fun r S' => ∃ M', r = some (.int (bI (dnIs ls cur))) ∧ S' = mo_ S M' ∧ (∃ M9, TF M M9 ∧ DF M9 M') ∧ dueM M' (dnD ls cur)) rm_X11_goesDown.cells rm_X11_goesDown.slots) 7 0 0 (mo_ S M1) 46 [(6, .int (nI (fe ls v + q))), (5, .int (nI v)), (4, .int (nI 0)), (3, .int (nI i)), (2, .int (nI v)), (0, .ref x), (1, .int (nI t))] [] := by
          intro n_
          induction n_ with
          | zero => intro q hm_; exact absurd hm_ (Nat.not_lt_zero _)
          | succ n_ ih_ =>
            intro q hm_ hh
            obtain ⟨hq1, hq2⟩ := hh
            refine g_iload 0 C dX11_goesDown_46 rfl ?_
            refine g_aload_n 5 0 C dX11_goesDown_48 rfl rfl ?_
            refine gr_m_firstEdge C dX11_goesDown_49 hx.1 wF_X11_71 r_firstEdge ?_
            refine g_iload 1 C dX11_goesDown_52 rfl ?_
            refine g_iconst (v := nI 1) C dX11_goesDown_54 (by decide) ?_
            refine g_iadd C dX11_goesDown_55 ?_
            refine g_topi (nI_add _ _ : _ = nI (v + 1)) ?_
            refine ga_m_firstEdge C dX11_goesDown_56 k_firstEdge (by omega) ?_
            refine g_topi (((hfe1 (v + 1) (by omega)).trans (congrArg nI (fe_succ hO hO0 v)) : _ = nI (fe ls v + dgN ls v))) ?_
            refine g_ncmp_ge 131 (by omega) (by omega) C dX11_goesDown_57 (by decide) (fun c57 => ?_) (fun c57 => ?_)
            · have hno := dnS_no hds (fun p hp => hq2 p (by omega)) (by omega)
              refine g_iload_n 3 3 C dX11_goesDown_131 rfl rfl ?_
              refine g_iload 2 C dX11_goesDown_132 rfl ?_
              refine g_nif_eq 141 (by decide) C dX11_goesDown_134 (by decide) (fun _ => ?_) (fun c => absurd c (by decide))
              refine g_iconst (v := nI 0) C dX11_goesDown_141 (by decide) ?_
              refine g_iadd C dX11_goesDown_142 ?_
              refine g_topi (nI_add _ _ : _ = nI (i + 0)) ?_
              refine g_istore_n (lv' := [(3, .int (nI (i + 0))), (6, .int (nI (fe ls v + q))), (5, .int (nI v)), (4, .int (nI 0)), (2, .int (nI v)), (0, .ref x), (1, .int (nI t))]) C dX11_goesDown_143 rfl (by decide) rfl ?_
              refine g_goto 18 C dX11_goesDown_144 (by decide) ?_
              refine g_iload_n 0 3 C dX11_goesDown_18 rfl rfl ?_
              refine g_aload_n 5 0 C dX11_goesDown_19 rfl rfl ?_
              refine gf_m_length C dX11_goesDown_20 hx.1 wF_X11_59 ?_
              refine g_topi (hc1.1) ?_
              refine g_ncmp_ge 147 (by omega) (by omega) C dX11_goesDown_23 (by decide) (fun c23 => ?_) (fun c23 => ?_)
              · omega
              · refine g_iload 3 C dX11_goesDown_26 rfl ?_
                refine g_nif_eq 147 (by decide) C dX11_goesDown_28 (by decide) (fun _ => ?_) (fun c => absurd c (by decide))
                refine g_iload_n 0 3 C dX11_goesDown_147 rfl rfl ?_
                refine g_aload_n 5 0 C dX11_goesDown_148 rfl rfl ?_
                refine gf_m_length C dX11_goesDown_149 hx.1 wF_X11_59 ?_
                refine g_topi (hc1.1) ?_
                refine g_ncmp_ne 168 (by omega) (by omega) C dX11_goesDown_152 (by decide) (fun c152 => ?_) (fun c152 => ?_)
                · refine g_iconst (v := nI 0) C dX11_goesDown_168 (by decide) ?_
                  refine g_istore (lv' := [(5, .int (nI 0)), (3, .int (nI (i + 0))), (6, .int (nI (fe ls v + q))), (4, .int (nI 0)), (2, .int (nI v)), (0, .ref x), (1, .int (nI t))]) C dX11_goesDown_169 (by decide) rfl ?_
                  refine g_aload_n 5 0 C dX11_goesDown_171 rfl rfl ?_
                  refine g_iconst (v := -1) C dX11_goesDown_172 (by decide) ?_
                  refine g_callV (As := [.int (-1)]) (rest := []) C dX11_goesDown_173 (c_M_tell (M := M1) hx1 (by omega) hdu.1) wC_X11_tell wM_X11_214 wI_X11_tell wS_X11_tell wN_X11 (kne hx.1) (pf_11 hx.1) rfl hd_X11_tell ⟨by decide, by decide, by decide, by decide⟩ (Nat.le_of_ble_eq_true rfl) (fun r_ S_ h_ => ?_)
                  obtain ⟨rfl, rfl⟩ := h_
                  change Go X G _ 7 _ _ (mo_ S (tlM M1 D.length (-1))) 176 [(5, .int (nI 0)), (3, .int (nI (i + 0))), (6, .int (nI (fe ls v + q))), (4, .int (nI 0)), (2, .int (nI v)), (0, .ref x), (1, .int (nI t))] []
                  refine g_aload_n 5 0 C dX11_goesDown_176 rfl rfl ?_
                  refine g_iload_n 4 2 C dX11_goesDown_177 rfl rfl ?_
                  refine g_callV (As := [.int (nI v)]) (rest := []) C dX11_goesDown_178 (c_M_tell (M := (tlM M1 D.length (-1))) hx1 (by omega) rfl) wC_X11_tell wM_X11_214 wI_X11_tell wS_X11_tell wN_X11 (kne hx.1) (pf_11 hx.1) rfl hd_X11_tell ⟨by decide, by decide, by decide, by decide⟩ (Nat.le_of_ble_eq_true rfl) (fun r_ S_ h_ => ?_)
                  obtain ⟨rfl, rfl⟩ := h_
                  change Go X G _ 7 _ _ (mo_ S (tlM (tlM M1 D.length (-1)) (D.length + 1) (nI v))) 181 [(5, .int (nI 0)), (3, .int (nI (i + 0))), (6, .int (nI (fe ls v + q))), (4, .int (nI 0)), (2, .int (nI v)), (0, .ref x), (1, .int (nI t))] []
                  refine g_aload_n 5 0 C dX11_goesDown_181 rfl rfl ?_
                  refine g_iload 0 C dX11_goesDown_182 rfl ?_
                  refine g_callV (As := [.int (nI 0)]) (rest := []) C dX11_goesDown_184 (c_M_tell (M := (tlM (tlM M1 D.length (-1)) (D.length + 1) (nI v))) hx1 (by omega) rfl) wC_X11_tell wM_X11_214 wI_X11_tell wS_X11_tell wN_X11 (kne hx.1) (pf_11 hx.1) rfl hd_X11_tell ⟨by decide, by decide, by decide, by decide⟩ (Nat.le_of_ble_eq_true rfl) (fun r_ S_ h_ => ?_)
                  obtain ⟨rfl, rfl⟩ := h_
                  change Go X G _ 7 _ _ (mo_ S (tlM (tlM (tlM M1 D.length (-1)) (D.length + 1) (nI v)) (D.length + 2) (nI 0))) 187 [(5, .int (nI 0)), (3, .int (nI (i + 0))), (6, .int (nI (fe ls v + q))), (4, .int (nI 0)), (2, .int (nI v)), (0, .ref x), (1, .int (nI t))] []
                  refine g_iload 0 C dX11_goesDown_187 rfl ?_
                  obtain ⟨e1, e2⟩ := dn_end hno (s := false) rfl
                  exact g_iret C dX11_goesDown_189 (by decide) (by decide) (⟨_, by rw [e1]; rfl, rfl, ⟨M9, htf, ((hdf.trans DF.tl).trans DF.tl).trans DF.tl⟩, by rw [e2]; exact hdu.add3⟩)
                · omega
            · have hq : q < dgN ls v := by omega
              obtain ⟨g1, g2, g3⟩ := ed_ok hO hO0 hv hq
              have hN := htr1.2 _ g1
              obtain ⟨nd, hnd⟩ : ∃ nd, nd = ndAt ls false (fe ls v + q + 1) := ⟨_, rfl⟩
              rw [show (tr ls false).getD (fe ls v + q + 1) (0, 0, 0, 0) = nd from hnd.symm] at hN
              have hon := htok.2.2 _ g1
              rw [← hnd] at hon g2 g3
              have o1 := hon.1
              have o2 := hon.2.1
              have o3 := hon.2.2.1
              have hk := hn1.2.2 nd.1 (by omega)
              have hkl := hk.1.2.1
              have hb1 := hk.1.2.2 i (by omega)
              have hb2 := hc0.2.2 i (by omega)
              refine g_iload 2 C dX11_goesDown_60 rfl ?_
              refine g_nif_ne 131 (by decide) C dX11_goesDown_62 (by decide) (fun c => absurd c (by decide)) (fun _ => ?_)
              refine g_aload_n 5 0 C dX11_goesDown_65 rfl rfl ?_
              refine g_iload_n 6 1 C dX11_goesDown_66 rfl rfl ?_
              refine g_aload_n 5 0 C dX11_goesDown_67 rfl rfl ?_
              refine gr_m_low C dX11_goesDown_68 hx.1 wF_X11_62 r_low ?_
              refine g_iload 0 C dX11_goesDown_71 rfl ?_
              refine g_iconst (v := nI 1) C dX11_goesDown_73 (by decide) ?_
              refine g_iadd C dX11_goesDown_74 ?_
              refine g_topi (nI_add _ _ : _ = nI (fe ls v + q + 1)) ?_
              refine ga_m_low C dX11_goesDown_75 k_low (by omega) ?_
              refine g_topi (hN.1) ?_
              refine g_iload_n 3 3 C dX11_goesDown_76 rfl rfl ?_
              refine g_callV (As := [.int (nI t), .int (nI (nd.1)), .int (nI i)]) (rest := []) C dX11_goesDown_77 (c_M_byteAt hx1 ht (by omega) (by omega)) wC_X11_byteAt wM_X11_111 wI_X11_byteAt wS_X11_byteAt wN_X11 (kne hx.1) (pf_11 hx.1) rfl hd_X11_byteAt ⟨by decide, by decide, by decide, by decide⟩ (Nat.le_of_ble_eq_true rfl) (fun r_ S_ h_ => ?_)
              obtain ⟨rfl, rfl⟩ := h_
              change Go X G _ 7 _ _ (mo_ S M1) 80 [(6, .int (nI (fe ls v + q))), (5, .int (nI v)), (4, .int (nI 0)), (3, .int (nI i)), (2, .int (nI v)), (0, .ref x), (1, .int (nI t))] [.int (m_bytes M1 (24 * (100 * t + nd.1) + i))]
              refine g_topi (hk.2.1.2 i (by omega)) ?_
              refine g_aload_n 5 0 C dX11_goesDown_80 rfl rfl ?_
              refine gr_m_name C dX11_goesDown_81 hx.1 wF_X11_56 r_name ?_
              refine g_iload_n 3 3 C dX11_goesDown_84 rfl rfl ?_
              refine ga_m_name C dX11_goesDown_85 k_name (by omega) ?_
              refine g_topi (hc1.2 i (by omega)) ?_
              refine g_ncmp_eq 92 (by omega) (by omega) C dX11_goesDown_86 (by decide) (fun c86 => ?_) (fun c86 => ?_)
              · refine g_aload_n 5 0 C dX11_goesDown_92 rfl rfl ?_
                refine g_iload 0 C dX11_goesDown_93 rfl ?_
                refine g_iload 1 C dX11_goesDown_95 rfl ?_
                refine g_iadd C dX11_goesDown_97 ?_
                refine g_topi (nI_add _ _ : _ = nI (fe ls v + q + v)) ?_
                refine g_callV (As := [.int (nI (fe ls v + q + v))]) (rest := []) C dX11_goesDown_98 (c_M_tell (M := M1) hx1 (by omega) hdu.1) wC_X11_tell wM_X11_214 wI_X11_tell wS_X11_tell wN_X11 (kne hx.1) (pf_11 hx.1) rfl hd_X11_tell ⟨by decide, by decide, by decide, by decide⟩ (Nat.le_of_ble_eq_true rfl) (fun r_ S_ h_ => ?_)
                obtain ⟨rfl, rfl⟩ := h_
                change Go X G _ 7 _ _ (mo_ S (tlM M1 D.length (nI (fe ls v + q + v)))) 101 [(6, .int (nI (fe ls v + q))), (5, .int (nI v)), (4, .int (nI 0)), (3, .int (nI i)), (2, .int (nI v)), (0, .ref x), (1, .int (nI t))] []
                refine g_aload_n 5 0 C dX11_goesDown_101 rfl rfl ?_
                refine g_iload 0 C dX11_goesDown_102 rfl ?_
                refine g_callV (As := [.int (nI (fe ls v + q))]) (rest := []) C dX11_goesDown_104 (c_M_tell (M := (tlM M1 D.length (nI (fe ls v + q + v)))) hx1 (by omega) rfl) wC_X11_tell wM_X11_214 wI_X11_tell wS_X11_tell wN_X11 (kne hx.1) (pf_11 hx.1) rfl hd_X11_tell ⟨by decide, by decide, by decide, by decide⟩ (Nat.le_of_ble_eq_true rfl) (fun r_ S_ h_ => ?_)
                obtain ⟨rfl, rfl⟩ := h_
                change Go X G _ 7 _ _ (mo_ S (tlM (tlM M1 D.length (nI (fe ls v + q + v))) (D.length + 1) (nI (fe ls v + q)))) 107 [(6, .int (nI (fe ls v + q))), (5, .int (nI v)), (4, .int (nI 0)), (3, .int (nI i)), (2, .int (nI v)), (0, .ref x), (1, .int (nI t))] []
                refine g_aload_n 5 0 C dX11_goesDown_107 rfl rfl ?_
                refine g_aload_n 5 0 C dX11_goesDown_108 rfl rfl ?_
                refine gr_m_name C dX11_goesDown_109 hx.1 wF_X11_56 r_name ?_
                refine g_iload_n 3 3 C dX11_goesDown_112 rfl rfl ?_
                refine ga_m_name C dX11_goesDown_113 k_name (by omega) ?_
                refine g_topi (hc1.2 i (by omega)) ?_
                refine g_callV (As := [.int (nI (cur.getD i 0))]) (rest := []) C dX11_goesDown_114 (c_M_tell (M := (tlM (tlM M1 D.length (nI (fe ls v + q + v))) (D.length + 1) (nI (fe ls v + q)))) hx1 (by omega) rfl) wC_X11_tell wM_X11_214 wI_X11_tell wS_X11_tell wN_X11 (kne hx.1) (pf_11 hx.1) rfl hd_X11_tell ⟨by decide, by decide, by decide, by decide⟩ (Nat.le_of_ble_eq_true rfl) (fun r_ S_ h_ => ?_)
                obtain ⟨rfl, rfl⟩ := h_
                change Go X G _ 7 _ _ (mo_ S (tlM (tlM (tlM M1 D.length (nI (fe ls v + q + v))) (D.length + 1) (nI (fe ls v + q))) (D.length + 2) (nI (cur.getD i 0)))) 117 [(6, .int (nI (fe ls v + q))), (5, .int (nI v)), (4, .int (nI 0)), (3, .int (nI i)), (2, .int (nI v)), (0, .ref x), (1, .int (nI t))] []
                refine g_iload 0 C dX11_goesDown_117 rfl ?_
                refine g_iconst (v := nI 1) C dX11_goesDown_119 (by decide) ?_
                refine g_iadd C dX11_goesDown_120 ?_
                refine g_topi (nI_add _ _ : _ = nI (fe ls v + q + 1)) ?_
                refine g_istore_n (lv' := [(2, .int (nI (fe ls v + q + 1))), (6, .int (nI (fe ls v + q))), (5, .int (nI v)), (4, .int (nI 0)), (3, .int (nI i)), (0, .ref x), (1, .int (nI t))]) C dX11_goesDown_121 rfl (by decide) rfl ?_
                refine g_iconst (v := nI 1) C dX11_goesDown_122 (by decide) ?_
                refine g_istore (lv' := [(4, .int (nI 1)), (2, .int (nI (fe ls v + q + 1))), (6, .int (nI (fe ls v + q))), (5, .int (nI v)), (3, .int (nI i)), (0, .ref x), (1, .int (nI t))]) C dX11_goesDown_123 (by decide) rfl ?_
                refine g_iinc (v := nI (fe ls v + q + 1)) (lv' := [(6, .int (nI (fe ls v + q + 1))), (4, .int (nI 1)), (2, .int (nI (fe ls v + q + 1))), (5, .int (nI v)), (3, .int (nI i)), (0, .ref x), (1, .int (nI t))]) 2 C dX11_goesDown_125 rfl (nI_add _ 1) (by decide) rfl ?_
                refine g_goto 46 C dX11_goesDown_128 (by decide) ?_
                refine g_iload 0 C dX11_goesDown_46 rfl ?_
                refine g_aload_n 5 0 C dX11_goesDown_48 rfl rfl ?_
                refine gr_m_firstEdge C dX11_goesDown_49 hx.1 wF_X11_71 r_firstEdge ?_
                refine g_iload 3 C dX11_goesDown_52 rfl ?_
                refine g_iconst (v := nI 1) C dX11_goesDown_54 (by decide) ?_
                refine g_iadd C dX11_goesDown_55 ?_
                refine g_topi (nI_add _ _ : _ = nI (v + 1)) ?_
                refine ga_m_firstEdge C dX11_goesDown_56 k_firstEdge (by omega) ?_
                refine g_topi (((hfe1 (v + 1) (by omega)).trans (congrArg nI (fe_succ hO hO0 v)) : _ = nI (fe ls v + dgN ls v))) ?_
                refine g_ncmp_ge 131 (by omega) (by omega) C dX11_goesDown_57 (by decide) (fun c57 => ?_) (fun c57 => ?_)
                · refine g_iload_n 4 3 C dX11_goesDown_131 rfl rfl ?_
                  refine g_iload 1 C dX11_goesDown_132 rfl ?_
                  refine g_nif_eq 141 (by decide) C dX11_goesDown_134 (by decide) (fun c => absurd c (by decide)) (fun _ => ?_)
                  refine g_iconst (v := nI 1) C dX11_goesDown_137 (by decide) ?_
                  refine g_goto 142 C dX11_goesDown_138 (by decide) ?_
                  refine g_iadd C dX11_goesDown_142 ?_
                  refine g_topi (nI_add _ _ : _ = nI (i + 1)) ?_
                  refine g_istore_n (lv' := [(3, .int (nI (i + 1))), (6, .int (nI (fe ls v + q + 1))), (4, .int (nI 1)), (2, .int (nI (fe ls v + q + 1))), (5, .int (nI v)), (0, .ref x), (1, .int (nI t))]) C dX11_goesDown_143 rfl (by decide) rfl ?_
                  refine g_goto 18 C dX11_goesDown_144 (by decide) ?_
                  refine Go.pick (lv' := [(4, .int (nI 1)), (3, .int (nI (i + 1))), (2, .int (nI (fe ls v + q + 1))), (0, .ref x), (1, .int (nI t))]) [2, 0, 3, 5, 6] rfl ?_
                  have hgo := dnS_go hds hq hq2 (show (nm ls (ndAt ls false (fe ls v + q + 1)).1).getD i 0 = _ by rw [← hnd]; exact c86)
                  exact iho_ (i + 1) (fe ls v + q + 1) _ _ (by omega) ⟨by omega, hgo, g1, by rw [← hnd]; omega, by rw [List.length_append]; show _ + 3 = _; omega, ((hdf.trans DF.tl).trans DF.tl).trans DF.tl, hdu.add3⟩
                · refine g_iload 1 C dX11_goesDown_60 rfl ?_
                  refine g_nif_ne 131 (by decide) C dX11_goesDown_62 (by decide) (fun _ => ?_) (fun c => absurd c (by decide))
                  refine g_iload_n 4 3 C dX11_goesDown_131 rfl rfl ?_
                  refine g_iload 1 C dX11_goesDown_132 rfl ?_
                  refine g_nif_eq 141 (by decide) C dX11_goesDown_134 (by decide) (fun c => absurd c (by decide)) (fun _ => ?_)
                  refine g_iconst (v := nI 1) C dX11_goesDown_137 (by decide) ?_
                  refine g_goto 142 C dX11_goesDown_138 (by decide) ?_
                  refine g_iadd C dX11_goesDown_142 ?_
                  refine g_topi (nI_add _ _ : _ = nI (i + 1)) ?_
                  refine g_istore_n (lv' := [(3, .int (nI (i + 1))), (6, .int (nI (fe ls v + q + 1))), (4, .int (nI 1)), (2, .int (nI (fe ls v + q + 1))), (5, .int (nI v)), (0, .ref x), (1, .int (nI t))]) C dX11_goesDown_143 rfl (by decide) rfl ?_
                  refine g_goto 18 C dX11_goesDown_144 (by decide) ?_
                  refine Go.pick (lv' := [(4, .int (nI 1)), (3, .int (nI (i + 1))), (2, .int (nI (fe ls v + q + 1))), (0, .ref x), (1, .int (nI t))]) [2, 0, 3, 5, 6] rfl ?_
                  have hgo := dnS_go hds hq hq2 (show (nm ls (ndAt ls false (fe ls v + q + 1)).1).getD i 0 = _ by rw [← hnd]; exact c86)
                  exact iho_ (i + 1) (fe ls v + q + 1) _ _ (by omega) ⟨by omega, hgo, g1, by rw [← hnd]; omega, by rw [List.length_append]; show _ + 3 = _; omega, ((hdf.trans DF.tl).trans DF.tl).trans DF.tl, hdu.add3⟩
              · refine g_goto 125 C dX11_goesDown_89 (by decide) ?_
                refine g_iinc (v := nI (fe ls v + q + 1)) (lv' := [(6, .int (nI (fe ls v + q + 1))), (5, .int (nI v)), (4, .int (nI 0)), (3, .int (nI i)), (2, .int (nI v)), (0, .ref x), (1, .int (nI t))]) 0 C dX11_goesDown_125 rfl (nI_add _ 1) (by decide) rfl ?_
                refine g_goto 46 C dX11_goesDown_128 (by decide) ?_
                exact ih_ (q + 1) (by omega) ⟨by omega, fun p hp => by
                  by_cases e : p = q
                  · rw [e]; show (nm ls (ndAt ls false (fe ls v + q + 1)).1).getD i 0 ≠ _; rw [← hnd]; exact c86
                  · exact hq2 p (by omega)⟩
        rw [show fe ls v = fe ls v + 0 from rfl]
        exact lp2 (dgN ls v + 1) 0 (by omega) ⟨Nat.zero_le _, fun p hp => absurd hp (Nat.not_lt_zero _)⟩
  exact lp (cur.length + 1) 0 0 [] _ (by omega) ⟨Nat.zero_le _, rfl, by omega, hr0, rfl, ⟨m_due M9, _, rfl⟩, rfl, fun k hk => absurd hk (Nat.not_lt_zero _)⟩
def forkE (Z : ZT) (p : Int32) : Int32 ⊕ Nat := match bookE Z p with
  | .inl e => .inl e
  | .inr t => if tK (zH Z t) = 2 then (if nameB (zT Z) then (if missT (zH Z t) then .inl (-6) else .inr t) else .inl (-5)) else .inl (-4)
def forkZ (Z : ZT) (p : Int32) : ZT := match bookE Z p with
  | .inl _ => Z
  | .inr t => if tK (zH Z t) = 2 then zT_ Z [] else Z
theorem forkE_neg {Z : ZT} {p e : Int32} (h : forkE Z p = .inl e) : e < 0 := by
  unfold forkE at h
  split at h
  · rename_i e' he; cases h; exact bookE_neg he
  · split at h
    · split at h
      · split at h
        · cases h; decide
        · cases h
      · cases h; decide
    · cases h; decide
theorem forkE_inr {Z : ZT} (hZ : okZ Z) {p : Int32} {t : Nat} (h : forkE Z p = .inr t) : ∃ j, j < 10 ∧ p = nI j ∧ zP Z j = t + 1 ∧ bookE Z (nI j) = .inr t ∧ tK (zH Z t) = 2 ∧ okN (zT Z) ∧ missT (zH Z t) = false ∧ forkZ Z (nI j) = zT_ Z [] := by
  unfold forkE at h
  split at h
  · cases h
  · rename_i t' he
    obtain ⟨j, h1, h2, h3, h4⟩ := bookE_inr he
    subst h2
    split at h
    · rename_i hk
      split at h
      · rename_i hn
        split at h
        · cases h
        · rename_i hm
          cases h
          exact ⟨j, h1, rfl, h3, he, hk, nameB_ok hn hZ.1.2, Bool.eq_false_iff.mpr hm, by unfold forkZ; rw [he]; simp only []; rw [if_pos hk]⟩
      · cases h
    · cases h
set_option maxRecDepth 100000 in
set_option maxHeartbeats 2000000 in
theorem c_M_forked_err {l : Launch} {G : Gx} {S : PS} {M : MoT} {x : Nat} (hx : MoOk S M x) {Z : ZT} (hR : RM M Z) (hZ : okZ Z) {p e : Int32} (he : bookE Z p = .inl e) (hneg : e < 0) : Ct l yX11_forked cX11_forked 3 (Option.some Jvm.ClassFile.FieldType.int) rm_X11_forked G [.ref x, .int p] (mo_ S M) (fun r S' => ∃ M', r = some (.int (errI (forkE Z p))) ∧ S' = mo_ S M' ∧ mo_r M' = mo_r M ∧ RM M' (forkZ Z p) ∧ (∀ t, forkE Z p = .inr t → curM M' (zT Z))) := by
  obtain ⟨q_sort, r_sort, k_sort⟩ := hx.2 2 (by decide)
  have e1 : forkE Z p = .inl e := by unfold forkE; rw [he]
  have e2 : forkZ Z p = Z := by unfold forkZ; rw [he]
  refine Ct.mk RX11 "forked" hy_X11_forked (Nat.le_of_ble_eq_true rfl) (fun X hX C => ?_)
  change Go X G _ 3 0 0 (mo_ S M) 0 [(0, .ref x), (1, .int p)] []
  refine g_aload_n 0 0 C dX11_forked_0 rfl rfl ?_
  refine g_iload_n 1 1 C dX11_forked_1 rfl rfl ?_
  refine g_callV (As := [.int p]) (rest := []) C dX11_forked_2 (c_M_book hx hR hZ) wC_X11_book wM_X11_175 wI_X11_book wS_X11_book wN_X11 (kne hx.1) (pf_11 hx.1) rfl hd_X11_book ⟨by decide, by decide, by decide, by decide⟩ (Nat.le_of_ble_eq_true rfl) (fun r_ S_ h_ => ?_)
  obtain ⟨rfl, rfl⟩ := h_
  change Go X G _ 3 _ _ (mo_ S M) 5 [(0, .ref x), (1, .int p)] [.int (errI (bookE Z p))]
  refine g_topi (show errI (bookE Z p) = e by rw [he]; rfl) ?_
  refine g_istore_n (lv' := [(2, .int e), (0, .ref x), (1, .int p)]) C dX11_forked_5 rfl (by decide) rfl ?_
  refine g_iload_n 0 2 C dX11_forked_6 rfl rfl ?_
  refine g_if_ge 12 C dX11_forked_7 (by decide) (fun c7 => ?_) (fun c7 => ?_)
  · exact absurd c7 (Int32.not_le.mpr hneg)
  · refine g_iload_n 0 2 C dX11_forked_10 rfl rfl ?_
    exact g_iret C dX11_forked_11 (by decide) (by decide) (⟨M, by rw [e1]; rfl, rfl, rfl, by rw [e2]; exact hR, fun t h => by rw [e1] at h; cases h⟩)
set_option maxRecDepth 100000 in
set_option maxHeartbeats 2000000 in
theorem c_M_forked_ok {l : Launch} {G : Gx} {S : PS} {M : MoT} {x : Nat} (hx : MoOk S M x) {Z : ZT} (hR : RM M Z) (hZ : okZ Z) {j t : Nat} (hj : j < 10) (hp : zP Z j = t + 1) (he : bookE Z (nI j) = .inr t) : Ct l yX11_forked cX11_forked 3 (Option.some Jvm.ClassFile.FieldType.int) rm_X11_forked G [.ref x, .int (nI j)] (mo_ S M) (fun r S' => ∃ M', r = some (.int (errI (forkE Z (nI j)))) ∧ S' = mo_ S M' ∧ mo_r M' = mo_r M ∧ RM M' (forkZ Z (nI j)) ∧ (∀ t, forkE Z (nI j) = .inr t → curM M' (zT Z))) := by
  obtain ⟨q_sort, r_sort, k_sort⟩ := hx.2 2 (by decide)
  obtain ⟨hO, ht⟩ := hZ.th hj hp
  have hT := hR.th hj hp
  have hk7 := hO.2.1
  refine Ct.mk RX11 "forked" hy_X11_forked (Nat.le_of_ble_eq_true rfl) (fun X hX C => ?_)
  change Go X G _ 3 0 0 (mo_ S M) 0 [(0, .ref x), (1, .int (nI j))] []
  refine g_aload_n 0 0 C dX11_forked_0 rfl rfl ?_
  refine g_iload_n 1 1 C dX11_forked_1 rfl rfl ?_
  refine g_callV (As := [.int (nI j)]) (rest := []) C dX11_forked_2 (c_M_book hx hR hZ) wC_X11_book wM_X11_175 wI_X11_book wS_X11_book wN_X11 (kne hx.1) (pf_11 hx.1) rfl hd_X11_book ⟨by decide, by decide, by decide, by decide⟩ (Nat.le_of_ble_eq_true rfl) (fun r_ S_ h_ => ?_)
  obtain ⟨rfl, rfl⟩ := h_
  change Go X G _ 3 _ _ (mo_ S M) 5 [(0, .ref x), (1, .int (nI j))] [.int (errI (bookE Z (nI j)))]
  refine g_topi (show errI (bookE Z (nI j)) = nI 0 by rw [he]; rfl) ?_
  refine g_istore_n (lv' := [(2, .int (nI 0)), (0, .ref x), (1, .int (nI j))]) C dX11_forked_5 rfl (by decide) rfl ?_
  refine g_iload_n 0 2 C dX11_forked_6 rfl rfl ?_
  refine g_nif_ge 12 (by omega) C dX11_forked_7 (by decide) ?_
  refine g_aload_n 1 0 C dX11_forked_12 rfl rfl ?_
  refine gr_m_sort C dX11_forked_13 hx.1 wF_X11_20 r_sort ?_
  refine g_aload_n 1 0 C dX11_forked_16 rfl rfl ?_
  refine g_iload_n 2 1 C dX11_forked_17 rfl rfl ?_
  refine g_callV (As := [.int (nI j)]) (rest := [.ref q_sort]) C dX11_forked_18 (c_M_at hx hj ((hR.2.1 j hj).trans (by rw [hp]))) wC_X11_at wM_X11_108 wI_X11_at wS_X11_at wN_X11 (kne hx.1) (pf_11 hx.1) rfl hd_X11_at ⟨by decide, by decide, by decide, by decide⟩ (Nat.le_of_ble_eq_true rfl) (fun r_ S_ h_ => ?_)
  obtain ⟨rfl, rfl⟩ := h_
  change Go X G _ 3 _ _ (mo_ S M) 21 [(2, .int (nI 0)), (0, .ref x), (1, .int (nI j))] [.int (nI t), .ref q_sort]
  refine ga_m_sort C dX11_forked_21 k_sort (by omega) ?_
  refine g_topi (hT.1) ?_
  refine g_iconst (v := nI 2) C dX11_forked_22 (by decide) ?_
  refine g_ncmp_eq 29 (by omega) (by omega) C dX11_forked_23 (by decide) (fun c23 => ?_) (fun c23 => ?_)
  · have e2 : forkZ Z (nI j) = zT_ Z [] := by unfold forkZ; rw [he]; simp only []; rw [if_pos c23]
    refine g_aload_n 1 0 C dX11_forked_29 rfl rfl ?_
    refine g_callV (As := []) (rest := []) C dX11_forked_30 (c_M_takes hx hR.1 hZ.1.1 hZ.1.2) wC_X11_takes wM_X11_126 wI_X11_takes wS_X11_takes wN_X11 (kne hx.1) (pf_11 hx.1) rfl hd_X11_takes ⟨by decide, by decide, by decide, by decide⟩ (Nat.le_of_ble_eq_true rfl) (fun r_ S_ h_ => ?_)
    obtain ⟨fn, rfl, rfl, hfn⟩ := h_
    change Go X G _ 3 _ _ (mo_ S (m_taped_ (m_length_ (m_name_ M fn) (nI (zT Z).length)) 0)) 33 [(2, .int (nI 0)), (0, .ref x), (1, .int (nI j))] [.int (bI (nameB (zT Z)))]
    have hx1 : MoOk S (m_taped_ (m_length_ (m_name_ M fn) (nI (zT Z).length)) 0) x := hx
    refine g_if_ne 39 C dX11_forked_33 (by decide) (fun c33 => ?_) (fun c33 => ?_)
    · have hn := bI_t c33
      refine g_aload_n 1 0 C dX11_forked_39 rfl rfl ?_
      refine g_aload_n 1 0 C dX11_forked_40 rfl rfl ?_
      refine g_iload_n 2 1 C dX11_forked_41 rfl rfl ?_
      refine g_callV (As := [.int (nI j)]) (rest := [.ref x]) C dX11_forked_42 (c_M_at hx1 hj ((hR.2.1 j hj).trans (by rw [hp]))) wC_X11_at wM_X11_108 wI_X11_at wS_X11_at wN_X11 (kne hx.1) (pf_11 hx.1) rfl hd_X11_at ⟨by decide, by decide, by decide, by decide⟩ (Nat.le_of_ble_eq_true rfl) (fun r_ S_ h_ => ?_)
      obtain ⟨rfl, rfl⟩ := h_
      change Go X G _ 3 _ _ (mo_ S (m_taped_ (m_length_ (m_name_ M fn) (nI (zT Z).length)) 0)) 45 [(2, .int (nI 0)), (0, .ref x), (1, .int (nI j))] [.int (nI t), .ref x]
      refine g_callV (As := [.int (nI t)]) (rest := []) C dX11_forked_45 (c_M_misses hx1 (by omega) hT.2.2.2.2.1 hT.2.2.2.2.2.1) wC_X11_misses wM_X11_178 wI_X11_misses wS_X11_misses wN_X11 (kne hx.1) (pf_11 hx.1) rfl hd_X11_misses ⟨by decide, by decide, by decide, by decide⟩ (Nat.le_of_ble_eq_true rfl) (fun r_ S_ h_ => ?_)
      obtain ⟨rfl, rfl⟩ := h_
      change Go X G _ 3 _ _ (mo_ S (m_taped_ (m_length_ (m_name_ M fn) (nI (zT Z).length)) 0)) 48 [(2, .int (nI 0)), (0, .ref x), (1, .int (nI j))] [.int (bI (missT (zH Z t)))]
      refine g_if_eq 56 C dX11_forked_48 (by decide) (fun c48 => ?_) (fun c48 => ?_)
      · have e1 : forkE Z (nI j) = .inr t := by unfold forkE; rw [he]; simp only []; rw [if_pos c23, hn, bI_f c48]; rfl
        refine g_iconst (v := nI 0) C dX11_forked_56 (by decide) ?_
        exact g_iret C dX11_forked_57 (by decide) (by decide) ⟨_, by rw [e1]; rfl, rfl, rfl, by rw [e2]; exact hR.scratch, fun t h => ⟨rfl, hfn hn⟩⟩
      · have e1 : forkE Z (nI j) = .inl (-6) := by unfold forkE; rw [he]; simp only []; rw [if_pos c23, hn, bI_t c48]; rfl
        refine g_bipush (v := -6) C dX11_forked_51 (by decide) ?_
        refine g_goto 57 C dX11_forked_53 (by decide) ?_
        exact g_iret C dX11_forked_57 (by decide) (by decide) ⟨_, by rw [e1]; rfl, rfl, rfl, by rw [e2]; exact hR.scratch, fun t h => by rw [e1] at h; cases h⟩
    · have e1 : forkE Z (nI j) = .inl (-5) := by unfold forkE; rw [he]; simp only []; rw [if_pos c23, bI_f c33]; rfl
      refine g_bipush (v := -5) C dX11_forked_36 (by decide) ?_
      exact g_iret C dX11_forked_38 (by decide) (by decide) (⟨_, by rw [e1]; rfl, rfl, rfl, by rw [e2]; exact hR.scratch, fun t h => by rw [e1] at h; cases h⟩)
  · have e1 : forkE Z (nI j) = .inl (-4) := by unfold forkE; rw [he]; simp only []; rw [if_neg c23]
    have e2 : forkZ Z (nI j) = Z := by unfold forkZ; rw [he]; simp only []; rw [if_neg c23]
    refine g_bipush (v := -4) C dX11_forked_26 (by decide) ?_
    exact g_iret C dX11_forked_28 (by decide) (by decide) (⟨M, by rw [e1]; rfl, rfl, rfl, by rw [e2]; exact hR, fun t h => by rw [e1] at h; cases h⟩)
theorem c_M_forked {l : Launch} {G : Gx} {S : PS} {M : MoT} {x : Nat} (hx : MoOk S M x) {Z : ZT} (hR : RM M Z) (hZ : okZ Z) {p : Int32} : Ct l yX11_forked cX11_forked 3 (Option.some Jvm.ClassFile.FieldType.int) rm_X11_forked G [.ref x, .int p] (mo_ S M) (fun r S' => ∃ M', r = some (.int (errI (forkE Z p))) ∧ S' = mo_ S M' ∧ mo_r M' = mo_r M ∧ RM M' (forkZ Z p) ∧ (∀ t, forkE Z p = .inr t → curM M' (zT Z))) := by
  cases he : bookE Z p with
  | inl e => exact c_M_forked_err hx hR hZ he (bookE_neg he)
  | inr t =>
    obtain ⟨j, hj, rfl, hp, hk⟩ := bookE_inr he
    exact c_M_forked_ok hx hR hZ hj hp he
def A_witness (Z : ZT) (p : Int32) : Int32 := match forkE Z p with
  | .inl e => e
  | .inr t => bI (dnIs (tL (zH Z t)) (zT Z))
def N_witness (Z : ZT) (p : Int32) : ZT := match forkE Z p with
  | .inl _ => forkZ Z p
  | .inr t => zW_ (zT_ Z []) (dnD (tL (zH Z t)) (zT Z))
def A_check (Z : ZT) (p : Int32) : Int32 := match forkE Z p with
  | .inl e => e
  | .inr t => bI (decide (dnD (tL (zH Z t)) (zT Z) = zW Z))
theorem dnS_len {l : List Ent} {cur : List Nat} : ∀ i, (dnS l cur i).2.1.length ≤ 3 * i := by
  intro i
  induction i with
  | zero => exact Nat.le_refl _
  | succ i ih =>
    show (if (dnS l cur i).2.2 = true then _ else _ : Nat × List Int32 × Bool).2.1.length ≤ _
    split
    · split
      · show (_ ++ _ : List Int32).length ≤ _
        rw [List.length_append]
        show _ + 3 ≤ _
        omega
      · show (dnS l cur i).2.1.length ≤ _
        omega
    · omega
theorem dnD_len {l : List Ent} {cur : List Nat} (h : cur.length ≤ 24) : (dnD l cur).length ≤ 75 := by
  have := dnS_len (l := l) (cur := cur) cur.length
  unfold dnD
  rw [List.length_append]
  show _ + 3 ≤ _
  omega
def wEq (D W : List Int32) (k : Nat) : Bool := decide (D.length = W.length) && decide (fN (fun i => D.getD i 0 == W.getD i 0) k = k)
theorem wEq_iff {D W : List Int32} {k : Nat} : wEq D W k = true ↔ D.length = W.length ∧ ∀ q, q < k → D.getD q 0 = W.getD q 0 := by
  unfold wEq
  rw [Bool.and_eq_true, decide_eq_true_iff, decide_eq_true_iff]
  constructor
  · intro h
    refine ⟨h.1, fun q hq => ?_⟩
    have := fN_all (p := fun i => D.getD i 0 == W.getD i 0) (n := k) (j := q) (by omega)
    simpa using this
  · intro h
    exact ⟨h.1, fN_eq (Nat.le_refl _) (fun q hq => by simpa using h.2 q hq) (Or.inl rfl)⟩
theorem wEq_full {D W : List Int32} : wEq D W D.length = decide (D = W) := by
  rw [Bool.eq_iff_iff, wEq_iff, decide_eq_true_iff]
  constructor
  · intro h
    refine List.ext_getElem h.1 fun i h1 h2 => ?_
    have := h.2 i h1
    rwa [List.getD_eq_getElem?_getD, List.getD_eq_getElem?_getD, List.getElem?_eq_getElem h1, List.getElem?_eq_getElem h2] at this
  · intro h
    rw [h]; exact ⟨rfl, fun _ _ => rfl⟩
theorem wEq_down {D W : List Int32} {i j : Nat} (h : wEq D W i = false) (hij : i ≤ j) : wEq D W j = false := by
  rw [Bool.eq_false_iff] at h ⊢
  intro g
  have := wEq_iff.mp g
  exact h (wEq_iff.mpr ⟨this.1, fun q hq => this.2 q (by omega)⟩)
set_option maxRecDepth 100000 in
set_option maxHeartbeats 2000000 in
theorem c_M_witness_err {l : Launch} {G : Gx} {S : PS} {M : MoT} {x : Nat} (hx : MoOk S M x) {Z : ZT} (hR : RM M Z) (hZ : okZ Z) {p e : Int32} (he : forkE Z p = .inl e) (hneg : e < 0) : Ct l yX11_witness cX11_witness 5 (Option.some Jvm.ClassFile.FieldType.int) rm_X11_witness G [.ref x, .int p] (mo_ S M) (fun r S' => ∃ M', r = some (.int (A_witness Z p)) ∧ S' = mo_ S M' ∧ mo_r M' = mo_r M ∧ RM M' (N_witness Z p)) := by
  obtain ⟨q_witness, r_witness, k_witness⟩ := hx.2 19 (by decide)
  obtain ⟨q_due, r_due, k_due⟩ := hx.2 20 (by decide)
  refine Ct.mk RX11 "witness" hy_X11_witness (Nat.le_of_ble_eq_true rfl) (fun X hX C => ?_)
  change Go X G _ 5 0 0 (mo_ S M) 0 [(0, .ref x), (1, .int p)] []
  refine g_aload_n 0 0 C dX11_witness_0 rfl rfl ?_
  refine g_iload_n 1 1 C dX11_witness_1 rfl rfl ?_
  refine g_callV (As := [.int p]) (rest := []) C dX11_witness_2 (c_M_forked hx hR hZ) wC_X11_forked wM_X11_217 wI_X11_forked wS_X11_forked wN_X11 (kne hx.1) (pf_11 hx.1) rfl hd_X11_forked ⟨by decide, by decide, by decide, by decide⟩ (Nat.le_of_ble_eq_true rfl) (fun r_ S_ h_ => ?_)
  obtain ⟨M1, rfl, rfl, h1, hR1, hc1⟩ := h_
  change Go X G _ 5 _ _ (mo_ S M1) 5 [(0, .ref x), (1, .int p)] [.int (errI (forkE Z p))]
  refine g_topi (show errI (forkE Z p) = e by rw [he]; rfl) ?_
  refine g_istore_n (lv' := [(2, .int e), (0, .ref x), (1, .int p)]) C dX11_witness_5 rfl (by decide) rfl ?_
  refine g_iload_n 0 2 C dX11_witness_6 rfl rfl ?_
  refine g_if_ge 12 C dX11_witness_7 (by decide) (fun c7 => ?_) (fun c7 => ?_)
  · exact absurd c7 (Int32.not_le.mpr hneg)
  · refine g_iload_n 0 2 C dX11_witness_10 rfl rfl ?_
    exact g_iret C dX11_witness_11 (by decide) (by decide) (⟨M1, by unfold A_witness; rw [he], rfl, h1, by unfold N_witness; rw [he]; exact hR1⟩)
set_option maxRecDepth 100000 in
set_option maxHeartbeats 2000000 in
theorem c_M_witness_ok {l : Launch} {G : Gx} {S : PS} {M : MoT} {x : Nat} (hx : MoOk S M x) {Z : ZT} (hR : RM M Z) (hZ : okZ Z) {j t : Nat} (hj : j < 10) (hp : zP Z j = t + 1) (ha : forkE Z (nI j) = .inr t) (hc0 : okN (zT Z)) (hk2 : tK (zH Z t) = 2) (hfz : forkZ Z (nI j) = zT_ Z []) : Ct l yX11_witness cX11_witness 5 (Option.some Jvm.ClassFile.FieldType.int) rm_X11_witness G [.ref x, .int (nI j)] (mo_ S M) (fun r S' => ∃ M', r = some (.int (A_witness Z (nI j))) ∧ S' = mo_ S M' ∧ mo_r M' = mo_r M ∧ RM M' (N_witness Z (nI j))) := by
  obtain ⟨q_witness, r_witness, k_witness⟩ := hx.2 19 (by decide)
  obtain ⟨q_due, r_due, k_due⟩ := hx.2 20 (by decide)
  obtain ⟨hO, ht⟩ := hZ.th hj hp
  have hO0 := (hO.2.2.2.2.2.1 (by omega)).1
  have hw := hZ.2.2.2
  refine Ct.mk RX11 "witness" hy_X11_witness (Nat.le_of_ble_eq_true rfl) (fun X hX C => ?_)
  change Go X G _ 5 0 0 (mo_ S M) 0 [(0, .ref x), (1, .int (nI j))] []
  refine g_aload_n 0 0 C dX11_witness_0 rfl rfl ?_
  refine g_iload_n 1 1 C dX11_witness_1 rfl rfl ?_
  refine g_callV (As := [.int (nI j)]) (rest := []) C dX11_witness_2 (c_M_forked hx hR hZ) wC_X11_forked wM_X11_217 wI_X11_forked wS_X11_forked wN_X11 (kne hx.1) (pf_11 hx.1) rfl hd_X11_forked ⟨by decide, by decide, by decide, by decide⟩ (Nat.le_of_ble_eq_true rfl) (fun r_ S_ h_ => ?_)
  obtain ⟨M1, rfl, rfl, h1, hR1, hc1⟩ := h_
  change Go X G _ 5 _ _ (mo_ S M1) 5 [(0, .ref x), (1, .int (nI j))] [.int (errI (forkE Z (nI j)))]
  refine g_topi (show errI (forkE Z (nI j)) = nI 0 by rw [ha]; rfl) ?_
  rw [hfz] at hR1
  have hx1 := hx.of h1
  have hpl : m_place M1 j = nI (t + 1) := (hR1.2.1 j hj).trans (by rw [show zP (zT_ Z []) j = zP Z j from rfl, hp])
  have hT := hR1.th (Z := zT_ Z []) hj hp
  have hc := hc1 t ha
  have hn1 := hT.2.1
  have hn2 := hn1.1
  refine g_istore_n (lv' := [(2, .int (nI 0)), (0, .ref x), (1, .int (nI j))]) C dX11_witness_5 rfl (by decide) rfl ?_
  refine g_iload_n 0 2 C dX11_witness_6 rfl rfl ?_
  refine g_nif_ge 12 (by omega) C dX11_witness_7 (by decide) ?_
  refine g_aload_n 1 0 C dX11_witness_12 rfl rfl ?_
  refine g_aload_n 1 0 C dX11_witness_13 rfl rfl ?_
  refine g_iload_n 2 1 C dX11_witness_14 rfl rfl ?_
  refine g_callV (As := [.int (nI j)]) (rest := [.ref x]) C dX11_witness_15 (c_M_at hx1 hj hpl) wC_X11_at wM_X11_108 wI_X11_at wS_X11_at wN_X11 (kne hx.1) (pf_11 hx.1) rfl hd_X11_at ⟨by decide, by decide, by decide, by decide⟩ (Nat.le_of_ble_eq_true rfl) (fun r_ S_ h_ => ?_)
  obtain ⟨rfl, rfl⟩ := h_
  change Go X G _ 5 _ _ (mo_ S M1) 18 [(2, .int (nI 0)), (0, .ref x), (1, .int (nI j))] [.int (nI t), .ref x]
  refine g_callV (As := [.int (nI t)]) (rest := []) C dX11_witness_18 (c_M_goesDown hx1 (by omega) hn1 hO.2.2.1 hO0 hc hc0) wC_X11_goesDown wM_X11_220 wI_X11_goesDown wS_X11_goesDown wN_X11 (kne hx.1) (pf_11 hx.1) rfl hd_X11_goesDown ⟨by decide, by decide, by decide, by decide⟩ (Nat.le_of_ble_eq_true rfl) (fun r_ S_ h_ => ?_)
  obtain ⟨M2, rfl, rfl, htd, hdu⟩ := h_
  change Go X G _ 5 _ _ (mo_ S M2) 21 [(2, .int (nI 0)), (0, .ref x), (1, .int (nI j))] [.int (bI (dnIs (tL (zH Z t)) (zT Z)))]
  have hxm : mo_r M2 = mo_r M1 := by obtain ⟨M9, h9, h8⟩ := htd; exact h8.mo_r.trans h9.mo_r
  have hx2 := hx1.of hxm
  have hR2 : RM M2 (zT_ Z []) := by obtain ⟨M9, h9, h8⟩ := htd; exact h8.keep.2.2.2.2 _ (h9.keep.2 _ hR1)
  obtain ⟨D, hD⟩ : ∃ D, D = dnD (tL (zH Z t)) (zT Z) := ⟨_, rfl⟩
  have hDl : D.length ≤ 75 := by rw [hD]; exact dnD_len hc0.2.1
  rw [← hD] at hdu
  obtain ⟨q_witness, r_witness, k_witness⟩ := hx2.2 19 (by decide)
  obtain ⟨q_due, r_due, k_due⟩ := hx2.2 20 (by decide)
  refine g_istore_n (lv' := [(3, .int (bI (dnIs (tL (zH Z t)) (zT Z)))), (2, .int (nI 0)), (0, .ref x), (1, .int (nI j))]) C dX11_witness_21 rfl (by decide) rfl ?_
  refine g_iconst (v := nI 0) C dX11_witness_22 (by decide) ?_
  refine g_istore (lv' := [(4, .int (nI 0)), (3, .int (bI (dnIs (tL (zH Z t)) (zT Z)))), (2, .int (nI 0)), (0, .ref x), (1, .int (nI j))]) C dX11_witness_23 (by decide) rfl ?_
  have lp : ∀ (n_ : Nat) (k : Nat) (f : Nat → Int32), D.length - k < n_ → (k ≤ D.length ∧ ∀ q, q < k → f q = D.getD q 0) → Go X G (Qe X G (fun r S' => ∃ M', r = some (.int (A_witness Z (nI j))) ∧ S' = mo_ S M' ∧ mo_r M' = mo_r M ∧ RM M' (N_witness Z (nI j))) rm_X11_witness.cells rm_X11_witness.slots) 5 0 0 (mo_ S (m_witness_ M2 f)) 25 [(4, .int (nI k)), (3, .int (bI (dnIs (tL (zH Z t)) (zT Z)))), (2, .int (nI 0)), (0, .ref x), (1, .int (nI j))] [] := by
    intro n_
    induction n_ with
    | zero => intro k f hm_; exact absurd hm_ (Nat.not_lt_zero _)
    | succ n_ ih_ =>
      intro k f hm_ hi
      refine g_iload 0 C dX11_witness_25 rfl ?_
      refine g_aload_n 3 0 C dX11_witness_27 rfl rfl ?_
      refine gf_m_dues C dX11_witness_28 hx2.1 wF_X11_92 ?_
      refine g_topi (hdu.1) ?_
      refine g_ncmp_ge 54 (by omega) (by omega) C dX11_witness_31 (by decide) (fun c31 => ?_) (fun c31 => ?_)
      · refine g_aload_n 3 0 C dX11_witness_54 rfl rfl ?_
        refine g_aload_n 3 0 C dX11_witness_55 rfl rfl ?_
        refine gf_m_dues C dX11_witness_56 hx2.1 wF_X11_92 ?_
        refine g_topi (hdu.1) ?_
        refine pp_m_witnessed C dX11_witness_59 hx2.1 wF_X11_89 (Or.inl rfl) ?_
        refine g_iload_n 1 3 C dX11_witness_62 rfl rfl ?_
        exact g_iret C dX11_witness_63 (by decide) (by decide) (⟨_, by unfold A_witness; rw [ha], rfl, (show mo_r M2 = mo_r M from hxm.trans h1), by
          unfold N_witness; rw [ha]; simp only []; rw [← hD]
          exact ⟨hR2.1, hR2.2.1, hR2.2.2.1, hR2.2.2.2.1, rfl, fun q hq => hi.2 q (by have hq : q < D.length := hq; omega)⟩⟩)
      · refine g_aload_n 3 0 C dX11_witness_34 rfl rfl ?_
        refine gr_m_witness C dX11_witness_35 hx2.1 wF_X11_83 r_witness ?_
        refine g_iload 0 C dX11_witness_38 rfl ?_
        refine g_aload_n 3 0 C dX11_witness_40 rfl rfl ?_
        refine gr_m_due C dX11_witness_41 hx2.1 wF_X11_86 r_due ?_
        refine g_iload 0 C dX11_witness_44 rfl ?_
        refine ga_m_due C dX11_witness_46 k_due (by omega) ?_
        refine g_topi (hdu.2 k (by omega)) ?_
        refine gs_m_witness C dX11_witness_47 k_witness (by omega) ?_
        refine g_iinc (v := nI (k + 1)) (lv' := [(4, .int (nI (k + 1))), (3, .int (bI (dnIs (tL (zH Z t)) (zT Z)))), (2, .int (nI 0)), (0, .ref x), (1, .int (nI j))]) 0 C dX11_witness_48 rfl (nI_add _ 1) (by decide) rfl ?_
        refine g_goto 25 C dX11_witness_51 (by decide) ?_
        exact ih_ (k + 1) _ (by omega) ⟨by omega, fun q hq => by
          by_cases e : q = k
          · rw [e]; exact pk_us
          · exact (pk_un e).trans (hi.2 q (by omega))⟩
  refine g_st (S' := mo_ S (m_witness_ M2 (m_witness M2))) rfl ?_
  exact lp (D.length + 1) 0 (m_witness M2) (by omega) ⟨Nat.zero_le _, fun q hq => absurd hq (Nat.not_lt_zero _)⟩
theorem c_M_witness {l : Launch} {G : Gx} {S : PS} {M : MoT} {x : Nat} (hx : MoOk S M x) {Z : ZT} (hR : RM M Z) (hZ : okZ Z) {p : Int32} : Ct l yX11_witness cX11_witness 5 (Option.some Jvm.ClassFile.FieldType.int) rm_X11_witness G [.ref x, .int p] (mo_ S M) (fun r S' => ∃ M', r = some (.int (A_witness Z p)) ∧ S' = mo_ S M' ∧ mo_r M' = mo_r M ∧ RM M' (N_witness Z p)) := by
  cases ha : forkE Z p with
  | inl e => exact c_M_witness_err hx hR hZ ha (forkE_neg ha)
  | inr t =>
    obtain ⟨j, hj, rfl, hp, hb, hk, hc0, hm, hfz⟩ := forkE_inr hZ ha
    exact c_M_witness_ok hx hR hZ hj hp ha hc0 hk hfz
set_option maxRecDepth 100000 in
set_option maxHeartbeats 2000000 in
theorem c_M_check_err {l : Launch} {G : Gx} {S : PS} {M : MoT} {x : Nat} (hx : MoOk S M x) {Z : ZT} (hR : RM M Z) (hZ : okZ Z) {p e : Int32} (he : forkE Z p = .inl e) (hneg : e < 0) : Ct l yX11_check cX11_check 6 (Option.some Jvm.ClassFile.FieldType.int) rm_X11_check G [.ref x, .int p] (mo_ S M) (fun r S' => ∃ M', r = some (.int (A_check Z p)) ∧ S' = mo_ S M' ∧ mo_r M' = mo_r M ∧ RM M' (forkZ Z p)) := by
  obtain ⟨q_due, r_due, k_due⟩ := hx.2 20 (by decide)
  obtain ⟨q_witness, r_witness, k_witness⟩ := hx.2 19 (by decide)
  refine Ct.mk RX11 "check" hy_X11_check (Nat.le_of_ble_eq_true rfl) (fun X hX C => ?_)
  change Go X G _ 6 0 0 (mo_ S M) 0 [(0, .ref x), (1, .int p)] []
  refine g_aload_n 0 0 C dX11_check_0 rfl rfl ?_
  refine g_iload_n 1 1 C dX11_check_1 rfl rfl ?_
  refine g_callV (As := [.int p]) (rest := []) C dX11_check_2 (c_M_forked hx hR hZ) wC_X11_forked wM_X11_217 wI_X11_forked wS_X11_forked wN_X11 (kne hx.1) (pf_11 hx.1) rfl hd_X11_forked ⟨by decide, by decide, by decide, by decide⟩ (Nat.le_of_ble_eq_true rfl) (fun r_ S_ h_ => ?_)
  obtain ⟨M1, rfl, rfl, h1, hR1, hc1⟩ := h_
  change Go X G _ 6 _ _ (mo_ S M1) 5 [(0, .ref x), (1, .int p)] [.int (errI (forkE Z p))]
  refine g_topi (show errI (forkE Z p) = e by rw [he]; rfl) ?_
  refine g_istore_n (lv' := [(2, .int e), (0, .ref x), (1, .int p)]) C dX11_check_5 rfl (by decide) rfl ?_
  refine g_iload_n 0 2 C dX11_check_6 rfl rfl ?_
  refine g_if_ge 12 C dX11_check_7 (by decide) (fun c7 => ?_) (fun c7 => ?_)
  · exact absurd c7 (Int32.not_le.mpr hneg)
  · refine g_iload_n 0 2 C dX11_check_10 rfl rfl ?_
    exact g_iret C dX11_check_11 (by decide) (by decide) (⟨M1, by unfold A_check; rw [he], rfl, h1, hR1⟩)
set_option maxRecDepth 100000 in
set_option maxHeartbeats 2000000 in
theorem c_M_check_ok {l : Launch} {G : Gx} {S : PS} {M : MoT} {x : Nat} (hx : MoOk S M x) {Z : ZT} (hR : RM M Z) (hZ : okZ Z) {j t : Nat} (hj : j < 10) (hp : zP Z j = t + 1) (ha : forkE Z (nI j) = .inr t) (hc0 : okN (zT Z)) (hk2 : tK (zH Z t) = 2) (hfz : forkZ Z (nI j) = zT_ Z []) : Ct l yX11_check cX11_check 6 (Option.some Jvm.ClassFile.FieldType.int) rm_X11_check G [.ref x, .int (nI j)] (mo_ S M) (fun r S' => ∃ M', r = some (.int (A_check Z (nI j))) ∧ S' = mo_ S M' ∧ mo_r M' = mo_r M ∧ RM M' (forkZ Z (nI j))) := by
  obtain ⟨q_due, r_due, k_due⟩ := hx.2 20 (by decide)
  obtain ⟨q_witness, r_witness, k_witness⟩ := hx.2 19 (by decide)
  obtain ⟨hO, ht⟩ := hZ.th hj hp
  have hO0 := (hO.2.2.2.2.2.1 (by omega)).1
  have hw := hZ.2.2.2
  refine Ct.mk RX11 "check" hy_X11_check (Nat.le_of_ble_eq_true rfl) (fun X hX C => ?_)
  change Go X G _ 6 0 0 (mo_ S M) 0 [(0, .ref x), (1, .int (nI j))] []
  refine g_aload_n 0 0 C dX11_check_0 rfl rfl ?_
  refine g_iload_n 1 1 C dX11_check_1 rfl rfl ?_
  refine g_callV (As := [.int (nI j)]) (rest := []) C dX11_check_2 (c_M_forked hx hR hZ) wC_X11_forked wM_X11_217 wI_X11_forked wS_X11_forked wN_X11 (kne hx.1) (pf_11 hx.1) rfl hd_X11_forked ⟨by decide, by decide, by decide, by decide⟩ (Nat.le_of_ble_eq_true rfl) (fun r_ S_ h_ => ?_)
  obtain ⟨M1, rfl, rfl, h1, hR1, hc1⟩ := h_
  change Go X G _ 6 _ _ (mo_ S M1) 5 [(0, .ref x), (1, .int (nI j))] [.int (errI (forkE Z (nI j)))]
  refine g_topi (show errI (forkE Z (nI j)) = nI 0 by rw [ha]; rfl) ?_
  rw [hfz] at hR1
  have hx1 := hx.of h1
  have hpl : m_place M1 j = nI (t + 1) := (hR1.2.1 j hj).trans (by rw [show zP (zT_ Z []) j = zP Z j from rfl, hp])
  have hT := hR1.th (Z := zT_ Z []) hj hp
  have hc := hc1 t ha
  have hn1 := hT.2.1
  have hn2 := hn1.1
  refine g_istore_n (lv' := [(2, .int (nI 0)), (0, .ref x), (1, .int (nI j))]) C dX11_check_5 rfl (by decide) rfl ?_
  refine g_iload_n 0 2 C dX11_check_6 rfl rfl ?_
  refine g_nif_ge 12 (by omega) C dX11_check_7 (by decide) ?_
  refine g_aload_n 1 0 C dX11_check_12 rfl rfl ?_
  refine g_aload_n 1 0 C dX11_check_13 rfl rfl ?_
  refine g_iload_n 2 1 C dX11_check_14 rfl rfl ?_
  refine g_callV (As := [.int (nI j)]) (rest := [.ref x]) C dX11_check_15 (c_M_at hx1 hj hpl) wC_X11_at wM_X11_108 wI_X11_at wS_X11_at wN_X11 (kne hx.1) (pf_11 hx.1) rfl hd_X11_at ⟨by decide, by decide, by decide, by decide⟩ (Nat.le_of_ble_eq_true rfl) (fun r_ S_ h_ => ?_)
  obtain ⟨rfl, rfl⟩ := h_
  change Go X G _ 6 _ _ (mo_ S M1) 18 [(2, .int (nI 0)), (0, .ref x), (1, .int (nI j))] [.int (nI t), .ref x]
  refine g_callV (As := [.int (nI t)]) (rest := []) C dX11_check_18 (c_M_goesDown hx1 (by omega) hn1 hO.2.2.1 hO0 hc hc0) wC_X11_goesDown wM_X11_220 wI_X11_goesDown wS_X11_goesDown wN_X11 (kne hx.1) (pf_11 hx.1) rfl hd_X11_goesDown ⟨by decide, by decide, by decide, by decide⟩ (Nat.le_of_ble_eq_true rfl) (fun r_ S_ h_ => ?_)
  obtain ⟨M2, rfl, rfl, htd, hdu⟩ := h_
  change Go X G _ 6 _ _ (mo_ S M2) 21 [(2, .int (nI 0)), (0, .ref x), (1, .int (nI j))] [.int (bI (dnIs (tL (zH Z t)) (zT Z)))]
  have hxm : mo_r M2 = mo_r M1 := by obtain ⟨M9, h9, h8⟩ := htd; exact h8.mo_r.trans h9.mo_r
  have hx2 := hx1.of hxm
  have hR2 : RM M2 (zT_ Z []) := by obtain ⟨M9, h9, h8⟩ := htd; exact h8.keep.2.2.2.2 _ (h9.keep.2 _ hR1)
  obtain ⟨D, hD⟩ : ∃ D, D = dnD (tL (zH Z t)) (zT Z) := ⟨_, rfl⟩
  have hDl : D.length ≤ 75 := by rw [hD]; exact dnD_len hc0.2.1
  rw [← hD] at hdu
  obtain ⟨q_due, r_due, k_due⟩ := hx2.2 20 (by decide)
  obtain ⟨q_witness, r_witness, k_witness⟩ := hx2.2 19 (by decide)
  refine g_istore_n (lv' := [(3, .int (bI (dnIs (tL (zH Z t)) (zT Z)))), (2, .int (nI 0)), (0, .ref x), (1, .int (nI j))]) C dX11_check_21 rfl (by decide) rfl ?_
  refine g_aload_n 2 0 C dX11_check_22 rfl rfl ?_
  refine gf_m_dues C dX11_check_23 hx2.1 wF_X11_92 ?_
  refine g_topi (hdu.1) ?_
  refine g_aload_n 2 0 C dX11_check_26 rfl rfl ?_
  refine gf_m_witnessed C dX11_check_27 hx2.1 wF_X11_89 ?_
  refine g_topi (show _ = nI (zW Z).length from hR2.2.2.2.2.1) ?_
  refine g_ncmp_ne 37 (by omega) (by omega) C dX11_check_30 (by decide) (fun c30 => ?_) (fun c30 => ?_)
  · refine g_iconst (v := nI 0) C dX11_check_37 (by decide) ?_
    refine g_istore (lv' := [(4, .int (nI 0)), (3, .int (bI (dnIs (tL (zH Z t)) (zT Z)))), (2, .int (nI 0)), (0, .ref x), (1, .int (nI j))]) C dX11_check_38 (by decide) rfl ?_
    refine g_iconst (v := nI 0) C dX11_check_40 (by decide) ?_
    refine g_istore (lv' := [(5, .int (nI 0)), (4, .int (nI 0)), (3, .int (bI (dnIs (tL (zH Z t)) (zT Z)))), (2, .int (nI 0)), (0, .ref x), (1, .int (nI j))]) C dX11_check_41 (by decide) rfl ?_
    have lp : ∀ (n_ : Nat) (k : Nat) (b : Int32), D.length - k < n_ → (k ≤ D.length ∧ b = bI (wEq D (zW Z) k)) → Go X G (Qe X G (fun r S' => ∃ M', r = some (.int (A_check Z (nI j))) ∧ S' = mo_ S M' ∧ mo_r M' = mo_r M ∧ RM M' (forkZ Z (nI j))) rm_X11_check.cells rm_X11_check.slots) 6 0 0 (mo_ S M2) 43 [(5, .int (nI k)), (4, .int b), (3, .int (bI (dnIs (tL (zH Z t)) (zT Z)))), (2, .int (nI 0)), (0, .ref x), (1, .int (nI j))] [] := by
      intro n_
      induction n_ with
      | zero => intro k b hm_; exact absurd hm_ (Nat.not_lt_zero _)
      | succ n_ ih_ =>
        intro k b hm_ hi
        refine g_iload 0 C dX11_check_43 rfl ?_
        refine g_aload_n 4 0 C dX11_check_45 rfl rfl ?_
        refine gf_m_dues C dX11_check_46 hx2.1 wF_X11_92 ?_
        refine g_topi (hdu.1) ?_
        refine g_ncmp_ge 87 (by omega) (by omega) C dX11_check_49 (by decide) (fun c49 => ?_) (fun c49 => ?_)
        · have hss : wEq D (zW Z) k = decide (D = zW Z) := by rw [show k = D.length by omega]; exact wEq_full
          refine g_iload 1 C dX11_check_87 rfl ?_
          refine g_if_eq 96 C dX11_check_89 (by decide) (fun c89 => ?_) (fun c89 => ?_)
          · have hres : decide (D = zW Z) = false := by rw [← hss]; exact bI_f (hi.2.symm.trans c89)
            refine g_iconst (v := nI 0) C dX11_check_96 (by decide) ?_
            exact g_iret C dX11_check_97 (by decide) (by decide) (⟨M2, by unfold A_check; rw [ha]; simp only []; rw [← hD, hres]; rfl, rfl, hxm.trans h1, by rw [hfz]; exact hR2⟩)
          · have hres : decide (D = zW Z) = true := by rw [← hss]; exact bI_t (hi.2 ▸ c89)
            refine g_iconst (v := nI 1) C dX11_check_92 (by decide) ?_
            refine g_goto 97 C dX11_check_93 (by decide) ?_
            exact g_iret C dX11_check_97 (by decide) (by decide) (⟨M2, by unfold A_check; rw [ha]; simp only []; rw [← hD, hres]; rfl, rfl, hxm.trans h1, by rw [hfz]; exact hR2⟩)
        · refine g_iload 1 C dX11_check_52 rfl ?_
          refine g_if_eq 87 C dX11_check_54 (by decide) (fun c54 => ?_) (fun c54 => ?_)
          · have hff : wEq D (zW Z) k = false := bI_f (hi.2.symm.trans c54)
            have hss : wEq D (zW Z) k = decide (D = zW Z) := by rw [hff, ← wEq_full]; exact (wEq_down hff hi.1).symm
            refine g_iload 1 C dX11_check_87 rfl ?_
            refine g_if_eq 96 C dX11_check_89 (by decide) (fun c89 => ?_) (fun c89 => ?_)
            · have hres : decide (D = zW Z) = false := by rw [← hss]; exact bI_f (hi.2.symm.trans c89)
              refine g_iconst (v := nI 0) C dX11_check_96 (by decide) ?_
              exact g_iret C dX11_check_97 (by decide) (by decide) (⟨M2, by unfold A_check; rw [ha]; simp only []; rw [← hD, hres]; rfl, rfl, hxm.trans h1, by rw [hfz]; exact hR2⟩)
            · have hres : decide (D = zW Z) = true := by rw [← hss]; exact bI_t (hi.2 ▸ c89)
              refine g_iconst (v := nI 1) C dX11_check_92 (by decide) ?_
              refine g_goto 97 C dX11_check_93 (by decide) ?_
              exact g_iret C dX11_check_97 (by decide) (by decide) (⟨M2, by unfold A_check; rw [ha]; simp only []; rw [← hD, hres]; rfl, rfl, hxm.trans h1, by rw [hfz]; exact hR2⟩)
          · have hst : wEq D (zW Z) k = true := bI_t (hi.2 ▸ c54)
            refine g_aload_n 4 0 C dX11_check_57 rfl rfl ?_
            refine gr_m_due C dX11_check_58 hx2.1 wF_X11_86 r_due ?_
            refine g_iload 0 C dX11_check_61 rfl ?_
            refine ga_m_due C dX11_check_63 k_due (by omega) ?_
            refine g_topi (hdu.2 k (by omega)) ?_
            refine g_aload_n 4 0 C dX11_check_64 rfl rfl ?_
            refine gr_m_witness C dX11_check_65 hx2.1 wF_X11_83 r_witness ?_
            refine g_iload 0 C dX11_check_68 rfl ?_
            refine ga_m_witness C dX11_check_70 k_witness (by omega) ?_
            refine g_topi (hR2.2.2.2.2.2 k (by show k < (zW Z).length; have := (wEq_iff.mp hst).1; omega)) ?_
            refine g_icmp_ne 78 C dX11_check_71 (by decide) (fun c71 => ?_) (fun c71 => ?_)
            · refine g_iconst (v := nI 0) C dX11_check_78 (by decide) ?_
              refine g_istore (lv' := [(4, .int (nI 0)), (5, .int (nI k)), (3, .int (bI (dnIs (tL (zH Z t)) (zT Z)))), (2, .int (nI 0)), (0, .ref x), (1, .int (nI j))]) C dX11_check_79 (by decide) rfl ?_
              refine g_iinc (v := nI (k + 1)) (lv' := [(5, .int (nI (k + 1))), (4, .int (nI 0)), (3, .int (bI (dnIs (tL (zH Z t)) (zT Z)))), (2, .int (nI 0)), (0, .ref x), (1, .int (nI j))]) 1 C dX11_check_81 rfl (nI_add _ 1) (by decide) rfl ?_
              refine g_goto 43 C dX11_check_84 (by decide) ?_
              have hnx : wEq D (zW Z) (k + 1) = false := Bool.eq_false_iff.mpr (fun h => c71 ((wEq_iff.mp h).2 k (by omega)))
              exact ih_ (k + 1) _ (by omega) ⟨by omega, by rw [hnx]; rfl⟩
            · refine g_iconst (v := nI 1) C dX11_check_74 (by decide) ?_
              refine g_goto 79 C dX11_check_75 (by decide) ?_
              refine g_istore (lv' := [(4, .int (nI 1)), (5, .int (nI k)), (3, .int (bI (dnIs (tL (zH Z t)) (zT Z)))), (2, .int (nI 0)), (0, .ref x), (1, .int (nI j))]) C dX11_check_79 (by decide) rfl ?_
              refine g_iinc (v := nI (k + 1)) (lv' := [(5, .int (nI (k + 1))), (4, .int (nI 1)), (3, .int (bI (dnIs (tL (zH Z t)) (zT Z)))), (2, .int (nI 0)), (0, .ref x), (1, .int (nI j))]) 1 C dX11_check_81 rfl (nI_add _ 1) (by decide) rfl ?_
              refine g_goto 43 C dX11_check_84 (by decide) ?_
              have hnx : wEq D (zW Z) (k + 1) = true := wEq_iff.mpr ⟨(wEq_iff.mp hst).1, fun q hq => by
                by_cases e : q = k
                · rw [e]; exact c71
                · exact (wEq_iff.mp hst).2 q (by omega)⟩
              exact ih_ (k + 1) _ (by omega) ⟨by omega, by rw [hnx]; rfl⟩
    exact lp (D.length + 1) 0 _ (by omega) ⟨Nat.zero_le _, by rw [show wEq D (zW Z) 0 = false from Bool.eq_false_iff.mpr (fun h => c30 (wEq_iff.mp h).1)]; rfl⟩
  · refine g_iconst (v := nI 1) C dX11_check_33 (by decide) ?_
    refine g_goto 38 C dX11_check_34 (by decide) ?_
    refine g_istore (lv' := [(4, .int (nI 1)), (3, .int (bI (dnIs (tL (zH Z t)) (zT Z)))), (2, .int (nI 0)), (0, .ref x), (1, .int (nI j))]) C dX11_check_38 (by decide) rfl ?_
    refine g_iconst (v := nI 0) C dX11_check_40 (by decide) ?_
    refine g_istore (lv' := [(5, .int (nI 0)), (4, .int (nI 1)), (3, .int (bI (dnIs (tL (zH Z t)) (zT Z)))), (2, .int (nI 0)), (0, .ref x), (1, .int (nI j))]) C dX11_check_41 (by decide) rfl ?_
    have lp : ∀ (n_ : Nat) (k : Nat) (b : Int32), D.length - k < n_ → (k ≤ D.length ∧ b = bI (wEq D (zW Z) k)) → Go X G (Qe X G (fun r S' => ∃ M', r = some (.int (A_check Z (nI j))) ∧ S' = mo_ S M' ∧ mo_r M' = mo_r M ∧ RM M' (forkZ Z (nI j))) rm_X11_check.cells rm_X11_check.slots) 6 0 0 (mo_ S M2) 43 [(5, .int (nI k)), (4, .int b), (3, .int (bI (dnIs (tL (zH Z t)) (zT Z)))), (2, .int (nI 0)), (0, .ref x), (1, .int (nI j))] [] := by
      intro n_
      induction n_ with
      | zero => intro k b hm_; exact absurd hm_ (Nat.not_lt_zero _)
      | succ n_ ih_ =>
        intro k b hm_ hi
        refine g_iload 0 C dX11_check_43 rfl ?_
        refine g_aload_n 4 0 C dX11_check_45 rfl rfl ?_
        refine gf_m_dues C dX11_check_46 hx2.1 wF_X11_92 ?_
        refine g_topi (hdu.1) ?_
        refine g_ncmp_ge 87 (by omega) (by omega) C dX11_check_49 (by decide) (fun c49 => ?_) (fun c49 => ?_)
        · have hss : wEq D (zW Z) k = decide (D = zW Z) := by rw [show k = D.length by omega]; exact wEq_full
          refine g_iload 1 C dX11_check_87 rfl ?_
          refine g_if_eq 96 C dX11_check_89 (by decide) (fun c89 => ?_) (fun c89 => ?_)
          · have hres : decide (D = zW Z) = false := by rw [← hss]; exact bI_f (hi.2.symm.trans c89)
            refine g_iconst (v := nI 0) C dX11_check_96 (by decide) ?_
            exact g_iret C dX11_check_97 (by decide) (by decide) (⟨M2, by unfold A_check; rw [ha]; simp only []; rw [← hD, hres]; rfl, rfl, hxm.trans h1, by rw [hfz]; exact hR2⟩)
          · have hres : decide (D = zW Z) = true := by rw [← hss]; exact bI_t (hi.2 ▸ c89)
            refine g_iconst (v := nI 1) C dX11_check_92 (by decide) ?_
            refine g_goto 97 C dX11_check_93 (by decide) ?_
            exact g_iret C dX11_check_97 (by decide) (by decide) (⟨M2, by unfold A_check; rw [ha]; simp only []; rw [← hD, hres]; rfl, rfl, hxm.trans h1, by rw [hfz]; exact hR2⟩)
        · refine g_iload 1 C dX11_check_52 rfl ?_
          refine g_if_eq 87 C dX11_check_54 (by decide) (fun c54 => ?_) (fun c54 => ?_)
          · have hff : wEq D (zW Z) k = false := bI_f (hi.2.symm.trans c54)
            have hss : wEq D (zW Z) k = decide (D = zW Z) := by rw [hff, ← wEq_full]; exact (wEq_down hff hi.1).symm
            refine g_iload 1 C dX11_check_87 rfl ?_
            refine g_if_eq 96 C dX11_check_89 (by decide) (fun c89 => ?_) (fun c89 => ?_)
            · have hres : decide (D = zW Z) = false := by rw [← hss]; exact bI_f (hi.2.symm.trans c89)
              refine g_iconst (v := nI 0) C dX11_check_96 (by decide) ?_
              exact g_iret C dX11_check_97 (by decide) (by decide) (⟨M2, by unfold A_check; rw [ha]; simp only []; rw [← hD, hres]; rfl, rfl, hxm.trans h1, by rw [hfz]; exact hR2⟩)
            · have hres : decide (D = zW Z) = true := by rw [← hss]; exact bI_t (hi.2 ▸ c89)
              refine g_iconst (v := nI 1) C dX11_check_92 (by decide) ?_
              refine g_goto 97 C dX11_check_93 (by decide) ?_
              exact g_iret C dX11_check_97 (by decide) (by decide) (⟨M2, by unfold A_check; rw [ha]; simp only []; rw [← hD, hres]; rfl, rfl, hxm.trans h1, by rw [hfz]; exact hR2⟩)
          · have hst : wEq D (zW Z) k = true := bI_t (hi.2 ▸ c54)
            refine g_aload_n 4 0 C dX11_check_57 rfl rfl ?_
            refine gr_m_due C dX11_check_58 hx2.1 wF_X11_86 r_due ?_
            refine g_iload 0 C dX11_check_61 rfl ?_
            refine ga_m_due C dX11_check_63 k_due (by omega) ?_
            refine g_topi (hdu.2 k (by omega)) ?_
            refine g_aload_n 4 0 C dX11_check_64 rfl rfl ?_
            refine gr_m_witness C dX11_check_65 hx2.1 wF_X11_83 r_witness ?_
            refine g_iload 0 C dX11_check_68 rfl ?_
            refine ga_m_witness C dX11_check_70 k_witness (by omega) ?_
            refine g_topi (hR2.2.2.2.2.2 k (by show k < (zW Z).length; have := (wEq_iff.mp hst).1; omega)) ?_
            refine g_icmp_ne 78 C dX11_check_71 (by decide) (fun c71 => ?_) (fun c71 => ?_)
            · refine g_iconst (v := nI 0) C dX11_check_78 (by decide) ?_
              refine g_istore (lv' := [(4, .int (nI 0)), (5, .int (nI k)), (3, .int (bI (dnIs (tL (zH Z t)) (zT Z)))), (2, .int (nI 0)), (0, .ref x), (1, .int (nI j))]) C dX11_check_79 (by decide) rfl ?_
              refine g_iinc (v := nI (k + 1)) (lv' := [(5, .int (nI (k + 1))), (4, .int (nI 0)), (3, .int (bI (dnIs (tL (zH Z t)) (zT Z)))), (2, .int (nI 0)), (0, .ref x), (1, .int (nI j))]) 1 C dX11_check_81 rfl (nI_add _ 1) (by decide) rfl ?_
              refine g_goto 43 C dX11_check_84 (by decide) ?_
              have hnx : wEq D (zW Z) (k + 1) = false := Bool.eq_false_iff.mpr (fun h => c71 ((wEq_iff.mp h).2 k (by omega)))
              exact ih_ (k + 1) _ (by omega) ⟨by omega, by rw [hnx]; rfl⟩
            · refine g_iconst (v := nI 1) C dX11_check_74 (by decide) ?_
              refine g_goto 79 C dX11_check_75 (by decide) ?_
              refine g_istore (lv' := [(4, .int (nI 1)), (5, .int (nI k)), (3, .int (bI (dnIs (tL (zH Z t)) (zT Z)))), (2, .int (nI 0)), (0, .ref x), (1, .int (nI j))]) C dX11_check_79 (by decide) rfl ?_
              refine g_iinc (v := nI (k + 1)) (lv' := [(5, .int (nI (k + 1))), (4, .int (nI 1)), (3, .int (bI (dnIs (tL (zH Z t)) (zT Z)))), (2, .int (nI 0)), (0, .ref x), (1, .int (nI j))]) 1 C dX11_check_81 rfl (nI_add _ 1) (by decide) rfl ?_
              refine g_goto 43 C dX11_check_84 (by decide) ?_
              have hnx : wEq D (zW Z) (k + 1) = true := wEq_iff.mpr ⟨(wEq_iff.mp hst).1, fun q hq => by
                by_cases e : q = k
                · rw [e]; exact c71
                · exact (wEq_iff.mp hst).2 q (by omega)⟩
              exact ih_ (k + 1) _ (by omega) ⟨by omega, by rw [hnx]; rfl⟩
    exact lp (D.length + 1) 0 _ (by omega) ⟨Nat.zero_le _, by rw [show wEq D (zW Z) 0 = true from wEq_iff.mpr ⟨c30, fun q hq => absurd hq (Nat.not_lt_zero _)⟩]; rfl⟩
theorem c_M_check {l : Launch} {G : Gx} {S : PS} {M : MoT} {x : Nat} (hx : MoOk S M x) {Z : ZT} (hR : RM M Z) (hZ : okZ Z) {p : Int32} : Ct l yX11_check cX11_check 6 (Option.some Jvm.ClassFile.FieldType.int) rm_X11_check G [.ref x, .int p] (mo_ S M) (fun r S' => ∃ M', r = some (.int (A_check Z p)) ∧ S' = mo_ S M' ∧ mo_r M' = mo_r M ∧ RM M' (forkZ Z p)) := by
  cases ha : forkE Z p with
  | inl e => exact c_M_check_err hx hR hZ ha (forkE_neg ha)
  | inr t =>
    obtain ⟨j, hj, rfl, hp, hb, hk, hc0, hm, hfz⟩ := forkE_inr hZ ha
    exact c_M_check_ok hx hR hZ hj hp ha hc0 hk hfz
