def smE (l : List Ent) (u v : Nd) (i : Nat) : Bool := decide (u.2.2.1 - u.2.2.2 = v.2.2.1 - v.2.2.2) && decide (fN (fun q => (nm l u.1).getD (u.2.2.2 + q) 0 == (nm l v.1).getD (v.2.2.2 + q) 0) i = i)
theorem smE_full (l : List Ent) (u v : Nd) : smE l u v (v.2.2.1 - v.2.2.2) = sameStr l u v := rfl
theorem smE_iff {l : List Ent} {u v : Nd} {i : Nat} : smE l u v i = true ↔ u.2.2.1 - u.2.2.2 = v.2.2.1 - v.2.2.2 ∧ ∀ q, q < i → (nm l u.1).getD (u.2.2.2 + q) 0 = (nm l v.1).getD (v.2.2.2 + q) 0 := by
  unfold smE
  rw [Bool.and_eq_true, decide_eq_true_iff, decide_eq_true_iff]
  constructor
  · intro h
    refine ⟨h.1, fun q hq => ?_⟩
    have := fN_all (p := fun q => (nm l u.1).getD (u.2.2.2 + q) 0 == (nm l v.1).getD (v.2.2.2 + q) 0) (n := i) (j := q) (by omega)
    simpa using this
  · intro h
    exact ⟨h.1, fN_eq (Nat.le_refl _) (fun q hq => by simpa using h.2 q hq) (Or.inl rfl)⟩
theorem smE_down {l : List Ent} {u v : Nd} {i j : Nat} (h : smE l u v i = false) (hij : i ≤ j) : smE l u v j = false := by
  rw [Bool.eq_false_iff] at h ⊢
  intro g
  have := smE_iff.mp g
  exact h (smE_iff.mpr ⟨this.1, fun q hq => this.2 q (by omega)⟩)
theorem again_iff {l : List Ent} {ns : List Nd} {v : Nat} (hv : 1 ≤ v) : again l ns v = true ↔ ∃ u, 1 ≤ u ∧ u < v ∧ sameStr l (ns.getD u (0, 0, 0, 0)) (ns.getD v (0, 0, 0, 0)) = true := by
  unfold again
  rw [decide_eq_true_iff]
  constructor
  · intro h
    have := fN_end (p := fun i => !sameStr l (ns.getD (1 + i) (0, 0, 0, 0)) (ns.getD v (0, 0, 0, 0))) (n := v - 1) (by omega)
    exact ⟨_, by omega, h, by simpa using this⟩
  · rintro ⟨u, h1, h2, h3⟩
    rcases Nat.lt_or_ge (1 + fN (fun i => !sameStr l (ns.getD (1 + i) (0, 0, 0, 0)) (ns.getD v (0, 0, 0, 0))) (v - 1)) v with h | h
    · exact h
    · have := fN_all (p := fun i => !sameStr l (ns.getD (1 + i) (0, 0, 0, 0)) (ns.getD v (0, 0, 0, 0))) (n := v - 1) (j := u - 1) (by omega)
      rw [show 1 + (u - 1) = u by omega, h3] at this
      cases this
set_option maxRecDepth 100000 in
set_option maxHeartbeats 400000 in
theorem c_M_isAgain {l : Launch} {G : Gx} {S : PS} {M : MoT} {x : Nat} (hx : MoOk S M x) {t v : Nat} {ls : List Ent} {ns : List Nd} (ht : t < 12) (hl : namesM M t ls) (htr : treeM M ns) (hok : ∀ u, u < ns.length → okNd ls (ns.getD u (0, 0, 0, 0))) (hv1 : 1 ≤ v) (hvn : v < ns.length) (hnl : ns.length ≤ 2401) : Ct l yX11_isAgain cX11_isAgain 6 (Option.some Jvm.ClassFile.FieldType.boolean) rm_X11_isAgain G [.ref x, .int (nI t), .int (nI v)] (mo_ S M) (fun r S' => r = some (.int (bI (again ls ns v))) ∧ S' = mo_ S M) := by
  obtain ⟨q_deep, r_deep, k_deep⟩ := hx.2 16 (by decide)
  obtain ⟨q_stringFrom, r_stringFrom, k_stringFrom⟩ := hx.2 18 (by decide)
  obtain ⟨q_low, r_low, k_low⟩ := hx.2 14 (by decide)
  have hl1 := hl.1
  obtain ⟨nv, hnv⟩ : ∃ nv, nv = ns.getD v (0, 0, 0, 0) := ⟨_, rfl⟩
  have hv9 := htr.2 v hvn
  rw [← hnv] at hv9
  have hov := hok v hvn
  rw [← hnv] at hov
  have p1 := hov.1
  have p2 := hov.2.1
  have p3 := hov.2.2.1
  have p4 := hov.2.2.2.2
  have hkv := hl.2.2 nv.1 (by omega)
  have p5 := hkv.1.2.1
  refine Ct.mk RX11 "isAgain" hy_X11_isAgain (Nat.le_of_ble_eq_true rfl) (fun X hX C => ?_)
  change Go X G _ 6 0 0 (mo_ S M) 0 [(0, .ref x), (1, .int (nI t)), (2, .int (nI v))] []
  refine g_iconst (v := nI 1) C dX11_isAgain_0 (by decide) ?_
  refine g_istore_n (lv' := [(3, .int (nI 1)), (0, .ref x), (1, .int (nI t)), (2, .int (nI v))]) C dX11_isAgain_1 rfl (by decide) rfl ?_
  have lp : ∀ (n_ : Nat) (u : Nat), v - u < n_ → (1 ≤ u ∧ u ≤ v ∧ ∀ q, 1 ≤ q → q < u → sameStr ls (ns.getD q (0, 0, 0, 0)) (ns.getD v (0, 0, 0, 0)) = false) → Go X G (Qe X G (fun r S' => r = some (.int (bI (again ls ns v))) ∧ S' = mo_ S M) rm_X11_isAgain.cells rm_X11_isAgain.slots) 6 0 0 (mo_ S M) 2 [(3, .int (nI u)), (0, .ref x), (1, .int (nI t)), (2, .int (nI v))] [] := by
    intro n_
    induction n_ with
    | zero => intro u hm_; exact absurd hm_ (Nat.not_lt_zero _)
    | succ n_ iho_ =>
      intro u hm_ hi
      refine g_iload_n 0 3 C dX11_isAgain_2 rfl rfl ?_
      refine g_iload_n 3 2 C dX11_isAgain_3 rfl rfl ?_
      refine g_ncmp_ge 138 (by omega) (by omega) C dX11_isAgain_4 (by decide) (fun c4 => ?_) (fun c4 => ?_)
      · have hres : again ls ns v = false := Bool.eq_false_iff.mpr (fun h => by
          obtain ⟨q, h1, h2, h3⟩ := (again_iff hv1).mp h
          rw [hi.2.2 q h1 (by omega)] at h3
          cases h3)
        refine g_iconst (v := nI 0) C dX11_isAgain_138 (by decide) ?_
        exact g_zret C dX11_isAgain_139 (by decide) (by decide) (Or.inl rfl) (⟨by rw [hres]; rfl, rfl⟩)
      · obtain ⟨nu, hnu⟩ : ∃ nu, nu = ns.getD u (0, 0, 0, 0) := ⟨_, rfl⟩
        have hu9 := htr.2 u (by omega)
        rw [← hnu] at hu9
        have hou := hok u (by omega)
        rw [← hnu] at hou
        have q1 := hou.1
        have q2 := hou.2.1
        have q3 := hou.2.2.1
        have q4 := hou.2.2.2.2
        have hku := hl.2.2 nu.1 (by omega)
        have q5 := hku.1.2.1
        refine g_aload_n 1 0 C dX11_isAgain_7 rfl rfl ?_
        refine gr_m_deep C dX11_isAgain_8 hx.1 wF_X11_68 r_deep ?_
        refine g_iload_n 0 3 C dX11_isAgain_11 rfl rfl ?_
        refine ga_m_deep C dX11_isAgain_12 k_deep (by omega) ?_
        refine g_topi (hu9.2.2.1) ?_
        refine g_aload_n 1 0 C dX11_isAgain_13 rfl rfl ?_
        refine gr_m_stringFrom C dX11_isAgain_14 hx.1 wF_X11_74 r_stringFrom ?_
        refine g_iload_n 0 3 C dX11_isAgain_17 rfl rfl ?_
        refine ga_m_stringFrom C dX11_isAgain_18 k_stringFrom (by omega) ?_
        refine g_topi (hu9.2.2.2) ?_
        refine g_isub C dX11_isAgain_19 ?_
        refine g_topi (pk_sub (by omega) : _ = nI (nu.2.2.1 - nu.2.2.2)) ?_
        refine g_aload_n 1 0 C dX11_isAgain_20 rfl rfl ?_
        refine gr_m_deep C dX11_isAgain_21 hx.1 wF_X11_68 r_deep ?_
        refine g_iload_n 3 2 C dX11_isAgain_24 rfl rfl ?_
        refine ga_m_deep C dX11_isAgain_25 k_deep (by omega) ?_
        refine g_topi (hv9.2.2.1) ?_
        refine g_aload_n 1 0 C dX11_isAgain_26 rfl rfl ?_
        refine gr_m_stringFrom C dX11_isAgain_27 hx.1 wF_X11_74 r_stringFrom ?_
        refine g_iload_n 3 2 C dX11_isAgain_30 rfl rfl ?_
        refine ga_m_stringFrom C dX11_isAgain_31 k_stringFrom (by omega) ?_
        refine g_topi (hv9.2.2.2) ?_
        refine g_isub C dX11_isAgain_32 ?_
        refine g_topi (pk_sub (by omega) : _ = nI (nv.2.2.1 - nv.2.2.2)) ?_
        refine g_ncmp_ne 40 (by omega) (by omega) C dX11_isAgain_33 (by decide) (fun c33 => ?_) (fun c33 => ?_)
        · refine g_iconst (v := nI 0) C dX11_isAgain_40 (by decide) ?_
          refine g_istore (lv' := [(4, .int (nI 0)), (3, .int (nI u)), (0, .ref x), (1, .int (nI t)), (2, .int (nI v))]) C dX11_isAgain_41 (by decide) rfl ?_
          refine g_iconst (v := nI 0) C dX11_isAgain_43 (by decide) ?_
          refine g_istore (lv' := [(5, .int (nI 0)), (4, .int (nI 0)), (3, .int (nI u)), (0, .ref x), (1, .int (nI t)), (2, .int (nI v))]) C dX11_isAgain_44 (by decide) rfl ?_
          have lp2 : ∀ (n_ : Nat) (i : Nat) (b : Int32), (nv.2.2.1 - nv.2.2.2) - i < n_ → (i ≤ (nv.2.2.1 - nv.2.2.2) ∧ b = bI (smE ls nu nv i)) → Go X G (Qe X G (fun r S' => r = some (.int (bI (again ls ns v))) ∧ S' = mo_ S M) rm_X11_isAgain.cells rm_X11_isAgain.slots) 6 0 0 (mo_ S M) 46 [(5, .int (nI i)), (4, .int b), (3, .int (nI u)), (0, .ref x), (1, .int (nI t)), (2, .int (nI v))] [] := by
            intro n_
            induction n_ with
            | zero => intro i b hm_; exact absurd hm_ (Nat.not_lt_zero _)
            | succ n_ ih_ =>
              intro i b hm_ hb
              refine g_iload 0 C dX11_isAgain_46 rfl ?_
              refine g_aload_n 3 0 C dX11_isAgain_48 rfl rfl ?_
              refine gr_m_deep C dX11_isAgain_49 hx.1 wF_X11_68 r_deep ?_
              refine g_iload_n 5 2 C dX11_isAgain_52 rfl rfl ?_
              refine ga_m_deep C dX11_isAgain_53 k_deep (by omega) ?_
              refine g_topi (hv9.2.2.1) ?_
              refine g_aload_n 3 0 C dX11_isAgain_54 rfl rfl ?_
              refine gr_m_stringFrom C dX11_isAgain_55 hx.1 wF_X11_74 r_stringFrom ?_
              refine g_iload_n 5 2 C dX11_isAgain_58 rfl rfl ?_
              refine ga_m_stringFrom C dX11_isAgain_59 k_stringFrom (by omega) ?_
              refine g_topi (hv9.2.2.2) ?_
              refine g_isub C dX11_isAgain_60 ?_
              refine g_topi (pk_sub (by omega) : _ = nI (nv.2.2.1 - nv.2.2.2)) ?_
              refine g_ncmp_ge 125 (by omega) (by omega) C dX11_isAgain_61 (by decide) (fun c61 => ?_) (fun c61 => ?_)
              · have hss : smE ls nu nv i = sameStr ls nu nv := by rw [show i = (nv.2.2.1 - nv.2.2.2) by omega]; rfl
                refine g_iload 1 C dX11_isAgain_125 rfl ?_
                refine g_if_eq 132 C dX11_isAgain_127 (by decide) (fun c127 => ?_) (fun c127 => ?_)
                · have hres : sameStr ls nu nv = false := by rw [← hss]; exact bI_f (hb.2.symm.trans c127)
                  refine g_iinc (v := nI (u + 1)) (lv' := [(3, .int (nI (u + 1))), (5, .int (nI i)), (4, .int b), (0, .ref x), (1, .int (nI t)), (2, .int (nI v))]) 2 C dX11_isAgain_132 rfl (nI_add _ 1) (by decide) rfl ?_
                  refine g_goto 2 C dX11_isAgain_135 (by decide) ?_
                  refine Go.pick (lv' := [(3, .int (nI (u + 1))), (0, .ref x), (1, .int (nI t)), (2, .int (nI v))]) [0, 3, 4, 5] rfl ?_
                  exact iho_ (u + 1) (by omega) ⟨by omega, by omega, fun q h1 h2 => by
                    by_cases e : q = u
                    · rw [e, ← hnu, ← hnv]; exact hres
                    · exact hi.2.2 q h1 (by omega)⟩
                · have hres : again ls ns v = true := (again_iff hv1).mpr ⟨u, by omega, by omega, by rw [← hnu, ← hnv, ← hss]; exact bI_t (hb.2 ▸ c127)⟩
                  refine g_iconst (v := nI 1) C dX11_isAgain_130 (by decide) ?_
                  exact g_zret C dX11_isAgain_131 (by decide) (by decide) (Or.inr rfl) (⟨by rw [hres]; rfl, rfl⟩)
              · refine g_iload 1 C dX11_isAgain_64 rfl ?_
                refine g_if_eq 125 C dX11_isAgain_66 (by decide) (fun c66 => ?_) (fun c66 => ?_)
                · have hff : smE ls nu nv i = false := bI_f (hb.2.symm.trans c66)
                  have hss : smE ls nu nv i = sameStr ls nu nv := by rw [hff]; exact (smE_down hff hb.1).symm
                  refine g_iload 1 C dX11_isAgain_125 rfl ?_
                  refine g_if_eq 132 C dX11_isAgain_127 (by decide) (fun c127 => ?_) (fun c127 => ?_)
                  · have hres : sameStr ls nu nv = false := by rw [← hss]; exact bI_f (hb.2.symm.trans c127)
                    refine g_iinc (v := nI (u + 1)) (lv' := [(3, .int (nI (u + 1))), (5, .int (nI i)), (4, .int b), (0, .ref x), (1, .int (nI t)), (2, .int (nI v))]) 2 C dX11_isAgain_132 rfl (nI_add _ 1) (by decide) rfl ?_
                    refine g_goto 2 C dX11_isAgain_135 (by decide) ?_
                    refine Go.pick (lv' := [(3, .int (nI (u + 1))), (0, .ref x), (1, .int (nI t)), (2, .int (nI v))]) [0, 3, 4, 5] rfl ?_
                    exact iho_ (u + 1) (by omega) ⟨by omega, by omega, fun q h1 h2 => by
                      by_cases e : q = u
                      · rw [e, ← hnu, ← hnv]; exact hres
                      · exact hi.2.2 q h1 (by omega)⟩
                  · have hres : again ls ns v = true := (again_iff hv1).mpr ⟨u, by omega, by omega, by rw [← hnu, ← hnv, ← hss]; exact bI_t (hb.2 ▸ c127)⟩
                    refine g_iconst (v := nI 1) C dX11_isAgain_130 (by decide) ?_
                    exact g_zret C dX11_isAgain_131 (by decide) (by decide) (Or.inr rfl) (⟨by rw [hres]; rfl, rfl⟩)
                · have hsm : smE ls nu nv i = true := bI_t (hb.2 ▸ c66)
                  have hlq := (smE_iff.mp hsm).1
                  have hy1 := hku.1.2.2 (nu.2.2.2 + i) (by omega)
                  have hy2 := hkv.1.2.2 (nv.2.2.2 + i) (by omega)
                  refine g_aload_n 3 0 C dX11_isAgain_69 rfl rfl ?_
                  refine g_iload_n 4 1 C dX11_isAgain_70 rfl rfl ?_
                  refine g_aload_n 3 0 C dX11_isAgain_71 rfl rfl ?_
                  refine gr_m_low C dX11_isAgain_72 hx.1 wF_X11_62 r_low ?_
                  refine g_iload_n 2 3 C dX11_isAgain_75 rfl rfl ?_
                  refine ga_m_low C dX11_isAgain_76 k_low (by omega) ?_
                  refine g_topi (hu9.1) ?_
                  refine g_aload_n 3 0 C dX11_isAgain_77 rfl rfl ?_
                  refine gr_m_stringFrom C dX11_isAgain_78 hx.1 wF_X11_74 r_stringFrom ?_
                  refine g_iload_n 2 3 C dX11_isAgain_81 rfl rfl ?_
                  refine ga_m_stringFrom C dX11_isAgain_82 k_stringFrom (by omega) ?_
                  refine g_topi (hu9.2.2.2) ?_
                  refine g_iload 0 C dX11_isAgain_83 rfl ?_
                  refine g_iadd C dX11_isAgain_85 ?_
                  refine g_topi (nI_add _ _ : _ = nI (nu.2.2.2 + i)) ?_
                  refine g_callV (As := [.int (nI t), .int (nI (nu.1)), .int (nI (nu.2.2.2 + i))]) (rest := []) C dX11_isAgain_86 (c_M_byteAt hx ht (by omega) (by omega)) wC_X11_byteAt wM_X11_111 wI_X11_byteAt wS_X11_byteAt wN_X11 (kne hx.1) (pf_11 hx.1) rfl hd_X11_byteAt ⟨by decide, by decide, by decide, by decide⟩ (Nat.le_of_ble_eq_true rfl) (fun r_ S_ h_ => ?_)
                  obtain ⟨rfl, rfl⟩ := h_
                  change Go X G _ 6 _ _ (mo_ S M) 89 [(5, .int (nI i)), (4, .int b), (3, .int (nI u)), (0, .ref x), (1, .int (nI t)), (2, .int (nI v))] [.int (m_bytes M (24 * (100 * t + nu.1) + (nu.2.2.2 + i)))]
                  refine g_topi (hku.2.1.2 (nu.2.2.2 + i) (by omega)) ?_
                  refine g_aload_n 3 0 C dX11_isAgain_89 rfl rfl ?_
                  refine g_iload_n 4 1 C dX11_isAgain_90 rfl rfl ?_
                  refine g_aload_n 3 0 C dX11_isAgain_91 rfl rfl ?_
                  refine gr_m_low C dX11_isAgain_92 hx.1 wF_X11_62 r_low ?_
                  refine g_iload_n 5 2 C dX11_isAgain_95 rfl rfl ?_
                  refine ga_m_low C dX11_isAgain_96 k_low (by omega) ?_
                  refine g_topi (hv9.1) ?_
                  refine g_aload_n 3 0 C dX11_isAgain_97 rfl rfl ?_
                  refine gr_m_stringFrom C dX11_isAgain_98 hx.1 wF_X11_74 r_stringFrom ?_
                  refine g_iload_n 5 2 C dX11_isAgain_101 rfl rfl ?_
                  refine ga_m_stringFrom C dX11_isAgain_102 k_stringFrom (by omega) ?_
                  refine g_topi (hv9.2.2.2) ?_
                  refine g_iload 0 C dX11_isAgain_103 rfl ?_
                  refine g_iadd C dX11_isAgain_105 ?_
                  refine g_topi (nI_add _ _ : _ = nI (nv.2.2.2 + i)) ?_
                  refine g_callV (As := [.int (nI t), .int (nI (nv.1)), .int (nI (nv.2.2.2 + i))]) (rest := [.int (nI ((nm ls nu.1).getD (nu.2.2.2 + i) 0))]) C dX11_isAgain_106 (c_M_byteAt hx ht (by omega) (by omega)) wC_X11_byteAt wM_X11_111 wI_X11_byteAt wS_X11_byteAt wN_X11 (kne hx.1) (pf_11 hx.1) rfl hd_X11_byteAt ⟨by decide, by decide, by decide, by decide⟩ (Nat.le_of_ble_eq_true rfl) (fun r_ S_ h_ => ?_)
                  obtain ⟨rfl, rfl⟩ := h_
                  change Go X G _ 6 _ _ (mo_ S M) 109 [(5, .int (nI i)), (4, .int b), (3, .int (nI u)), (0, .ref x), (1, .int (nI t)), (2, .int (nI v))] [.int (m_bytes M (24 * (100 * t + nv.1) + (nv.2.2.2 + i))), .int (nI ((nm ls nu.1).getD (nu.2.2.2 + i) 0))]
                  refine g_topi (hkv.2.1.2 (nv.2.2.2 + i) (by omega)) ?_
                  refine g_ncmp_ne 116 (by omega) (by omega) C dX11_isAgain_109 (by decide) (fun c109 => ?_) (fun c109 => ?_)
                  · refine g_iconst (v := nI 0) C dX11_isAgain_116 (by decide) ?_
                    refine g_istore (lv' := [(4, .int (nI 0)), (5, .int (nI i)), (3, .int (nI u)), (0, .ref x), (1, .int (nI t)), (2, .int (nI v))]) C dX11_isAgain_117 (by decide) rfl ?_
                    refine g_iinc (v := nI (i + 1)) (lv' := [(5, .int (nI (i + 1))), (4, .int (nI 0)), (3, .int (nI u)), (0, .ref x), (1, .int (nI t)), (2, .int (nI v))]) 1 C dX11_isAgain_119 rfl (nI_add _ 1) (by decide) rfl ?_
                    refine g_goto 46 C dX11_isAgain_122 (by decide) ?_
                    have hnx : smE ls nu nv (i + 1) = false := Bool.eq_false_iff.mpr (fun h => c109 ((smE_iff.mp h).2 i (by omega)))
                    exact ih_ (i + 1) _ (by omega) ⟨by omega, by rw [hnx]; rfl⟩
                  · refine g_iconst (v := nI 1) C dX11_isAgain_112 (by decide) ?_
                    refine g_goto 117 C dX11_isAgain_113 (by decide) ?_
                    refine g_istore (lv' := [(4, .int (nI 1)), (5, .int (nI i)), (3, .int (nI u)), (0, .ref x), (1, .int (nI t)), (2, .int (nI v))]) C dX11_isAgain_117 (by decide) rfl ?_
                    refine g_iinc (v := nI (i + 1)) (lv' := [(5, .int (nI (i + 1))), (4, .int (nI 1)), (3, .int (nI u)), (0, .ref x), (1, .int (nI t)), (2, .int (nI v))]) 1 C dX11_isAgain_119 rfl (nI_add _ 1) (by decide) rfl ?_
                    refine g_goto 46 C dX11_isAgain_122 (by decide) ?_
                    have hnx : smE ls nu nv (i + 1) = true := smE_iff.mpr ⟨hlq, fun q hq => by
                      by_cases e : q = i
                      · rw [e]; exact c109
                      · exact (smE_iff.mp hsm).2 q (by omega)⟩
                    exact ih_ (i + 1) _ (by omega) ⟨by omega, by rw [hnx]; rfl⟩
          exact lp2 ((nv.2.2.1 - nv.2.2.2) + 1) 0 _ (by omega) ⟨Nat.zero_le _, by rw [show smE ls nu nv 0 = false from Bool.eq_false_iff.mpr (fun h => c33 (smE_iff.mp h).1)]; rfl⟩
        · refine g_iconst (v := nI 1) C dX11_isAgain_36 (by decide) ?_
          refine g_goto 41 C dX11_isAgain_37 (by decide) ?_
          refine g_istore (lv' := [(4, .int (nI 1)), (3, .int (nI u)), (0, .ref x), (1, .int (nI t)), (2, .int (nI v))]) C dX11_isAgain_41 (by decide) rfl ?_
          refine g_iconst (v := nI 0) C dX11_isAgain_43 (by decide) ?_
          refine g_istore (lv' := [(5, .int (nI 0)), (4, .int (nI 1)), (3, .int (nI u)), (0, .ref x), (1, .int (nI t)), (2, .int (nI v))]) C dX11_isAgain_44 (by decide) rfl ?_
          have lp2 : ∀ (n_ : Nat) (i : Nat) (b : Int32), (nv.2.2.1 - nv.2.2.2) - i < n_ → (i ≤ (nv.2.2.1 - nv.2.2.2) ∧ b = bI (smE ls nu nv i)) → Go X G (Qe X G (fun r S' => r = some (.int (bI (again ls ns v))) ∧ S' = mo_ S M) rm_X11_isAgain.cells rm_X11_isAgain.slots) 6 0 0 (mo_ S M) 46 [(5, .int (nI i)), (4, .int b), (3, .int (nI u)), (0, .ref x), (1, .int (nI t)), (2, .int (nI v))] [] := by
            intro n_
            induction n_ with
            | zero => intro i b hm_; exact absurd hm_ (Nat.not_lt_zero _)
            | succ n_ ih_ =>
              intro i b hm_ hb
              refine g_iload 0 C dX11_isAgain_46 rfl ?_
              refine g_aload_n 3 0 C dX11_isAgain_48 rfl rfl ?_
              refine gr_m_deep C dX11_isAgain_49 hx.1 wF_X11_68 r_deep ?_
              refine g_iload_n 5 2 C dX11_isAgain_52 rfl rfl ?_
              refine ga_m_deep C dX11_isAgain_53 k_deep (by omega) ?_
              refine g_topi (hv9.2.2.1) ?_
              refine g_aload_n 3 0 C dX11_isAgain_54 rfl rfl ?_
              refine gr_m_stringFrom C dX11_isAgain_55 hx.1 wF_X11_74 r_stringFrom ?_
              refine g_iload_n 5 2 C dX11_isAgain_58 rfl rfl ?_
              refine ga_m_stringFrom C dX11_isAgain_59 k_stringFrom (by omega) ?_
              refine g_topi (hv9.2.2.2) ?_
              refine g_isub C dX11_isAgain_60 ?_
              refine g_topi (pk_sub (by omega) : _ = nI (nv.2.2.1 - nv.2.2.2)) ?_
              refine g_ncmp_ge 125 (by omega) (by omega) C dX11_isAgain_61 (by decide) (fun c61 => ?_) (fun c61 => ?_)
              · have hss : smE ls nu nv i = sameStr ls nu nv := by rw [show i = (nv.2.2.1 - nv.2.2.2) by omega]; rfl
                refine g_iload 1 C dX11_isAgain_125 rfl ?_
                refine g_if_eq 132 C dX11_isAgain_127 (by decide) (fun c127 => ?_) (fun c127 => ?_)
                · have hres : sameStr ls nu nv = false := by rw [← hss]; exact bI_f (hb.2.symm.trans c127)
                  refine g_iinc (v := nI (u + 1)) (lv' := [(3, .int (nI (u + 1))), (5, .int (nI i)), (4, .int b), (0, .ref x), (1, .int (nI t)), (2, .int (nI v))]) 2 C dX11_isAgain_132 rfl (nI_add _ 1) (by decide) rfl ?_
                  refine g_goto 2 C dX11_isAgain_135 (by decide) ?_
                  refine Go.pick (lv' := [(3, .int (nI (u + 1))), (0, .ref x), (1, .int (nI t)), (2, .int (nI v))]) [0, 3, 4, 5] rfl ?_
                  exact iho_ (u + 1) (by omega) ⟨by omega, by omega, fun q h1 h2 => by
                    by_cases e : q = u
                    · rw [e, ← hnu, ← hnv]; exact hres
                    · exact hi.2.2 q h1 (by omega)⟩
                · have hres : again ls ns v = true := (again_iff hv1).mpr ⟨u, by omega, by omega, by rw [← hnu, ← hnv, ← hss]; exact bI_t (hb.2 ▸ c127)⟩
                  refine g_iconst (v := nI 1) C dX11_isAgain_130 (by decide) ?_
                  exact g_zret C dX11_isAgain_131 (by decide) (by decide) (Or.inr rfl) (⟨by rw [hres]; rfl, rfl⟩)
              · refine g_iload 1 C dX11_isAgain_64 rfl ?_
                refine g_if_eq 125 C dX11_isAgain_66 (by decide) (fun c66 => ?_) (fun c66 => ?_)
                · have hff : smE ls nu nv i = false := bI_f (hb.2.symm.trans c66)
                  have hss : smE ls nu nv i = sameStr ls nu nv := by rw [hff]; exact (smE_down hff hb.1).symm
                  refine g_iload 1 C dX11_isAgain_125 rfl ?_
                  refine g_if_eq 132 C dX11_isAgain_127 (by decide) (fun c127 => ?_) (fun c127 => ?_)
                  · have hres : sameStr ls nu nv = false := by rw [← hss]; exact bI_f (hb.2.symm.trans c127)
                    refine g_iinc (v := nI (u + 1)) (lv' := [(3, .int (nI (u + 1))), (5, .int (nI i)), (4, .int b), (0, .ref x), (1, .int (nI t)), (2, .int (nI v))]) 2 C dX11_isAgain_132 rfl (nI_add _ 1) (by decide) rfl ?_
                    refine g_goto 2 C dX11_isAgain_135 (by decide) ?_
                    refine Go.pick (lv' := [(3, .int (nI (u + 1))), (0, .ref x), (1, .int (nI t)), (2, .int (nI v))]) [0, 3, 4, 5] rfl ?_
                    exact iho_ (u + 1) (by omega) ⟨by omega, by omega, fun q h1 h2 => by
                      by_cases e : q = u
                      · rw [e, ← hnu, ← hnv]; exact hres
                      · exact hi.2.2 q h1 (by omega)⟩
                  · have hres : again ls ns v = true := (again_iff hv1).mpr ⟨u, by omega, by omega, by rw [← hnu, ← hnv, ← hss]; exact bI_t (hb.2 ▸ c127)⟩
                    refine g_iconst (v := nI 1) C dX11_isAgain_130 (by decide) ?_
                    exact g_zret C dX11_isAgain_131 (by decide) (by decide) (Or.inr rfl) (⟨by rw [hres]; rfl, rfl⟩)
                · have hsm : smE ls nu nv i = true := bI_t (hb.2 ▸ c66)
                  have hlq := (smE_iff.mp hsm).1
                  have hy1 := hku.1.2.2 (nu.2.2.2 + i) (by omega)
                  have hy2 := hkv.1.2.2 (nv.2.2.2 + i) (by omega)
                  refine g_aload_n 3 0 C dX11_isAgain_69 rfl rfl ?_
                  refine g_iload_n 4 1 C dX11_isAgain_70 rfl rfl ?_
                  refine g_aload_n 3 0 C dX11_isAgain_71 rfl rfl ?_
                  refine gr_m_low C dX11_isAgain_72 hx.1 wF_X11_62 r_low ?_
                  refine g_iload_n 2 3 C dX11_isAgain_75 rfl rfl ?_
                  refine ga_m_low C dX11_isAgain_76 k_low (by omega) ?_
                  refine g_topi (hu9.1) ?_
                  refine g_aload_n 3 0 C dX11_isAgain_77 rfl rfl ?_
                  refine gr_m_stringFrom C dX11_isAgain_78 hx.1 wF_X11_74 r_stringFrom ?_
                  refine g_iload_n 2 3 C dX11_isAgain_81 rfl rfl ?_
                  refine ga_m_stringFrom C dX11_isAgain_82 k_stringFrom (by omega) ?_
                  refine g_topi (hu9.2.2.2) ?_
                  refine g_iload 0 C dX11_isAgain_83 rfl ?_
                  refine g_iadd C dX11_isAgain_85 ?_
                  refine g_topi (nI_add _ _ : _ = nI (nu.2.2.2 + i)) ?_
                  refine g_callV (As := [.int (nI t), .int (nI (nu.1)), .int (nI (nu.2.2.2 + i))]) (rest := []) C dX11_isAgain_86 (c_M_byteAt hx ht (by omega) (by omega)) wC_X11_byteAt wM_X11_111 wI_X11_byteAt wS_X11_byteAt wN_X11 (kne hx.1) (pf_11 hx.1) rfl hd_X11_byteAt ⟨by decide, by decide, by decide, by decide⟩ (Nat.le_of_ble_eq_true rfl) (fun r_ S_ h_ => ?_)
                  obtain ⟨rfl, rfl⟩ := h_
                  change Go X G _ 6 _ _ (mo_ S M) 89 [(5, .int (nI i)), (4, .int b), (3, .int (nI u)), (0, .ref x), (1, .int (nI t)), (2, .int (nI v))] [.int (m_bytes M (24 * (100 * t + nu.1) + (nu.2.2.2 + i)))]
                  refine g_topi (hku.2.1.2 (nu.2.2.2 + i) (by omega)) ?_
                  refine g_aload_n 3 0 C dX11_isAgain_89 rfl rfl ?_
                  refine g_iload_n 4 1 C dX11_isAgain_90 rfl rfl ?_
                  refine g_aload_n 3 0 C dX11_isAgain_91 rfl rfl ?_
                  refine gr_m_low C dX11_isAgain_92 hx.1 wF_X11_62 r_low ?_
                  refine g_iload_n 5 2 C dX11_isAgain_95 rfl rfl ?_
                  refine ga_m_low C dX11_isAgain_96 k_low (by omega) ?_
                  refine g_topi (hv9.1) ?_
                  refine g_aload_n 3 0 C dX11_isAgain_97 rfl rfl ?_
                  refine gr_m_stringFrom C dX11_isAgain_98 hx.1 wF_X11_74 r_stringFrom ?_
                  refine g_iload_n 5 2 C dX11_isAgain_101 rfl rfl ?_
                  refine ga_m_stringFrom C dX11_isAgain_102 k_stringFrom (by omega) ?_
                  refine g_topi (hv9.2.2.2) ?_
                  refine g_iload 0 C dX11_isAgain_103 rfl ?_
                  refine g_iadd C dX11_isAgain_105 ?_
                  refine g_topi (nI_add _ _ : _ = nI (nv.2.2.2 + i)) ?_
                  refine g_callV (As := [.int (nI t), .int (nI (nv.1)), .int (nI (nv.2.2.2 + i))]) (rest := [.int (nI ((nm ls nu.1).getD (nu.2.2.2 + i) 0))]) C dX11_isAgain_106 (c_M_byteAt hx ht (by omega) (by omega)) wC_X11_byteAt wM_X11_111 wI_X11_byteAt wS_X11_byteAt wN_X11 (kne hx.1) (pf_11 hx.1) rfl hd_X11_byteAt ⟨by decide, by decide, by decide, by decide⟩ (Nat.le_of_ble_eq_true rfl) (fun r_ S_ h_ => ?_)
                  obtain ⟨rfl, rfl⟩ := h_
                  change Go X G _ 6 _ _ (mo_ S M) 109 [(5, .int (nI i)), (4, .int b), (3, .int (nI u)), (0, .ref x), (1, .int (nI t)), (2, .int (nI v))] [.int (m_bytes M (24 * (100 * t + nv.1) + (nv.2.2.2 + i))), .int (nI ((nm ls nu.1).getD (nu.2.2.2 + i) 0))]
                  refine g_topi (hkv.2.1.2 (nv.2.2.2 + i) (by omega)) ?_
                  refine g_ncmp_ne 116 (by omega) (by omega) C dX11_isAgain_109 (by decide) (fun c109 => ?_) (fun c109 => ?_)
                  · refine g_iconst (v := nI 0) C dX11_isAgain_116 (by decide) ?_
                    refine g_istore (lv' := [(4, .int (nI 0)), (5, .int (nI i)), (3, .int (nI u)), (0, .ref x), (1, .int (nI t)), (2, .int (nI v))]) C dX11_isAgain_117 (by decide) rfl ?_
                    refine g_iinc (v := nI (i + 1)) (lv' := [(5, .int (nI (i + 1))), (4, .int (nI 0)), (3, .int (nI u)), (0, .ref x), (1, .int (nI t)), (2, .int (nI v))]) 1 C dX11_isAgain_119 rfl (nI_add _ 1) (by decide) rfl ?_
                    refine g_goto 46 C dX11_isAgain_122 (by decide) ?_
                    have hnx : smE ls nu nv (i + 1) = false := Bool.eq_false_iff.mpr (fun h => c109 ((smE_iff.mp h).2 i (by omega)))
                    exact ih_ (i + 1) _ (by omega) ⟨by omega, by rw [hnx]; rfl⟩
                  · refine g_iconst (v := nI 1) C dX11_isAgain_112 (by decide) ?_
                    refine g_goto 117 C dX11_isAgain_113 (by decide) ?_
                    refine g_istore (lv' := [(4, .int (nI 1)), (5, .int (nI i)), (3, .int (nI u)), (0, .ref x), (1, .int (nI t)), (2, .int (nI v))]) C dX11_isAgain_117 (by decide) rfl ?_
                    refine g_iinc (v := nI (i + 1)) (lv' := [(5, .int (nI (i + 1))), (4, .int (nI 1)), (3, .int (nI u)), (0, .ref x), (1, .int (nI t)), (2, .int (nI v))]) 1 C dX11_isAgain_119 rfl (nI_add _ 1) (by decide) rfl ?_
                    refine g_goto 46 C dX11_isAgain_122 (by decide) ?_
                    have hnx : smE ls nu nv (i + 1) = true := smE_iff.mpr ⟨hlq, fun q hq => by
                      by_cases e : q = i
                      · rw [e]; exact c109
                      · exact (smE_iff.mp hsm).2 q (by omega)⟩
                    exact ih_ (i + 1) _ (by omega) ⟨by omega, by rw [hnx]; rfl⟩
          exact lp2 ((nv.2.2.1 - nv.2.2.2) + 1) 0 _ (by omega) ⟨Nat.zero_le _, by rw [show smE ls nu nv 0 = true from smE_iff.mpr ⟨c33, fun q hq => absurd hq (Nat.not_lt_zero _)⟩]; rfl⟩
  exact lp (v + 1) 1 (by omega) ⟨by omega, by omega, fun q h1 h2 => absurd h1 (by omega)⟩
