/-- thing t is sealed as kind w -/
def sealedM (M : MoT) (t w : Nat) (l : List Ent) : Prop := m_sort M t = nI w ∧ bitsM M t (bitsN w l) ∧ m_edges M t = nI (edgesN w l) ∧ m_letters M t = nI (lettersN w l) ∧ m_marks M t = nI (marksN w l)
def zeroM (M : MoT) (t : Nat) : Prop := m_bits M t = nI 0 ∧ m_edges M t = nI 0 ∧ m_letters M t = nI 0 ∧ m_marks M t = nI 0
theorem BF.sort {t : Nat} {M : MoT} {v : Int32} : BF t M (m_sort_ M (upd (m_sort M) t v)) := ⟨_, m_bits M, m_edges M, m_letters M, m_marks M, m_row M, m_low M, m_high M, m_deep M, m_firstEdge M, m_stringFrom M, m_nodes M, rfl, fun q hq => ⟨pk_un hq, rfl, rfl, rfl, rfl⟩, fun _ _ => rfl⟩
theorem BF.lett {t : Nat} {M : MoT} {f : Nat → Int32} (h : ∀ q, q ≠ t → f q = m_letters M q) : BF t M (m_letters_ M f) := ⟨m_sort M, m_bits M, m_edges M, f, m_marks M, m_row M, m_low M, m_high M, m_deep M, m_firstEdge M, m_stringFrom M, m_nodes M, rfl, fun q hq => ⟨rfl, rfl, rfl, h q hq, rfl⟩, fun _ _ => rfl⟩
theorem BF.marks {t : Nat} {M : MoT} {f : Nat → Int32} (h : ∀ q, q ≠ t → f q = m_marks M q) : BF t M (m_marks_ M f) := ⟨m_sort M, m_bits M, m_edges M, m_letters M, f, m_row M, m_low M, m_high M, m_deep M, m_firstEdge M, m_stringFrom M, m_nodes M, rfl, fun q hq => ⟨rfl, rfl, rfl, rfl, h q hq⟩, fun _ _ => rfl⟩
theorem BF.edges {t : Nat} {M : MoT} {f : Nat → Int32} (h : ∀ q, q ≠ t → f q = m_edges M q) : BF t M (m_edges_ M f) := ⟨m_sort M, m_bits M, f, m_letters M, m_marks M, m_row M, m_low M, m_high M, m_deep M, m_firstEdge M, m_stringFrom M, m_nodes M, rfl, fun q hq => ⟨rfl, rfl, h q hq, rfl, rfl⟩, fun _ _ => rfl⟩
set_option maxRecDepth 100000 in
set_option maxHeartbeats 2000000 in
theorem c_M_sealed1 {l : Launch} {G : Gx} {S : PS} {M : MoT} {x : Nat} (hx : MoOk S M x) {t : Nat} {ls : List Ent} (ht : t < 12) (hl : namesM M t ls) (hO : okL ls) (hO0 : 0 < ls.length) (hz : zeroM M t) : Ct l yX11_sealed cX11_sealed 5 (Option.none : Option Jvm.ClassFile.FieldType) rm_X11_sealed G [.ref x, .int (nI t), .int (nI 1)] (mo_ S M) (fun r S' => ∃ M', r = none ∧ S' = mo_ S M' ∧ BF t M M' ∧ sealedM M' t 1 ls) := by
  obtain ⟨q_sort, r_sort, k_sort⟩ := hx.2 2 (by decide)
  obtain ⟨q_many, r_many, k_many⟩ := hx.2 3 (by decide)
  obtain ⟨q_letters, r_letters, k_letters⟩ := hx.2 6 (by decide)
  obtain ⟨q_size, r_size, k_size⟩ := hx.2 10 (by decide)
  obtain ⟨q_edges, r_edges, k_edges⟩ := hx.2 5 (by decide)
  obtain ⟨q_marks, r_marks, k_marks⟩ := hx.2 7 (by decide)
  obtain ⟨q_deep, r_deep, k_deep⟩ := hx.2 16 (by decide)
  obtain ⟨q_stringFrom, r_stringFrom, k_stringFrom⟩ := hx.2 18 (by decide)
  obtain ⟨q_firstEdge, r_firstEdge, k_firstEdge⟩ := hx.2 17 (by decide)
  have hl1 := hl.1
  refine Ct.mk RX11 "sealed" hy_X11_sealed (Nat.le_of_ble_eq_true rfl) (fun X hX C => ?_)
  change Go X G _ 5 0 0 (mo_ S M) 0 [(0, .ref x), (1, .int (nI t)), (2, .int (nI 1))] []
  refine g_aload_n 0 0 C dX11_sealed_0 rfl rfl ?_
  refine gr_m_sort C dX11_sealed_1 hx.1 wF_X11_20 r_sort ?_
  refine g_iload_n 1 1 C dX11_sealed_4 rfl rfl ?_
  refine g_iload_n 2 2 C dX11_sealed_5 rfl rfl ?_
  refine gs_m_sort C dX11_sealed_6 k_sort (by omega) ?_
  refine g_iload_n 2 2 C dX11_sealed_7 rfl rfl ?_
  refine g_iconst (v := nI 1) C dX11_sealed_8 (by decide) ?_
  refine g_ncmp_ne 53 (by decide) (by decide) C dX11_sealed_9 (by decide) (fun c => absurd c (by decide)) (fun _ => ?_)
  refine g_iconst (v := nI 0) C dX11_sealed_12 (by decide) ?_
  refine g_istore_n (lv' := [(3, .int (nI 0)), (0, .ref x), (1, .int (nI t)), (2, .int (nI 1))]) C dX11_sealed_13 rfl (by decide) rfl ?_
  have lp : ∀ (n_ : Nat) (k : Nat) (f : Nat → Int32), ls.length - k < n_ → (k ≤ ls.length ∧ f t = nI (sumN (fun k => (nm ls k).length) k) ∧ ∀ q, q ≠ t → f q = m_letters M q) → Go X G (Qe X G (fun r S' => ∃ M', r = none ∧ S' = mo_ S M' ∧ BF t M M' ∧ sealedM M' t 1 ls) rm_X11_sealed.cells rm_X11_sealed.slots) 5 0 0 (mo_ S (m_letters_ (m_sort_ M (upd (m_sort M) t (nI 1))) f)) 14 [(3, .int (nI k)), (0, .ref x), (1, .int (nI t)), (2, .int (nI 1))] [] := by
    intro n_
    induction n_ with
    | zero => intro k f hm_; exact absurd hm_ (Nat.not_lt_zero _)
    | succ n_ ih_ =>
      intro k f hm_ hi
      refine g_iload_n 0 3 C dX11_sealed_14 rfl rfl ?_
      refine g_aload_n 1 0 C dX11_sealed_15 rfl rfl ?_
      refine gr_m_many C dX11_sealed_16 hx.1 wF_X11_23 r_many ?_
      refine g_iload_n 2 1 C dX11_sealed_19 rfl rfl ?_
      refine ga_m_many C dX11_sealed_20 k_many (by omega) ?_
      refine g_topi (hl.2.1) ?_
      refine g_ncmp_ge 50 (by omega) (by omega) C dX11_sealed_21 (by decide) (fun c21 => ?_) (fun c21 => ?_)
      · refine g_goto 211 C dX11_sealed_50 (by decide) ?_
        exact g_vret C dX11_sealed_211 (by decide) (by decide) (⟨_, rfl, rfl, BF.sort.trans (BF.lett (M := (m_sort_ M (upd (m_sort M) t (nI 1)))) hi.2.2), pk_us, ⟨hz.1, fun i hi => absurd hi (Nat.not_lt_zero _)⟩, hz.2.1, hi.2.1.trans (by rw [show k = ls.length by omega]; rfl), hz.2.2.2⟩)
      · have hk := hl.2.2 k (by omega)
        have hkl := hk.1.2.1
        refine g_aload_n 1 0 C dX11_sealed_24 rfl rfl ?_
        refine gr_m_letters C dX11_sealed_25 hx.1 wF_X11_32 r_letters ?_
        refine g_iload_n 2 1 C dX11_sealed_28 rfl rfl ?_
        refine g_dup2_11 C dX11_sealed_29 rfl rfl ?_
        refine ga_m_letters C dX11_sealed_30 k_letters (by omega) ?_
        refine g_topi (hi.2.1) ?_
        refine g_aload_n 1 0 C dX11_sealed_31 rfl rfl ?_
        refine gr_m_size C dX11_sealed_32 hx.1 wF_X11_46 r_size ?_
        refine g_bipush (v := nI 100) C dX11_sealed_35 (by decide) ?_
        refine g_iload_n 2 1 C dX11_sealed_37 rfl rfl ?_
        refine g_imul C dX11_sealed_38 ?_
        refine g_topi (pk_mul _ _ : _ = nI (100 * t)) ?_
        refine g_iload_n 0 3 C dX11_sealed_39 rfl rfl ?_
        refine g_iadd C dX11_sealed_40 ?_
        refine g_topi (nI_add _ _ : _ = nI (100 * t + k)) ?_
        refine ga_m_size C dX11_sealed_41 k_size (by omega) ?_
        refine g_topi (hk.2.1.1) ?_
        refine g_iadd C dX11_sealed_42 ?_
        refine g_topi (nI_add _ _ : _ = nI (sumN (fun k => (nm ls k).length) k + ((nm ls k).length))) ?_
        refine gs_m_letters C dX11_sealed_43 k_letters (by omega) ?_
        refine g_iinc (v := nI (k + 1)) (lv' := [(3, .int (nI (k + 1))), (0, .ref x), (1, .int (nI t)), (2, .int (nI 1))]) 0 C dX11_sealed_44 rfl (nI_add _ 1) (by decide) rfl ?_
        refine g_goto 14 C dX11_sealed_47 (by decide) ?_
        exact ih_ (k + 1) _ (by omega) ⟨by omega, pk_us, fun q hq => (pk_un hq).trans (hi.2.2 q hq)⟩
  exact lp (ls.length + 1) 0 (m_letters M) (by omega) ⟨Nat.zero_le _, hz.2.2.1, fun _ _ => rfl⟩
set_option maxRecDepth 100000 in
set_option maxHeartbeats 2000000 in
theorem c_M_sealed5 {l : Launch} {G : Gx} {S : PS} {M : MoT} {x : Nat} (hx : MoOk S M x) {t : Nat} {ls : List Ent} (ht : t < 12) (hl : namesM M t ls) (hO : okL ls) (hO0 : 0 < ls.length) (hz : zeroM M t) : Ct l yX11_sealed cX11_sealed 5 (Option.none : Option Jvm.ClassFile.FieldType) rm_X11_sealed G [.ref x, .int (nI t), .int (nI 5)] (mo_ S M) (fun r S' => ∃ M', r = none ∧ S' = mo_ S M' ∧ BF t M M' ∧ sealedM M' t 5 ls) := by
  obtain ⟨q_sort, r_sort, k_sort⟩ := hx.2 2 (by decide)
  obtain ⟨q_many, r_many, k_many⟩ := hx.2 3 (by decide)
  obtain ⟨q_letters, r_letters, k_letters⟩ := hx.2 6 (by decide)
  obtain ⟨q_size, r_size, k_size⟩ := hx.2 10 (by decide)
  obtain ⟨q_edges, r_edges, k_edges⟩ := hx.2 5 (by decide)
  obtain ⟨q_marks, r_marks, k_marks⟩ := hx.2 7 (by decide)
  obtain ⟨q_deep, r_deep, k_deep⟩ := hx.2 16 (by decide)
  obtain ⟨q_stringFrom, r_stringFrom, k_stringFrom⟩ := hx.2 18 (by decide)
  obtain ⟨q_firstEdge, r_firstEdge, k_firstEdge⟩ := hx.2 17 (by decide)
  have hl1 := hl.1
  refine Ct.mk RX11 "sealed" hy_X11_sealed (Nat.le_of_ble_eq_true rfl) (fun X hX C => ?_)
  change Go X G _ 5 0 0 (mo_ S M) 0 [(0, .ref x), (1, .int (nI t)), (2, .int (nI 5))] []
  refine g_aload_n 0 0 C dX11_sealed_0 rfl rfl ?_
  refine gr_m_sort C dX11_sealed_1 hx.1 wF_X11_20 r_sort ?_
  refine g_iload_n 1 1 C dX11_sealed_4 rfl rfl ?_
  refine g_iload_n 2 2 C dX11_sealed_5 rfl rfl ?_
  refine gs_m_sort C dX11_sealed_6 k_sort (by omega) ?_
  refine g_iload_n 2 2 C dX11_sealed_7 rfl rfl ?_
  refine g_iconst (v := nI 1) C dX11_sealed_8 (by decide) ?_
  refine g_ncmp_ne 53 (by decide) (by decide) C dX11_sealed_9 (by decide) (fun _ => ?_) (fun c => absurd c (by decide))
  refine g_iload_n 2 2 C dX11_sealed_53 rfl rfl ?_
  refine g_iconst (v := nI 5) C dX11_sealed_54 (by decide) ?_
  refine g_ncmp_ne 66 (by decide) (by decide) C dX11_sealed_55 (by decide) (fun c => absurd c (by decide)) (fun _ => ?_)
  refine g_aload_n 0 0 C dX11_sealed_58 rfl rfl ?_
  refine g_iload_n 1 1 C dX11_sealed_59 rfl rfl ?_
  refine g_callV (As := [.int (nI t)]) (rest := []) C dX11_sealed_60 (c_M_split (M := (m_sort_ M (upd (m_sort M) t (nI 5)))) hx ht hl ⟨hz.1, fun i hi => absurd hi (Nat.not_lt_zero _)⟩) wC_X11_split wM_X11_148 wI_X11_split wS_X11_split wN_X11 (kne hx.1) (pf_11 hx.1) rfl hd_X11_split ⟨by decide, by decide, by decide, by decide⟩ (Nat.le_of_ble_eq_true rfl) (fun r_ S_ h_ => ?_)
  obtain ⟨M', rfl, rfl, hbf, hbi, hke⟩ := h_
  change Go X G _ 5 _ _ (mo_ S M') 63 [(0, .ref x), (1, .int (nI t)), (2, .int (nI 5))] []
  refine g_goto 211 C dX11_sealed_63 (by decide) ?_
  exact g_vret C dX11_sealed_211 (by decide) (by decide) (⟨M', rfl, rfl, BF.sort.trans hbf, by rw [hke.2.2.2]; exact pk_us, hbi, by rw [hke.1]; exact hz.2.1, by rw [hke.2.1]; exact hz.2.2.1, by rw [hke.2.2.1]; exact hz.2.2.2⟩)
set_option maxRecDepth 100000 in
set_option maxHeartbeats 2000000 in
theorem c_M_sealedT {l : Launch} {G : Gx} {S : PS} {M : MoT} {x : Nat} (hx : MoOk S M x) {t : Nat} {ls : List Ent} (ht : t < 12) (hl : namesM M t ls) (hO : okL ls) (hO0 : 0 < ls.length) (hz : zeroM M t) {w : Nat} (hw1 : 2 ≤ w) (hw2 : w ≤ 4) {pr : Bool} (hpr : (w != 2) = pr) : Ct l yX11_sealed cX11_sealed 5 (Option.none : Option Jvm.ClassFile.FieldType) rm_X11_sealed G [.ref x, .int (nI t), .int (nI w)] (mo_ S M) (fun r S' => ∃ M', r = none ∧ S' = mo_ S M' ∧ BF t M M' ∧ sealedM M' t w ls) := by
  obtain ⟨q_sort, r_sort, k_sort⟩ := hx.2 2 (by decide)
  obtain ⟨q_many, r_many, k_many⟩ := hx.2 3 (by decide)
  obtain ⟨q_letters, r_letters, k_letters⟩ := hx.2 6 (by decide)
  obtain ⟨q_size, r_size, k_size⟩ := hx.2 10 (by decide)
  obtain ⟨q_edges, r_edges, k_edges⟩ := hx.2 5 (by decide)
  obtain ⟨q_marks, r_marks, k_marks⟩ := hx.2 7 (by decide)
  obtain ⟨q_deep, r_deep, k_deep⟩ := hx.2 16 (by decide)
  obtain ⟨q_stringFrom, r_stringFrom, k_stringFrom⟩ := hx.2 18 (by decide)
  obtain ⟨q_firstEdge, r_firstEdge, k_firstEdge⟩ := hx.2 17 (by decide)
  have hl1 := hl.1
  have htok := tr_ok hO hO0 pr
  refine Ct.mk RX11 "sealed" hy_X11_sealed (Nat.le_of_ble_eq_true rfl) (fun X hX C => ?_)
  change Go X G _ 5 0 0 (mo_ S M) 0 [(0, .ref x), (1, .int (nI t)), (2, .int (nI w))] []
  refine g_aload_n 0 0 C dX11_sealed_0 rfl rfl ?_
  refine gr_m_sort C dX11_sealed_1 hx.1 wF_X11_20 r_sort ?_
  refine g_iload_n 1 1 C dX11_sealed_4 rfl rfl ?_
  refine g_iload_n 2 2 C dX11_sealed_5 rfl rfl ?_
  refine gs_m_sort C dX11_sealed_6 k_sort (by omega) ?_
  refine g_iload_n 2 2 C dX11_sealed_7 rfl rfl ?_
  refine g_iconst (v := nI 1) C dX11_sealed_8 (by decide) ?_
  refine g_ncmp_ne 53 (by omega) (by omega) C dX11_sealed_9 (by decide) (fun c9 => ?_) (fun c9 => ?_)
  · refine g_iload_n 2 2 C dX11_sealed_53 rfl rfl ?_
    refine g_iconst (v := nI 5) C dX11_sealed_54 (by decide) ?_
    refine g_ncmp_ne 66 (by omega) (by omega) C dX11_sealed_55 (by decide) (fun c55 => ?_) (fun c55 => ?_)
    · refine g_aload_n 0 0 C dX11_sealed_66 rfl rfl ?_
      refine g_iload_n 1 1 C dX11_sealed_67 rfl rfl ?_
      refine g_iload_n 2 2 C dX11_sealed_68 rfl rfl ?_
      refine g_iconst (v := nI 2) C dX11_sealed_69 (by decide) ?_
      refine g_ncmp_eq 77 (by omega) (by omega) C dX11_sealed_70 (by decide) (fun c70 => ?_) (fun c70 => ?_)
      · refine g_iconst (v := nI 0) C dX11_sealed_77 (by decide) ?_
        have hpv : pr = false := by rw [← hpr]; simpa using c70
        refine g_topi (show _ = bI pr by rw [hpv]; rfl) ?_
        refine g_callV (As := [.int (nI t), .int (bI pr)]) (rest := []) C dX11_sealed_78 (c_M_tree (M := (m_sort_ M (upd (m_sort M) t (nI w)))) (pr := pr) hx ht hl hO hO0) wC_X11_tree wM_X11_152 wI_X11_tree wS_X11_tree wN_X11 (kne hx.1) (pf_11 hx.1) rfl hd_X11_tree ⟨by decide, by decide, by decide, by decide⟩ (Nat.le_of_ble_eq_true rfl) (fun r_ S_ h_ => ?_)
        obtain ⟨M9, rfl, rfl, htf, htr, hfe⟩ := h_
        change Go X G _ 5 _ _ (mo_ S M9) 81 [(0, .ref x), (1, .int (nI t)), (2, .int (nI w))] []
        have hx9 := (show MoOk S (m_sort_ M (upd (m_sort M) t (nI w))) x from hx).of htf.mo_r
        have hk4 : m_edges M9 t = m_edges M t ∧ m_letters M9 t = m_letters M t ∧ m_marks M9 t = m_marks M t ∧ m_sort M9 t = upd (m_sort M) t (nI w) t := by
          obtain ⟨_, _, _, _, _, _, rfl⟩ := htf
          exact ⟨rfl, rfl, rfl, rfl⟩
        have hk4b : m_bits M9 t = m_bits M t := by
          obtain ⟨_, _, _, _, _, _, rfl⟩ := htf
          rfl
        obtain ⟨q_sort, r_sort, k_sort⟩ := hx9.2 2 (by decide)
        obtain ⟨q_many, r_many, k_many⟩ := hx9.2 3 (by decide)
        obtain ⟨q_letters, r_letters, k_letters⟩ := hx9.2 6 (by decide)
        obtain ⟨q_size, r_size, k_size⟩ := hx9.2 10 (by decide)
        obtain ⟨q_edges, r_edges, k_edges⟩ := hx9.2 5 (by decide)
        obtain ⟨q_marks, r_marks, k_marks⟩ := hx9.2 7 (by decide)
        obtain ⟨q_deep, r_deep, k_deep⟩ := hx9.2 16 (by decide)
        obtain ⟨q_stringFrom, r_stringFrom, k_stringFrom⟩ := hx9.2 18 (by decide)
        obtain ⟨q_firstEdge, r_firstEdge, k_firstEdge⟩ := hx9.2 17 (by decide)
        refine g_aload_n 0 0 C dX11_sealed_81 rfl rfl ?_
        refine gr_m_edges C dX11_sealed_82 hx.1 wF_X11_29 r_edges ?_
        refine g_iload_n 1 1 C dX11_sealed_85 rfl rfl ?_
        refine g_aload_n 0 0 C dX11_sealed_86 rfl rfl ?_
        refine gf_m_nodes C dX11_sealed_87 hx.1 wF_X11_77 ?_
        refine g_topi (htr.1) ?_
        refine g_iconst (v := nI 1) C dX11_sealed_90 (by decide) ?_
        refine g_isub C dX11_sealed_91 ?_
        refine g_topi (pk_sub (by omega) : _ = nI ((tr ls pr).length - 1)) ?_
        refine gs_m_edges C dX11_sealed_92 k_edges (by omega) ?_
        refine g_iconst (v := nI 0) C dX11_sealed_93 (by decide) ?_
        refine g_istore_n (lv' := [(3, .int (nI 0)), (0, .ref x), (1, .int (nI t)), (2, .int (nI w))]) C dX11_sealed_94 rfl (by decide) rfl ?_
        have lp : ∀ (n_ : Nat) (v : Nat) (M2 : MoT), (tr ls pr).length - v < n_ → (v ≤ (tr ls pr).length ∧ BF t M M2 ∧ treeM M2 (tr ls pr) ∧ feM M2 ls pr ((tr ls pr).length + 1) ∧ m_sort M2 t = nI w ∧ m_edges M2 t = nI ((tr ls pr).length - 1) ∧ bitsM M2 t (lvB ls pr v) ∧ m_marks M2 t = nI (mkV ls pr v) ∧ m_letters M2 t = nI (ltV ls w pr v)) → Go X G (Qe X G (fun r S' => ∃ M', r = none ∧ S' = mo_ S M' ∧ BF t M M' ∧ sealedM M' t w ls) rm_X11_sealed.cells rm_X11_sealed.slots) 5 0 0 (mo_ S M2) 95 [(3, .int (nI v)), (0, .ref x), (1, .int (nI t)), (2, .int (nI w))] [] := by
          intro n_
          induction n_ with
          | zero => intro v M2 hm_; exact absurd hm_ (Nat.not_lt_zero _)
          | succ n_ iho_ =>
            intro v M2 hm_ h2
            obtain ⟨hv0, hBF0, hTr0, hFe0, hSo0, hEd0, hB0, hMa0, hLe0⟩ := h2
            have hx2 := hx.of hBF0.mo_r
            have hn2 := hBF0.names hl
            obtain ⟨q_sort, r_sort, k_sort⟩ := hx2.2 2 (by decide)
            obtain ⟨q_many, r_many, k_many⟩ := hx2.2 3 (by decide)
            obtain ⟨q_letters, r_letters, k_letters⟩ := hx2.2 6 (by decide)
            obtain ⟨q_size, r_size, k_size⟩ := hx2.2 10 (by decide)
            obtain ⟨q_edges, r_edges, k_edges⟩ := hx2.2 5 (by decide)
            obtain ⟨q_marks, r_marks, k_marks⟩ := hx2.2 7 (by decide)
            obtain ⟨q_deep, r_deep, k_deep⟩ := hx2.2 16 (by decide)
            obtain ⟨q_stringFrom, r_stringFrom, k_stringFrom⟩ := hx2.2 18 (by decide)
            obtain ⟨q_firstEdge, r_firstEdge, k_firstEdge⟩ := hx2.2 17 (by decide)
            refine g_iload_n 0 3 C dX11_sealed_95 rfl rfl ?_
            refine g_aload_n 1 0 C dX11_sealed_96 rfl rfl ?_
            refine gf_m_nodes C dX11_sealed_97 hx.1 wF_X11_77 ?_
            refine g_topi (hTr0.1) ?_
            refine g_ncmp_ge 211 (by omega) (by omega) C dX11_sealed_100 (by decide) (fun c100 => ?_) (fun c100 => ?_)
            · have ev : v = (tr ls pr).length := by omega
              rw [ev] at hB0 hMa0 hLe0
              exact g_vret C dX11_sealed_211 (by decide) (by decide) ⟨M2, rfl, rfl, hBF0, hSo0, by rw [show bitsN w ls = bitsT ls pr from by unfold bitsN; rw [if_neg (by omega), if_neg (by omega), hpr], ← lvB_full hO hO0]; exact hB0, by rw [show edgesN w ls = (tr ls pr).length - 1 from by unfold edgesN; rw [if_neg (by omega), hpr]]; exact hEd0, by rw [show lettersN w ls = ltV ls w pr (tr ls pr).length from by unfold lettersN; rw [if_neg (by omega), if_neg (by omega), hpr]; rfl]; exact hLe0, by rw [show marksN w ls = mkV ls pr (tr ls pr).length from by unfold marksN; rw [if_neg (by omega), hpr]; rfl]; exact hMa0⟩
            · have hv : v < (tr ls pr).length := by omega
              obtain ⟨nd, hnd⟩ : ∃ nd, nd = ndAt ls pr v := ⟨_, rfl⟩
              have hN := hTr0.2 v hv
              rw [show (tr ls pr).getD v (0, 0, 0, 0) = nd from hnd.symm] at hN
              have hon := htok.2.2 v hv
              rw [← hnd] at hon
              have o1 := hon.1
              have o2 := hon.2.1
              have o3 := hon.2.2.1
              have o5 := hon.2.2.2.2
              have hlo := hn2.2.2 nd.1 (by omega)
              have hll := hlo.1.2.1
              have hmk : mkV ls pr v ≤ v := sumN_if_le (fun v => isEndN ls (ndAt ls pr v) = true) v
              have hlt := ltV_le (w := w) hO hO0 v (by omega)
              have hm1 := trS_mono ls pr v
              have hL1 := trS_len hO hO0 pr (v + 1)
              have hL0 := tr_lt (l := ls) (pr := pr) (by omega) hv
              refine g_aload_n 1 0 C dX11_sealed_103 rfl rfl ?_
              refine gr_m_marks C dX11_sealed_104 hx.1 wF_X11_35 r_marks ?_
              refine g_iload_n 2 1 C dX11_sealed_107 rfl rfl ?_
              refine g_dup2_11 C dX11_sealed_108 rfl rfl ?_
              refine ga_m_marks C dX11_sealed_109 k_marks (by omega) ?_
              refine g_topi (hMa0) ?_
              refine g_aload_n 1 0 C dX11_sealed_110 rfl rfl ?_
              refine g_iload_n 2 1 C dX11_sealed_111 rfl rfl ?_
              refine g_iload_n 0 3 C dX11_sealed_112 rfl rfl ?_
              refine g_callV (As := [.int (nI t), .int (nI v)]) (rest := [.int (nI (mkV ls pr v)), .int (nI t), .ref q_marks]) C dX11_sealed_113 (c_M_isEnd hx2 ht hn2 (by omega) hN.1 (by omega) hN.2.2.1 (by omega)) wC_X11_isEnd wM_X11_156 wI_X11_isEnd wS_X11_isEnd wN_X11 (kne hx.1) (pf_11 hx.1) rfl hd_X11_isEnd ⟨by decide, by decide, by decide, by decide⟩ (Nat.le_of_ble_eq_true rfl) (fun r_ S_ h_ => ?_)
              obtain ⟨rfl, rfl⟩ := h_
              change Go X G _ 5 _ _ (mo_ S M2) 116 [(3, .int (nI v)), (0, .ref x), (1, .int (nI t)), (2, .int (nI w))] [.int (bI (isEndN ls nd)), .int (nI (mkV ls pr v)), .int (nI t), .ref q_marks]
              refine g_if_eq 123 C dX11_sealed_116 (by decide) (fun c116 => ?_) (fun c116 => ?_)
              · have emk : mkV ls pr v + 0 = mkV ls pr (v + 1) := by show _ = mkV ls pr v + (if isEndN ls (ndAt ls pr v) = true then 1 else 0); rw [← hnd, bI_f c116]; rfl
                refine g_iconst (v := nI 0) C dX11_sealed_123 (by decide) ?_
                refine g_iadd C dX11_sealed_124 ?_
                refine g_topi (nI_add _ _ : _ = nI (mkV ls pr v + 0)) ?_
                refine gs_m_marks C dX11_sealed_125 k_marks (by omega) ?_
                refine g_iload_n 0 3 C dX11_sealed_126 rfl rfl ?_
                refine g_nif_le 166 (by omega) C dX11_sealed_127 (by decide) (fun c127 => ?_) (fun c127 => ?_)
                · have elt : ltV ls w pr v = ltV ls w pr (v + 1) := by show _ = ltV ls w pr v + (if _ then _ else 0); rw [if_neg (by omega)]; rfl
                  refine g_aload_n 1 0 C dX11_sealed_166 rfl rfl ?_
                  refine gr_m_firstEdge C dX11_sealed_167 hx.1 wF_X11_71 r_firstEdge ?_
                  refine g_iload_n 0 3 C dX11_sealed_170 rfl rfl ?_
                  refine ga_m_firstEdge C dX11_sealed_171 k_firstEdge (by omega) ?_
                  refine g_topi (hFe0 _ (by omega)) ?_
                  refine g_istore (lv' := [(4, .int (nI ((trS ls pr v).length - 1))), (3, .int (nI v)), (0, .ref x), (1, .int (nI t)), (2, .int (nI w))]) C dX11_sealed_172 (by decide) rfl ?_
                  have lp2 : ∀ (n_ : Nat) (d : Nat) (M3 : MoT), (trS ls pr (v + 1)).length - (trS ls pr v).length - d < n_ → (d ≤ (trS ls pr (v + 1)).length - (trS ls pr v).length ∧ BF t M M3 ∧ treeM M3 (tr ls pr) ∧ feM M3 ls pr ((tr ls pr).length + 1) ∧ m_sort M3 t = nI w ∧ m_edges M3 t = nI ((tr ls pr).length - 1) ∧ bitsM M3 t (lvB ls pr v ++ List.replicate d 1) ∧ m_marks M3 t = nI (mkV ls pr (v + 1)) ∧ m_letters M3 t = nI (ltV ls w pr (v + 1))) → Go X G (Qe X G (fun r S' => ∃ M', r = none ∧ S' = mo_ S M' ∧ BF t M M' ∧ sealedM M' t w ls) rm_X11_sealed.cells rm_X11_sealed.slots) 5 0 0 (mo_ S M3) 174 [(4, .int (nI ((trS ls pr v).length - 1 + d))), (3, .int (nI v)), (0, .ref x), (1, .int (nI t)), (2, .int (nI w))] [] := by
                    intro n_
                    induction n_ with
                    | zero => intro d M3 hm_; exact absurd hm_ (Nat.not_lt_zero _)
                    | succ n_ ih_ =>
                      intro d M3 hm_ h3
                      obtain ⟨hd3, hBF, hTr, hFe, hSo, hEd, hB, hMa, hLe⟩ := h3
                      obtain ⟨bk, hbk⟩ : ∃ bk, bk = lvB ls pr v ++ List.replicate d 1 := ⟨_, rfl⟩
                      rw [← hbk] at hB
                      have hx3 := hx.of hBF.mo_r
                      have hbl : bk.length ≤ 4803 := by
                        have a1 := lvB_len (l := ls) (pr := pr) v
                        rw [hbk, List.length_append, List.length_replicate]
                        omega
                      obtain ⟨q_sort, r_sort, k_sort⟩ := hx3.2 2 (by decide)
                      obtain ⟨q_many, r_many, k_many⟩ := hx3.2 3 (by decide)
                      obtain ⟨q_letters, r_letters, k_letters⟩ := hx3.2 6 (by decide)
                      obtain ⟨q_size, r_size, k_size⟩ := hx3.2 10 (by decide)
                      obtain ⟨q_edges, r_edges, k_edges⟩ := hx3.2 5 (by decide)
                      obtain ⟨q_marks, r_marks, k_marks⟩ := hx3.2 7 (by decide)
                      obtain ⟨q_deep, r_deep, k_deep⟩ := hx3.2 16 (by decide)
                      obtain ⟨q_stringFrom, r_stringFrom, k_stringFrom⟩ := hx3.2 18 (by decide)
                      obtain ⟨q_firstEdge, r_firstEdge, k_firstEdge⟩ := hx3.2 17 (by decide)
                      refine g_iload 0 C dX11_sealed_174 rfl ?_
                      refine g_aload_n 2 0 C dX11_sealed_176 rfl rfl ?_
                      refine gr_m_firstEdge C dX11_sealed_177 hx.1 wF_X11_71 r_firstEdge ?_
                      refine g_iload_n 1 3 C dX11_sealed_180 rfl rfl ?_
                      refine g_iconst (v := nI 1) C dX11_sealed_181 (by decide) ?_
                      refine g_iadd C dX11_sealed_182 ?_
                      refine g_topi (nI_add _ _ : _ = nI (v + 1)) ?_
                      refine ga_m_firstEdge C dX11_sealed_183 k_firstEdge (by omega) ?_
                      refine g_topi (hFe _ (by omega)) ?_
                      refine g_ncmp_ge 199 (by omega) (by omega) C dX11_sealed_184 (by decide) (fun c184 => ?_) (fun c184 => ?_)
                      · have eB : lvB ls pr (v + 1) = bk ++ [0] := by rw [hbk, lvB_succ, List.append_assoc, show d = (trS ls pr (v + 1)).length - (trS ls pr v).length by omega]
                        refine g_aload_n 2 0 C dX11_sealed_199 rfl rfl ?_
                        refine g_iload_n 3 1 C dX11_sealed_200 rfl rfl ?_
                        refine g_iconst (v := nI 0) C dX11_sealed_201 (by decide) ?_
                        refine g_callV (As := [.int (nI t), .int (nI 0)]) (rest := []) C dX11_sealed_202 (c_M_addBit hx3 ht (by omega) hB.1) wC_X11_addBit wM_X11_162 wI_X11_addBit wS_X11_addBit wN_X11 (kne hx.1) (pf_11 hx.1) rfl hd_X11_addBit ⟨by decide, by decide, by decide, by decide⟩ (Nat.le_of_ble_eq_true rfl) (fun r_ S_ h_ => ?_)
                        obtain ⟨rfl, rfl⟩ := h_
                        change Go X G _ 5 _ _ (mo_ S (addB M3 t bk.length 0)) 205 [(4, .int (nI ((trS ls pr v).length - 1 + d))), (3, .int (nI v)), (0, .ref x), (1, .int (nI t)), (2, .int (nI w))] []
                        refine g_iinc (v := nI (v + 1)) (lv' := [(3, .int (nI (v + 1))), (4, .int (nI ((trS ls pr v).length - 1 + d))), (0, .ref x), (1, .int (nI t)), (2, .int (nI w))]) 1 C dX11_sealed_205 rfl (nI_add _ 1) (by decide) rfl ?_
                        refine g_goto 95 C dX11_sealed_208 (by decide) ?_
                        refine Go.pick (lv' := [(3, .int (nI (v + 1))), (0, .ref x), (1, .int (nI t)), (2, .int (nI w))]) [0, 2, 3, 4] rfl ?_
                        exact iho_ (v + 1) _ (by omega) ⟨by omega, hBF.trans (BF.addB (by omega)), hTr, hFe, hSo, hEd, by rw [eB]; exact hB.add 0, hMa, hLe⟩
                      · refine g_aload_n 2 0 C dX11_sealed_187 rfl rfl ?_
                        refine g_iload_n 3 1 C dX11_sealed_188 rfl rfl ?_
                        refine g_iconst (v := nI 1) C dX11_sealed_189 (by decide) ?_
                        refine g_callV (As := [.int (nI t), .int (nI 1)]) (rest := []) C dX11_sealed_190 (c_M_addBit hx3 ht (by omega) hB.1) wC_X11_addBit wM_X11_162 wI_X11_addBit wS_X11_addBit wN_X11 (kne hx.1) (pf_11 hx.1) rfl hd_X11_addBit ⟨by decide, by decide, by decide, by decide⟩ (Nat.le_of_ble_eq_true rfl) (fun r_ S_ h_ => ?_)
                        obtain ⟨rfl, rfl⟩ := h_
                        change Go X G _ 5 _ _ (mo_ S (addB M3 t bk.length 1)) 193 [(4, .int (nI ((trS ls pr v).length - 1 + d))), (3, .int (nI v)), (0, .ref x), (1, .int (nI t)), (2, .int (nI w))] []
                        refine g_iinc (v := nI ((trS ls pr v).length - 1 + d + 1)) (lv' := [(4, .int (nI ((trS ls pr v).length - 1 + d + 1))), (3, .int (nI v)), (0, .ref x), (1, .int (nI t)), (2, .int (nI w))]) 0 C dX11_sealed_193 rfl (nI_add _ 1) (by decide) rfl ?_
                        refine g_goto 174 C dX11_sealed_196 (by decide) ?_
                        exact ih_ (d + 1) _ (by omega) ⟨by omega, hBF.trans (BF.addB (by omega)), hTr, hFe, hSo, hEd, by rw [← rep_succ, ← hbk]; exact hB.add 1, hMa, hLe⟩
                  rw [show (trS ls pr v).length - 1 = (trS ls pr v).length - 1 + 0 from rfl]
                  exact lp2 ((trS ls pr (v + 1)).length + 1) 0 _ (by omega) ⟨Nat.zero_le _, hBF0.trans (BF.marks (fun q hq => pk_un hq)), hTr0, hFe0, hSo0, hEd0, by show bitsM _ t (lvB ls pr v ++ []); rw [List.append_nil]; exact hB0, pk_us.trans (by rw [emk]), hLe0.trans (by rw [elt])⟩
                · refine g_iload_n 3 2 C dX11_sealed_130 rfl rfl ?_
                  refine g_iconst (v := nI 4) C dX11_sealed_131 (by decide) ?_
                  refine g_ncmp_ne 144 (by omega) (by omega) C dX11_sealed_132 (by decide) (fun c132 => ?_) (fun c132 => ?_)
                  · have elt : ltV ls w pr v + (nd.2.2.1 - nd.2.2.2) = ltV ls w pr (v + 1) := by show _ = ltV ls w pr v + (if 0 < v ∧ ¬ (w = 4 ∧ again ls (tr ls pr) v = true) then _ else 0); rw [if_pos ⟨c127, fun z => c132 z.1⟩, ← hnd]
                    refine g_aload_n 1 0 C dX11_sealed_144 rfl rfl ?_
                    refine gr_m_letters C dX11_sealed_145 hx.1 wF_X11_32 r_letters ?_
                    refine g_iload_n 2 1 C dX11_sealed_148 rfl rfl ?_
                    refine g_dup2_11 C dX11_sealed_149 rfl rfl ?_
                    refine ga_m_letters C dX11_sealed_150 k_letters (by omega) ?_
                    refine g_topi (hLe0) ?_
                    refine g_aload_n 1 0 C dX11_sealed_151 rfl rfl ?_
                    refine gr_m_deep C dX11_sealed_152 hx.1 wF_X11_68 r_deep ?_
                    refine g_iload_n 0 3 C dX11_sealed_155 rfl rfl ?_
                    refine ga_m_deep C dX11_sealed_156 k_deep (by omega) ?_
                    refine g_topi (hN.2.2.1) ?_
                    refine g_aload_n 1 0 C dX11_sealed_157 rfl rfl ?_
                    refine gr_m_stringFrom C dX11_sealed_158 hx.1 wF_X11_74 r_stringFrom ?_
                    refine g_iload_n 0 3 C dX11_sealed_161 rfl rfl ?_
                    refine ga_m_stringFrom C dX11_sealed_162 k_stringFrom (by omega) ?_
                    refine g_topi (hN.2.2.2) ?_
                    refine g_isub C dX11_sealed_163 ?_
                    refine g_topi (pk_sub (by omega) : _ = nI (nd.2.2.1 - nd.2.2.2)) ?_
                    refine g_iadd C dX11_sealed_164 ?_
                    refine g_topi (nI_add _ _ : _ = nI (ltV ls w pr v + (nd.2.2.1 - nd.2.2.2))) ?_
                    refine gs_m_letters C dX11_sealed_165 k_letters (by omega) ?_
                    refine g_aload_n 1 0 C dX11_sealed_166 rfl rfl ?_
                    refine gr_m_firstEdge C dX11_sealed_167 hx.1 wF_X11_71 r_firstEdge ?_
                    refine g_iload_n 0 3 C dX11_sealed_170 rfl rfl ?_
                    refine ga_m_firstEdge C dX11_sealed_171 k_firstEdge (by omega) ?_
                    refine g_topi (hFe0 _ (by omega)) ?_
                    refine g_istore (lv' := [(4, .int (nI ((trS ls pr v).length - 1))), (3, .int (nI v)), (0, .ref x), (1, .int (nI t)), (2, .int (nI w))]) C dX11_sealed_172 (by decide) rfl ?_
                    have lp2 : ∀ (n_ : Nat) (d : Nat) (M3 : MoT), (trS ls pr (v + 1)).length - (trS ls pr v).length - d < n_ → (d ≤ (trS ls pr (v + 1)).length - (trS ls pr v).length ∧ BF t M M3 ∧ treeM M3 (tr ls pr) ∧ feM M3 ls pr ((tr ls pr).length + 1) ∧ m_sort M3 t = nI w ∧ m_edges M3 t = nI ((tr ls pr).length - 1) ∧ bitsM M3 t (lvB ls pr v ++ List.replicate d 1) ∧ m_marks M3 t = nI (mkV ls pr (v + 1)) ∧ m_letters M3 t = nI (ltV ls w pr (v + 1))) → Go X G (Qe X G (fun r S' => ∃ M', r = none ∧ S' = mo_ S M' ∧ BF t M M' ∧ sealedM M' t w ls) rm_X11_sealed.cells rm_X11_sealed.slots) 5 0 0 (mo_ S M3) 174 [(4, .int (nI ((trS ls pr v).length - 1 + d))), (3, .int (nI v)), (0, .ref x), (1, .int (nI t)), (2, .int (nI w))] [] := by
                      intro n_
                      induction n_ with
                      | zero => intro d M3 hm_; exact absurd hm_ (Nat.not_lt_zero _)
                      | succ n_ ih_ =>
                        intro d M3 hm_ h3
                        obtain ⟨hd3, hBF, hTr, hFe, hSo, hEd, hB, hMa, hLe⟩ := h3
                        obtain ⟨bk, hbk⟩ : ∃ bk, bk = lvB ls pr v ++ List.replicate d 1 := ⟨_, rfl⟩
                        rw [← hbk] at hB
                        have hx3 := hx.of hBF.mo_r
                        have hbl : bk.length ≤ 4803 := by
                          have a1 := lvB_len (l := ls) (pr := pr) v
                          rw [hbk, List.length_append, List.length_replicate]
                          omega
                        obtain ⟨q_sort, r_sort, k_sort⟩ := hx3.2 2 (by decide)
                        obtain ⟨q_many, r_many, k_many⟩ := hx3.2 3 (by decide)
                        obtain ⟨q_letters, r_letters, k_letters⟩ := hx3.2 6 (by decide)
                        obtain ⟨q_size, r_size, k_size⟩ := hx3.2 10 (by decide)
                        obtain ⟨q_edges, r_edges, k_edges⟩ := hx3.2 5 (by decide)
                        obtain ⟨q_marks, r_marks, k_marks⟩ := hx3.2 7 (by decide)
                        obtain ⟨q_deep, r_deep, k_deep⟩ := hx3.2 16 (by decide)
                        obtain ⟨q_stringFrom, r_stringFrom, k_stringFrom⟩ := hx3.2 18 (by decide)
                        obtain ⟨q_firstEdge, r_firstEdge, k_firstEdge⟩ := hx3.2 17 (by decide)
                        refine g_iload 0 C dX11_sealed_174 rfl ?_
                        refine g_aload_n 2 0 C dX11_sealed_176 rfl rfl ?_
                        refine gr_m_firstEdge C dX11_sealed_177 hx.1 wF_X11_71 r_firstEdge ?_
                        refine g_iload_n 1 3 C dX11_sealed_180 rfl rfl ?_
                        refine g_iconst (v := nI 1) C dX11_sealed_181 (by decide) ?_
                        refine g_iadd C dX11_sealed_182 ?_
                        refine g_topi (nI_add _ _ : _ = nI (v + 1)) ?_
                        refine ga_m_firstEdge C dX11_sealed_183 k_firstEdge (by omega) ?_
                        refine g_topi (hFe _ (by omega)) ?_
                        refine g_ncmp_ge 199 (by omega) (by omega) C dX11_sealed_184 (by decide) (fun c184 => ?_) (fun c184 => ?_)
                        · have eB : lvB ls pr (v + 1) = bk ++ [0] := by rw [hbk, lvB_succ, List.append_assoc, show d = (trS ls pr (v + 1)).length - (trS ls pr v).length by omega]
                          refine g_aload_n 2 0 C dX11_sealed_199 rfl rfl ?_
                          refine g_iload_n 3 1 C dX11_sealed_200 rfl rfl ?_
                          refine g_iconst (v := nI 0) C dX11_sealed_201 (by decide) ?_
                          refine g_callV (As := [.int (nI t), .int (nI 0)]) (rest := []) C dX11_sealed_202 (c_M_addBit hx3 ht (by omega) hB.1) wC_X11_addBit wM_X11_162 wI_X11_addBit wS_X11_addBit wN_X11 (kne hx.1) (pf_11 hx.1) rfl hd_X11_addBit ⟨by decide, by decide, by decide, by decide⟩ (Nat.le_of_ble_eq_true rfl) (fun r_ S_ h_ => ?_)
                          obtain ⟨rfl, rfl⟩ := h_
                          change Go X G _ 5 _ _ (mo_ S (addB M3 t bk.length 0)) 205 [(4, .int (nI ((trS ls pr v).length - 1 + d))), (3, .int (nI v)), (0, .ref x), (1, .int (nI t)), (2, .int (nI w))] []
                          refine g_iinc (v := nI (v + 1)) (lv' := [(3, .int (nI (v + 1))), (4, .int (nI ((trS ls pr v).length - 1 + d))), (0, .ref x), (1, .int (nI t)), (2, .int (nI w))]) 1 C dX11_sealed_205 rfl (nI_add _ 1) (by decide) rfl ?_
                          refine g_goto 95 C dX11_sealed_208 (by decide) ?_
                          refine Go.pick (lv' := [(3, .int (nI (v + 1))), (0, .ref x), (1, .int (nI t)), (2, .int (nI w))]) [0, 2, 3, 4] rfl ?_
                          exact iho_ (v + 1) _ (by omega) ⟨by omega, hBF.trans (BF.addB (by omega)), hTr, hFe, hSo, hEd, by rw [eB]; exact hB.add 0, hMa, hLe⟩
                        · refine g_aload_n 2 0 C dX11_sealed_187 rfl rfl ?_
                          refine g_iload_n 3 1 C dX11_sealed_188 rfl rfl ?_
                          refine g_iconst (v := nI 1) C dX11_sealed_189 (by decide) ?_
                          refine g_callV (As := [.int (nI t), .int (nI 1)]) (rest := []) C dX11_sealed_190 (c_M_addBit hx3 ht (by omega) hB.1) wC_X11_addBit wM_X11_162 wI_X11_addBit wS_X11_addBit wN_X11 (kne hx.1) (pf_11 hx.1) rfl hd_X11_addBit ⟨by decide, by decide, by decide, by decide⟩ (Nat.le_of_ble_eq_true rfl) (fun r_ S_ h_ => ?_)
                          obtain ⟨rfl, rfl⟩ := h_
                          change Go X G _ 5 _ _ (mo_ S (addB M3 t bk.length 1)) 193 [(4, .int (nI ((trS ls pr v).length - 1 + d))), (3, .int (nI v)), (0, .ref x), (1, .int (nI t)), (2, .int (nI w))] []
                          refine g_iinc (v := nI ((trS ls pr v).length - 1 + d + 1)) (lv' := [(4, .int (nI ((trS ls pr v).length - 1 + d + 1))), (3, .int (nI v)), (0, .ref x), (1, .int (nI t)), (2, .int (nI w))]) 0 C dX11_sealed_193 rfl (nI_add _ 1) (by decide) rfl ?_
                          refine g_goto 174 C dX11_sealed_196 (by decide) ?_
                          exact ih_ (d + 1) _ (by omega) ⟨by omega, hBF.trans (BF.addB (by omega)), hTr, hFe, hSo, hEd, by rw [← rep_succ, ← hbk]; exact hB.add 1, hMa, hLe⟩
                    rw [show (trS ls pr v).length - 1 = (trS ls pr v).length - 1 + 0 from rfl]
                    exact lp2 ((trS ls pr (v + 1)).length + 1) 0 _ (by omega) ⟨Nat.zero_le _, (hBF0.trans (BF.marks (fun q hq => pk_un hq))).trans (BF.lett (fun q hq => pk_un hq)), hTr0, hFe0, hSo0, hEd0, by show bitsM _ t (lvB ls pr v ++ []); rw [List.append_nil]; exact hB0, pk_us.trans (by rw [emk]), pk_us.trans (by rw [elt])⟩
                  · refine g_aload_n 1 0 C dX11_sealed_135 rfl rfl ?_
                    refine g_iload_n 2 1 C dX11_sealed_136 rfl rfl ?_
                    refine g_iload_n 0 3 C dX11_sealed_137 rfl rfl ?_
                    refine g_callV (As := [.int (nI t), .int (nI v)]) (rest := []) C dX11_sealed_138 (c_M_isAgain (M := (m_marks_ M2 (upd (m_marks M2) t (nI (mkV ls pr v + 0))))) hx2 ht hn2 hTr0 htok.2.2 (by omega) hv htok.1) wC_X11_isAgain wM_X11_159 wI_X11_isAgain wS_X11_isAgain wN_X11 (kne hx.1) (pf_11 hx.1) rfl hd_X11_isAgain ⟨by decide, by decide, by decide, by decide⟩ (Nat.le_of_ble_eq_true rfl) (fun r_ S_ h_ => ?_)
                    obtain ⟨rfl, rfl⟩ := h_
                    change Go X G _ 5 _ _ (mo_ S (m_marks_ M2 (upd (m_marks M2) t (nI (mkV ls pr v + 0))))) 141 [(3, .int (nI v)), (0, .ref x), (1, .int (nI t)), (2, .int (nI w))] [.int (bI (again ls (tr ls pr) v))]
                    refine g_if_ne 166 C dX11_sealed_141 (by decide) (fun c141 => ?_) (fun c141 => ?_)
                    · have elt : ltV ls w pr v = ltV ls w pr (v + 1) := by show _ = ltV ls w pr v + (if 0 < v ∧ ¬ (w = 4 ∧ again ls (tr ls pr) v = true) then _ else 0); rw [if_neg (fun z => z.2 ⟨c132, bI_t c141⟩)]; rfl
                      refine g_aload_n 1 0 C dX11_sealed_166 rfl rfl ?_
                      refine gr_m_firstEdge C dX11_sealed_167 hx.1 wF_X11_71 r_firstEdge ?_
                      refine g_iload_n 0 3 C dX11_sealed_170 rfl rfl ?_
                      refine ga_m_firstEdge C dX11_sealed_171 k_firstEdge (by omega) ?_
                      refine g_topi (hFe0 _ (by omega)) ?_
                      refine g_istore (lv' := [(4, .int (nI ((trS ls pr v).length - 1))), (3, .int (nI v)), (0, .ref x), (1, .int (nI t)), (2, .int (nI w))]) C dX11_sealed_172 (by decide) rfl ?_
                      have lp2 : ∀ (n_ : Nat) (d : Nat) (M3 : MoT), (trS ls pr (v + 1)).length - (trS ls pr v).length - d < n_ → (d ≤ (trS ls pr (v + 1)).length - (trS ls pr v).length ∧ BF t M M3 ∧ treeM M3 (tr ls pr) ∧ feM M3 ls pr ((tr ls pr).length + 1) ∧ m_sort M3 t = nI w ∧ m_edges M3 t = nI ((tr ls pr).length - 1) ∧ bitsM M3 t (lvB ls pr v ++ List.replicate d 1) ∧ m_marks M3 t = nI (mkV ls pr (v + 1)) ∧ m_letters M3 t = nI (ltV ls w pr (v + 1))) → Go X G (Qe X G (fun r S' => ∃ M', r = none ∧ S' = mo_ S M' ∧ BF t M M' ∧ sealedM M' t w ls) rm_X11_sealed.cells rm_X11_sealed.slots) 5 0 0 (mo_ S M3) 174 [(4, .int (nI ((trS ls pr v).length - 1 + d))), (3, .int (nI v)), (0, .ref x), (1, .int (nI t)), (2, .int (nI w))] [] := by
                        intro n_
                        induction n_ with
                        | zero => intro d M3 hm_; exact absurd hm_ (Nat.not_lt_zero _)
                        | succ n_ ih_ =>
                          intro d M3 hm_ h3
                          obtain ⟨hd3, hBF, hTr, hFe, hSo, hEd, hB, hMa, hLe⟩ := h3
                          obtain ⟨bk, hbk⟩ : ∃ bk, bk = lvB ls pr v ++ List.replicate d 1 := ⟨_, rfl⟩
                          rw [← hbk] at hB
                          have hx3 := hx.of hBF.mo_r
                          have hbl : bk.length ≤ 4803 := by
                            have a1 := lvB_len (l := ls) (pr := pr) v
                            rw [hbk, List.length_append, List.length_replicate]
                            omega
                          obtain ⟨q_sort, r_sort, k_sort⟩ := hx3.2 2 (by decide)
                          obtain ⟨q_many, r_many, k_many⟩ := hx3.2 3 (by decide)
                          obtain ⟨q_letters, r_letters, k_letters⟩ := hx3.2 6 (by decide)
                          obtain ⟨q_size, r_size, k_size⟩ := hx3.2 10 (by decide)
                          obtain ⟨q_edges, r_edges, k_edges⟩ := hx3.2 5 (by decide)
                          obtain ⟨q_marks, r_marks, k_marks⟩ := hx3.2 7 (by decide)
                          obtain ⟨q_deep, r_deep, k_deep⟩ := hx3.2 16 (by decide)
                          obtain ⟨q_stringFrom, r_stringFrom, k_stringFrom⟩ := hx3.2 18 (by decide)
                          obtain ⟨q_firstEdge, r_firstEdge, k_firstEdge⟩ := hx3.2 17 (by decide)
                          refine g_iload 0 C dX11_sealed_174 rfl ?_
                          refine g_aload_n 2 0 C dX11_sealed_176 rfl rfl ?_
                          refine gr_m_firstEdge C dX11_sealed_177 hx.1 wF_X11_71 r_firstEdge ?_
                          refine g_iload_n 1 3 C dX11_sealed_180 rfl rfl ?_
                          refine g_iconst (v := nI 1) C dX11_sealed_181 (by decide) ?_
                          refine g_iadd C dX11_sealed_182 ?_
                          refine g_topi (nI_add _ _ : _ = nI (v + 1)) ?_
                          refine ga_m_firstEdge C dX11_sealed_183 k_firstEdge (by omega) ?_
                          refine g_topi (hFe _ (by omega)) ?_
                          refine g_ncmp_ge 199 (by omega) (by omega) C dX11_sealed_184 (by decide) (fun c184 => ?_) (fun c184 => ?_)
                          · have eB : lvB ls pr (v + 1) = bk ++ [0] := by rw [hbk, lvB_succ, List.append_assoc, show d = (trS ls pr (v + 1)).length - (trS ls pr v).length by omega]
                            refine g_aload_n 2 0 C dX11_sealed_199 rfl rfl ?_
                            refine g_iload_n 3 1 C dX11_sealed_200 rfl rfl ?_
                            refine g_iconst (v := nI 0) C dX11_sealed_201 (by decide) ?_
                            refine g_callV (As := [.int (nI t), .int (nI 0)]) (rest := []) C dX11_sealed_202 (c_M_addBit hx3 ht (by omega) hB.1) wC_X11_addBit wM_X11_162 wI_X11_addBit wS_X11_addBit wN_X11 (kne hx.1) (pf_11 hx.1) rfl hd_X11_addBit ⟨by decide, by decide, by decide, by decide⟩ (Nat.le_of_ble_eq_true rfl) (fun r_ S_ h_ => ?_)
                            obtain ⟨rfl, rfl⟩ := h_
                            change Go X G _ 5 _ _ (mo_ S (addB M3 t bk.length 0)) 205 [(4, .int (nI ((trS ls pr v).length - 1 + d))), (3, .int (nI v)), (0, .ref x), (1, .int (nI t)), (2, .int (nI w))] []
                            refine g_iinc (v := nI (v + 1)) (lv' := [(3, .int (nI (v + 1))), (4, .int (nI ((trS ls pr v).length - 1 + d))), (0, .ref x), (1, .int (nI t)), (2, .int (nI w))]) 1 C dX11_sealed_205 rfl (nI_add _ 1) (by decide) rfl ?_
                            refine g_goto 95 C dX11_sealed_208 (by decide) ?_
                            refine Go.pick (lv' := [(3, .int (nI (v + 1))), (0, .ref x), (1, .int (nI t)), (2, .int (nI w))]) [0, 2, 3, 4] rfl ?_
                            exact iho_ (v + 1) _ (by omega) ⟨by omega, hBF.trans (BF.addB (by omega)), hTr, hFe, hSo, hEd, by rw [eB]; exact hB.add 0, hMa, hLe⟩
                          · refine g_aload_n 2 0 C dX11_sealed_187 rfl rfl ?_
                            refine g_iload_n 3 1 C dX11_sealed_188 rfl rfl ?_
                            refine g_iconst (v := nI 1) C dX11_sealed_189 (by decide) ?_
                            refine g_callV (As := [.int (nI t), .int (nI 1)]) (rest := []) C dX11_sealed_190 (c_M_addBit hx3 ht (by omega) hB.1) wC_X11_addBit wM_X11_162 wI_X11_addBit wS_X11_addBit wN_X11 (kne hx.1) (pf_11 hx.1) rfl hd_X11_addBit ⟨by decide, by decide, by decide, by decide⟩ (Nat.le_of_ble_eq_true rfl) (fun r_ S_ h_ => ?_)
                            obtain ⟨rfl, rfl⟩ := h_
                            change Go X G _ 5 _ _ (mo_ S (addB M3 t bk.length 1)) 193 [(4, .int (nI ((trS ls pr v).length - 1 + d))), (3, .int (nI v)), (0, .ref x), (1, .int (nI t)), (2, .int (nI w))] []
                            refine g_iinc (v := nI ((trS ls pr v).length - 1 + d + 1)) (lv' := [(4, .int (nI ((trS ls pr v).length - 1 + d + 1))), (3, .int (nI v)), (0, .ref x), (1, .int (nI t)), (2, .int (nI w))]) 0 C dX11_sealed_193 rfl (nI_add _ 1) (by decide) rfl ?_
                            refine g_goto 174 C dX11_sealed_196 (by decide) ?_
                            exact ih_ (d + 1) _ (by omega) ⟨by omega, hBF.trans (BF.addB (by omega)), hTr, hFe, hSo, hEd, by rw [← rep_succ, ← hbk]; exact hB.add 1, hMa, hLe⟩
                      rw [show (trS ls pr v).length - 1 = (trS ls pr v).length - 1 + 0 from rfl]
                      exact lp2 ((trS ls pr (v + 1)).length + 1) 0 _ (by omega) ⟨Nat.zero_le _, hBF0.trans (BF.marks (fun q hq => pk_un hq)), hTr0, hFe0, hSo0, hEd0, by show bitsM _ t (lvB ls pr v ++ []); rw [List.append_nil]; exact hB0, pk_us.trans (by rw [emk]), hLe0.trans (by rw [elt])⟩
                    · have elt : ltV ls w pr v + (nd.2.2.1 - nd.2.2.2) = ltV ls w pr (v + 1) := by show _ = ltV ls w pr v + (if 0 < v ∧ ¬ (w = 4 ∧ again ls (tr ls pr) v = true) then _ else 0); rw [if_pos ⟨c127, fun z => by rw [bI_f c141] at z; exact absurd z.2 (by decide)⟩, ← hnd]
                      refine g_aload_n 1 0 C dX11_sealed_144 rfl rfl ?_
                      refine gr_m_letters C dX11_sealed_145 hx.1 wF_X11_32 r_letters ?_
                      refine g_iload_n 2 1 C dX11_sealed_148 rfl rfl ?_
                      refine g_dup2_11 C dX11_sealed_149 rfl rfl ?_
                      refine ga_m_letters C dX11_sealed_150 k_letters (by omega) ?_
                      refine g_topi (hLe0) ?_
                      refine g_aload_n 1 0 C dX11_sealed_151 rfl rfl ?_
                      refine gr_m_deep C dX11_sealed_152 hx.1 wF_X11_68 r_deep ?_
                      refine g_iload_n 0 3 C dX11_sealed_155 rfl rfl ?_
                      refine ga_m_deep C dX11_sealed_156 k_deep (by omega) ?_
                      refine g_topi (hN.2.2.1) ?_
                      refine g_aload_n 1 0 C dX11_sealed_157 rfl rfl ?_
                      refine gr_m_stringFrom C dX11_sealed_158 hx.1 wF_X11_74 r_stringFrom ?_
                      refine g_iload_n 0 3 C dX11_sealed_161 rfl rfl ?_
                      refine ga_m_stringFrom C dX11_sealed_162 k_stringFrom (by omega) ?_
                      refine g_topi (hN.2.2.2) ?_
                      refine g_isub C dX11_sealed_163 ?_
                      refine g_topi (pk_sub (by omega) : _ = nI (nd.2.2.1 - nd.2.2.2)) ?_
                      refine g_iadd C dX11_sealed_164 ?_
                      refine g_topi (nI_add _ _ : _ = nI (ltV ls w pr v + (nd.2.2.1 - nd.2.2.2))) ?_
                      refine gs_m_letters C dX11_sealed_165 k_letters (by omega) ?_
                      refine g_aload_n 1 0 C dX11_sealed_166 rfl rfl ?_
                      refine gr_m_firstEdge C dX11_sealed_167 hx.1 wF_X11_71 r_firstEdge ?_
                      refine g_iload_n 0 3 C dX11_sealed_170 rfl rfl ?_
                      refine ga_m_firstEdge C dX11_sealed_171 k_firstEdge (by omega) ?_
                      refine g_topi (hFe0 _ (by omega)) ?_
                      refine g_istore (lv' := [(4, .int (nI ((trS ls pr v).length - 1))), (3, .int (nI v)), (0, .ref x), (1, .int (nI t)), (2, .int (nI w))]) C dX11_sealed_172 (by decide) rfl ?_
                      have lp2 : ∀ (n_ : Nat) (d : Nat) (M3 : MoT), (trS ls pr (v + 1)).length - (trS ls pr v).length - d < n_ → (d ≤ (trS ls pr (v + 1)).length - (trS ls pr v).length ∧ BF t M M3 ∧ treeM M3 (tr ls pr) ∧ feM M3 ls pr ((tr ls pr).length + 1) ∧ m_sort M3 t = nI w ∧ m_edges M3 t = nI ((tr ls pr).length - 1) ∧ bitsM M3 t (lvB ls pr v ++ List.replicate d 1) ∧ m_marks M3 t = nI (mkV ls pr (v + 1)) ∧ m_letters M3 t = nI (ltV ls w pr (v + 1))) → Go X G (Qe X G (fun r S' => ∃ M', r = none ∧ S' = mo_ S M' ∧ BF t M M' ∧ sealedM M' t w ls) rm_X11_sealed.cells rm_X11_sealed.slots) 5 0 0 (mo_ S M3) 174 [(4, .int (nI ((trS ls pr v).length - 1 + d))), (3, .int (nI v)), (0, .ref x), (1, .int (nI t)), (2, .int (nI w))] [] := by
                        intro n_
                        induction n_ with
                        | zero => intro d M3 hm_; exact absurd hm_ (Nat.not_lt_zero _)
                        | succ n_ ih_ =>
                          intro d M3 hm_ h3
                          obtain ⟨hd3, hBF, hTr, hFe, hSo, hEd, hB, hMa, hLe⟩ := h3
                          obtain ⟨bk, hbk⟩ : ∃ bk, bk = lvB ls pr v ++ List.replicate d 1 := ⟨_, rfl⟩
                          rw [← hbk] at hB
                          have hx3 := hx.of hBF.mo_r
                          have hbl : bk.length ≤ 4803 := by
                            have a1 := lvB_len (l := ls) (pr := pr) v
                            rw [hbk, List.length_append, List.length_replicate]
                            omega
                          obtain ⟨q_sort, r_sort, k_sort⟩ := hx3.2 2 (by decide)
                          obtain ⟨q_many, r_many, k_many⟩ := hx3.2 3 (by decide)
                          obtain ⟨q_letters, r_letters, k_letters⟩ := hx3.2 6 (by decide)
                          obtain ⟨q_size, r_size, k_size⟩ := hx3.2 10 (by decide)
                          obtain ⟨q_edges, r_edges, k_edges⟩ := hx3.2 5 (by decide)
                          obtain ⟨q_marks, r_marks, k_marks⟩ := hx3.2 7 (by decide)
                          obtain ⟨q_deep, r_deep, k_deep⟩ := hx3.2 16 (by decide)
                          obtain ⟨q_stringFrom, r_stringFrom, k_stringFrom⟩ := hx3.2 18 (by decide)
                          obtain ⟨q_firstEdge, r_firstEdge, k_firstEdge⟩ := hx3.2 17 (by decide)
                          refine g_iload 0 C dX11_sealed_174 rfl ?_
                          refine g_aload_n 2 0 C dX11_sealed_176 rfl rfl ?_
                          refine gr_m_firstEdge C dX11_sealed_177 hx.1 wF_X11_71 r_firstEdge ?_
                          refine g_iload_n 1 3 C dX11_sealed_180 rfl rfl ?_
                          refine g_iconst (v := nI 1) C dX11_sealed_181 (by decide) ?_
                          refine g_iadd C dX11_sealed_182 ?_
                          refine g_topi (nI_add _ _ : _ = nI (v + 1)) ?_
                          refine ga_m_firstEdge C dX11_sealed_183 k_firstEdge (by omega) ?_
                          refine g_topi (hFe _ (by omega)) ?_
                          refine g_ncmp_ge 199 (by omega) (by omega) C dX11_sealed_184 (by decide) (fun c184 => ?_) (fun c184 => ?_)
                          · have eB : lvB ls pr (v + 1) = bk ++ [0] := by rw [hbk, lvB_succ, List.append_assoc, show d = (trS ls pr (v + 1)).length - (trS ls pr v).length by omega]
                            refine g_aload_n 2 0 C dX11_sealed_199 rfl rfl ?_
                            refine g_iload_n 3 1 C dX11_sealed_200 rfl rfl ?_
                            refine g_iconst (v := nI 0) C dX11_sealed_201 (by decide) ?_
                            refine g_callV (As := [.int (nI t), .int (nI 0)]) (rest := []) C dX11_sealed_202 (c_M_addBit hx3 ht (by omega) hB.1) wC_X11_addBit wM_X11_162 wI_X11_addBit wS_X11_addBit wN_X11 (kne hx.1) (pf_11 hx.1) rfl hd_X11_addBit ⟨by decide, by decide, by decide, by decide⟩ (Nat.le_of_ble_eq_true rfl) (fun r_ S_ h_ => ?_)
                            obtain ⟨rfl, rfl⟩ := h_
                            change Go X G _ 5 _ _ (mo_ S (addB M3 t bk.length 0)) 205 [(4, .int (nI ((trS ls pr v).length - 1 + d))), (3, .int (nI v)), (0, .ref x), (1, .int (nI t)), (2, .int (nI w))] []
                            refine g_iinc (v := nI (v + 1)) (lv' := [(3, .int (nI (v + 1))), (4, .int (nI ((trS ls pr v).length - 1 + d))), (0, .ref x), (1, .int (nI t)), (2, .int (nI w))]) 1 C dX11_sealed_205 rfl (nI_add _ 1) (by decide) rfl ?_
                            refine g_goto 95 C dX11_sealed_208 (by decide) ?_
                            refine Go.pick (lv' := [(3, .int (nI (v + 1))), (0, .ref x), (1, .int (nI t)), (2, .int (nI w))]) [0, 2, 3, 4] rfl ?_
                            exact iho_ (v + 1) _ (by omega) ⟨by omega, hBF.trans (BF.addB (by omega)), hTr, hFe, hSo, hEd, by rw [eB]; exact hB.add 0, hMa, hLe⟩
                          · refine g_aload_n 2 0 C dX11_sealed_187 rfl rfl ?_
                            refine g_iload_n 3 1 C dX11_sealed_188 rfl rfl ?_
                            refine g_iconst (v := nI 1) C dX11_sealed_189 (by decide) ?_
                            refine g_callV (As := [.int (nI t), .int (nI 1)]) (rest := []) C dX11_sealed_190 (c_M_addBit hx3 ht (by omega) hB.1) wC_X11_addBit wM_X11_162 wI_X11_addBit wS_X11_addBit wN_X11 (kne hx.1) (pf_11 hx.1) rfl hd_X11_addBit ⟨by decide, by decide, by decide, by decide⟩ (Nat.le_of_ble_eq_true rfl) (fun r_ S_ h_ => ?_)
                            obtain ⟨rfl, rfl⟩ := h_
                            change Go X G _ 5 _ _ (mo_ S (addB M3 t bk.length 1)) 193 [(4, .int (nI ((trS ls pr v).length - 1 + d))), (3, .int (nI v)), (0, .ref x), (1, .int (nI t)), (2, .int (nI w))] []
                            refine g_iinc (v := nI ((trS ls pr v).length - 1 + d + 1)) (lv' := [(4, .int (nI ((trS ls pr v).length - 1 + d + 1))), (3, .int (nI v)), (0, .ref x), (1, .int (nI t)), (2, .int (nI w))]) 0 C dX11_sealed_193 rfl (nI_add _ 1) (by decide) rfl ?_
                            refine g_goto 174 C dX11_sealed_196 (by decide) ?_
                            exact ih_ (d + 1) _ (by omega) ⟨by omega, hBF.trans (BF.addB (by omega)), hTr, hFe, hSo, hEd, by rw [← rep_succ, ← hbk]; exact hB.add 1, hMa, hLe⟩
                      rw [show (trS ls pr v).length - 1 = (trS ls pr v).length - 1 + 0 from rfl]
                      exact lp2 ((trS ls pr (v + 1)).length + 1) 0 _ (by omega) ⟨Nat.zero_le _, (hBF0.trans (BF.marks (fun q hq => pk_un hq))).trans (BF.lett (fun q hq => pk_un hq)), hTr0, hFe0, hSo0, hEd0, by show bitsM _ t (lvB ls pr v ++ []); rw [List.append_nil]; exact hB0, pk_us.trans (by rw [emk]), pk_us.trans (by rw [elt])⟩
              · have emk : mkV ls pr v + 1 = mkV ls pr (v + 1) := by show _ = mkV ls pr v + (if isEndN ls (ndAt ls pr v) = true then 1 else 0); rw [← hnd, bI_t c116]; rfl
                refine g_iconst (v := nI 1) C dX11_sealed_119 (by decide) ?_
                refine g_goto 124 C dX11_sealed_120 (by decide) ?_
                refine g_iadd C dX11_sealed_124 ?_
                refine g_topi (nI_add _ _ : _ = nI (mkV ls pr v + 1)) ?_
                refine gs_m_marks C dX11_sealed_125 k_marks (by omega) ?_
                refine g_iload_n 0 3 C dX11_sealed_126 rfl rfl ?_
                refine g_nif_le 166 (by omega) C dX11_sealed_127 (by decide) (fun c127 => ?_) (fun c127 => ?_)
                · have elt : ltV ls w pr v = ltV ls w pr (v + 1) := by show _ = ltV ls w pr v + (if _ then _ else 0); rw [if_neg (by omega)]; rfl
                  refine g_aload_n 1 0 C dX11_sealed_166 rfl rfl ?_
                  refine gr_m_firstEdge C dX11_sealed_167 hx.1 wF_X11_71 r_firstEdge ?_
                  refine g_iload_n 0 3 C dX11_sealed_170 rfl rfl ?_
                  refine ga_m_firstEdge C dX11_sealed_171 k_firstEdge (by omega) ?_
                  refine g_topi (hFe0 _ (by omega)) ?_
                  refine g_istore (lv' := [(4, .int (nI ((trS ls pr v).length - 1))), (3, .int (nI v)), (0, .ref x), (1, .int (nI t)), (2, .int (nI w))]) C dX11_sealed_172 (by decide) rfl ?_
                  have lp2 : ∀ (n_ : Nat) (d : Nat) (M3 : MoT), (trS ls pr (v + 1)).length - (trS ls pr v).length - d < n_ → (d ≤ (trS ls pr (v + 1)).length - (trS ls pr v).length ∧ BF t M M3 ∧ treeM M3 (tr ls pr) ∧ feM M3 ls pr ((tr ls pr).length + 1) ∧ m_sort M3 t = nI w ∧ m_edges M3 t = nI ((tr ls pr).length - 1) ∧ bitsM M3 t (lvB ls pr v ++ List.replicate d 1) ∧ m_marks M3 t = nI (mkV ls pr (v + 1)) ∧ m_letters M3 t = nI (ltV ls w pr (v + 1))) → Go X G (Qe X G (fun r S' => ∃ M', r = none ∧ S' = mo_ S M' ∧ BF t M M' ∧ sealedM M' t w ls) rm_X11_sealed.cells rm_X11_sealed.slots) 5 0 0 (mo_ S M3) 174 [(4, .int (nI ((trS ls pr v).length - 1 + d))), (3, .int (nI v)), (0, .ref x), (1, .int (nI t)), (2, .int (nI w))] [] := by
                    intro n_
                    induction n_ with
                    | zero => intro d M3 hm_; exact absurd hm_ (Nat.not_lt_zero _)
                    | succ n_ ih_ =>
                      intro d M3 hm_ h3
                      obtain ⟨hd3, hBF, hTr, hFe, hSo, hEd, hB, hMa, hLe⟩ := h3
                      obtain ⟨bk, hbk⟩ : ∃ bk, bk = lvB ls pr v ++ List.replicate d 1 := ⟨_, rfl⟩
                      rw [← hbk] at hB
                      have hx3 := hx.of hBF.mo_r
                      have hbl : bk.length ≤ 4803 := by
                        have a1 := lvB_len (l := ls) (pr := pr) v
                        rw [hbk, List.length_append, List.length_replicate]
                        omega
                      obtain ⟨q_sort, r_sort, k_sort⟩ := hx3.2 2 (by decide)
                      obtain ⟨q_many, r_many, k_many⟩ := hx3.2 3 (by decide)
                      obtain ⟨q_letters, r_letters, k_letters⟩ := hx3.2 6 (by decide)
                      obtain ⟨q_size, r_size, k_size⟩ := hx3.2 10 (by decide)
                      obtain ⟨q_edges, r_edges, k_edges⟩ := hx3.2 5 (by decide)
                      obtain ⟨q_marks, r_marks, k_marks⟩ := hx3.2 7 (by decide)
                      obtain ⟨q_deep, r_deep, k_deep⟩ := hx3.2 16 (by decide)
                      obtain ⟨q_stringFrom, r_stringFrom, k_stringFrom⟩ := hx3.2 18 (by decide)
                      obtain ⟨q_firstEdge, r_firstEdge, k_firstEdge⟩ := hx3.2 17 (by decide)
                      refine g_iload 0 C dX11_sealed_174 rfl ?_
                      refine g_aload_n 2 0 C dX11_sealed_176 rfl rfl ?_
                      refine gr_m_firstEdge C dX11_sealed_177 hx.1 wF_X11_71 r_firstEdge ?_
                      refine g_iload_n 1 3 C dX11_sealed_180 rfl rfl ?_
                      refine g_iconst (v := nI 1) C dX11_sealed_181 (by decide) ?_
                      refine g_iadd C dX11_sealed_182 ?_
                      refine g_topi (nI_add _ _ : _ = nI (v + 1)) ?_
                      refine ga_m_firstEdge C dX11_sealed_183 k_firstEdge (by omega) ?_
                      refine g_topi (hFe _ (by omega)) ?_
                      refine g_ncmp_ge 199 (by omega) (by omega) C dX11_sealed_184 (by decide) (fun c184 => ?_) (fun c184 => ?_)
                      · have eB : lvB ls pr (v + 1) = bk ++ [0] := by rw [hbk, lvB_succ, List.append_assoc, show d = (trS ls pr (v + 1)).length - (trS ls pr v).length by omega]
                        refine g_aload_n 2 0 C dX11_sealed_199 rfl rfl ?_
                        refine g_iload_n 3 1 C dX11_sealed_200 rfl rfl ?_
                        refine g_iconst (v := nI 0) C dX11_sealed_201 (by decide) ?_
                        refine g_callV (As := [.int (nI t), .int (nI 0)]) (rest := []) C dX11_sealed_202 (c_M_addBit hx3 ht (by omega) hB.1) wC_X11_addBit wM_X11_162 wI_X11_addBit wS_X11_addBit wN_X11 (kne hx.1) (pf_11 hx.1) rfl hd_X11_addBit ⟨by decide, by decide, by decide, by decide⟩ (Nat.le_of_ble_eq_true rfl) (fun r_ S_ h_ => ?_)
                        obtain ⟨rfl, rfl⟩ := h_
                        change Go X G _ 5 _ _ (mo_ S (addB M3 t bk.length 0)) 205 [(4, .int (nI ((trS ls pr v).length - 1 + d))), (3, .int (nI v)), (0, .ref x), (1, .int (nI t)), (2, .int (nI w))] []
                        refine g_iinc (v := nI (v + 1)) (lv' := [(3, .int (nI (v + 1))), (4, .int (nI ((trS ls pr v).length - 1 + d))), (0, .ref x), (1, .int (nI t)), (2, .int (nI w))]) 1 C dX11_sealed_205 rfl (nI_add _ 1) (by decide) rfl ?_
                        refine g_goto 95 C dX11_sealed_208 (by decide) ?_
                        refine Go.pick (lv' := [(3, .int (nI (v + 1))), (0, .ref x), (1, .int (nI t)), (2, .int (nI w))]) [0, 2, 3, 4] rfl ?_
                        exact iho_ (v + 1) _ (by omega) ⟨by omega, hBF.trans (BF.addB (by omega)), hTr, hFe, hSo, hEd, by rw [eB]; exact hB.add 0, hMa, hLe⟩
                      · refine g_aload_n 2 0 C dX11_sealed_187 rfl rfl ?_
                        refine g_iload_n 3 1 C dX11_sealed_188 rfl rfl ?_
                        refine g_iconst (v := nI 1) C dX11_sealed_189 (by decide) ?_
                        refine g_callV (As := [.int (nI t), .int (nI 1)]) (rest := []) C dX11_sealed_190 (c_M_addBit hx3 ht (by omega) hB.1) wC_X11_addBit wM_X11_162 wI_X11_addBit wS_X11_addBit wN_X11 (kne hx.1) (pf_11 hx.1) rfl hd_X11_addBit ⟨by decide, by decide, by decide, by decide⟩ (Nat.le_of_ble_eq_true rfl) (fun r_ S_ h_ => ?_)
                        obtain ⟨rfl, rfl⟩ := h_
                        change Go X G _ 5 _ _ (mo_ S (addB M3 t bk.length 1)) 193 [(4, .int (nI ((trS ls pr v).length - 1 + d))), (3, .int (nI v)), (0, .ref x), (1, .int (nI t)), (2, .int (nI w))] []
                        refine g_iinc (v := nI ((trS ls pr v).length - 1 + d + 1)) (lv' := [(4, .int (nI ((trS ls pr v).length - 1 + d + 1))), (3, .int (nI v)), (0, .ref x), (1, .int (nI t)), (2, .int (nI w))]) 0 C dX11_sealed_193 rfl (nI_add _ 1) (by decide) rfl ?_
                        refine g_goto 174 C dX11_sealed_196 (by decide) ?_
                        exact ih_ (d + 1) _ (by omega) ⟨by omega, hBF.trans (BF.addB (by omega)), hTr, hFe, hSo, hEd, by rw [← rep_succ, ← hbk]; exact hB.add 1, hMa, hLe⟩
                  rw [show (trS ls pr v).length - 1 = (trS ls pr v).length - 1 + 0 from rfl]
                  exact lp2 ((trS ls pr (v + 1)).length + 1) 0 _ (by omega) ⟨Nat.zero_le _, hBF0.trans (BF.marks (fun q hq => pk_un hq)), hTr0, hFe0, hSo0, hEd0, by show bitsM _ t (lvB ls pr v ++ []); rw [List.append_nil]; exact hB0, pk_us.trans (by rw [emk]), hLe0.trans (by rw [elt])⟩
                · refine g_iload_n 3 2 C dX11_sealed_130 rfl rfl ?_
                  refine g_iconst (v := nI 4) C dX11_sealed_131 (by decide) ?_
                  refine g_ncmp_ne 144 (by omega) (by omega) C dX11_sealed_132 (by decide) (fun c132 => ?_) (fun c132 => ?_)
                  · have elt : ltV ls w pr v + (nd.2.2.1 - nd.2.2.2) = ltV ls w pr (v + 1) := by show _ = ltV ls w pr v + (if 0 < v ∧ ¬ (w = 4 ∧ again ls (tr ls pr) v = true) then _ else 0); rw [if_pos ⟨c127, fun z => c132 z.1⟩, ← hnd]
                    refine g_aload_n 1 0 C dX11_sealed_144 rfl rfl ?_
                    refine gr_m_letters C dX11_sealed_145 hx.1 wF_X11_32 r_letters ?_
                    refine g_iload_n 2 1 C dX11_sealed_148 rfl rfl ?_
                    refine g_dup2_11 C dX11_sealed_149 rfl rfl ?_
                    refine ga_m_letters C dX11_sealed_150 k_letters (by omega) ?_
                    refine g_topi (hLe0) ?_
                    refine g_aload_n 1 0 C dX11_sealed_151 rfl rfl ?_
                    refine gr_m_deep C dX11_sealed_152 hx.1 wF_X11_68 r_deep ?_
                    refine g_iload_n 0 3 C dX11_sealed_155 rfl rfl ?_
                    refine ga_m_deep C dX11_sealed_156 k_deep (by omega) ?_
                    refine g_topi (hN.2.2.1) ?_
                    refine g_aload_n 1 0 C dX11_sealed_157 rfl rfl ?_
                    refine gr_m_stringFrom C dX11_sealed_158 hx.1 wF_X11_74 r_stringFrom ?_
                    refine g_iload_n 0 3 C dX11_sealed_161 rfl rfl ?_
                    refine ga_m_stringFrom C dX11_sealed_162 k_stringFrom (by omega) ?_
                    refine g_topi (hN.2.2.2) ?_
                    refine g_isub C dX11_sealed_163 ?_
                    refine g_topi (pk_sub (by omega) : _ = nI (nd.2.2.1 - nd.2.2.2)) ?_
                    refine g_iadd C dX11_sealed_164 ?_
                    refine g_topi (nI_add _ _ : _ = nI (ltV ls w pr v + (nd.2.2.1 - nd.2.2.2))) ?_
                    refine gs_m_letters C dX11_sealed_165 k_letters (by omega) ?_
                    refine g_aload_n 1 0 C dX11_sealed_166 rfl rfl ?_
                    refine gr_m_firstEdge C dX11_sealed_167 hx.1 wF_X11_71 r_firstEdge ?_
                    refine g_iload_n 0 3 C dX11_sealed_170 rfl rfl ?_
                    refine ga_m_firstEdge C dX11_sealed_171 k_firstEdge (by omega) ?_
                    refine g_topi (hFe0 _ (by omega)) ?_
                    refine g_istore (lv' := [(4, .int (nI ((trS ls pr v).length - 1))), (3, .int (nI v)), (0, .ref x), (1, .int (nI t)), (2, .int (nI w))]) C dX11_sealed_172 (by decide) rfl ?_
                    have lp2 : ∀ (n_ : Nat) (d : Nat) (M3 : MoT), (trS ls pr (v + 1)).length - (trS ls pr v).length - d < n_ → (d ≤ (trS ls pr (v + 1)).length - (trS ls pr v).length ∧ BF t M M3 ∧ treeM M3 (tr ls pr) ∧ feM M3 ls pr ((tr ls pr).length + 1) ∧ m_sort M3 t = nI w ∧ m_edges M3 t = nI ((tr ls pr).length - 1) ∧ bitsM M3 t (lvB ls pr v ++ List.replicate d 1) ∧ m_marks M3 t = nI (mkV ls pr (v + 1)) ∧ m_letters M3 t = nI (ltV ls w pr (v + 1))) → Go X G (Qe X G (fun r S' => ∃ M', r = none ∧ S' = mo_ S M' ∧ BF t M M' ∧ sealedM M' t w ls) rm_X11_sealed.cells rm_X11_sealed.slots) 5 0 0 (mo_ S M3) 174 [(4, .int (nI ((trS ls pr v).length - 1 + d))), (3, .int (nI v)), (0, .ref x), (1, .int (nI t)), (2, .int (nI w))] [] := by
                      intro n_
                      induction n_ with
                      | zero => intro d M3 hm_; exact absurd hm_ (Nat.not_lt_zero _)
                      | succ n_ ih_ =>
                        intro d M3 hm_ h3
                        obtain ⟨hd3, hBF, hTr, hFe, hSo, hEd, hB, hMa, hLe⟩ := h3
                        obtain ⟨bk, hbk⟩ : ∃ bk, bk = lvB ls pr v ++ List.replicate d 1 := ⟨_, rfl⟩
                        rw [← hbk] at hB
                        have hx3 := hx.of hBF.mo_r
                        have hbl : bk.length ≤ 4803 := by
                          have a1 := lvB_len (l := ls) (pr := pr) v
                          rw [hbk, List.length_append, List.length_replicate]
                          omega
                        obtain ⟨q_sort, r_sort, k_sort⟩ := hx3.2 2 (by decide)
                        obtain ⟨q_many, r_many, k_many⟩ := hx3.2 3 (by decide)
                        obtain ⟨q_letters, r_letters, k_letters⟩ := hx3.2 6 (by decide)
                        obtain ⟨q_size, r_size, k_size⟩ := hx3.2 10 (by decide)
                        obtain ⟨q_edges, r_edges, k_edges⟩ := hx3.2 5 (by decide)
                        obtain ⟨q_marks, r_marks, k_marks⟩ := hx3.2 7 (by decide)
                        obtain ⟨q_deep, r_deep, k_deep⟩ := hx3.2 16 (by decide)
                        obtain ⟨q_stringFrom, r_stringFrom, k_stringFrom⟩ := hx3.2 18 (by decide)
                        obtain ⟨q_firstEdge, r_firstEdge, k_firstEdge⟩ := hx3.2 17 (by decide)
                        refine g_iload 0 C dX11_sealed_174 rfl ?_
                        refine g_aload_n 2 0 C dX11_sealed_176 rfl rfl ?_
                        refine gr_m_firstEdge C dX11_sealed_177 hx.1 wF_X11_71 r_firstEdge ?_
                        refine g_iload_n 1 3 C dX11_sealed_180 rfl rfl ?_
                        refine g_iconst (v := nI 1) C dX11_sealed_181 (by decide) ?_
                        refine g_iadd C dX11_sealed_182 ?_
                        refine g_topi (nI_add _ _ : _ = nI (v + 1)) ?_
                        refine ga_m_firstEdge C dX11_sealed_183 k_firstEdge (by omega) ?_
                        refine g_topi (hFe _ (by omega)) ?_
                        refine g_ncmp_ge 199 (by omega) (by omega) C dX11_sealed_184 (by decide) (fun c184 => ?_) (fun c184 => ?_)
                        · have eB : lvB ls pr (v + 1) = bk ++ [0] := by rw [hbk, lvB_succ, List.append_assoc, show d = (trS ls pr (v + 1)).length - (trS ls pr v).length by omega]
                          refine g_aload_n 2 0 C dX11_sealed_199 rfl rfl ?_
                          refine g_iload_n 3 1 C dX11_sealed_200 rfl rfl ?_
                          refine g_iconst (v := nI 0) C dX11_sealed_201 (by decide) ?_
                          refine g_callV (As := [.int (nI t), .int (nI 0)]) (rest := []) C dX11_sealed_202 (c_M_addBit hx3 ht (by omega) hB.1) wC_X11_addBit wM_X11_162 wI_X11_addBit wS_X11_addBit wN_X11 (kne hx.1) (pf_11 hx.1) rfl hd_X11_addBit ⟨by decide, by decide, by decide, by decide⟩ (Nat.le_of_ble_eq_true rfl) (fun r_ S_ h_ => ?_)
                          obtain ⟨rfl, rfl⟩ := h_
                          change Go X G _ 5 _ _ (mo_ S (addB M3 t bk.length 0)) 205 [(4, .int (nI ((trS ls pr v).length - 1 + d))), (3, .int (nI v)), (0, .ref x), (1, .int (nI t)), (2, .int (nI w))] []
                          refine g_iinc (v := nI (v + 1)) (lv' := [(3, .int (nI (v + 1))), (4, .int (nI ((trS ls pr v).length - 1 + d))), (0, .ref x), (1, .int (nI t)), (2, .int (nI w))]) 1 C dX11_sealed_205 rfl (nI_add _ 1) (by decide) rfl ?_
                          refine g_goto 95 C dX11_sealed_208 (by decide) ?_
                          refine Go.pick (lv' := [(3, .int (nI (v + 1))), (0, .ref x), (1, .int (nI t)), (2, .int (nI w))]) [0, 2, 3, 4] rfl ?_
                          exact iho_ (v + 1) _ (by omega) ⟨by omega, hBF.trans (BF.addB (by omega)), hTr, hFe, hSo, hEd, by rw [eB]; exact hB.add 0, hMa, hLe⟩
                        · refine g_aload_n 2 0 C dX11_sealed_187 rfl rfl ?_
                          refine g_iload_n 3 1 C dX11_sealed_188 rfl rfl ?_
                          refine g_iconst (v := nI 1) C dX11_sealed_189 (by decide) ?_
                          refine g_callV (As := [.int (nI t), .int (nI 1)]) (rest := []) C dX11_sealed_190 (c_M_addBit hx3 ht (by omega) hB.1) wC_X11_addBit wM_X11_162 wI_X11_addBit wS_X11_addBit wN_X11 (kne hx.1) (pf_11 hx.1) rfl hd_X11_addBit ⟨by decide, by decide, by decide, by decide⟩ (Nat.le_of_ble_eq_true rfl) (fun r_ S_ h_ => ?_)
                          obtain ⟨rfl, rfl⟩ := h_
                          change Go X G _ 5 _ _ (mo_ S (addB M3 t bk.length 1)) 193 [(4, .int (nI ((trS ls pr v).length - 1 + d))), (3, .int (nI v)), (0, .ref x), (1, .int (nI t)), (2, .int (nI w))] []
                          refine g_iinc (v := nI ((trS ls pr v).length - 1 + d + 1)) (lv' := [(4, .int (nI ((trS ls pr v).length - 1 + d + 1))), (3, .int (nI v)), (0, .ref x), (1, .int (nI t)), (2, .int (nI w))]) 0 C dX11_sealed_193 rfl (nI_add _ 1) (by decide) rfl ?_
                          refine g_goto 174 C dX11_sealed_196 (by decide) ?_
                          exact ih_ (d + 1) _ (by omega) ⟨by omega, hBF.trans (BF.addB (by omega)), hTr, hFe, hSo, hEd, by rw [← rep_succ, ← hbk]; exact hB.add 1, hMa, hLe⟩
                    rw [show (trS ls pr v).length - 1 = (trS ls pr v).length - 1 + 0 from rfl]
                    exact lp2 ((trS ls pr (v + 1)).length + 1) 0 _ (by omega) ⟨Nat.zero_le _, (hBF0.trans (BF.marks (fun q hq => pk_un hq))).trans (BF.lett (fun q hq => pk_un hq)), hTr0, hFe0, hSo0, hEd0, by show bitsM _ t (lvB ls pr v ++ []); rw [List.append_nil]; exact hB0, pk_us.trans (by rw [emk]), pk_us.trans (by rw [elt])⟩
                  · refine g_aload_n 1 0 C dX11_sealed_135 rfl rfl ?_
                    refine g_iload_n 2 1 C dX11_sealed_136 rfl rfl ?_
                    refine g_iload_n 0 3 C dX11_sealed_137 rfl rfl ?_
                    refine g_callV (As := [.int (nI t), .int (nI v)]) (rest := []) C dX11_sealed_138 (c_M_isAgain (M := (m_marks_ M2 (upd (m_marks M2) t (nI (mkV ls pr v + 1))))) hx2 ht hn2 hTr0 htok.2.2 (by omega) hv htok.1) wC_X11_isAgain wM_X11_159 wI_X11_isAgain wS_X11_isAgain wN_X11 (kne hx.1) (pf_11 hx.1) rfl hd_X11_isAgain ⟨by decide, by decide, by decide, by decide⟩ (Nat.le_of_ble_eq_true rfl) (fun r_ S_ h_ => ?_)
                    obtain ⟨rfl, rfl⟩ := h_
                    change Go X G _ 5 _ _ (mo_ S (m_marks_ M2 (upd (m_marks M2) t (nI (mkV ls pr v + 1))))) 141 [(3, .int (nI v)), (0, .ref x), (1, .int (nI t)), (2, .int (nI w))] [.int (bI (again ls (tr ls pr) v))]
                    refine g_if_ne 166 C dX11_sealed_141 (by decide) (fun c141 => ?_) (fun c141 => ?_)
                    · have elt : ltV ls w pr v = ltV ls w pr (v + 1) := by show _ = ltV ls w pr v + (if 0 < v ∧ ¬ (w = 4 ∧ again ls (tr ls pr) v = true) then _ else 0); rw [if_neg (fun z => z.2 ⟨c132, bI_t c141⟩)]; rfl
                      refine g_aload_n 1 0 C dX11_sealed_166 rfl rfl ?_
                      refine gr_m_firstEdge C dX11_sealed_167 hx.1 wF_X11_71 r_firstEdge ?_
                      refine g_iload_n 0 3 C dX11_sealed_170 rfl rfl ?_
                      refine ga_m_firstEdge C dX11_sealed_171 k_firstEdge (by omega) ?_
                      refine g_topi (hFe0 _ (by omega)) ?_
                      refine g_istore (lv' := [(4, .int (nI ((trS ls pr v).length - 1))), (3, .int (nI v)), (0, .ref x), (1, .int (nI t)), (2, .int (nI w))]) C dX11_sealed_172 (by decide) rfl ?_
                      have lp2 : ∀ (n_ : Nat) (d : Nat) (M3 : MoT), (trS ls pr (v + 1)).length - (trS ls pr v).length - d < n_ → (d ≤ (trS ls pr (v + 1)).length - (trS ls pr v).length ∧ BF t M M3 ∧ treeM M3 (tr ls pr) ∧ feM M3 ls pr ((tr ls pr).length + 1) ∧ m_sort M3 t = nI w ∧ m_edges M3 t = nI ((tr ls pr).length - 1) ∧ bitsM M3 t (lvB ls pr v ++ List.replicate d 1) ∧ m_marks M3 t = nI (mkV ls pr (v + 1)) ∧ m_letters M3 t = nI (ltV ls w pr (v + 1))) → Go X G (Qe X G (fun r S' => ∃ M', r = none ∧ S' = mo_ S M' ∧ BF t M M' ∧ sealedM M' t w ls) rm_X11_sealed.cells rm_X11_sealed.slots) 5 0 0 (mo_ S M3) 174 [(4, .int (nI ((trS ls pr v).length - 1 + d))), (3, .int (nI v)), (0, .ref x), (1, .int (nI t)), (2, .int (nI w))] [] := by
                        intro n_
                        induction n_ with
                        | zero => intro d M3 hm_; exact absurd hm_ (Nat.not_lt_zero _)
                        | succ n_ ih_ =>
                          intro d M3 hm_ h3
                          obtain ⟨hd3, hBF, hTr, hFe, hSo, hEd, hB, hMa, hLe⟩ := h3
                          obtain ⟨bk, hbk⟩ : ∃ bk, bk = lvB ls pr v ++ List.replicate d 1 := ⟨_, rfl⟩
                          rw [← hbk] at hB
                          have hx3 := hx.of hBF.mo_r
                          have hbl : bk.length ≤ 4803 := by
                            have a1 := lvB_len (l := ls) (pr := pr) v
                            rw [hbk, List.length_append, List.length_replicate]
                            omega
                          obtain ⟨q_sort, r_sort, k_sort⟩ := hx3.2 2 (by decide)
                          obtain ⟨q_many, r_many, k_many⟩ := hx3.2 3 (by decide)
                          obtain ⟨q_letters, r_letters, k_letters⟩ := hx3.2 6 (by decide)
                          obtain ⟨q_size, r_size, k_size⟩ := hx3.2 10 (by decide)
                          obtain ⟨q_edges, r_edges, k_edges⟩ := hx3.2 5 (by decide)
                          obtain ⟨q_marks, r_marks, k_marks⟩ := hx3.2 7 (by decide)
                          obtain ⟨q_deep, r_deep, k_deep⟩ := hx3.2 16 (by decide)
                          obtain ⟨q_stringFrom, r_stringFrom, k_stringFrom⟩ := hx3.2 18 (by decide)
                          obtain ⟨q_firstEdge, r_firstEdge, k_firstEdge⟩ := hx3.2 17 (by decide)
                          refine g_iload 0 C dX11_sealed_174 rfl ?_
                          refine g_aload_n 2 0 C dX11_sealed_176 rfl rfl ?_
                          refine gr_m_firstEdge C dX11_sealed_177 hx.1 wF_X11_71 r_firstEdge ?_
                          refine g_iload_n 1 3 C dX11_sealed_180 rfl rfl ?_
                          refine g_iconst (v := nI 1) C dX11_sealed_181 (by decide) ?_
                          refine g_iadd C dX11_sealed_182 ?_
                          refine g_topi (nI_add _ _ : _ = nI (v + 1)) ?_
                          refine ga_m_firstEdge C dX11_sealed_183 k_firstEdge (by omega) ?_
                          refine g_topi (hFe _ (by omega)) ?_
                          refine g_ncmp_ge 199 (by omega) (by omega) C dX11_sealed_184 (by decide) (fun c184 => ?_) (fun c184 => ?_)
                          · have eB : lvB ls pr (v + 1) = bk ++ [0] := by rw [hbk, lvB_succ, List.append_assoc, show d = (trS ls pr (v + 1)).length - (trS ls pr v).length by omega]
                            refine g_aload_n 2 0 C dX11_sealed_199 rfl rfl ?_
                            refine g_iload_n 3 1 C dX11_sealed_200 rfl rfl ?_
                            refine g_iconst (v := nI 0) C dX11_sealed_201 (by decide) ?_
                            refine g_callV (As := [.int (nI t), .int (nI 0)]) (rest := []) C dX11_sealed_202 (c_M_addBit hx3 ht (by omega) hB.1) wC_X11_addBit wM_X11_162 wI_X11_addBit wS_X11_addBit wN_X11 (kne hx.1) (pf_11 hx.1) rfl hd_X11_addBit ⟨by decide, by decide, by decide, by decide⟩ (Nat.le_of_ble_eq_true rfl) (fun r_ S_ h_ => ?_)
                            obtain ⟨rfl, rfl⟩ := h_
                            change Go X G _ 5 _ _ (mo_ S (addB M3 t bk.length 0)) 205 [(4, .int (nI ((trS ls pr v).length - 1 + d))), (3, .int (nI v)), (0, .ref x), (1, .int (nI t)), (2, .int (nI w))] []
                            refine g_iinc (v := nI (v + 1)) (lv' := [(3, .int (nI (v + 1))), (4, .int (nI ((trS ls pr v).length - 1 + d))), (0, .ref x), (1, .int (nI t)), (2, .int (nI w))]) 1 C dX11_sealed_205 rfl (nI_add _ 1) (by decide) rfl ?_
                            refine g_goto 95 C dX11_sealed_208 (by decide) ?_
                            refine Go.pick (lv' := [(3, .int (nI (v + 1))), (0, .ref x), (1, .int (nI t)), (2, .int (nI w))]) [0, 2, 3, 4] rfl ?_
                            exact iho_ (v + 1) _ (by omega) ⟨by omega, hBF.trans (BF.addB (by omega)), hTr, hFe, hSo, hEd, by rw [eB]; exact hB.add 0, hMa, hLe⟩
                          · refine g_aload_n 2 0 C dX11_sealed_187 rfl rfl ?_
                            refine g_iload_n 3 1 C dX11_sealed_188 rfl rfl ?_
                            refine g_iconst (v := nI 1) C dX11_sealed_189 (by decide) ?_
                            refine g_callV (As := [.int (nI t), .int (nI 1)]) (rest := []) C dX11_sealed_190 (c_M_addBit hx3 ht (by omega) hB.1) wC_X11_addBit wM_X11_162 wI_X11_addBit wS_X11_addBit wN_X11 (kne hx.1) (pf_11 hx.1) rfl hd_X11_addBit ⟨by decide, by decide, by decide, by decide⟩ (Nat.le_of_ble_eq_true rfl) (fun r_ S_ h_ => ?_)
                            obtain ⟨rfl, rfl⟩ := h_
                            change Go X G _ 5 _ _ (mo_ S (addB M3 t bk.length 1)) 193 [(4, .int (nI ((trS ls pr v).length - 1 + d))), (3, .int (nI v)), (0, .ref x), (1, .int (nI t)), (2, .int (nI w))] []
                            refine g_iinc (v := nI ((trS ls pr v).length - 1 + d + 1)) (lv' := [(4, .int (nI ((trS ls pr v).length - 1 + d + 1))), (3, .int (nI v)), (0, .ref x), (1, .int (nI t)), (2, .int (nI w))]) 0 C dX11_sealed_193 rfl (nI_add _ 1) (by decide) rfl ?_
                            refine g_goto 174 C dX11_sealed_196 (by decide) ?_
                            exact ih_ (d + 1) _ (by omega) ⟨by omega, hBF.trans (BF.addB (by omega)), hTr, hFe, hSo, hEd, by rw [← rep_succ, ← hbk]; exact hB.add 1, hMa, hLe⟩
                      rw [show (trS ls pr v).length - 1 = (trS ls pr v).length - 1 + 0 from rfl]
                      exact lp2 ((trS ls pr (v + 1)).length + 1) 0 _ (by omega) ⟨Nat.zero_le _, hBF0.trans (BF.marks (fun q hq => pk_un hq)), hTr0, hFe0, hSo0, hEd0, by show bitsM _ t (lvB ls pr v ++ []); rw [List.append_nil]; exact hB0, pk_us.trans (by rw [emk]), hLe0.trans (by rw [elt])⟩
                    · have elt : ltV ls w pr v + (nd.2.2.1 - nd.2.2.2) = ltV ls w pr (v + 1) := by show _ = ltV ls w pr v + (if 0 < v ∧ ¬ (w = 4 ∧ again ls (tr ls pr) v = true) then _ else 0); rw [if_pos ⟨c127, fun z => by rw [bI_f c141] at z; exact absurd z.2 (by decide)⟩, ← hnd]
                      refine g_aload_n 1 0 C dX11_sealed_144 rfl rfl ?_
                      refine gr_m_letters C dX11_sealed_145 hx.1 wF_X11_32 r_letters ?_
                      refine g_iload_n 2 1 C dX11_sealed_148 rfl rfl ?_
                      refine g_dup2_11 C dX11_sealed_149 rfl rfl ?_
                      refine ga_m_letters C dX11_sealed_150 k_letters (by omega) ?_
                      refine g_topi (hLe0) ?_
                      refine g_aload_n 1 0 C dX11_sealed_151 rfl rfl ?_
                      refine gr_m_deep C dX11_sealed_152 hx.1 wF_X11_68 r_deep ?_
                      refine g_iload_n 0 3 C dX11_sealed_155 rfl rfl ?_
                      refine ga_m_deep C dX11_sealed_156 k_deep (by omega) ?_
                      refine g_topi (hN.2.2.1) ?_
                      refine g_aload_n 1 0 C dX11_sealed_157 rfl rfl ?_
                      refine gr_m_stringFrom C dX11_sealed_158 hx.1 wF_X11_74 r_stringFrom ?_
                      refine g_iload_n 0 3 C dX11_sealed_161 rfl rfl ?_
                      refine ga_m_stringFrom C dX11_sealed_162 k_stringFrom (by omega) ?_
                      refine g_topi (hN.2.2.2) ?_
                      refine g_isub C dX11_sealed_163 ?_
                      refine g_topi (pk_sub (by omega) : _ = nI (nd.2.2.1 - nd.2.2.2)) ?_
                      refine g_iadd C dX11_sealed_164 ?_
                      refine g_topi (nI_add _ _ : _ = nI (ltV ls w pr v + (nd.2.2.1 - nd.2.2.2))) ?_
                      refine gs_m_letters C dX11_sealed_165 k_letters (by omega) ?_
                      refine g_aload_n 1 0 C dX11_sealed_166 rfl rfl ?_
                      refine gr_m_firstEdge C dX11_sealed_167 hx.1 wF_X11_71 r_firstEdge ?_
                      refine g_iload_n 0 3 C dX11_sealed_170 rfl rfl ?_
                      refine ga_m_firstEdge C dX11_sealed_171 k_firstEdge (by omega) ?_
                      refine g_topi (hFe0 _ (by omega)) ?_
                      refine g_istore (lv' := [(4, .int (nI ((trS ls pr v).length - 1))), (3, .int (nI v)), (0, .ref x), (1, .int (nI t)), (2, .int (nI w))]) C dX11_sealed_172 (by decide) rfl ?_
                      have lp2 : ∀ (n_ : Nat) (d : Nat) (M3 : MoT), (trS ls pr (v + 1)).length - (trS ls pr v).length - d < n_ → (d ≤ (trS ls pr (v + 1)).length - (trS ls pr v).length ∧ BF t M M3 ∧ treeM M3 (tr ls pr) ∧ feM M3 ls pr ((tr ls pr).length + 1) ∧ m_sort M3 t = nI w ∧ m_edges M3 t = nI ((tr ls pr).length - 1) ∧ bitsM M3 t (lvB ls pr v ++ List.replicate d 1) ∧ m_marks M3 t = nI (mkV ls pr (v + 1)) ∧ m_letters M3 t = nI (ltV ls w pr (v + 1))) → Go X G (Qe X G (fun r S' => ∃ M', r = none ∧ S' = mo_ S M' ∧ BF t M M' ∧ sealedM M' t w ls) rm_X11_sealed.cells rm_X11_sealed.slots) 5 0 0 (mo_ S M3) 174 [(4, .int (nI ((trS ls pr v).length - 1 + d))), (3, .int (nI v)), (0, .ref x), (1, .int (nI t)), (2, .int (nI w))] [] := by
                        intro n_
                        induction n_ with
                        | zero => intro d M3 hm_; exact absurd hm_ (Nat.not_lt_zero _)
                        | succ n_ ih_ =>
                          intro d M3 hm_ h3
                          obtain ⟨hd3, hBF, hTr, hFe, hSo, hEd, hB, hMa, hLe⟩ := h3
                          obtain ⟨bk, hbk⟩ : ∃ bk, bk = lvB ls pr v ++ List.replicate d 1 := ⟨_, rfl⟩
                          rw [← hbk] at hB
                          have hx3 := hx.of hBF.mo_r
                          have hbl : bk.length ≤ 4803 := by
                            have a1 := lvB_len (l := ls) (pr := pr) v
                            rw [hbk, List.length_append, List.length_replicate]
                            omega
                          obtain ⟨q_sort, r_sort, k_sort⟩ := hx3.2 2 (by decide)
                          obtain ⟨q_many, r_many, k_many⟩ := hx3.2 3 (by decide)
                          obtain ⟨q_letters, r_letters, k_letters⟩ := hx3.2 6 (by decide)
                          obtain ⟨q_size, r_size, k_size⟩ := hx3.2 10 (by decide)
                          obtain ⟨q_edges, r_edges, k_edges⟩ := hx3.2 5 (by decide)
                          obtain ⟨q_marks, r_marks, k_marks⟩ := hx3.2 7 (by decide)
                          obtain ⟨q_deep, r_deep, k_deep⟩ := hx3.2 16 (by decide)
                          obtain ⟨q_stringFrom, r_stringFrom, k_stringFrom⟩ := hx3.2 18 (by decide)
                          obtain ⟨q_firstEdge, r_firstEdge, k_firstEdge⟩ := hx3.2 17 (by decide)
                          refine g_iload 0 C dX11_sealed_174 rfl ?_
                          refine g_aload_n 2 0 C dX11_sealed_176 rfl rfl ?_
                          refine gr_m_firstEdge C dX11_sealed_177 hx.1 wF_X11_71 r_firstEdge ?_
                          refine g_iload_n 1 3 C dX11_sealed_180 rfl rfl ?_
                          refine g_iconst (v := nI 1) C dX11_sealed_181 (by decide) ?_
                          refine g_iadd C dX11_sealed_182 ?_
                          refine g_topi (nI_add _ _ : _ = nI (v + 1)) ?_
                          refine ga_m_firstEdge C dX11_sealed_183 k_firstEdge (by omega) ?_
                          refine g_topi (hFe _ (by omega)) ?_
                          refine g_ncmp_ge 199 (by omega) (by omega) C dX11_sealed_184 (by decide) (fun c184 => ?_) (fun c184 => ?_)
                          · have eB : lvB ls pr (v + 1) = bk ++ [0] := by rw [hbk, lvB_succ, List.append_assoc, show d = (trS ls pr (v + 1)).length - (trS ls pr v).length by omega]
                            refine g_aload_n 2 0 C dX11_sealed_199 rfl rfl ?_
                            refine g_iload_n 3 1 C dX11_sealed_200 rfl rfl ?_
                            refine g_iconst (v := nI 0) C dX11_sealed_201 (by decide) ?_
                            refine g_callV (As := [.int (nI t), .int (nI 0)]) (rest := []) C dX11_sealed_202 (c_M_addBit hx3 ht (by omega) hB.1) wC_X11_addBit wM_X11_162 wI_X11_addBit wS_X11_addBit wN_X11 (kne hx.1) (pf_11 hx.1) rfl hd_X11_addBit ⟨by decide, by decide, by decide, by decide⟩ (Nat.le_of_ble_eq_true rfl) (fun r_ S_ h_ => ?_)
                            obtain ⟨rfl, rfl⟩ := h_
                            change Go X G _ 5 _ _ (mo_ S (addB M3 t bk.length 0)) 205 [(4, .int (nI ((trS ls pr v).length - 1 + d))), (3, .int (nI v)), (0, .ref x), (1, .int (nI t)), (2, .int (nI w))] []
                            refine g_iinc (v := nI (v + 1)) (lv' := [(3, .int (nI (v + 1))), (4, .int (nI ((trS ls pr v).length - 1 + d))), (0, .ref x), (1, .int (nI t)), (2, .int (nI w))]) 1 C dX11_sealed_205 rfl (nI_add _ 1) (by decide) rfl ?_
                            refine g_goto 95 C dX11_sealed_208 (by decide) ?_
                            refine Go.pick (lv' := [(3, .int (nI (v + 1))), (0, .ref x), (1, .int (nI t)), (2, .int (nI w))]) [0, 2, 3, 4] rfl ?_
                            exact iho_ (v + 1) _ (by omega) ⟨by omega, hBF.trans (BF.addB (by omega)), hTr, hFe, hSo, hEd, by rw [eB]; exact hB.add 0, hMa, hLe⟩
                          · refine g_aload_n 2 0 C dX11_sealed_187 rfl rfl ?_
                            refine g_iload_n 3 1 C dX11_sealed_188 rfl rfl ?_
                            refine g_iconst (v := nI 1) C dX11_sealed_189 (by decide) ?_
                            refine g_callV (As := [.int (nI t), .int (nI 1)]) (rest := []) C dX11_sealed_190 (c_M_addBit hx3 ht (by omega) hB.1) wC_X11_addBit wM_X11_162 wI_X11_addBit wS_X11_addBit wN_X11 (kne hx.1) (pf_11 hx.1) rfl hd_X11_addBit ⟨by decide, by decide, by decide, by decide⟩ (Nat.le_of_ble_eq_true rfl) (fun r_ S_ h_ => ?_)
                            obtain ⟨rfl, rfl⟩ := h_
                            change Go X G _ 5 _ _ (mo_ S (addB M3 t bk.length 1)) 193 [(4, .int (nI ((trS ls pr v).length - 1 + d))), (3, .int (nI v)), (0, .ref x), (1, .int (nI t)), (2, .int (nI w))] []
                            refine g_iinc (v := nI ((trS ls pr v).length - 1 + d + 1)) (lv' := [(4, .int (nI ((trS ls pr v).length - 1 + d + 1))), (3, .int (nI v)), (0, .ref x), (1, .int (nI t)), (2, .int (nI w))]) 0 C dX11_sealed_193 rfl (nI_add _ 1) (by decide) rfl ?_
                            refine g_goto 174 C dX11_sealed_196 (by decide) ?_
                            exact ih_ (d + 1) _ (by omega) ⟨by omega, hBF.trans (BF.addB (by omega)), hTr, hFe, hSo, hEd, by rw [← rep_succ, ← hbk]; exact hB.add 1, hMa, hLe⟩
                      rw [show (trS ls pr v).length - 1 = (trS ls pr v).length - 1 + 0 from rfl]
                      exact lp2 ((trS ls pr (v + 1)).length + 1) 0 _ (by omega) ⟨Nat.zero_le _, (hBF0.trans (BF.marks (fun q hq => pk_un hq))).trans (BF.lett (fun q hq => pk_un hq)), hTr0, hFe0, hSo0, hEd0, by show bitsM _ t (lvB ls pr v ++ []); rw [List.append_nil]; exact hB0, pk_us.trans (by rw [emk]), pk_us.trans (by rw [elt])⟩
        exact lp ((tr ls pr).length + 1) 0 _ (by omega) ⟨Nat.zero_le _, (BF.sort.trans (BF.tf htf)).trans (BF.edges (fun q hq => pk_un hq)), htr, hfe, hk4.2.2.2.trans pk_us, pk_us, ⟨hk4b.trans hz.1, fun i hi => absurd hi (Nat.not_lt_zero _)⟩, hk4.2.2.1.trans hz.2.2.2, hk4.2.1.trans hz.2.2.1⟩
      · refine g_iconst (v := nI 1) C dX11_sealed_73 (by decide) ?_
        refine g_goto 78 C dX11_sealed_74 (by decide) ?_
        have hpv : pr = true := by rw [← hpr]; simpa using c70
        refine g_topi (show _ = bI pr by rw [hpv]; rfl) ?_
        refine g_callV (As := [.int (nI t), .int (bI pr)]) (rest := []) C dX11_sealed_78 (c_M_tree (M := (m_sort_ M (upd (m_sort M) t (nI w)))) (pr := pr) hx ht hl hO hO0) wC_X11_tree wM_X11_152 wI_X11_tree wS_X11_tree wN_X11 (kne hx.1) (pf_11 hx.1) rfl hd_X11_tree ⟨by decide, by decide, by decide, by decide⟩ (Nat.le_of_ble_eq_true rfl) (fun r_ S_ h_ => ?_)
        obtain ⟨M9, rfl, rfl, htf, htr, hfe⟩ := h_
        change Go X G _ 5 _ _ (mo_ S M9) 81 [(0, .ref x), (1, .int (nI t)), (2, .int (nI w))] []
        have hx9 := (show MoOk S (m_sort_ M (upd (m_sort M) t (nI w))) x from hx).of htf.mo_r
        have hk4 : m_edges M9 t = m_edges M t ∧ m_letters M9 t = m_letters M t ∧ m_marks M9 t = m_marks M t ∧ m_sort M9 t = upd (m_sort M) t (nI w) t := by
          obtain ⟨_, _, _, _, _, _, rfl⟩ := htf
          exact ⟨rfl, rfl, rfl, rfl⟩
        have hk4b : m_bits M9 t = m_bits M t := by
          obtain ⟨_, _, _, _, _, _, rfl⟩ := htf
          rfl
        obtain ⟨q_sort, r_sort, k_sort⟩ := hx9.2 2 (by decide)
        obtain ⟨q_many, r_many, k_many⟩ := hx9.2 3 (by decide)
        obtain ⟨q_letters, r_letters, k_letters⟩ := hx9.2 6 (by decide)
        obtain ⟨q_size, r_size, k_size⟩ := hx9.2 10 (by decide)
        obtain ⟨q_edges, r_edges, k_edges⟩ := hx9.2 5 (by decide)
        obtain ⟨q_marks, r_marks, k_marks⟩ := hx9.2 7 (by decide)
        obtain ⟨q_deep, r_deep, k_deep⟩ := hx9.2 16 (by decide)
        obtain ⟨q_stringFrom, r_stringFrom, k_stringFrom⟩ := hx9.2 18 (by decide)
        obtain ⟨q_firstEdge, r_firstEdge, k_firstEdge⟩ := hx9.2 17 (by decide)
        refine g_aload_n 0 0 C dX11_sealed_81 rfl rfl ?_
        refine gr_m_edges C dX11_sealed_82 hx.1 wF_X11_29 r_edges ?_
        refine g_iload_n 1 1 C dX11_sealed_85 rfl rfl ?_
        refine g_aload_n 0 0 C dX11_sealed_86 rfl rfl ?_
        refine gf_m_nodes C dX11_sealed_87 hx.1 wF_X11_77 ?_
        refine g_topi (htr.1) ?_
        refine g_iconst (v := nI 1) C dX11_sealed_90 (by decide) ?_
        refine g_isub C dX11_sealed_91 ?_
        refine g_topi (pk_sub (by omega) : _ = nI ((tr ls pr).length - 1)) ?_
        refine gs_m_edges C dX11_sealed_92 k_edges (by omega) ?_
        refine g_iconst (v := nI 0) C dX11_sealed_93 (by decide) ?_
        refine g_istore_n (lv' := [(3, .int (nI 0)), (0, .ref x), (1, .int (nI t)), (2, .int (nI w))]) C dX11_sealed_94 rfl (by decide) rfl ?_
        have lp : ∀ (n_ : Nat) (v : Nat) (M2 : MoT), (tr ls pr).length - v < n_ → (v ≤ (tr ls pr).length ∧ BF t M M2 ∧ treeM M2 (tr ls pr) ∧ feM M2 ls pr ((tr ls pr).length + 1) ∧ m_sort M2 t = nI w ∧ m_edges M2 t = nI ((tr ls pr).length - 1) ∧ bitsM M2 t (lvB ls pr v) ∧ m_marks M2 t = nI (mkV ls pr v) ∧ m_letters M2 t = nI (ltV ls w pr v)) → Go X G (Qe X G (fun r S' => ∃ M', r = none ∧ S' = mo_ S M' ∧ BF t M M' ∧ sealedM M' t w ls) rm_X11_sealed.cells rm_X11_sealed.slots) 5 0 0 (mo_ S M2) 95 [(3, .int (nI v)), (0, .ref x), (1, .int (nI t)), (2, .int (nI w))] [] := by
          intro n_
          induction n_ with
          | zero => intro v M2 hm_; exact absurd hm_ (Nat.not_lt_zero _)
          | succ n_ iho_ =>
            intro v M2 hm_ h2
            obtain ⟨hv0, hBF0, hTr0, hFe0, hSo0, hEd0, hB0, hMa0, hLe0⟩ := h2
            have hx2 := hx.of hBF0.mo_r
            have hn2 := hBF0.names hl
            obtain ⟨q_sort, r_sort, k_sort⟩ := hx2.2 2 (by decide)
            obtain ⟨q_many, r_many, k_many⟩ := hx2.2 3 (by decide)
            obtain ⟨q_letters, r_letters, k_letters⟩ := hx2.2 6 (by decide)
            obtain ⟨q_size, r_size, k_size⟩ := hx2.2 10 (by decide)
            obtain ⟨q_edges, r_edges, k_edges⟩ := hx2.2 5 (by decide)
            obtain ⟨q_marks, r_marks, k_marks⟩ := hx2.2 7 (by decide)
            obtain ⟨q_deep, r_deep, k_deep⟩ := hx2.2 16 (by decide)
            obtain ⟨q_stringFrom, r_stringFrom, k_stringFrom⟩ := hx2.2 18 (by decide)
            obtain ⟨q_firstEdge, r_firstEdge, k_firstEdge⟩ := hx2.2 17 (by decide)
            refine g_iload_n 0 3 C dX11_sealed_95 rfl rfl ?_
            refine g_aload_n 1 0 C dX11_sealed_96 rfl rfl ?_
            refine gf_m_nodes C dX11_sealed_97 hx.1 wF_X11_77 ?_
            refine g_topi (hTr0.1) ?_
            refine g_ncmp_ge 211 (by omega) (by omega) C dX11_sealed_100 (by decide) (fun c100 => ?_) (fun c100 => ?_)
            · have ev : v = (tr ls pr).length := by omega
              rw [ev] at hB0 hMa0 hLe0
              exact g_vret C dX11_sealed_211 (by decide) (by decide) ⟨M2, rfl, rfl, hBF0, hSo0, by rw [show bitsN w ls = bitsT ls pr from by unfold bitsN; rw [if_neg (by omega), if_neg (by omega), hpr], ← lvB_full hO hO0]; exact hB0, by rw [show edgesN w ls = (tr ls pr).length - 1 from by unfold edgesN; rw [if_neg (by omega), hpr]]; exact hEd0, by rw [show lettersN w ls = ltV ls w pr (tr ls pr).length from by unfold lettersN; rw [if_neg (by omega), if_neg (by omega), hpr]; rfl]; exact hLe0, by rw [show marksN w ls = mkV ls pr (tr ls pr).length from by unfold marksN; rw [if_neg (by omega), hpr]; rfl]; exact hMa0⟩
            · have hv : v < (tr ls pr).length := by omega
              obtain ⟨nd, hnd⟩ : ∃ nd, nd = ndAt ls pr v := ⟨_, rfl⟩
              have hN := hTr0.2 v hv
              rw [show (tr ls pr).getD v (0, 0, 0, 0) = nd from hnd.symm] at hN
              have hon := htok.2.2 v hv
              rw [← hnd] at hon
              have o1 := hon.1
              have o2 := hon.2.1
              have o3 := hon.2.2.1
              have o5 := hon.2.2.2.2
              have hlo := hn2.2.2 nd.1 (by omega)
              have hll := hlo.1.2.1
              have hmk : mkV ls pr v ≤ v := sumN_if_le (fun v => isEndN ls (ndAt ls pr v) = true) v
              have hlt := ltV_le (w := w) hO hO0 v (by omega)
              have hm1 := trS_mono ls pr v
              have hL1 := trS_len hO hO0 pr (v + 1)
              have hL0 := tr_lt (l := ls) (pr := pr) (by omega) hv
              refine g_aload_n 1 0 C dX11_sealed_103 rfl rfl ?_
              refine gr_m_marks C dX11_sealed_104 hx.1 wF_X11_35 r_marks ?_
              refine g_iload_n 2 1 C dX11_sealed_107 rfl rfl ?_
              refine g_dup2_11 C dX11_sealed_108 rfl rfl ?_
              refine ga_m_marks C dX11_sealed_109 k_marks (by omega) ?_
              refine g_topi (hMa0) ?_
              refine g_aload_n 1 0 C dX11_sealed_110 rfl rfl ?_
              refine g_iload_n 2 1 C dX11_sealed_111 rfl rfl ?_
              refine g_iload_n 0 3 C dX11_sealed_112 rfl rfl ?_
              refine g_callV (As := [.int (nI t), .int (nI v)]) (rest := [.int (nI (mkV ls pr v)), .int (nI t), .ref q_marks]) C dX11_sealed_113 (c_M_isEnd hx2 ht hn2 (by omega) hN.1 (by omega) hN.2.2.1 (by omega)) wC_X11_isEnd wM_X11_156 wI_X11_isEnd wS_X11_isEnd wN_X11 (kne hx.1) (pf_11 hx.1) rfl hd_X11_isEnd ⟨by decide, by decide, by decide, by decide⟩ (Nat.le_of_ble_eq_true rfl) (fun r_ S_ h_ => ?_)
              obtain ⟨rfl, rfl⟩ := h_
              change Go X G _ 5 _ _ (mo_ S M2) 116 [(3, .int (nI v)), (0, .ref x), (1, .int (nI t)), (2, .int (nI w))] [.int (bI (isEndN ls nd)), .int (nI (mkV ls pr v)), .int (nI t), .ref q_marks]
              refine g_if_eq 123 C dX11_sealed_116 (by decide) (fun c116 => ?_) (fun c116 => ?_)
              · have emk : mkV ls pr v + 0 = mkV ls pr (v + 1) := by show _ = mkV ls pr v + (if isEndN ls (ndAt ls pr v) = true then 1 else 0); rw [← hnd, bI_f c116]; rfl
                refine g_iconst (v := nI 0) C dX11_sealed_123 (by decide) ?_
                refine g_iadd C dX11_sealed_124 ?_
                refine g_topi (nI_add _ _ : _ = nI (mkV ls pr v + 0)) ?_
                refine gs_m_marks C dX11_sealed_125 k_marks (by omega) ?_
                refine g_iload_n 0 3 C dX11_sealed_126 rfl rfl ?_
                refine g_nif_le 166 (by omega) C dX11_sealed_127 (by decide) (fun c127 => ?_) (fun c127 => ?_)
                · have elt : ltV ls w pr v = ltV ls w pr (v + 1) := by show _ = ltV ls w pr v + (if _ then _ else 0); rw [if_neg (by omega)]; rfl
                  refine g_aload_n 1 0 C dX11_sealed_166 rfl rfl ?_
                  refine gr_m_firstEdge C dX11_sealed_167 hx.1 wF_X11_71 r_firstEdge ?_
                  refine g_iload_n 0 3 C dX11_sealed_170 rfl rfl ?_
                  refine ga_m_firstEdge C dX11_sealed_171 k_firstEdge (by omega) ?_
                  refine g_topi (hFe0 _ (by omega)) ?_
                  refine g_istore (lv' := [(4, .int (nI ((trS ls pr v).length - 1))), (3, .int (nI v)), (0, .ref x), (1, .int (nI t)), (2, .int (nI w))]) C dX11_sealed_172 (by decide) rfl ?_
                  have lp2 : ∀ (n_ : Nat) (d : Nat) (M3 : MoT), (trS ls pr (v + 1)).length - (trS ls pr v).length - d < n_ → (d ≤ (trS ls pr (v + 1)).length - (trS ls pr v).length ∧ BF t M M3 ∧ treeM M3 (tr ls pr) ∧ feM M3 ls pr ((tr ls pr).length + 1) ∧ m_sort M3 t = nI w ∧ m_edges M3 t = nI ((tr ls pr).length - 1) ∧ bitsM M3 t (lvB ls pr v ++ List.replicate d 1) ∧ m_marks M3 t = nI (mkV ls pr (v + 1)) ∧ m_letters M3 t = nI (ltV ls w pr (v + 1))) → Go X G (Qe X G (fun r S' => ∃ M', r = none ∧ S' = mo_ S M' ∧ BF t M M' ∧ sealedM M' t w ls) rm_X11_sealed.cells rm_X11_sealed.slots) 5 0 0 (mo_ S M3) 174 [(4, .int (nI ((trS ls pr v).length - 1 + d))), (3, .int (nI v)), (0, .ref x), (1, .int (nI t)), (2, .int (nI w))] [] := by
                    intro n_
                    induction n_ with
                    | zero => intro d M3 hm_; exact absurd hm_ (Nat.not_lt_zero _)
                    | succ n_ ih_ =>
                      intro d M3 hm_ h3
                      obtain ⟨hd3, hBF, hTr, hFe, hSo, hEd, hB, hMa, hLe⟩ := h3
                      obtain ⟨bk, hbk⟩ : ∃ bk, bk = lvB ls pr v ++ List.replicate d 1 := ⟨_, rfl⟩
                      rw [← hbk] at hB
                      have hx3 := hx.of hBF.mo_r
                      have hbl : bk.length ≤ 4803 := by
                        have a1 := lvB_len (l := ls) (pr := pr) v
                        rw [hbk, List.length_append, List.length_replicate]
                        omega
                      obtain ⟨q_sort, r_sort, k_sort⟩ := hx3.2 2 (by decide)
                      obtain ⟨q_many, r_many, k_many⟩ := hx3.2 3 (by decide)
                      obtain ⟨q_letters, r_letters, k_letters⟩ := hx3.2 6 (by decide)
                      obtain ⟨q_size, r_size, k_size⟩ := hx3.2 10 (by decide)
                      obtain ⟨q_edges, r_edges, k_edges⟩ := hx3.2 5 (by decide)
                      obtain ⟨q_marks, r_marks, k_marks⟩ := hx3.2 7 (by decide)
                      obtain ⟨q_deep, r_deep, k_deep⟩ := hx3.2 16 (by decide)
                      obtain ⟨q_stringFrom, r_stringFrom, k_stringFrom⟩ := hx3.2 18 (by decide)
                      obtain ⟨q_firstEdge, r_firstEdge, k_firstEdge⟩ := hx3.2 17 (by decide)
                      refine g_iload 0 C dX11_sealed_174 rfl ?_
                      refine g_aload_n 2 0 C dX11_sealed_176 rfl rfl ?_
                      refine gr_m_firstEdge C dX11_sealed_177 hx.1 wF_X11_71 r_firstEdge ?_
                      refine g_iload_n 1 3 C dX11_sealed_180 rfl rfl ?_
                      refine g_iconst (v := nI 1) C dX11_sealed_181 (by decide) ?_
                      refine g_iadd C dX11_sealed_182 ?_
                      refine g_topi (nI_add _ _ : _ = nI (v + 1)) ?_
                      refine ga_m_firstEdge C dX11_sealed_183 k_firstEdge (by omega) ?_
                      refine g_topi (hFe _ (by omega)) ?_
                      refine g_ncmp_ge 199 (by omega) (by omega) C dX11_sealed_184 (by decide) (fun c184 => ?_) (fun c184 => ?_)
                      · have eB : lvB ls pr (v + 1) = bk ++ [0] := by rw [hbk, lvB_succ, List.append_assoc, show d = (trS ls pr (v + 1)).length - (trS ls pr v).length by omega]
                        refine g_aload_n 2 0 C dX11_sealed_199 rfl rfl ?_
                        refine g_iload_n 3 1 C dX11_sealed_200 rfl rfl ?_
                        refine g_iconst (v := nI 0) C dX11_sealed_201 (by decide) ?_
                        refine g_callV (As := [.int (nI t), .int (nI 0)]) (rest := []) C dX11_sealed_202 (c_M_addBit hx3 ht (by omega) hB.1) wC_X11_addBit wM_X11_162 wI_X11_addBit wS_X11_addBit wN_X11 (kne hx.1) (pf_11 hx.1) rfl hd_X11_addBit ⟨by decide, by decide, by decide, by decide⟩ (Nat.le_of_ble_eq_true rfl) (fun r_ S_ h_ => ?_)
                        obtain ⟨rfl, rfl⟩ := h_
                        change Go X G _ 5 _ _ (mo_ S (addB M3 t bk.length 0)) 205 [(4, .int (nI ((trS ls pr v).length - 1 + d))), (3, .int (nI v)), (0, .ref x), (1, .int (nI t)), (2, .int (nI w))] []
                        refine g_iinc (v := nI (v + 1)) (lv' := [(3, .int (nI (v + 1))), (4, .int (nI ((trS ls pr v).length - 1 + d))), (0, .ref x), (1, .int (nI t)), (2, .int (nI w))]) 1 C dX11_sealed_205 rfl (nI_add _ 1) (by decide) rfl ?_
                        refine g_goto 95 C dX11_sealed_208 (by decide) ?_
                        refine Go.pick (lv' := [(3, .int (nI (v + 1))), (0, .ref x), (1, .int (nI t)), (2, .int (nI w))]) [0, 2, 3, 4] rfl ?_
                        exact iho_ (v + 1) _ (by omega) ⟨by omega, hBF.trans (BF.addB (by omega)), hTr, hFe, hSo, hEd, by rw [eB]; exact hB.add 0, hMa, hLe⟩
                      · refine g_aload_n 2 0 C dX11_sealed_187 rfl rfl ?_
                        refine g_iload_n 3 1 C dX11_sealed_188 rfl rfl ?_
                        refine g_iconst (v := nI 1) C dX11_sealed_189 (by decide) ?_
                        refine g_callV (As := [.int (nI t), .int (nI 1)]) (rest := []) C dX11_sealed_190 (c_M_addBit hx3 ht (by omega) hB.1) wC_X11_addBit wM_X11_162 wI_X11_addBit wS_X11_addBit wN_X11 (kne hx.1) (pf_11 hx.1) rfl hd_X11_addBit ⟨by decide, by decide, by decide, by decide⟩ (Nat.le_of_ble_eq_true rfl) (fun r_ S_ h_ => ?_)
                        obtain ⟨rfl, rfl⟩ := h_
                        change Go X G _ 5 _ _ (mo_ S (addB M3 t bk.length 1)) 193 [(4, .int (nI ((trS ls pr v).length - 1 + d))), (3, .int (nI v)), (0, .ref x), (1, .int (nI t)), (2, .int (nI w))] []
                        refine g_iinc (v := nI ((trS ls pr v).length - 1 + d + 1)) (lv' := [(4, .int (nI ((trS ls pr v).length - 1 + d + 1))), (3, .int (nI v)), (0, .ref x), (1, .int (nI t)), (2, .int (nI w))]) 0 C dX11_sealed_193 rfl (nI_add _ 1) (by decide) rfl ?_
                        refine g_goto 174 C dX11_sealed_196 (by decide) ?_
                        exact ih_ (d + 1) _ (by omega) ⟨by omega, hBF.trans (BF.addB (by omega)), hTr, hFe, hSo, hEd, by rw [← rep_succ, ← hbk]; exact hB.add 1, hMa, hLe⟩
                  rw [show (trS ls pr v).length - 1 = (trS ls pr v).length - 1 + 0 from rfl]
                  exact lp2 ((trS ls pr (v + 1)).length + 1) 0 _ (by omega) ⟨Nat.zero_le _, hBF0.trans (BF.marks (fun q hq => pk_un hq)), hTr0, hFe0, hSo0, hEd0, by show bitsM _ t (lvB ls pr v ++ []); rw [List.append_nil]; exact hB0, pk_us.trans (by rw [emk]), hLe0.trans (by rw [elt])⟩
                · refine g_iload_n 3 2 C dX11_sealed_130 rfl rfl ?_
                  refine g_iconst (v := nI 4) C dX11_sealed_131 (by decide) ?_
                  refine g_ncmp_ne 144 (by omega) (by omega) C dX11_sealed_132 (by decide) (fun c132 => ?_) (fun c132 => ?_)
                  · have elt : ltV ls w pr v + (nd.2.2.1 - nd.2.2.2) = ltV ls w pr (v + 1) := by show _ = ltV ls w pr v + (if 0 < v ∧ ¬ (w = 4 ∧ again ls (tr ls pr) v = true) then _ else 0); rw [if_pos ⟨c127, fun z => c132 z.1⟩, ← hnd]
                    refine g_aload_n 1 0 C dX11_sealed_144 rfl rfl ?_
                    refine gr_m_letters C dX11_sealed_145 hx.1 wF_X11_32 r_letters ?_
                    refine g_iload_n 2 1 C dX11_sealed_148 rfl rfl ?_
                    refine g_dup2_11 C dX11_sealed_149 rfl rfl ?_
                    refine ga_m_letters C dX11_sealed_150 k_letters (by omega) ?_
                    refine g_topi (hLe0) ?_
                    refine g_aload_n 1 0 C dX11_sealed_151 rfl rfl ?_
                    refine gr_m_deep C dX11_sealed_152 hx.1 wF_X11_68 r_deep ?_
                    refine g_iload_n 0 3 C dX11_sealed_155 rfl rfl ?_
                    refine ga_m_deep C dX11_sealed_156 k_deep (by omega) ?_
                    refine g_topi (hN.2.2.1) ?_
                    refine g_aload_n 1 0 C dX11_sealed_157 rfl rfl ?_
                    refine gr_m_stringFrom C dX11_sealed_158 hx.1 wF_X11_74 r_stringFrom ?_
                    refine g_iload_n 0 3 C dX11_sealed_161 rfl rfl ?_
                    refine ga_m_stringFrom C dX11_sealed_162 k_stringFrom (by omega) ?_
                    refine g_topi (hN.2.2.2) ?_
                    refine g_isub C dX11_sealed_163 ?_
                    refine g_topi (pk_sub (by omega) : _ = nI (nd.2.2.1 - nd.2.2.2)) ?_
                    refine g_iadd C dX11_sealed_164 ?_
                    refine g_topi (nI_add _ _ : _ = nI (ltV ls w pr v + (nd.2.2.1 - nd.2.2.2))) ?_
                    refine gs_m_letters C dX11_sealed_165 k_letters (by omega) ?_
                    refine g_aload_n 1 0 C dX11_sealed_166 rfl rfl ?_
                    refine gr_m_firstEdge C dX11_sealed_167 hx.1 wF_X11_71 r_firstEdge ?_
                    refine g_iload_n 0 3 C dX11_sealed_170 rfl rfl ?_
                    refine ga_m_firstEdge C dX11_sealed_171 k_firstEdge (by omega) ?_
                    refine g_topi (hFe0 _ (by omega)) ?_
                    refine g_istore (lv' := [(4, .int (nI ((trS ls pr v).length - 1))), (3, .int (nI v)), (0, .ref x), (1, .int (nI t)), (2, .int (nI w))]) C dX11_sealed_172 (by decide) rfl ?_
                    have lp2 : ∀ (n_ : Nat) (d : Nat) (M3 : MoT), (trS ls pr (v + 1)).length - (trS ls pr v).length - d < n_ → (d ≤ (trS ls pr (v + 1)).length - (trS ls pr v).length ∧ BF t M M3 ∧ treeM M3 (tr ls pr) ∧ feM M3 ls pr ((tr ls pr).length + 1) ∧ m_sort M3 t = nI w ∧ m_edges M3 t = nI ((tr ls pr).length - 1) ∧ bitsM M3 t (lvB ls pr v ++ List.replicate d 1) ∧ m_marks M3 t = nI (mkV ls pr (v + 1)) ∧ m_letters M3 t = nI (ltV ls w pr (v + 1))) → Go X G (Qe X G (fun r S' => ∃ M', r = none ∧ S' = mo_ S M' ∧ BF t M M' ∧ sealedM M' t w ls) rm_X11_sealed.cells rm_X11_sealed.slots) 5 0 0 (mo_ S M3) 174 [(4, .int (nI ((trS ls pr v).length - 1 + d))), (3, .int (nI v)), (0, .ref x), (1, .int (nI t)), (2, .int (nI w))] [] := by
                      intro n_
                      induction n_ with
                      | zero => intro d M3 hm_; exact absurd hm_ (Nat.not_lt_zero _)
                      | succ n_ ih_ =>
                        intro d M3 hm_ h3
                        obtain ⟨hd3, hBF, hTr, hFe, hSo, hEd, hB, hMa, hLe⟩ := h3
                        obtain ⟨bk, hbk⟩ : ∃ bk, bk = lvB ls pr v ++ List.replicate d 1 := ⟨_, rfl⟩
                        rw [← hbk] at hB
                        have hx3 := hx.of hBF.mo_r
                        have hbl : bk.length ≤ 4803 := by
                          have a1 := lvB_len (l := ls) (pr := pr) v
                          rw [hbk, List.length_append, List.length_replicate]
                          omega
                        obtain ⟨q_sort, r_sort, k_sort⟩ := hx3.2 2 (by decide)
                        obtain ⟨q_many, r_many, k_many⟩ := hx3.2 3 (by decide)
                        obtain ⟨q_letters, r_letters, k_letters⟩ := hx3.2 6 (by decide)
                        obtain ⟨q_size, r_size, k_size⟩ := hx3.2 10 (by decide)
                        obtain ⟨q_edges, r_edges, k_edges⟩ := hx3.2 5 (by decide)
                        obtain ⟨q_marks, r_marks, k_marks⟩ := hx3.2 7 (by decide)
                        obtain ⟨q_deep, r_deep, k_deep⟩ := hx3.2 16 (by decide)
                        obtain ⟨q_stringFrom, r_stringFrom, k_stringFrom⟩ := hx3.2 18 (by decide)
                        obtain ⟨q_firstEdge, r_firstEdge, k_firstEdge⟩ := hx3.2 17 (by decide)
                        refine g_iload 0 C dX11_sealed_174 rfl ?_
                        refine g_aload_n 2 0 C dX11_sealed_176 rfl rfl ?_
                        refine gr_m_firstEdge C dX11_sealed_177 hx.1 wF_X11_71 r_firstEdge ?_
                        refine g_iload_n 1 3 C dX11_sealed_180 rfl rfl ?_
                        refine g_iconst (v := nI 1) C dX11_sealed_181 (by decide) ?_
                        refine g_iadd C dX11_sealed_182 ?_
                        refine g_topi (nI_add _ _ : _ = nI (v + 1)) ?_
                        refine ga_m_firstEdge C dX11_sealed_183 k_firstEdge (by omega) ?_
                        refine g_topi (hFe _ (by omega)) ?_
                        refine g_ncmp_ge 199 (by omega) (by omega) C dX11_sealed_184 (by decide) (fun c184 => ?_) (fun c184 => ?_)
                        · have eB : lvB ls pr (v + 1) = bk ++ [0] := by rw [hbk, lvB_succ, List.append_assoc, show d = (trS ls pr (v + 1)).length - (trS ls pr v).length by omega]
                          refine g_aload_n 2 0 C dX11_sealed_199 rfl rfl ?_
                          refine g_iload_n 3 1 C dX11_sealed_200 rfl rfl ?_
                          refine g_iconst (v := nI 0) C dX11_sealed_201 (by decide) ?_
                          refine g_callV (As := [.int (nI t), .int (nI 0)]) (rest := []) C dX11_sealed_202 (c_M_addBit hx3 ht (by omega) hB.1) wC_X11_addBit wM_X11_162 wI_X11_addBit wS_X11_addBit wN_X11 (kne hx.1) (pf_11 hx.1) rfl hd_X11_addBit ⟨by decide, by decide, by decide, by decide⟩ (Nat.le_of_ble_eq_true rfl) (fun r_ S_ h_ => ?_)
                          obtain ⟨rfl, rfl⟩ := h_
                          change Go X G _ 5 _ _ (mo_ S (addB M3 t bk.length 0)) 205 [(4, .int (nI ((trS ls pr v).length - 1 + d))), (3, .int (nI v)), (0, .ref x), (1, .int (nI t)), (2, .int (nI w))] []
                          refine g_iinc (v := nI (v + 1)) (lv' := [(3, .int (nI (v + 1))), (4, .int (nI ((trS ls pr v).length - 1 + d))), (0, .ref x), (1, .int (nI t)), (2, .int (nI w))]) 1 C dX11_sealed_205 rfl (nI_add _ 1) (by decide) rfl ?_
                          refine g_goto 95 C dX11_sealed_208 (by decide) ?_
                          refine Go.pick (lv' := [(3, .int (nI (v + 1))), (0, .ref x), (1, .int (nI t)), (2, .int (nI w))]) [0, 2, 3, 4] rfl ?_
                          exact iho_ (v + 1) _ (by omega) ⟨by omega, hBF.trans (BF.addB (by omega)), hTr, hFe, hSo, hEd, by rw [eB]; exact hB.add 0, hMa, hLe⟩
                        · refine g_aload_n 2 0 C dX11_sealed_187 rfl rfl ?_
                          refine g_iload_n 3 1 C dX11_sealed_188 rfl rfl ?_
                          refine g_iconst (v := nI 1) C dX11_sealed_189 (by decide) ?_
                          refine g_callV (As := [.int (nI t), .int (nI 1)]) (rest := []) C dX11_sealed_190 (c_M_addBit hx3 ht (by omega) hB.1) wC_X11_addBit wM_X11_162 wI_X11_addBit wS_X11_addBit wN_X11 (kne hx.1) (pf_11 hx.1) rfl hd_X11_addBit ⟨by decide, by decide, by decide, by decide⟩ (Nat.le_of_ble_eq_true rfl) (fun r_ S_ h_ => ?_)
                          obtain ⟨rfl, rfl⟩ := h_
                          change Go X G _ 5 _ _ (mo_ S (addB M3 t bk.length 1)) 193 [(4, .int (nI ((trS ls pr v).length - 1 + d))), (3, .int (nI v)), (0, .ref x), (1, .int (nI t)), (2, .int (nI w))] []
                          refine g_iinc (v := nI ((trS ls pr v).length - 1 + d + 1)) (lv' := [(4, .int (nI ((trS ls pr v).length - 1 + d + 1))), (3, .int (nI v)), (0, .ref x), (1, .int (nI t)), (2, .int (nI w))]) 0 C dX11_sealed_193 rfl (nI_add _ 1) (by decide) rfl ?_
                          refine g_goto 174 C dX11_sealed_196 (by decide) ?_
                          exact ih_ (d + 1) _ (by omega) ⟨by omega, hBF.trans (BF.addB (by omega)), hTr, hFe, hSo, hEd, by rw [← rep_succ, ← hbk]; exact hB.add 1, hMa, hLe⟩
                    rw [show (trS ls pr v).length - 1 = (trS ls pr v).length - 1 + 0 from rfl]
                    exact lp2 ((trS ls pr (v + 1)).length + 1) 0 _ (by omega) ⟨Nat.zero_le _, (hBF0.trans (BF.marks (fun q hq => pk_un hq))).trans (BF.lett (fun q hq => pk_un hq)), hTr0, hFe0, hSo0, hEd0, by show bitsM _ t (lvB ls pr v ++ []); rw [List.append_nil]; exact hB0, pk_us.trans (by rw [emk]), pk_us.trans (by rw [elt])⟩
                  · refine g_aload_n 1 0 C dX11_sealed_135 rfl rfl ?_
                    refine g_iload_n 2 1 C dX11_sealed_136 rfl rfl ?_
                    refine g_iload_n 0 3 C dX11_sealed_137 rfl rfl ?_
                    refine g_callV (As := [.int (nI t), .int (nI v)]) (rest := []) C dX11_sealed_138 (c_M_isAgain (M := (m_marks_ M2 (upd (m_marks M2) t (nI (mkV ls pr v + 0))))) hx2 ht hn2 hTr0 htok.2.2 (by omega) hv htok.1) wC_X11_isAgain wM_X11_159 wI_X11_isAgain wS_X11_isAgain wN_X11 (kne hx.1) (pf_11 hx.1) rfl hd_X11_isAgain ⟨by decide, by decide, by decide, by decide⟩ (Nat.le_of_ble_eq_true rfl) (fun r_ S_ h_ => ?_)
                    obtain ⟨rfl, rfl⟩ := h_
                    change Go X G _ 5 _ _ (mo_ S (m_marks_ M2 (upd (m_marks M2) t (nI (mkV ls pr v + 0))))) 141 [(3, .int (nI v)), (0, .ref x), (1, .int (nI t)), (2, .int (nI w))] [.int (bI (again ls (tr ls pr) v))]
                    refine g_if_ne 166 C dX11_sealed_141 (by decide) (fun c141 => ?_) (fun c141 => ?_)
                    · have elt : ltV ls w pr v = ltV ls w pr (v + 1) := by show _ = ltV ls w pr v + (if 0 < v ∧ ¬ (w = 4 ∧ again ls (tr ls pr) v = true) then _ else 0); rw [if_neg (fun z => z.2 ⟨c132, bI_t c141⟩)]; rfl
                      refine g_aload_n 1 0 C dX11_sealed_166 rfl rfl ?_
                      refine gr_m_firstEdge C dX11_sealed_167 hx.1 wF_X11_71 r_firstEdge ?_
                      refine g_iload_n 0 3 C dX11_sealed_170 rfl rfl ?_
                      refine ga_m_firstEdge C dX11_sealed_171 k_firstEdge (by omega) ?_
                      refine g_topi (hFe0 _ (by omega)) ?_
                      refine g_istore (lv' := [(4, .int (nI ((trS ls pr v).length - 1))), (3, .int (nI v)), (0, .ref x), (1, .int (nI t)), (2, .int (nI w))]) C dX11_sealed_172 (by decide) rfl ?_
                      have lp2 : ∀ (n_ : Nat) (d : Nat) (M3 : MoT), (trS ls pr (v + 1)).length - (trS ls pr v).length - d < n_ → (d ≤ (trS ls pr (v + 1)).length - (trS ls pr v).length ∧ BF t M M3 ∧ treeM M3 (tr ls pr) ∧ feM M3 ls pr ((tr ls pr).length + 1) ∧ m_sort M3 t = nI w ∧ m_edges M3 t = nI ((tr ls pr).length - 1) ∧ bitsM M3 t (lvB ls pr v ++ List.replicate d 1) ∧ m_marks M3 t = nI (mkV ls pr (v + 1)) ∧ m_letters M3 t = nI (ltV ls w pr (v + 1))) → Go X G (Qe X G (fun r S' => ∃ M', r = none ∧ S' = mo_ S M' ∧ BF t M M' ∧ sealedM M' t w ls) rm_X11_sealed.cells rm_X11_sealed.slots) 5 0 0 (mo_ S M3) 174 [(4, .int (nI ((trS ls pr v).length - 1 + d))), (3, .int (nI v)), (0, .ref x), (1, .int (nI t)), (2, .int (nI w))] [] := by
                        intro n_
                        induction n_ with
                        | zero => intro d M3 hm_; exact absurd hm_ (Nat.not_lt_zero _)
                        | succ n_ ih_ =>
                          intro d M3 hm_ h3
                          obtain ⟨hd3, hBF, hTr, hFe, hSo, hEd, hB, hMa, hLe⟩ := h3
                          obtain ⟨bk, hbk⟩ : ∃ bk, bk = lvB ls pr v ++ List.replicate d 1 := ⟨_, rfl⟩
                          rw [← hbk] at hB
                          have hx3 := hx.of hBF.mo_r
                          have hbl : bk.length ≤ 4803 := by
                            have a1 := lvB_len (l := ls) (pr := pr) v
                            rw [hbk, List.length_append, List.length_replicate]
                            omega
                          obtain ⟨q_sort, r_sort, k_sort⟩ := hx3.2 2 (by decide)
                          obtain ⟨q_many, r_many, k_many⟩ := hx3.2 3 (by decide)
                          obtain ⟨q_letters, r_letters, k_letters⟩ := hx3.2 6 (by decide)
                          obtain ⟨q_size, r_size, k_size⟩ := hx3.2 10 (by decide)
                          obtain ⟨q_edges, r_edges, k_edges⟩ := hx3.2 5 (by decide)
                          obtain ⟨q_marks, r_marks, k_marks⟩ := hx3.2 7 (by decide)
                          obtain ⟨q_deep, r_deep, k_deep⟩ := hx3.2 16 (by decide)
                          obtain ⟨q_stringFrom, r_stringFrom, k_stringFrom⟩ := hx3.2 18 (by decide)
                          obtain ⟨q_firstEdge, r_firstEdge, k_firstEdge⟩ := hx3.2 17 (by decide)
                          refine g_iload 0 C dX11_sealed_174 rfl ?_
                          refine g_aload_n 2 0 C dX11_sealed_176 rfl rfl ?_
                          refine gr_m_firstEdge C dX11_sealed_177 hx.1 wF_X11_71 r_firstEdge ?_
                          refine g_iload_n 1 3 C dX11_sealed_180 rfl rfl ?_
                          refine g_iconst (v := nI 1) C dX11_sealed_181 (by decide) ?_
                          refine g_iadd C dX11_sealed_182 ?_
                          refine g_topi (nI_add _ _ : _ = nI (v + 1)) ?_
                          refine ga_m_firstEdge C dX11_sealed_183 k_firstEdge (by omega) ?_
                          refine g_topi (hFe _ (by omega)) ?_
                          refine g_ncmp_ge 199 (by omega) (by omega) C dX11_sealed_184 (by decide) (fun c184 => ?_) (fun c184 => ?_)
                          · have eB : lvB ls pr (v + 1) = bk ++ [0] := by rw [hbk, lvB_succ, List.append_assoc, show d = (trS ls pr (v + 1)).length - (trS ls pr v).length by omega]
                            refine g_aload_n 2 0 C dX11_sealed_199 rfl rfl ?_
                            refine g_iload_n 3 1 C dX11_sealed_200 rfl rfl ?_
                            refine g_iconst (v := nI 0) C dX11_sealed_201 (by decide) ?_
                            refine g_callV (As := [.int (nI t), .int (nI 0)]) (rest := []) C dX11_sealed_202 (c_M_addBit hx3 ht (by omega) hB.1) wC_X11_addBit wM_X11_162 wI_X11_addBit wS_X11_addBit wN_X11 (kne hx.1) (pf_11 hx.1) rfl hd_X11_addBit ⟨by decide, by decide, by decide, by decide⟩ (Nat.le_of_ble_eq_true rfl) (fun r_ S_ h_ => ?_)
                            obtain ⟨rfl, rfl⟩ := h_
                            change Go X G _ 5 _ _ (mo_ S (addB M3 t bk.length 0)) 205 [(4, .int (nI ((trS ls pr v).length - 1 + d))), (3, .int (nI v)), (0, .ref x), (1, .int (nI t)), (2, .int (nI w))] []
                            refine g_iinc (v := nI (v + 1)) (lv' := [(3, .int (nI (v + 1))), (4, .int (nI ((trS ls pr v).length - 1 + d))), (0, .ref x), (1, .int (nI t)), (2, .int (nI w))]) 1 C dX11_sealed_205 rfl (nI_add _ 1) (by decide) rfl ?_
                            refine g_goto 95 C dX11_sealed_208 (by decide) ?_
                            refine Go.pick (lv' := [(3, .int (nI (v + 1))), (0, .ref x), (1, .int (nI t)), (2, .int (nI w))]) [0, 2, 3, 4] rfl ?_
                            exact iho_ (v + 1) _ (by omega) ⟨by omega, hBF.trans (BF.addB (by omega)), hTr, hFe, hSo, hEd, by rw [eB]; exact hB.add 0, hMa, hLe⟩
                          · refine g_aload_n 2 0 C dX11_sealed_187 rfl rfl ?_
                            refine g_iload_n 3 1 C dX11_sealed_188 rfl rfl ?_
                            refine g_iconst (v := nI 1) C dX11_sealed_189 (by decide) ?_
                            refine g_callV (As := [.int (nI t), .int (nI 1)]) (rest := []) C dX11_sealed_190 (c_M_addBit hx3 ht (by omega) hB.1) wC_X11_addBit wM_X11_162 wI_X11_addBit wS_X11_addBit wN_X11 (kne hx.1) (pf_11 hx.1) rfl hd_X11_addBit ⟨by decide, by decide, by decide, by decide⟩ (Nat.le_of_ble_eq_true rfl) (fun r_ S_ h_ => ?_)
                            obtain ⟨rfl, rfl⟩ := h_
                            change Go X G _ 5 _ _ (mo_ S (addB M3 t bk.length 1)) 193 [(4, .int (nI ((trS ls pr v).length - 1 + d))), (3, .int (nI v)), (0, .ref x), (1, .int (nI t)), (2, .int (nI w))] []
                            refine g_iinc (v := nI ((trS ls pr v).length - 1 + d + 1)) (lv' := [(4, .int (nI ((trS ls pr v).length - 1 + d + 1))), (3, .int (nI v)), (0, .ref x), (1, .int (nI t)), (2, .int (nI w))]) 0 C dX11_sealed_193 rfl (nI_add _ 1) (by decide) rfl ?_
                            refine g_goto 174 C dX11_sealed_196 (by decide) ?_
                            exact ih_ (d + 1) _ (by omega) ⟨by omega, hBF.trans (BF.addB (by omega)), hTr, hFe, hSo, hEd, by rw [← rep_succ, ← hbk]; exact hB.add 1, hMa, hLe⟩
                      rw [show (trS ls pr v).length - 1 = (trS ls pr v).length - 1 + 0 from rfl]
                      exact lp2 ((trS ls pr (v + 1)).length + 1) 0 _ (by omega) ⟨Nat.zero_le _, hBF0.trans (BF.marks (fun q hq => pk_un hq)), hTr0, hFe0, hSo0, hEd0, by show bitsM _ t (lvB ls pr v ++ []); rw [List.append_nil]; exact hB0, pk_us.trans (by rw [emk]), hLe0.trans (by rw [elt])⟩
                    · have elt : ltV ls w pr v + (nd.2.2.1 - nd.2.2.2) = ltV ls w pr (v + 1) := by show _ = ltV ls w pr v + (if 0 < v ∧ ¬ (w = 4 ∧ again ls (tr ls pr) v = true) then _ else 0); rw [if_pos ⟨c127, fun z => by rw [bI_f c141] at z; exact absurd z.2 (by decide)⟩, ← hnd]
                      refine g_aload_n 1 0 C dX11_sealed_144 rfl rfl ?_
                      refine gr_m_letters C dX11_sealed_145 hx.1 wF_X11_32 r_letters ?_
                      refine g_iload_n 2 1 C dX11_sealed_148 rfl rfl ?_
                      refine g_dup2_11 C dX11_sealed_149 rfl rfl ?_
                      refine ga_m_letters C dX11_sealed_150 k_letters (by omega) ?_
                      refine g_topi (hLe0) ?_
                      refine g_aload_n 1 0 C dX11_sealed_151 rfl rfl ?_
                      refine gr_m_deep C dX11_sealed_152 hx.1 wF_X11_68 r_deep ?_
                      refine g_iload_n 0 3 C dX11_sealed_155 rfl rfl ?_
                      refine ga_m_deep C dX11_sealed_156 k_deep (by omega) ?_
                      refine g_topi (hN.2.2.1) ?_
                      refine g_aload_n 1 0 C dX11_sealed_157 rfl rfl ?_
                      refine gr_m_stringFrom C dX11_sealed_158 hx.1 wF_X11_74 r_stringFrom ?_
                      refine g_iload_n 0 3 C dX11_sealed_161 rfl rfl ?_
                      refine ga_m_stringFrom C dX11_sealed_162 k_stringFrom (by omega) ?_
                      refine g_topi (hN.2.2.2) ?_
                      refine g_isub C dX11_sealed_163 ?_
                      refine g_topi (pk_sub (by omega) : _ = nI (nd.2.2.1 - nd.2.2.2)) ?_
                      refine g_iadd C dX11_sealed_164 ?_
                      refine g_topi (nI_add _ _ : _ = nI (ltV ls w pr v + (nd.2.2.1 - nd.2.2.2))) ?_
                      refine gs_m_letters C dX11_sealed_165 k_letters (by omega) ?_
                      refine g_aload_n 1 0 C dX11_sealed_166 rfl rfl ?_
                      refine gr_m_firstEdge C dX11_sealed_167 hx.1 wF_X11_71 r_firstEdge ?_
                      refine g_iload_n 0 3 C dX11_sealed_170 rfl rfl ?_
                      refine ga_m_firstEdge C dX11_sealed_171 k_firstEdge (by omega) ?_
                      refine g_topi (hFe0 _ (by omega)) ?_
                      refine g_istore (lv' := [(4, .int (nI ((trS ls pr v).length - 1))), (3, .int (nI v)), (0, .ref x), (1, .int (nI t)), (2, .int (nI w))]) C dX11_sealed_172 (by decide) rfl ?_
                      have lp2 : ∀ (n_ : Nat) (d : Nat) (M3 : MoT), (trS ls pr (v + 1)).length - (trS ls pr v).length - d < n_ → (d ≤ (trS ls pr (v + 1)).length - (trS ls pr v).length ∧ BF t M M3 ∧ treeM M3 (tr ls pr) ∧ feM M3 ls pr ((tr ls pr).length + 1) ∧ m_sort M3 t = nI w ∧ m_edges M3 t = nI ((tr ls pr).length - 1) ∧ bitsM M3 t (lvB ls pr v ++ List.replicate d 1) ∧ m_marks M3 t = nI (mkV ls pr (v + 1)) ∧ m_letters M3 t = nI (ltV ls w pr (v + 1))) → Go X G (Qe X G (fun r S' => ∃ M', r = none ∧ S' = mo_ S M' ∧ BF t M M' ∧ sealedM M' t w ls) rm_X11_sealed.cells rm_X11_sealed.slots) 5 0 0 (mo_ S M3) 174 [(4, .int (nI ((trS ls pr v).length - 1 + d))), (3, .int (nI v)), (0, .ref x), (1, .int (nI t)), (2, .int (nI w))] [] := by
                        intro n_
                        induction n_ with
                        | zero => intro d M3 hm_; exact absurd hm_ (Nat.not_lt_zero _)
                        | succ n_ ih_ =>
                          intro d M3 hm_ h3
                          obtain ⟨hd3, hBF, hTr, hFe, hSo, hEd, hB, hMa, hLe⟩ := h3
                          obtain ⟨bk, hbk⟩ : ∃ bk, bk = lvB ls pr v ++ List.replicate d 1 := ⟨_, rfl⟩
                          rw [← hbk] at hB
                          have hx3 := hx.of hBF.mo_r
                          have hbl : bk.length ≤ 4803 := by
                            have a1 := lvB_len (l := ls) (pr := pr) v
                            rw [hbk, List.length_append, List.length_replicate]
                            omega
                          obtain ⟨q_sort, r_sort, k_sort⟩ := hx3.2 2 (by decide)
                          obtain ⟨q_many, r_many, k_many⟩ := hx3.2 3 (by decide)
                          obtain ⟨q_letters, r_letters, k_letters⟩ := hx3.2 6 (by decide)
                          obtain ⟨q_size, r_size, k_size⟩ := hx3.2 10 (by decide)
                          obtain ⟨q_edges, r_edges, k_edges⟩ := hx3.2 5 (by decide)
                          obtain ⟨q_marks, r_marks, k_marks⟩ := hx3.2 7 (by decide)
                          obtain ⟨q_deep, r_deep, k_deep⟩ := hx3.2 16 (by decide)
                          obtain ⟨q_stringFrom, r_stringFrom, k_stringFrom⟩ := hx3.2 18 (by decide)
                          obtain ⟨q_firstEdge, r_firstEdge, k_firstEdge⟩ := hx3.2 17 (by decide)
                          refine g_iload 0 C dX11_sealed_174 rfl ?_
                          refine g_aload_n 2 0 C dX11_sealed_176 rfl rfl ?_
                          refine gr_m_firstEdge C dX11_sealed_177 hx.1 wF_X11_71 r_firstEdge ?_
                          refine g_iload_n 1 3 C dX11_sealed_180 rfl rfl ?_
                          refine g_iconst (v := nI 1) C dX11_sealed_181 (by decide) ?_
                          refine g_iadd C dX11_sealed_182 ?_
                          refine g_topi (nI_add _ _ : _ = nI (v + 1)) ?_
                          refine ga_m_firstEdge C dX11_sealed_183 k_firstEdge (by omega) ?_
                          refine g_topi (hFe _ (by omega)) ?_
                          refine g_ncmp_ge 199 (by omega) (by omega) C dX11_sealed_184 (by decide) (fun c184 => ?_) (fun c184 => ?_)
                          · have eB : lvB ls pr (v + 1) = bk ++ [0] := by rw [hbk, lvB_succ, List.append_assoc, show d = (trS ls pr (v + 1)).length - (trS ls pr v).length by omega]
                            refine g_aload_n 2 0 C dX11_sealed_199 rfl rfl ?_
                            refine g_iload_n 3 1 C dX11_sealed_200 rfl rfl ?_
                            refine g_iconst (v := nI 0) C dX11_sealed_201 (by decide) ?_
                            refine g_callV (As := [.int (nI t), .int (nI 0)]) (rest := []) C dX11_sealed_202 (c_M_addBit hx3 ht (by omega) hB.1) wC_X11_addBit wM_X11_162 wI_X11_addBit wS_X11_addBit wN_X11 (kne hx.1) (pf_11 hx.1) rfl hd_X11_addBit ⟨by decide, by decide, by decide, by decide⟩ (Nat.le_of_ble_eq_true rfl) (fun r_ S_ h_ => ?_)
                            obtain ⟨rfl, rfl⟩ := h_
                            change Go X G _ 5 _ _ (mo_ S (addB M3 t bk.length 0)) 205 [(4, .int (nI ((trS ls pr v).length - 1 + d))), (3, .int (nI v)), (0, .ref x), (1, .int (nI t)), (2, .int (nI w))] []
                            refine g_iinc (v := nI (v + 1)) (lv' := [(3, .int (nI (v + 1))), (4, .int (nI ((trS ls pr v).length - 1 + d))), (0, .ref x), (1, .int (nI t)), (2, .int (nI w))]) 1 C dX11_sealed_205 rfl (nI_add _ 1) (by decide) rfl ?_
                            refine g_goto 95 C dX11_sealed_208 (by decide) ?_
                            refine Go.pick (lv' := [(3, .int (nI (v + 1))), (0, .ref x), (1, .int (nI t)), (2, .int (nI w))]) [0, 2, 3, 4] rfl ?_
                            exact iho_ (v + 1) _ (by omega) ⟨by omega, hBF.trans (BF.addB (by omega)), hTr, hFe, hSo, hEd, by rw [eB]; exact hB.add 0, hMa, hLe⟩
                          · refine g_aload_n 2 0 C dX11_sealed_187 rfl rfl ?_
                            refine g_iload_n 3 1 C dX11_sealed_188 rfl rfl ?_
                            refine g_iconst (v := nI 1) C dX11_sealed_189 (by decide) ?_
                            refine g_callV (As := [.int (nI t), .int (nI 1)]) (rest := []) C dX11_sealed_190 (c_M_addBit hx3 ht (by omega) hB.1) wC_X11_addBit wM_X11_162 wI_X11_addBit wS_X11_addBit wN_X11 (kne hx.1) (pf_11 hx.1) rfl hd_X11_addBit ⟨by decide, by decide, by decide, by decide⟩ (Nat.le_of_ble_eq_true rfl) (fun r_ S_ h_ => ?_)
                            obtain ⟨rfl, rfl⟩ := h_
                            change Go X G _ 5 _ _ (mo_ S (addB M3 t bk.length 1)) 193 [(4, .int (nI ((trS ls pr v).length - 1 + d))), (3, .int (nI v)), (0, .ref x), (1, .int (nI t)), (2, .int (nI w))] []
                            refine g_iinc (v := nI ((trS ls pr v).length - 1 + d + 1)) (lv' := [(4, .int (nI ((trS ls pr v).length - 1 + d + 1))), (3, .int (nI v)), (0, .ref x), (1, .int (nI t)), (2, .int (nI w))]) 0 C dX11_sealed_193 rfl (nI_add _ 1) (by decide) rfl ?_
                            refine g_goto 174 C dX11_sealed_196 (by decide) ?_
                            exact ih_ (d + 1) _ (by omega) ⟨by omega, hBF.trans (BF.addB (by omega)), hTr, hFe, hSo, hEd, by rw [← rep_succ, ← hbk]; exact hB.add 1, hMa, hLe⟩
                      rw [show (trS ls pr v).length - 1 = (trS ls pr v).length - 1 + 0 from rfl]
                      exact lp2 ((trS ls pr (v + 1)).length + 1) 0 _ (by omega) ⟨Nat.zero_le _, (hBF0.trans (BF.marks (fun q hq => pk_un hq))).trans (BF.lett (fun q hq => pk_un hq)), hTr0, hFe0, hSo0, hEd0, by show bitsM _ t (lvB ls pr v ++ []); rw [List.append_nil]; exact hB0, pk_us.trans (by rw [emk]), pk_us.trans (by rw [elt])⟩
              · have emk : mkV ls pr v + 1 = mkV ls pr (v + 1) := by show _ = mkV ls pr v + (if isEndN ls (ndAt ls pr v) = true then 1 else 0); rw [← hnd, bI_t c116]; rfl
                refine g_iconst (v := nI 1) C dX11_sealed_119 (by decide) ?_
                refine g_goto 124 C dX11_sealed_120 (by decide) ?_
                refine g_iadd C dX11_sealed_124 ?_
                refine g_topi (nI_add _ _ : _ = nI (mkV ls pr v + 1)) ?_
                refine gs_m_marks C dX11_sealed_125 k_marks (by omega) ?_
                refine g_iload_n 0 3 C dX11_sealed_126 rfl rfl ?_
                refine g_nif_le 166 (by omega) C dX11_sealed_127 (by decide) (fun c127 => ?_) (fun c127 => ?_)
                · have elt : ltV ls w pr v = ltV ls w pr (v + 1) := by show _ = ltV ls w pr v + (if _ then _ else 0); rw [if_neg (by omega)]; rfl
                  refine g_aload_n 1 0 C dX11_sealed_166 rfl rfl ?_
                  refine gr_m_firstEdge C dX11_sealed_167 hx.1 wF_X11_71 r_firstEdge ?_
                  refine g_iload_n 0 3 C dX11_sealed_170 rfl rfl ?_
                  refine ga_m_firstEdge C dX11_sealed_171 k_firstEdge (by omega) ?_
                  refine g_topi (hFe0 _ (by omega)) ?_
                  refine g_istore (lv' := [(4, .int (nI ((trS ls pr v).length - 1))), (3, .int (nI v)), (0, .ref x), (1, .int (nI t)), (2, .int (nI w))]) C dX11_sealed_172 (by decide) rfl ?_
                  have lp2 : ∀ (n_ : Nat) (d : Nat) (M3 : MoT), (trS ls pr (v + 1)).length - (trS ls pr v).length - d < n_ → (d ≤ (trS ls pr (v + 1)).length - (trS ls pr v).length ∧ BF t M M3 ∧ treeM M3 (tr ls pr) ∧ feM M3 ls pr ((tr ls pr).length + 1) ∧ m_sort M3 t = nI w ∧ m_edges M3 t = nI ((tr ls pr).length - 1) ∧ bitsM M3 t (lvB ls pr v ++ List.replicate d 1) ∧ m_marks M3 t = nI (mkV ls pr (v + 1)) ∧ m_letters M3 t = nI (ltV ls w pr (v + 1))) → Go X G (Qe X G (fun r S' => ∃ M', r = none ∧ S' = mo_ S M' ∧ BF t M M' ∧ sealedM M' t w ls) rm_X11_sealed.cells rm_X11_sealed.slots) 5 0 0 (mo_ S M3) 174 [(4, .int (nI ((trS ls pr v).length - 1 + d))), (3, .int (nI v)), (0, .ref x), (1, .int (nI t)), (2, .int (nI w))] [] := by
                    intro n_
                    induction n_ with
                    | zero => intro d M3 hm_; exact absurd hm_ (Nat.not_lt_zero _)
                    | succ n_ ih_ =>
                      intro d M3 hm_ h3
                      obtain ⟨hd3, hBF, hTr, hFe, hSo, hEd, hB, hMa, hLe⟩ := h3
                      obtain ⟨bk, hbk⟩ : ∃ bk, bk = lvB ls pr v ++ List.replicate d 1 := ⟨_, rfl⟩
                      rw [← hbk] at hB
                      have hx3 := hx.of hBF.mo_r
                      have hbl : bk.length ≤ 4803 := by
                        have a1 := lvB_len (l := ls) (pr := pr) v
                        rw [hbk, List.length_append, List.length_replicate]
                        omega
                      obtain ⟨q_sort, r_sort, k_sort⟩ := hx3.2 2 (by decide)
                      obtain ⟨q_many, r_many, k_many⟩ := hx3.2 3 (by decide)
                      obtain ⟨q_letters, r_letters, k_letters⟩ := hx3.2 6 (by decide)
                      obtain ⟨q_size, r_size, k_size⟩ := hx3.2 10 (by decide)
                      obtain ⟨q_edges, r_edges, k_edges⟩ := hx3.2 5 (by decide)
                      obtain ⟨q_marks, r_marks, k_marks⟩ := hx3.2 7 (by decide)
                      obtain ⟨q_deep, r_deep, k_deep⟩ := hx3.2 16 (by decide)
                      obtain ⟨q_stringFrom, r_stringFrom, k_stringFrom⟩ := hx3.2 18 (by decide)
                      obtain ⟨q_firstEdge, r_firstEdge, k_firstEdge⟩ := hx3.2 17 (by decide)
                      refine g_iload 0 C dX11_sealed_174 rfl ?_
                      refine g_aload_n 2 0 C dX11_sealed_176 rfl rfl ?_
                      refine gr_m_firstEdge C dX11_sealed_177 hx.1 wF_X11_71 r_firstEdge ?_
                      refine g_iload_n 1 3 C dX11_sealed_180 rfl rfl ?_
                      refine g_iconst (v := nI 1) C dX11_sealed_181 (by decide) ?_
                      refine g_iadd C dX11_sealed_182 ?_
                      refine g_topi (nI_add _ _ : _ = nI (v + 1)) ?_
                      refine ga_m_firstEdge C dX11_sealed_183 k_firstEdge (by omega) ?_
                      refine g_topi (hFe _ (by omega)) ?_
                      refine g_ncmp_ge 199 (by omega) (by omega) C dX11_sealed_184 (by decide) (fun c184 => ?_) (fun c184 => ?_)
                      · have eB : lvB ls pr (v + 1) = bk ++ [0] := by rw [hbk, lvB_succ, List.append_assoc, show d = (trS ls pr (v + 1)).length - (trS ls pr v).length by omega]
                        refine g_aload_n 2 0 C dX11_sealed_199 rfl rfl ?_
                        refine g_iload_n 3 1 C dX11_sealed_200 rfl rfl ?_
                        refine g_iconst (v := nI 0) C dX11_sealed_201 (by decide) ?_
                        refine g_callV (As := [.int (nI t), .int (nI 0)]) (rest := []) C dX11_sealed_202 (c_M_addBit hx3 ht (by omega) hB.1) wC_X11_addBit wM_X11_162 wI_X11_addBit wS_X11_addBit wN_X11 (kne hx.1) (pf_11 hx.1) rfl hd_X11_addBit ⟨by decide, by decide, by decide, by decide⟩ (Nat.le_of_ble_eq_true rfl) (fun r_ S_ h_ => ?_)
                        obtain ⟨rfl, rfl⟩ := h_
                        change Go X G _ 5 _ _ (mo_ S (addB M3 t bk.length 0)) 205 [(4, .int (nI ((trS ls pr v).length - 1 + d))), (3, .int (nI v)), (0, .ref x), (1, .int (nI t)), (2, .int (nI w))] []
                        refine g_iinc (v := nI (v + 1)) (lv' := [(3, .int (nI (v + 1))), (4, .int (nI ((trS ls pr v).length - 1 + d))), (0, .ref x), (1, .int (nI t)), (2, .int (nI w))]) 1 C dX11_sealed_205 rfl (nI_add _ 1) (by decide) rfl ?_
                        refine g_goto 95 C dX11_sealed_208 (by decide) ?_
                        refine Go.pick (lv' := [(3, .int (nI (v + 1))), (0, .ref x), (1, .int (nI t)), (2, .int (nI w))]) [0, 2, 3, 4] rfl ?_
                        exact iho_ (v + 1) _ (by omega) ⟨by omega, hBF.trans (BF.addB (by omega)), hTr, hFe, hSo, hEd, by rw [eB]; exact hB.add 0, hMa, hLe⟩
                      · refine g_aload_n 2 0 C dX11_sealed_187 rfl rfl ?_
                        refine g_iload_n 3 1 C dX11_sealed_188 rfl rfl ?_
                        refine g_iconst (v := nI 1) C dX11_sealed_189 (by decide) ?_
                        refine g_callV (As := [.int (nI t), .int (nI 1)]) (rest := []) C dX11_sealed_190 (c_M_addBit hx3 ht (by omega) hB.1) wC_X11_addBit wM_X11_162 wI_X11_addBit wS_X11_addBit wN_X11 (kne hx.1) (pf_11 hx.1) rfl hd_X11_addBit ⟨by decide, by decide, by decide, by decide⟩ (Nat.le_of_ble_eq_true rfl) (fun r_ S_ h_ => ?_)
                        obtain ⟨rfl, rfl⟩ := h_
                        change Go X G _ 5 _ _ (mo_ S (addB M3 t bk.length 1)) 193 [(4, .int (nI ((trS ls pr v).length - 1 + d))), (3, .int (nI v)), (0, .ref x), (1, .int (nI t)), (2, .int (nI w))] []
                        refine g_iinc (v := nI ((trS ls pr v).length - 1 + d + 1)) (lv' := [(4, .int (nI ((trS ls pr v).length - 1 + d + 1))), (3, .int (nI v)), (0, .ref x), (1, .int (nI t)), (2, .int (nI w))]) 0 C dX11_sealed_193 rfl (nI_add _ 1) (by decide) rfl ?_
                        refine g_goto 174 C dX11_sealed_196 (by decide) ?_
                        exact ih_ (d + 1) _ (by omega) ⟨by omega, hBF.trans (BF.addB (by omega)), hTr, hFe, hSo, hEd, by rw [← rep_succ, ← hbk]; exact hB.add 1, hMa, hLe⟩
                  rw [show (trS ls pr v).length - 1 = (trS ls pr v).length - 1 + 0 from rfl]
                  exact lp2 ((trS ls pr (v + 1)).length + 1) 0 _ (by omega) ⟨Nat.zero_le _, hBF0.trans (BF.marks (fun q hq => pk_un hq)), hTr0, hFe0, hSo0, hEd0, by show bitsM _ t (lvB ls pr v ++ []); rw [List.append_nil]; exact hB0, pk_us.trans (by rw [emk]), hLe0.trans (by rw [elt])⟩
                · refine g_iload_n 3 2 C dX11_sealed_130 rfl rfl ?_
                  refine g_iconst (v := nI 4) C dX11_sealed_131 (by decide) ?_
                  refine g_ncmp_ne 144 (by omega) (by omega) C dX11_sealed_132 (by decide) (fun c132 => ?_) (fun c132 => ?_)
                  · have elt : ltV ls w pr v + (nd.2.2.1 - nd.2.2.2) = ltV ls w pr (v + 1) := by show _ = ltV ls w pr v + (if 0 < v ∧ ¬ (w = 4 ∧ again ls (tr ls pr) v = true) then _ else 0); rw [if_pos ⟨c127, fun z => c132 z.1⟩, ← hnd]
                    refine g_aload_n 1 0 C dX11_sealed_144 rfl rfl ?_
                    refine gr_m_letters C dX11_sealed_145 hx.1 wF_X11_32 r_letters ?_
                    refine g_iload_n 2 1 C dX11_sealed_148 rfl rfl ?_
                    refine g_dup2_11 C dX11_sealed_149 rfl rfl ?_
                    refine ga_m_letters C dX11_sealed_150 k_letters (by omega) ?_
                    refine g_topi (hLe0) ?_
                    refine g_aload_n 1 0 C dX11_sealed_151 rfl rfl ?_
                    refine gr_m_deep C dX11_sealed_152 hx.1 wF_X11_68 r_deep ?_
                    refine g_iload_n 0 3 C dX11_sealed_155 rfl rfl ?_
                    refine ga_m_deep C dX11_sealed_156 k_deep (by omega) ?_
                    refine g_topi (hN.2.2.1) ?_
                    refine g_aload_n 1 0 C dX11_sealed_157 rfl rfl ?_
                    refine gr_m_stringFrom C dX11_sealed_158 hx.1 wF_X11_74 r_stringFrom ?_
                    refine g_iload_n 0 3 C dX11_sealed_161 rfl rfl ?_
                    refine ga_m_stringFrom C dX11_sealed_162 k_stringFrom (by omega) ?_
                    refine g_topi (hN.2.2.2) ?_
                    refine g_isub C dX11_sealed_163 ?_
                    refine g_topi (pk_sub (by omega) : _ = nI (nd.2.2.1 - nd.2.2.2)) ?_
                    refine g_iadd C dX11_sealed_164 ?_
                    refine g_topi (nI_add _ _ : _ = nI (ltV ls w pr v + (nd.2.2.1 - nd.2.2.2))) ?_
                    refine gs_m_letters C dX11_sealed_165 k_letters (by omega) ?_
                    refine g_aload_n 1 0 C dX11_sealed_166 rfl rfl ?_
                    refine gr_m_firstEdge C dX11_sealed_167 hx.1 wF_X11_71 r_firstEdge ?_
                    refine g_iload_n 0 3 C dX11_sealed_170 rfl rfl ?_
                    refine ga_m_firstEdge C dX11_sealed_171 k_firstEdge (by omega) ?_
                    refine g_topi (hFe0 _ (by omega)) ?_
                    refine g_istore (lv' := [(4, .int (nI ((trS ls pr v).length - 1))), (3, .int (nI v)), (0, .ref x), (1, .int (nI t)), (2, .int (nI w))]) C dX11_sealed_172 (by decide) rfl ?_
                    have lp2 : ∀ (n_ : Nat) (d : Nat) (M3 : MoT), (trS ls pr (v + 1)).length - (trS ls pr v).length - d < n_ → (d ≤ (trS ls pr (v + 1)).length - (trS ls pr v).length ∧ BF t M M3 ∧ treeM M3 (tr ls pr) ∧ feM M3 ls pr ((tr ls pr).length + 1) ∧ m_sort M3 t = nI w ∧ m_edges M3 t = nI ((tr ls pr).length - 1) ∧ bitsM M3 t (lvB ls pr v ++ List.replicate d 1) ∧ m_marks M3 t = nI (mkV ls pr (v + 1)) ∧ m_letters M3 t = nI (ltV ls w pr (v + 1))) → Go X G (Qe X G (fun r S' => ∃ M', r = none ∧ S' = mo_ S M' ∧ BF t M M' ∧ sealedM M' t w ls) rm_X11_sealed.cells rm_X11_sealed.slots) 5 0 0 (mo_ S M3) 174 [(4, .int (nI ((trS ls pr v).length - 1 + d))), (3, .int (nI v)), (0, .ref x), (1, .int (nI t)), (2, .int (nI w))] [] := by
                      intro n_
                      induction n_ with
                      | zero => intro d M3 hm_; exact absurd hm_ (Nat.not_lt_zero _)
                      | succ n_ ih_ =>
                        intro d M3 hm_ h3
                        obtain ⟨hd3, hBF, hTr, hFe, hSo, hEd, hB, hMa, hLe⟩ := h3
                        obtain ⟨bk, hbk⟩ : ∃ bk, bk = lvB ls pr v ++ List.replicate d 1 := ⟨_, rfl⟩
                        rw [← hbk] at hB
                        have hx3 := hx.of hBF.mo_r
                        have hbl : bk.length ≤ 4803 := by
                          have a1 := lvB_len (l := ls) (pr := pr) v
                          rw [hbk, List.length_append, List.length_replicate]
                          omega
                        obtain ⟨q_sort, r_sort, k_sort⟩ := hx3.2 2 (by decide)
                        obtain ⟨q_many, r_many, k_many⟩ := hx3.2 3 (by decide)
                        obtain ⟨q_letters, r_letters, k_letters⟩ := hx3.2 6 (by decide)
                        obtain ⟨q_size, r_size, k_size⟩ := hx3.2 10 (by decide)
                        obtain ⟨q_edges, r_edges, k_edges⟩ := hx3.2 5 (by decide)
                        obtain ⟨q_marks, r_marks, k_marks⟩ := hx3.2 7 (by decide)
                        obtain ⟨q_deep, r_deep, k_deep⟩ := hx3.2 16 (by decide)
                        obtain ⟨q_stringFrom, r_stringFrom, k_stringFrom⟩ := hx3.2 18 (by decide)
                        obtain ⟨q_firstEdge, r_firstEdge, k_firstEdge⟩ := hx3.2 17 (by decide)
                        refine g_iload 0 C dX11_sealed_174 rfl ?_
                        refine g_aload_n 2 0 C dX11_sealed_176 rfl rfl ?_
                        refine gr_m_firstEdge C dX11_sealed_177 hx.1 wF_X11_71 r_firstEdge ?_
                        refine g_iload_n 1 3 C dX11_sealed_180 rfl rfl ?_
                        refine g_iconst (v := nI 1) C dX11_sealed_181 (by decide) ?_
                        refine g_iadd C dX11_sealed_182 ?_
                        refine g_topi (nI_add _ _ : _ = nI (v + 1)) ?_
                        refine ga_m_firstEdge C dX11_sealed_183 k_firstEdge (by omega) ?_
                        refine g_topi (hFe _ (by omega)) ?_
                        refine g_ncmp_ge 199 (by omega) (by omega) C dX11_sealed_184 (by decide) (fun c184 => ?_) (fun c184 => ?_)
                        · have eB : lvB ls pr (v + 1) = bk ++ [0] := by rw [hbk, lvB_succ, List.append_assoc, show d = (trS ls pr (v + 1)).length - (trS ls pr v).length by omega]
                          refine g_aload_n 2 0 C dX11_sealed_199 rfl rfl ?_
                          refine g_iload_n 3 1 C dX11_sealed_200 rfl rfl ?_
                          refine g_iconst (v := nI 0) C dX11_sealed_201 (by decide) ?_
                          refine g_callV (As := [.int (nI t), .int (nI 0)]) (rest := []) C dX11_sealed_202 (c_M_addBit hx3 ht (by omega) hB.1) wC_X11_addBit wM_X11_162 wI_X11_addBit wS_X11_addBit wN_X11 (kne hx.1) (pf_11 hx.1) rfl hd_X11_addBit ⟨by decide, by decide, by decide, by decide⟩ (Nat.le_of_ble_eq_true rfl) (fun r_ S_ h_ => ?_)
                          obtain ⟨rfl, rfl⟩ := h_
                          change Go X G _ 5 _ _ (mo_ S (addB M3 t bk.length 0)) 205 [(4, .int (nI ((trS ls pr v).length - 1 + d))), (3, .int (nI v)), (0, .ref x), (1, .int (nI t)), (2, .int (nI w))] []
                          refine g_iinc (v := nI (v + 1)) (lv' := [(3, .int (nI (v + 1))), (4, .int (nI ((trS ls pr v).length - 1 + d))), (0, .ref x), (1, .int (nI t)), (2, .int (nI w))]) 1 C dX11_sealed_205 rfl (nI_add _ 1) (by decide) rfl ?_
                          refine g_goto 95 C dX11_sealed_208 (by decide) ?_
                          refine Go.pick (lv' := [(3, .int (nI (v + 1))), (0, .ref x), (1, .int (nI t)), (2, .int (nI w))]) [0, 2, 3, 4] rfl ?_
                          exact iho_ (v + 1) _ (by omega) ⟨by omega, hBF.trans (BF.addB (by omega)), hTr, hFe, hSo, hEd, by rw [eB]; exact hB.add 0, hMa, hLe⟩
                        · refine g_aload_n 2 0 C dX11_sealed_187 rfl rfl ?_
                          refine g_iload_n 3 1 C dX11_sealed_188 rfl rfl ?_
                          refine g_iconst (v := nI 1) C dX11_sealed_189 (by decide) ?_
                          refine g_callV (As := [.int (nI t), .int (nI 1)]) (rest := []) C dX11_sealed_190 (c_M_addBit hx3 ht (by omega) hB.1) wC_X11_addBit wM_X11_162 wI_X11_addBit wS_X11_addBit wN_X11 (kne hx.1) (pf_11 hx.1) rfl hd_X11_addBit ⟨by decide, by decide, by decide, by decide⟩ (Nat.le_of_ble_eq_true rfl) (fun r_ S_ h_ => ?_)
                          obtain ⟨rfl, rfl⟩ := h_
                          change Go X G _ 5 _ _ (mo_ S (addB M3 t bk.length 1)) 193 [(4, .int (nI ((trS ls pr v).length - 1 + d))), (3, .int (nI v)), (0, .ref x), (1, .int (nI t)), (2, .int (nI w))] []
                          refine g_iinc (v := nI ((trS ls pr v).length - 1 + d + 1)) (lv' := [(4, .int (nI ((trS ls pr v).length - 1 + d + 1))), (3, .int (nI v)), (0, .ref x), (1, .int (nI t)), (2, .int (nI w))]) 0 C dX11_sealed_193 rfl (nI_add _ 1) (by decide) rfl ?_
                          refine g_goto 174 C dX11_sealed_196 (by decide) ?_
                          exact ih_ (d + 1) _ (by omega) ⟨by omega, hBF.trans (BF.addB (by omega)), hTr, hFe, hSo, hEd, by rw [← rep_succ, ← hbk]; exact hB.add 1, hMa, hLe⟩
                    rw [show (trS ls pr v).length - 1 = (trS ls pr v).length - 1 + 0 from rfl]
                    exact lp2 ((trS ls pr (v + 1)).length + 1) 0 _ (by omega) ⟨Nat.zero_le _, (hBF0.trans (BF.marks (fun q hq => pk_un hq))).trans (BF.lett (fun q hq => pk_un hq)), hTr0, hFe0, hSo0, hEd0, by show bitsM _ t (lvB ls pr v ++ []); rw [List.append_nil]; exact hB0, pk_us.trans (by rw [emk]), pk_us.trans (by rw [elt])⟩
                  · refine g_aload_n 1 0 C dX11_sealed_135 rfl rfl ?_
                    refine g_iload_n 2 1 C dX11_sealed_136 rfl rfl ?_
                    refine g_iload_n 0 3 C dX11_sealed_137 rfl rfl ?_
                    refine g_callV (As := [.int (nI t), .int (nI v)]) (rest := []) C dX11_sealed_138 (c_M_isAgain (M := (m_marks_ M2 (upd (m_marks M2) t (nI (mkV ls pr v + 1))))) hx2 ht hn2 hTr0 htok.2.2 (by omega) hv htok.1) wC_X11_isAgain wM_X11_159 wI_X11_isAgain wS_X11_isAgain wN_X11 (kne hx.1) (pf_11 hx.1) rfl hd_X11_isAgain ⟨by decide, by decide, by decide, by decide⟩ (Nat.le_of_ble_eq_true rfl) (fun r_ S_ h_ => ?_)
                    obtain ⟨rfl, rfl⟩ := h_
                    change Go X G _ 5 _ _ (mo_ S (m_marks_ M2 (upd (m_marks M2) t (nI (mkV ls pr v + 1))))) 141 [(3, .int (nI v)), (0, .ref x), (1, .int (nI t)), (2, .int (nI w))] [.int (bI (again ls (tr ls pr) v))]
                    refine g_if_ne 166 C dX11_sealed_141 (by decide) (fun c141 => ?_) (fun c141 => ?_)
                    · have elt : ltV ls w pr v = ltV ls w pr (v + 1) := by show _ = ltV ls w pr v + (if 0 < v ∧ ¬ (w = 4 ∧ again ls (tr ls pr) v = true) then _ else 0); rw [if_neg (fun z => z.2 ⟨c132, bI_t c141⟩)]; rfl
                      refine g_aload_n 1 0 C dX11_sealed_166 rfl rfl ?_
                      refine gr_m_firstEdge C dX11_sealed_167 hx.1 wF_X11_71 r_firstEdge ?_
                      refine g_iload_n 0 3 C dX11_sealed_170 rfl rfl ?_
                      refine ga_m_firstEdge C dX11_sealed_171 k_firstEdge (by omega) ?_
                      refine g_topi (hFe0 _ (by omega)) ?_
                      refine g_istore (lv' := [(4, .int (nI ((trS ls pr v).length - 1))), (3, .int (nI v)), (0, .ref x), (1, .int (nI t)), (2, .int (nI w))]) C dX11_sealed_172 (by decide) rfl ?_
                      have lp2 : ∀ (n_ : Nat) (d : Nat) (M3 : MoT), (trS ls pr (v + 1)).length - (trS ls pr v).length - d < n_ → (d ≤ (trS ls pr (v + 1)).length - (trS ls pr v).length ∧ BF t M M3 ∧ treeM M3 (tr ls pr) ∧ feM M3 ls pr ((tr ls pr).length + 1) ∧ m_sort M3 t = nI w ∧ m_edges M3 t = nI ((tr ls pr).length - 1) ∧ bitsM M3 t (lvB ls pr v ++ List.replicate d 1) ∧ m_marks M3 t = nI (mkV ls pr (v + 1)) ∧ m_letters M3 t = nI (ltV ls w pr (v + 1))) → Go X G (Qe X G (fun r S' => ∃ M', r = none ∧ S' = mo_ S M' ∧ BF t M M' ∧ sealedM M' t w ls) rm_X11_sealed.cells rm_X11_sealed.slots) 5 0 0 (mo_ S M3) 174 [(4, .int (nI ((trS ls pr v).length - 1 + d))), (3, .int (nI v)), (0, .ref x), (1, .int (nI t)), (2, .int (nI w))] [] := by
                        intro n_
                        induction n_ with
                        | zero => intro d M3 hm_; exact absurd hm_ (Nat.not_lt_zero _)
                        | succ n_ ih_ =>
                          intro d M3 hm_ h3
                          obtain ⟨hd3, hBF, hTr, hFe, hSo, hEd, hB, hMa, hLe⟩ := h3
                          obtain ⟨bk, hbk⟩ : ∃ bk, bk = lvB ls pr v ++ List.replicate d 1 := ⟨_, rfl⟩
                          rw [← hbk] at hB
                          have hx3 := hx.of hBF.mo_r
                          have hbl : bk.length ≤ 4803 := by
                            have a1 := lvB_len (l := ls) (pr := pr) v
                            rw [hbk, List.length_append, List.length_replicate]
                            omega
                          obtain ⟨q_sort, r_sort, k_sort⟩ := hx3.2 2 (by decide)
                          obtain ⟨q_many, r_many, k_many⟩ := hx3.2 3 (by decide)
                          obtain ⟨q_letters, r_letters, k_letters⟩ := hx3.2 6 (by decide)
                          obtain ⟨q_size, r_size, k_size⟩ := hx3.2 10 (by decide)
                          obtain ⟨q_edges, r_edges, k_edges⟩ := hx3.2 5 (by decide)
                          obtain ⟨q_marks, r_marks, k_marks⟩ := hx3.2 7 (by decide)
                          obtain ⟨q_deep, r_deep, k_deep⟩ := hx3.2 16 (by decide)
                          obtain ⟨q_stringFrom, r_stringFrom, k_stringFrom⟩ := hx3.2 18 (by decide)
                          obtain ⟨q_firstEdge, r_firstEdge, k_firstEdge⟩ := hx3.2 17 (by decide)
                          refine g_iload 0 C dX11_sealed_174 rfl ?_
                          refine g_aload_n 2 0 C dX11_sealed_176 rfl rfl ?_
                          refine gr_m_firstEdge C dX11_sealed_177 hx.1 wF_X11_71 r_firstEdge ?_
                          refine g_iload_n 1 3 C dX11_sealed_180 rfl rfl ?_
                          refine g_iconst (v := nI 1) C dX11_sealed_181 (by decide) ?_
                          refine g_iadd C dX11_sealed_182 ?_
                          refine g_topi (nI_add _ _ : _ = nI (v + 1)) ?_
                          refine ga_m_firstEdge C dX11_sealed_183 k_firstEdge (by omega) ?_
                          refine g_topi (hFe _ (by omega)) ?_
                          refine g_ncmp_ge 199 (by omega) (by omega) C dX11_sealed_184 (by decide) (fun c184 => ?_) (fun c184 => ?_)
                          · have eB : lvB ls pr (v + 1) = bk ++ [0] := by rw [hbk, lvB_succ, List.append_assoc, show d = (trS ls pr (v + 1)).length - (trS ls pr v).length by omega]
                            refine g_aload_n 2 0 C dX11_sealed_199 rfl rfl ?_
                            refine g_iload_n 3 1 C dX11_sealed_200 rfl rfl ?_
                            refine g_iconst (v := nI 0) C dX11_sealed_201 (by decide) ?_
                            refine g_callV (As := [.int (nI t), .int (nI 0)]) (rest := []) C dX11_sealed_202 (c_M_addBit hx3 ht (by omega) hB.1) wC_X11_addBit wM_X11_162 wI_X11_addBit wS_X11_addBit wN_X11 (kne hx.1) (pf_11 hx.1) rfl hd_X11_addBit ⟨by decide, by decide, by decide, by decide⟩ (Nat.le_of_ble_eq_true rfl) (fun r_ S_ h_ => ?_)
                            obtain ⟨rfl, rfl⟩ := h_
                            change Go X G _ 5 _ _ (mo_ S (addB M3 t bk.length 0)) 205 [(4, .int (nI ((trS ls pr v).length - 1 + d))), (3, .int (nI v)), (0, .ref x), (1, .int (nI t)), (2, .int (nI w))] []
                            refine g_iinc (v := nI (v + 1)) (lv' := [(3, .int (nI (v + 1))), (4, .int (nI ((trS ls pr v).length - 1 + d))), (0, .ref x), (1, .int (nI t)), (2, .int (nI w))]) 1 C dX11_sealed_205 rfl (nI_add _ 1) (by decide) rfl ?_
                            refine g_goto 95 C dX11_sealed_208 (by decide) ?_
                            refine Go.pick (lv' := [(3, .int (nI (v + 1))), (0, .ref x), (1, .int (nI t)), (2, .int (nI w))]) [0, 2, 3, 4] rfl ?_
                            exact iho_ (v + 1) _ (by omega) ⟨by omega, hBF.trans (BF.addB (by omega)), hTr, hFe, hSo, hEd, by rw [eB]; exact hB.add 0, hMa, hLe⟩
                          · refine g_aload_n 2 0 C dX11_sealed_187 rfl rfl ?_
                            refine g_iload_n 3 1 C dX11_sealed_188 rfl rfl ?_
                            refine g_iconst (v := nI 1) C dX11_sealed_189 (by decide) ?_
                            refine g_callV (As := [.int (nI t), .int (nI 1)]) (rest := []) C dX11_sealed_190 (c_M_addBit hx3 ht (by omega) hB.1) wC_X11_addBit wM_X11_162 wI_X11_addBit wS_X11_addBit wN_X11 (kne hx.1) (pf_11 hx.1) rfl hd_X11_addBit ⟨by decide, by decide, by decide, by decide⟩ (Nat.le_of_ble_eq_true rfl) (fun r_ S_ h_ => ?_)
                            obtain ⟨rfl, rfl⟩ := h_
                            change Go X G _ 5 _ _ (mo_ S (addB M3 t bk.length 1)) 193 [(4, .int (nI ((trS ls pr v).length - 1 + d))), (3, .int (nI v)), (0, .ref x), (1, .int (nI t)), (2, .int (nI w))] []
                            refine g_iinc (v := nI ((trS ls pr v).length - 1 + d + 1)) (lv' := [(4, .int (nI ((trS ls pr v).length - 1 + d + 1))), (3, .int (nI v)), (0, .ref x), (1, .int (nI t)), (2, .int (nI w))]) 0 C dX11_sealed_193 rfl (nI_add _ 1) (by decide) rfl ?_
                            refine g_goto 174 C dX11_sealed_196 (by decide) ?_
                            exact ih_ (d + 1) _ (by omega) ⟨by omega, hBF.trans (BF.addB (by omega)), hTr, hFe, hSo, hEd, by rw [← rep_succ, ← hbk]; exact hB.add 1, hMa, hLe⟩
                      rw [show (trS ls pr v).length - 1 = (trS ls pr v).length - 1 + 0 from rfl]
                      exact lp2 ((trS ls pr (v + 1)).length + 1) 0 _ (by omega) ⟨Nat.zero_le _, hBF0.trans (BF.marks (fun q hq => pk_un hq)), hTr0, hFe0, hSo0, hEd0, by show bitsM _ t (lvB ls pr v ++ []); rw [List.append_nil]; exact hB0, pk_us.trans (by rw [emk]), hLe0.trans (by rw [elt])⟩
                    · have elt : ltV ls w pr v + (nd.2.2.1 - nd.2.2.2) = ltV ls w pr (v + 1) := by show _ = ltV ls w pr v + (if 0 < v ∧ ¬ (w = 4 ∧ again ls (tr ls pr) v = true) then _ else 0); rw [if_pos ⟨c127, fun z => by rw [bI_f c141] at z; exact absurd z.2 (by decide)⟩, ← hnd]
                      refine g_aload_n 1 0 C dX11_sealed_144 rfl rfl ?_
                      refine gr_m_letters C dX11_sealed_145 hx.1 wF_X11_32 r_letters ?_
                      refine g_iload_n 2 1 C dX11_sealed_148 rfl rfl ?_
                      refine g_dup2_11 C dX11_sealed_149 rfl rfl ?_
                      refine ga_m_letters C dX11_sealed_150 k_letters (by omega) ?_
                      refine g_topi (hLe0) ?_
                      refine g_aload_n 1 0 C dX11_sealed_151 rfl rfl ?_
                      refine gr_m_deep C dX11_sealed_152 hx.1 wF_X11_68 r_deep ?_
                      refine g_iload_n 0 3 C dX11_sealed_155 rfl rfl ?_
                      refine ga_m_deep C dX11_sealed_156 k_deep (by omega) ?_
                      refine g_topi (hN.2.2.1) ?_
                      refine g_aload_n 1 0 C dX11_sealed_157 rfl rfl ?_
                      refine gr_m_stringFrom C dX11_sealed_158 hx.1 wF_X11_74 r_stringFrom ?_
                      refine g_iload_n 0 3 C dX11_sealed_161 rfl rfl ?_
                      refine ga_m_stringFrom C dX11_sealed_162 k_stringFrom (by omega) ?_
                      refine g_topi (hN.2.2.2) ?_
                      refine g_isub C dX11_sealed_163 ?_
                      refine g_topi (pk_sub (by omega) : _ = nI (nd.2.2.1 - nd.2.2.2)) ?_
                      refine g_iadd C dX11_sealed_164 ?_
                      refine g_topi (nI_add _ _ : _ = nI (ltV ls w pr v + (nd.2.2.1 - nd.2.2.2))) ?_
                      refine gs_m_letters C dX11_sealed_165 k_letters (by omega) ?_
                      refine g_aload_n 1 0 C dX11_sealed_166 rfl rfl ?_
                      refine gr_m_firstEdge C dX11_sealed_167 hx.1 wF_X11_71 r_firstEdge ?_
                      refine g_iload_n 0 3 C dX11_sealed_170 rfl rfl ?_
                      refine ga_m_firstEdge C dX11_sealed_171 k_firstEdge (by omega) ?_
                      refine g_topi (hFe0 _ (by omega)) ?_
                      refine g_istore (lv' := [(4, .int (nI ((trS ls pr v).length - 1))), (3, .int (nI v)), (0, .ref x), (1, .int (nI t)), (2, .int (nI w))]) C dX11_sealed_172 (by decide) rfl ?_
                      have lp2 : ∀ (n_ : Nat) (d : Nat) (M3 : MoT), (trS ls pr (v + 1)).length - (trS ls pr v).length - d < n_ → (d ≤ (trS ls pr (v + 1)).length - (trS ls pr v).length ∧ BF t M M3 ∧ treeM M3 (tr ls pr) ∧ feM M3 ls pr ((tr ls pr).length + 1) ∧ m_sort M3 t = nI w ∧ m_edges M3 t = nI ((tr ls pr).length - 1) ∧ bitsM M3 t (lvB ls pr v ++ List.replicate d 1) ∧ m_marks M3 t = nI (mkV ls pr (v + 1)) ∧ m_letters M3 t = nI (ltV ls w pr (v + 1))) → Go X G (Qe X G (fun r S' => ∃ M', r = none ∧ S' = mo_ S M' ∧ BF t M M' ∧ sealedM M' t w ls) rm_X11_sealed.cells rm_X11_sealed.slots) 5 0 0 (mo_ S M3) 174 [(4, .int (nI ((trS ls pr v).length - 1 + d))), (3, .int (nI v)), (0, .ref x), (1, .int (nI t)), (2, .int (nI w))] [] := by
                        intro n_
                        induction n_ with
                        | zero => intro d M3 hm_; exact absurd hm_ (Nat.not_lt_zero _)
                        | succ n_ ih_ =>
                          intro d M3 hm_ h3
                          obtain ⟨hd3, hBF, hTr, hFe, hSo, hEd, hB, hMa, hLe⟩ := h3
                          obtain ⟨bk, hbk⟩ : ∃ bk, bk = lvB ls pr v ++ List.replicate d 1 := ⟨_, rfl⟩
                          rw [← hbk] at hB
                          have hx3 := hx.of hBF.mo_r
                          have hbl : bk.length ≤ 4803 := by
                            have a1 := lvB_len (l := ls) (pr := pr) v
                            rw [hbk, List.length_append, List.length_replicate]
                            omega
                          obtain ⟨q_sort, r_sort, k_sort⟩ := hx3.2 2 (by decide)
                          obtain ⟨q_many, r_many, k_many⟩ := hx3.2 3 (by decide)
                          obtain ⟨q_letters, r_letters, k_letters⟩ := hx3.2 6 (by decide)
                          obtain ⟨q_size, r_size, k_size⟩ := hx3.2 10 (by decide)
                          obtain ⟨q_edges, r_edges, k_edges⟩ := hx3.2 5 (by decide)
                          obtain ⟨q_marks, r_marks, k_marks⟩ := hx3.2 7 (by decide)
                          obtain ⟨q_deep, r_deep, k_deep⟩ := hx3.2 16 (by decide)
                          obtain ⟨q_stringFrom, r_stringFrom, k_stringFrom⟩ := hx3.2 18 (by decide)
                          obtain ⟨q_firstEdge, r_firstEdge, k_firstEdge⟩ := hx3.2 17 (by decide)
                          refine g_iload 0 C dX11_sealed_174 rfl ?_
                          refine g_aload_n 2 0 C dX11_sealed_176 rfl rfl ?_
                          refine gr_m_firstEdge C dX11_sealed_177 hx.1 wF_X11_71 r_firstEdge ?_
                          refine g_iload_n 1 3 C dX11_sealed_180 rfl rfl ?_
                          refine g_iconst (v := nI 1) C dX11_sealed_181 (by decide) ?_
                          refine g_iadd C dX11_sealed_182 ?_
                          refine g_topi (nI_add _ _ : _ = nI (v + 1)) ?_
                          refine ga_m_firstEdge C dX11_sealed_183 k_firstEdge (by omega) ?_
                          refine g_topi (hFe _ (by omega)) ?_
                          refine g_ncmp_ge 199 (by omega) (by omega) C dX11_sealed_184 (by decide) (fun c184 => ?_) (fun c184 => ?_)
                          · have eB : lvB ls pr (v + 1) = bk ++ [0] := by rw [hbk, lvB_succ, List.append_assoc, show d = (trS ls pr (v + 1)).length - (trS ls pr v).length by omega]
                            refine g_aload_n 2 0 C dX11_sealed_199 rfl rfl ?_
                            refine g_iload_n 3 1 C dX11_sealed_200 rfl rfl ?_
                            refine g_iconst (v := nI 0) C dX11_sealed_201 (by decide) ?_
                            refine g_callV (As := [.int (nI t), .int (nI 0)]) (rest := []) C dX11_sealed_202 (c_M_addBit hx3 ht (by omega) hB.1) wC_X11_addBit wM_X11_162 wI_X11_addBit wS_X11_addBit wN_X11 (kne hx.1) (pf_11 hx.1) rfl hd_X11_addBit ⟨by decide, by decide, by decide, by decide⟩ (Nat.le_of_ble_eq_true rfl) (fun r_ S_ h_ => ?_)
                            obtain ⟨rfl, rfl⟩ := h_
                            change Go X G _ 5 _ _ (mo_ S (addB M3 t bk.length 0)) 205 [(4, .int (nI ((trS ls pr v).length - 1 + d))), (3, .int (nI v)), (0, .ref x), (1, .int (nI t)), (2, .int (nI w))] []
                            refine g_iinc (v := nI (v + 1)) (lv' := [(3, .int (nI (v + 1))), (4, .int (nI ((trS ls pr v).length - 1 + d))), (0, .ref x), (1, .int (nI t)), (2, .int (nI w))]) 1 C dX11_sealed_205 rfl (nI_add _ 1) (by decide) rfl ?_
                            refine g_goto 95 C dX11_sealed_208 (by decide) ?_
                            refine Go.pick (lv' := [(3, .int (nI (v + 1))), (0, .ref x), (1, .int (nI t)), (2, .int (nI w))]) [0, 2, 3, 4] rfl ?_
                            exact iho_ (v + 1) _ (by omega) ⟨by omega, hBF.trans (BF.addB (by omega)), hTr, hFe, hSo, hEd, by rw [eB]; exact hB.add 0, hMa, hLe⟩
                          · refine g_aload_n 2 0 C dX11_sealed_187 rfl rfl ?_
                            refine g_iload_n 3 1 C dX11_sealed_188 rfl rfl ?_
                            refine g_iconst (v := nI 1) C dX11_sealed_189 (by decide) ?_
                            refine g_callV (As := [.int (nI t), .int (nI 1)]) (rest := []) C dX11_sealed_190 (c_M_addBit hx3 ht (by omega) hB.1) wC_X11_addBit wM_X11_162 wI_X11_addBit wS_X11_addBit wN_X11 (kne hx.1) (pf_11 hx.1) rfl hd_X11_addBit ⟨by decide, by decide, by decide, by decide⟩ (Nat.le_of_ble_eq_true rfl) (fun r_ S_ h_ => ?_)
                            obtain ⟨rfl, rfl⟩ := h_
                            change Go X G _ 5 _ _ (mo_ S (addB M3 t bk.length 1)) 193 [(4, .int (nI ((trS ls pr v).length - 1 + d))), (3, .int (nI v)), (0, .ref x), (1, .int (nI t)), (2, .int (nI w))] []
                            refine g_iinc (v := nI ((trS ls pr v).length - 1 + d + 1)) (lv' := [(4, .int (nI ((trS ls pr v).length - 1 + d + 1))), (3, .int (nI v)), (0, .ref x), (1, .int (nI t)), (2, .int (nI w))]) 0 C dX11_sealed_193 rfl (nI_add _ 1) (by decide) rfl ?_
                            refine g_goto 174 C dX11_sealed_196 (by decide) ?_
                            exact ih_ (d + 1) _ (by omega) ⟨by omega, hBF.trans (BF.addB (by omega)), hTr, hFe, hSo, hEd, by rw [← rep_succ, ← hbk]; exact hB.add 1, hMa, hLe⟩
                      rw [show (trS ls pr v).length - 1 = (trS ls pr v).length - 1 + 0 from rfl]
                      exact lp2 ((trS ls pr (v + 1)).length + 1) 0 _ (by omega) ⟨Nat.zero_le _, (hBF0.trans (BF.marks (fun q hq => pk_un hq))).trans (BF.lett (fun q hq => pk_un hq)), hTr0, hFe0, hSo0, hEd0, by show bitsM _ t (lvB ls pr v ++ []); rw [List.append_nil]; exact hB0, pk_us.trans (by rw [emk]), pk_us.trans (by rw [elt])⟩
        exact lp ((tr ls pr).length + 1) 0 _ (by omega) ⟨Nat.zero_le _, (BF.sort.trans (BF.tf htf)).trans (BF.edges (fun q hq => pk_un hq)), htr, hfe, hk4.2.2.2.trans pk_us, pk_us, ⟨hk4b.trans hz.1, fun i hi => absurd hi (Nat.not_lt_zero _)⟩, hk4.2.2.1.trans hz.2.2.2, hk4.2.1.trans hz.2.2.1⟩
    · omega
  · omega
