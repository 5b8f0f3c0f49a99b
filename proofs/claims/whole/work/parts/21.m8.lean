def selN (b : List Nat) (k : Nat) : Nat := fN (fun i => !(decide (onesN b i = k) && decide (b.getD i 0 = 1))) b.length
theorem selN_eq {b : List Nat} {k i : Nat} (hi : i < b.length) (h1 : onesN b i = k) (h2 : b.getD i 0 = 1) (h : ∀ q, q < i → ¬ (onesN b q = k ∧ b.getD q 0 = 1)) : selN b k = i := by
  refine fN_eq (Nat.le_of_lt hi) (fun q hq => ?_) (Or.inr ?_)
  · have := h q hq
    by_cases g1 : onesN b q = k <;> by_cases g2 : b.getD q 0 = 1
    · exact absurd ⟨g1, g2⟩ this
    · rw [decide_eq_true g1, decide_eq_false g2]; rfl
    · rw [decide_eq_false g1]; rfl
    · rw [decide_eq_false g1]; rfl
  · rw [decide_eq_true h1, decide_eq_true h2]; rfl
def A_select (Z : ZT) (p k : Int32) : Int32 := match rowedE Z p with
  | .inl e => e
  | .inr t => if inR k (onesN (tB (zH Z t)) (tB (zH Z t)).length) then (if missT (zH Z t) then -6 else nI (selN (tB (zH Z t)) k.toNatClampNeg)) else -5
set_option maxRecDepth 100000 in
set_option maxHeartbeats 400000 in
theorem c_M_select_err {l : Launch} {G : Gx} {S : PS} {M : MoT} {x : Nat} (hx : MoOk S M x) {Z : ZT} (hR : RM M Z) (hZ : okZ Z) {p e : Int32} (he : rowedE Z p = .inl e) (hneg : e < 0) {k : Int32} : Ct l yX11_select cX11_select 7 (Option.some Jvm.ClassFile.FieldType.int) rm_X11_select G [.ref x, .int p, .int k] (mo_ S M) (fun r S' => ∃ M', r = some (.int (A_select Z p k)) ∧ S' = mo_ S M' ∧ mo_r M' = mo_r M ∧ RM M' (Z)) := by
  obtain ⟨q_bits, r_bits, k_bits⟩ := hx.2 4 (by decide)
  obtain ⟨q_row, r_row, k_row⟩ := hx.2 9 (by decide)
  refine Ct.mk RX11 "select" hy_X11_select (Nat.le_of_ble_eq_true rfl) (fun X hX C => ?_)
  change Go X G _ 7 0 0 (mo_ S M) 0 [(0, .ref x), (1, .int p), (2, .int k)] []
  refine g_aload_n 0 0 C dX11_select_0 rfl rfl ?_
  refine g_iload_n 1 1 C dX11_select_1 rfl rfl ?_
  refine g_callV (As := [.int p]) (rest := []) C dX11_select_2 (c_M_rowed hx hR hZ) wC_X11_rowed wM_X11_205 wI_X11_rowed wS_X11_rowed wN_X11 (kne hx.1) (pf_11 hx.1) rfl hd_X11_rowed ⟨by decide, by decide, by decide, by decide⟩ (Nat.le_of_ble_eq_true rfl) (fun r_ S_ h_ => ?_)
  obtain ⟨rfl, rfl⟩ := h_
  change Go X G _ 7 _ _ (mo_ S M) 5 [(0, .ref x), (1, .int p), (2, .int k)] [.int (errI (rowedE Z p))]
  refine g_topi (show errI (rowedE Z p) = e by rw [he]; rfl) ?_
  refine g_istore_n (lv' := [(3, .int e), (0, .ref x), (1, .int p), (2, .int k)]) C dX11_select_5 rfl (by decide) rfl ?_
  refine g_iload_n 0 3 C dX11_select_6 rfl rfl ?_
  refine g_if_ge 12 C dX11_select_7 (by decide) (fun c7 => ?_) (fun c7 => ?_)
  · exact absurd c7 (Int32.not_le.mpr hneg)
  · refine g_iload_n 0 3 C dX11_select_10 rfl rfl ?_
    exact g_iret C dX11_select_11 (by decide) (by decide) (⟨M, by unfold A_select; rw [he], rfl, rfl, hR⟩)
set_option maxRecDepth 100000 in
set_option maxHeartbeats 400000 in
theorem c_M_select_ok {l : Launch} {G : Gx} {S : PS} {M : MoT} {x : Nat} (hx : MoOk S M x) {Z : ZT} (hR : RM M Z) (hZ : okZ Z) {j t : Nat} (hj : j < 10) (hp : zP Z j = t + 1) (he : rowedE Z (nI j) = .inr t) {k : Int32} : Ct l yX11_select cX11_select 7 (Option.some Jvm.ClassFile.FieldType.int) rm_X11_select G [.ref x, .int (nI j), .int k] (mo_ S M) (fun r S' => ∃ M', r = some (.int (A_select Z (nI j) k)) ∧ S' = mo_ S M' ∧ mo_r M' = mo_r M ∧ RM M' (Z)) := by
  obtain ⟨q_bits, r_bits, k_bits⟩ := hx.2 4 (by decide)
  obtain ⟨q_row, r_row, k_row⟩ := hx.2 9 (by decide)
  obtain ⟨hO, ht⟩ := hZ.th hj hp
  have hT := hR.th hj hp
  have hpl : m_place M j = nI (t + 1) := (hR.2.1 j hj).trans (by rw [hp])
  have hn1 := hT.2.1
  have hn2 := hn1.1
  have hb2 := hO.2.2.2.1
  have hto := onesN_le hO.2.2.2.2.1 (tB (zH Z t)).length
  refine Ct.mk RX11 "select" hy_X11_select (Nat.le_of_ble_eq_true rfl) (fun X hX C => ?_)
  change Go X G _ 7 0 0 (mo_ S M) 0 [(0, .ref x), (1, .int (nI j)), (2, .int k)] []
  refine g_aload_n 0 0 C dX11_select_0 rfl rfl ?_
  refine g_iload_n 1 1 C dX11_select_1 rfl rfl ?_
  refine g_callV (As := [.int (nI j)]) (rest := []) C dX11_select_2 (c_M_rowed hx hR hZ) wC_X11_rowed wM_X11_205 wI_X11_rowed wS_X11_rowed wN_X11 (kne hx.1) (pf_11 hx.1) rfl hd_X11_rowed ⟨by decide, by decide, by decide, by decide⟩ (Nat.le_of_ble_eq_true rfl) (fun r_ S_ h_ => ?_)
  obtain ⟨rfl, rfl⟩ := h_
  change Go X G _ 7 _ _ (mo_ S M) 5 [(0, .ref x), (1, .int (nI j)), (2, .int k)] [.int (errI (rowedE Z (nI j)))]
  refine g_topi (show errI (rowedE Z (nI j)) = nI 0 by rw [he]; rfl) ?_
  refine g_istore_n (lv' := [(3, .int (nI 0)), (0, .ref x), (1, .int (nI j)), (2, .int k)]) C dX11_select_5 rfl (by decide) rfl ?_
  refine g_iload_n 0 3 C dX11_select_6 rfl rfl ?_
  refine g_nif_ge 12 (by omega) C dX11_select_7 (by decide) ?_
  refine g_aload_n 1 0 C dX11_select_12 rfl rfl ?_
  refine g_iload_n 2 1 C dX11_select_13 rfl rfl ?_
  refine g_callV (As := [.int (nI j)]) (rest := []) C dX11_select_14 (c_M_at hx hj hpl) wC_X11_at wM_X11_108 wI_X11_at wS_X11_at wN_X11 (kne hx.1) (pf_11 hx.1) rfl hd_X11_at ⟨by decide, by decide, by decide, by decide⟩ (Nat.le_of_ble_eq_true rfl) (fun r_ S_ h_ => ?_)
  obtain ⟨rfl, rfl⟩ := h_
  change Go X G _ 7 _ _ (mo_ S M) 17 [(3, .int (nI 0)), (0, .ref x), (1, .int (nI j)), (2, .int k)] [.int (nI t)]
  refine g_istore (lv' := [(4, .int (nI t)), (3, .int (nI 0)), (0, .ref x), (1, .int (nI j)), (2, .int k)]) C dX11_select_17 (by decide) rfl ?_
  refine g_iload_n 4 2 C dX11_select_19 rfl rfl ?_
  refine g_if_lt 40 C dX11_select_20 (by decide) (fun c20 => ?_) (fun c20 => ?_)
  · have e := inR_neg (n := onesN (tB (zH Z t)) (tB (zH Z t)).length) c20
    refine g_bipush (v := -5) C dX11_select_40 (by decide) ?_
    exact g_iret C dX11_select_42 (by decide) (by decide) (⟨M, by unfold A_select; rw [he]; simp only []; rw [e]; rfl, rfl, rfl, hR⟩)
  · refine g_iload_n 4 2 C dX11_select_23 rfl rfl ?_
    refine g_aload_n 2 0 C dX11_select_24 rfl rfl ?_
    refine g_iload 0 C dX11_select_25 rfl ?_
    refine g_aload_n 2 0 C dX11_select_27 rfl rfl ?_
    refine gr_m_bits C dX11_select_28 hx.1 wF_X11_26 r_bits ?_
    refine g_iload 0 C dX11_select_31 rfl ?_
    refine ga_m_bits C dX11_select_33 k_bits (by omega) ?_
    refine g_topi (hT.2.2.1) ?_
    refine g_callV (As := [.int (nI t), .int (nI ((tB (zH Z t)).length))]) (rest := [.int k]) C dX11_select_34 (c_M_ones hx (by omega) hT.2.2.2.1 hb2 hO.2.2.2.2.1 (by omega)) wC_X11_ones wM_X11_208 wI_X11_ones wS_X11_ones wN_X11 (kne hx.1) (pf_11 hx.1) rfl hd_X11_ones ⟨by decide, by decide, by decide, by decide⟩ (Nat.le_of_ble_eq_true rfl) (fun r_ S_ h_ => ?_)
    obtain ⟨rfl, rfl⟩ := h_
    change Go X G _ 7 _ _ (mo_ S M) 37 [(4, .int (nI t)), (3, .int (nI 0)), (0, .ref x), (1, .int (nI j)), (2, .int k)] [.int (nI (onesN (tB (zH Z t)) ((tB (zH Z t)).length))), .int k]
    refine g_icmp_lt 43 C dX11_select_37 (by decide) (fun c37 => ?_) (fun c37 => ?_)
    · have ek := inR_in' (n := onesN (tB (zH Z t)) (tB (zH Z t)).length) (by omega) c20 c37
      obtain ⟨i1, hi1, rfl⟩ := inR_spec ek (by omega)
      refine g_aload_n 2 0 C dX11_select_43 rfl rfl ?_
      refine g_iload 0 C dX11_select_44 rfl ?_
      refine g_callV (As := [.int (nI t)]) (rest := []) C dX11_select_46 (c_M_misses hx (by omega) hT.2.2.2.2.1 hT.2.2.2.2.2.1) wC_X11_misses wM_X11_178 wI_X11_misses wS_X11_misses wN_X11 (kne hx.1) (pf_11 hx.1) rfl hd_X11_misses ⟨by decide, by decide, by decide, by decide⟩ (Nat.le_of_ble_eq_true rfl) (fun r_ S_ h_ => ?_)
      obtain ⟨rfl, rfl⟩ := h_
      change Go X G _ 7 _ _ (mo_ S M) 49 [(4, .int (nI t)), (3, .int (nI 0)), (0, .ref x), (1, .int (nI j)), (2, .int (nI i1))] [.int (bI (missT (zH Z t)))]
      refine g_if_eq 55 C dX11_select_49 (by decide) (fun c49 => ?_) (fun c49 => ?_)
      · have em := bI_f c49
        refine g_iconst (v := nI 0) C dX11_select_55 (by decide) ?_
        refine g_istore (lv' := [(5, .int (nI 0)), (4, .int (nI t)), (3, .int (nI 0)), (0, .ref x), (1, .int (nI j)), (2, .int (nI i1))]) C dX11_select_56 (by decide) rfl ?_
        refine g_iload_n 5 2 C dX11_select_58 rfl rfl ?_
        refine g_istore (lv' := [(6, .int (nI i1)), (5, .int (nI 0)), (4, .int (nI t)), (3, .int (nI 0)), (0, .ref x), (1, .int (nI j)), (2, .int (nI i1))]) C dX11_select_59 (by decide) rfl ?_
        have lp : ∀ (n_ : Nat) (i : Nat), (tB (zH Z t)).length - i < n_ → (i ≤ (tB (zH Z t)).length ∧ onesN (tB (zH Z t)) i ≤ i1 ∧ ∀ q, q < i → ¬ (onesN (tB (zH Z t)) q = i1 ∧ (tB (zH Z t)).getD q 0 = 1)) → Go X G (Qe X G (fun r S' => ∃ M', r = some (.int (A_select Z (nI j) (nI i1))) ∧ S' = mo_ S M' ∧ mo_r M' = mo_r M ∧ RM M' (Z)) rm_X11_select.cells rm_X11_select.slots) 7 0 0 (mo_ S M) 61 [(6, .int (nI (i1 - onesN (tB (zH Z t)) i))), (5, .int (nI i)), (4, .int (nI t)), (3, .int (nI 0)), (0, .ref x), (1, .int (nI j)), (2, .int (nI i1))] [] := by
          intro n_
          induction n_ with
          | zero => intro i hm_; exact absurd hm_ (Nat.not_lt_zero _)
          | succ n_ ih_ =>
            intro i hm_ hi
            have hlt : i < (tB (zH Z t)).length := by
              rcases Nat.lt_or_ge i (tB (zH Z t)).length with h | h
              · exact h
              · have := hi.2.1
                rw [show i = (tB (zH Z t)).length by omega] at this
                omega
            have hbi := hO.2.2.2.2.1 i hlt
            refine g_iload 0 C dX11_select_61 rfl ?_
            refine g_nif_gt 83 (by omega) C dX11_select_63 (by decide) (fun c63 => ?_) (fun c63 => ?_)
            · refine g_iload 0 C dX11_select_83 rfl ?_
              refine g_aload_n 4 0 C dX11_select_85 rfl rfl ?_
              refine gr_m_row C dX11_select_86 hx.1 wF_X11_43 r_row ?_
              refine g_sipush (v := nI 4900) C dX11_select_89 (by decide) ?_
              refine g_iload 2 C dX11_select_92 rfl ?_
              refine g_imul C dX11_select_94 ?_
              refine g_topi (pk_mul _ _ : _ = nI (4900 * t)) ?_
              refine g_iload 1 C dX11_select_95 rfl ?_
              refine g_iadd C dX11_select_97 ?_
              refine g_topi (nI_add _ _ : _ = nI (4900 * t + i)) ?_
              refine ga_m_row C dX11_select_98 k_row (by omega) ?_
              refine g_topi (hT.2.2.2.1 i hlt) ?_
              refine g_isub C dX11_select_99 ?_
              refine g_topi (pk_sub (by omega) : _ = nI (i1 - onesN (tB (zH Z t)) i - ((tB (zH Z t)).getD i 0))) ?_
              refine g_istore (lv' := [(6, .int (nI (i1 - onesN (tB (zH Z t)) i - ((tB (zH Z t)).getD i 0)))), (5, .int (nI i)), (4, .int (nI t)), (3, .int (nI 0)), (0, .ref x), (1, .int (nI j)), (2, .int (nI i1))]) C dX11_select_100 (by decide) rfl ?_
              refine g_iinc (v := nI (i + 1)) (lv' := [(5, .int (nI (i + 1))), (6, .int (nI (i1 - onesN (tB (zH Z t)) i - ((tB (zH Z t)).getD i 0)))), (4, .int (nI t)), (3, .int (nI 0)), (0, .ref x), (1, .int (nI j)), (2, .int (nI i1))]) 1 C dX11_select_102 rfl (nI_add _ 1) (by decide) rfl ?_
              refine g_goto 61 C dX11_select_105 (by decide) ?_
              refine Go.pick (lv' := [(6, .int (nI (i1 - onesN (tB (zH Z t)) i - ((tB (zH Z t)).getD i 0)))), (5, .int (nI (i + 1))), (4, .int (nI t)), (3, .int (nI 0)), (0, .ref x), (1, .int (nI j)), (2, .int (nI i1))]) [1, 0, 2, 3, 4, 5, 6] rfl ?_
              have hs : onesN (tB (zH Z t)) (i + 1) = onesN (tB (zH Z t)) i + (tB (zH Z t)).getD i 0 := rfl
              rw [show i1 - onesN (tB (zH Z t)) i - (tB (zH Z t)).getD i 0 = i1 - onesN (tB (zH Z t)) (i + 1) by omega]
              exact ih_ (i + 1) (by omega) ⟨by omega, by omega, fun q hq => by
                by_cases e : q = i
                · rw [e]; omega
                · exact hi.2.2 q (by omega)⟩
            · refine g_aload_n 4 0 C dX11_select_66 rfl rfl ?_
              refine gr_m_row C dX11_select_67 hx.1 wF_X11_43 r_row ?_
              refine g_sipush (v := nI 4900) C dX11_select_70 (by decide) ?_
              refine g_iload 2 C dX11_select_73 rfl ?_
              refine g_imul C dX11_select_75 ?_
              refine g_topi (pk_mul _ _ : _ = nI (4900 * t)) ?_
              refine g_iload 1 C dX11_select_76 rfl ?_
              refine g_iadd C dX11_select_78 ?_
              refine g_topi (nI_add _ _ : _ = nI (4900 * t + i)) ?_
              refine ga_m_row C dX11_select_79 k_row (by omega) ?_
              refine g_topi (hT.2.2.2.1 i hlt) ?_
              refine g_nif_ne 108 (by omega) C dX11_select_80 (by decide) (fun c80 => ?_) (fun c80 => ?_)
              · refine g_iload 1 C dX11_select_108 rfl ?_
                exact g_iret C dX11_select_110 (by decide) (by decide) (⟨M, by unfold A_select; rw [he]; simp only []; rw [ek, em, nI_clamp (by omega), selN_eq hlt (by omega) (by omega) hi.2.2]; rfl, rfl, rfl, hR⟩)
              · refine g_iload 0 C dX11_select_83 rfl ?_
                refine g_aload_n 4 0 C dX11_select_85 rfl rfl ?_
                refine gr_m_row C dX11_select_86 hx.1 wF_X11_43 r_row ?_
                refine g_sipush (v := nI 4900) C dX11_select_89 (by decide) ?_
                refine g_iload 2 C dX11_select_92 rfl ?_
                refine g_imul C dX11_select_94 ?_
                refine g_topi (pk_mul _ _ : _ = nI (4900 * t)) ?_
                refine g_iload 1 C dX11_select_95 rfl ?_
                refine g_iadd C dX11_select_97 ?_
                refine g_topi (nI_add _ _ : _ = nI (4900 * t + i)) ?_
                refine ga_m_row C dX11_select_98 k_row (by omega) ?_
                refine g_topi (hT.2.2.2.1 i hlt) ?_
                refine g_isub C dX11_select_99 ?_
                refine g_topi (pk_sub (by omega) : _ = nI (i1 - onesN (tB (zH Z t)) i - ((tB (zH Z t)).getD i 0))) ?_
                refine g_istore (lv' := [(6, .int (nI (i1 - onesN (tB (zH Z t)) i - ((tB (zH Z t)).getD i 0)))), (5, .int (nI i)), (4, .int (nI t)), (3, .int (nI 0)), (0, .ref x), (1, .int (nI j)), (2, .int (nI i1))]) C dX11_select_100 (by decide) rfl ?_
                refine g_iinc (v := nI (i + 1)) (lv' := [(5, .int (nI (i + 1))), (6, .int (nI (i1 - onesN (tB (zH Z t)) i - ((tB (zH Z t)).getD i 0)))), (4, .int (nI t)), (3, .int (nI 0)), (0, .ref x), (1, .int (nI j)), (2, .int (nI i1))]) 1 C dX11_select_102 rfl (nI_add _ 1) (by decide) rfl ?_
                refine g_goto 61 C dX11_select_105 (by decide) ?_
                refine Go.pick (lv' := [(6, .int (nI (i1 - onesN (tB (zH Z t)) i - ((tB (zH Z t)).getD i 0)))), (5, .int (nI (i + 1))), (4, .int (nI t)), (3, .int (nI 0)), (0, .ref x), (1, .int (nI j)), (2, .int (nI i1))]) [1, 0, 2, 3, 4, 5, 6] rfl ?_
                have hs : onesN (tB (zH Z t)) (i + 1) = onesN (tB (zH Z t)) i + (tB (zH Z t)).getD i 0 := rfl
                rw [show i1 - onesN (tB (zH Z t)) i - (tB (zH Z t)).getD i 0 = i1 - onesN (tB (zH Z t)) (i + 1) by omega]
                exact ih_ (i + 1) (by omega) ⟨by omega, by omega, fun q hq => by
                  by_cases e : q = i
                  · rw [e]; omega
                  · exact hi.2.2 q (by omega)⟩
        exact lp ((tB (zH Z t)).length + 1) 0 (by omega) ⟨Nat.zero_le _, Nat.zero_le _, fun q hq => absurd hq (Nat.not_lt_zero _)⟩
      · have em := bI_t c49
        refine g_bipush (v := -6) C dX11_select_52 (by decide) ?_
        exact g_iret C dX11_select_54 (by decide) (by decide) (⟨M, by unfold A_select; rw [he]; simp only []; rw [ek, em]; rfl, rfl, rfl, hR⟩)
    · have e := inR_big' (n := onesN (tB (zH Z t)) (tB (zH Z t)).length) (by omega) c37
      refine g_bipush (v := -5) C dX11_select_40 (by decide) ?_
      exact g_iret C dX11_select_42 (by decide) (by decide) (⟨M, by unfold A_select; rw [he]; simp only []; rw [e]; rfl, rfl, rfl, hR⟩)
theorem c_M_select {l : Launch} {G : Gx} {S : PS} {M : MoT} {x : Nat} (hx : MoOk S M x) {Z : ZT} (hR : RM M Z) (hZ : okZ Z) {p : Int32} {k : Int32} : Ct l yX11_select cX11_select 7 (Option.some Jvm.ClassFile.FieldType.int) rm_X11_select G [.ref x, .int p, .int k] (mo_ S M) (fun r S' => ∃ M', r = some (.int (A_select Z p k)) ∧ S' = mo_ S M' ∧ mo_r M' = mo_r M ∧ RM M' (Z)) := by
  cases he : rowedE Z p with
  | inl e => exact c_M_select_err hx hR hZ he (rowedE_neg he)
  | inr t =>
    obtain ⟨j, hj, rfl, hp, -⟩ := rowedE_inr he
    exact c_M_select_ok hx hR hZ hj hp he
def setT (Z : ZT) (t : Nat) (T : Th) : ZT := zH_ Z (fun q => if q = t then T else zH Z q)
def A_flip (Z : ZT) (p i : Int32) : Int32 := match look Z p with
  | .inl e => e
  | .inr t => if tK (zH Z t) = 7 then (if inR i (tB (zH Z t)).length then nI ((tB (zH Z t)).getD i.toNatClampNeg 0) else -5) else -4
def setB (T : Th) (b : List Nat) : Th := (T.1, T.2.1, b, T.2.2.2)
def N_flip (Z : ZT) (p i : Int32) (one : Bool) : ZT := match look Z p with
  | .inl _ => Z
  | .inr t => if tK (zH Z t) = 7 then (if inR i (tB (zH Z t)).length then setT Z t (setB (zH Z t) ((tB (zH Z t)).set i.toNatClampNeg (if one then 1 else 0))) else Z) else Z
theorem RM.setT {M M' : MoT} {Z : ZT} (h : RM M Z) {t : Nat} {T : Th} (h1 : ∀ q, q ≠ t → usedP (zP Z) q → thM M q (zH Z q) → thM M' q (zH Z q)) (h2 : thM M' t T) (e1 : tapeM M' (zT Z)) (e2 : m_place M' = m_place M) (e3 : m_status M' = m_status M) (e4 : m_witnessed M' = m_witnessed M) (e5 : m_witness M' = m_witness M) : RM M' (setT Z t T) := by
  refine ⟨e1, fun p hp => by rw [e2]; exact h.2.1 p hp, fun q hq => ?_, by rw [e3]; exact h.2.2.2.1, by rw [e4]; exact h.2.2.2.2.1, fun i hi => by rw [e5]; exact h.2.2.2.2.2 i hi⟩
  show thM M' q (if q = t then T else zH Z q)
  by_cases e : q = t
  · rw [if_pos e, e]; exact h2
  · rw [if_neg e]; exact h1 q e hq (h.2.2.1 q hq)
set_option maxRecDepth 100000 in
set_option maxHeartbeats 400000 in
theorem c_M_flip_out {l : Launch} {G : Gx} {S : PS} {M : MoT} {x : Nat} (hx : MoOk S M x) {Z : ZT} (hR : RM M Z) (hZ : okZ Z) {p : Int32} (hp : p < 0 ∨ nI 10 ≤ p) {i : Int32} {one : Bool} : Ct l yX11_flip cX11_flip 6 (Option.some Jvm.ClassFile.FieldType.int) rm_X11_flip G [.ref x, .int p, .int i, .int (bI one)] (mo_ S M) (fun r S' => ∃ M', r = some (.int (A_flip Z p i)) ∧ S' = mo_ S M' ∧ mo_r M' = mo_r M ∧ RM M' (N_flip Z p i one)) := by
  obtain ⟨q_place, r_place, k_place⟩ := hx.2 1 (by decide)
  obtain ⟨q_sort, r_sort, k_sort⟩ := hx.2 2 (by decide)
  obtain ⟨q_bits, r_bits, k_bits⟩ := hx.2 4 (by decide)
  obtain ⟨q_row, r_row, k_row⟩ := hx.2 9 (by decide)
  refine Ct.mk RX11 "flip" hy_X11_flip (Nat.le_of_ble_eq_true rfl) (fun X hX C => ?_)
  change Go X G _ 6 0 0 (mo_ S M) 0 [(0, .ref x), (1, .int p), (2, .int i), (3, .int (bI one))] []
  refine g_aload_n 0 0 C dX11_flip_0 rfl rfl ?_
  refine g_iload_n 1 1 C dX11_flip_1 rfl rfl ?_
  refine g_callV (As := [.int p]) (rest := []) C dX11_flip_2 (c_M_isPlace_out hp) wC_X11_isPlace wM_X11_97 wI_X11_isPlace wS_X11_isPlace wN_X11 (kne hx.1) (pf_11 hx.1) rfl hd_X11_isPlace ⟨by decide, by decide, by decide, by decide⟩ (Nat.le_of_ble_eq_true rfl) (fun r_ S_ h_ => ?_)
  obtain ⟨rfl, rfl⟩ := h_
  change Go X G _ 6 _ _ (mo_ S M) 5 [(0, .ref x), (1, .int p), (2, .int i), (3, .int (bI one))] [.int (nI 0)]
  refine g_nif_ne 11 (by decide) C dX11_flip_5 (by decide) (fun c => absurd c (by decide)) (fun _ => ?_)
  refine g_bipush (v := -2) C dX11_flip_8 (by decide) ?_
  exact g_iret C dX11_flip_10 (by decide) (by decide) (⟨M, by unfold A_flip; rw [look_out hp], rfl, rfl, by unfold N_flip; rw [look_out hp]; exact hR⟩)
set_option maxRecDepth 100000 in
set_option maxHeartbeats 400000 in
theorem c_M_flip_no {l : Launch} {G : Gx} {S : PS} {M : MoT} {x : Nat} (hx : MoOk S M x) {Z : ZT} (hR : RM M Z) (hZ : okZ Z) {j : Nat} (hj : j < 10) (hp : zP Z j = 0) {i : Int32} {one : Bool} : Ct l yX11_flip cX11_flip 6 (Option.some Jvm.ClassFile.FieldType.int) rm_X11_flip G [.ref x, .int (nI j), .int i, .int (bI one)] (mo_ S M) (fun r S' => ∃ M', r = some (.int (A_flip Z (nI j) i)) ∧ S' = mo_ S M' ∧ mo_r M' = mo_r M ∧ RM M' (N_flip Z (nI j) i one)) := by
  obtain ⟨q_place, r_place, k_place⟩ := hx.2 1 (by decide)
  obtain ⟨q_sort, r_sort, k_sort⟩ := hx.2 2 (by decide)
  obtain ⟨q_bits, r_bits, k_bits⟩ := hx.2 4 (by decide)
  obtain ⟨q_row, r_row, k_row⟩ := hx.2 9 (by decide)
  refine Ct.mk RX11 "flip" hy_X11_flip (Nat.le_of_ble_eq_true rfl) (fun X hX C => ?_)
  change Go X G _ 6 0 0 (mo_ S M) 0 [(0, .ref x), (1, .int (nI j)), (2, .int i), (3, .int (bI one))] []
  refine g_aload_n 0 0 C dX11_flip_0 rfl rfl ?_
  refine g_iload_n 1 1 C dX11_flip_1 rfl rfl ?_
  refine g_callV (As := [.int (nI j)]) (rest := []) C dX11_flip_2 (c_M_isPlace_in hj) wC_X11_isPlace wM_X11_97 wI_X11_isPlace wS_X11_isPlace wN_X11 (kne hx.1) (pf_11 hx.1) rfl hd_X11_isPlace ⟨by decide, by decide, by decide, by decide⟩ (Nat.le_of_ble_eq_true rfl) (fun r_ S_ h_ => ?_)
  obtain ⟨rfl, rfl⟩ := h_
  change Go X G _ 6 _ _ (mo_ S M) 5 [(0, .ref x), (1, .int (nI j)), (2, .int i), (3, .int (bI one))] [.int (nI 1)]
  refine g_nif_ne 11 (by decide) C dX11_flip_5 (by decide) (fun _ => ?_) (fun c => absurd c (by decide))
  refine g_aload_n 0 0 C dX11_flip_11 rfl rfl ?_
  refine gr_m_place C dX11_flip_12 hx.1 wF_X11_17 r_place ?_
  refine g_iload_n 1 1 C dX11_flip_15 rfl rfl ?_
  refine ga_m_place C dX11_flip_16 k_place (by omega) ?_
  refine g_topi (((hR.2.1 j hj).trans (by rw [hp]))) ?_
  refine g_nif_ne 23 (by decide) C dX11_flip_17 (by decide) (fun c => absurd c (by decide)) (fun _ => ?_)
  refine g_bipush (v := -3) C dX11_flip_20 (by decide) ?_
  exact g_iret C dX11_flip_22 (by decide) (by decide) (⟨M, by unfold A_flip; rw [look_no hj hp], rfl, rfl, by unfold N_flip; rw [look_no hj hp]; exact hR⟩)
set_option maxRecDepth 100000 in
set_option maxHeartbeats 400000 in
theorem c_M_flip_at {l : Launch} {G : Gx} {S : PS} {M : MoT} {x : Nat} (hx : MoOk S M x) {Z : ZT} (hR : RM M Z) (hZ : okZ Z) {j t : Nat} (hj : j < 10) (hp : zP Z j = t + 1) {i : Int32} {one : Bool} : Ct l yX11_flip cX11_flip 6 (Option.some Jvm.ClassFile.FieldType.int) rm_X11_flip G [.ref x, .int (nI j), .int i, .int (bI one)] (mo_ S M) (fun r S' => ∃ M', r = some (.int (A_flip Z (nI j) i)) ∧ S' = mo_ S M' ∧ mo_r M' = mo_r M ∧ RM M' (N_flip Z (nI j) i one)) := by
  obtain ⟨q_place, r_place, k_place⟩ := hx.2 1 (by decide)
  obtain ⟨q_sort, r_sort, k_sort⟩ := hx.2 2 (by decide)
  obtain ⟨q_bits, r_bits, k_bits⟩ := hx.2 4 (by decide)
  obtain ⟨q_row, r_row, k_row⟩ := hx.2 9 (by decide)
  obtain ⟨hO, ht⟩ := hZ.th hj hp
  have hT := hR.th hj hp
  have hk2 := hO.2.1
  have hb2 := hO.2.2.2.1
  refine Ct.mk RX11 "flip" hy_X11_flip (Nat.le_of_ble_eq_true rfl) (fun X hX C => ?_)
  change Go X G _ 6 0 0 (mo_ S M) 0 [(0, .ref x), (1, .int (nI j)), (2, .int i), (3, .int (bI one))] []
  refine g_aload_n 0 0 C dX11_flip_0 rfl rfl ?_
  refine g_iload_n 1 1 C dX11_flip_1 rfl rfl ?_
  refine g_callV (As := [.int (nI j)]) (rest := []) C dX11_flip_2 (c_M_isPlace_in hj) wC_X11_isPlace wM_X11_97 wI_X11_isPlace wS_X11_isPlace wN_X11 (kne hx.1) (pf_11 hx.1) rfl hd_X11_isPlace ⟨by decide, by decide, by decide, by decide⟩ (Nat.le_of_ble_eq_true rfl) (fun r_ S_ h_ => ?_)
  obtain ⟨rfl, rfl⟩ := h_
  change Go X G _ 6 _ _ (mo_ S M) 5 [(0, .ref x), (1, .int (nI j)), (2, .int i), (3, .int (bI one))] [.int (nI 1)]
  refine g_nif_ne 11 (by decide) C dX11_flip_5 (by decide) (fun _ => ?_) (fun c => absurd c (by decide))
  refine g_aload_n 0 0 C dX11_flip_11 rfl rfl ?_
  refine gr_m_place C dX11_flip_12 hx.1 wF_X11_17 r_place ?_
  refine g_iload_n 1 1 C dX11_flip_15 rfl rfl ?_
  refine ga_m_place C dX11_flip_16 k_place (by omega) ?_
  refine g_topi (((hR.2.1 j hj).trans (by rw [hp]))) ?_
  refine g_nif_ne 23 (by omega) C dX11_flip_17 (by decide) (fun _ => ?_) (fun c => absurd c (by omega))
  refine g_aload_n 0 0 C dX11_flip_23 rfl rfl ?_
  refine g_iload_n 1 1 C dX11_flip_24 rfl rfl ?_
  refine g_callV (As := [.int (nI j)]) (rest := []) C dX11_flip_25 (c_M_at hx hj ((hR.2.1 j hj).trans (by rw [hp]))) wC_X11_at wM_X11_108 wI_X11_at wS_X11_at wN_X11 (kne hx.1) (pf_11 hx.1) rfl hd_X11_at ⟨by decide, by decide, by decide, by decide⟩ (Nat.le_of_ble_eq_true rfl) (fun r_ S_ h_ => ?_)
  obtain ⟨rfl, rfl⟩ := h_
  change Go X G _ 6 _ _ (mo_ S M) 28 [(0, .ref x), (1, .int (nI j)), (2, .int i), (3, .int (bI one))] [.int (nI t)]
  refine g_istore (lv' := [(4, .int (nI t)), (0, .ref x), (1, .int (nI j)), (2, .int i), (3, .int (bI one))]) C dX11_flip_28 (by decide) rfl ?_
  refine g_aload_n 1 0 C dX11_flip_30 rfl rfl ?_
  refine gr_m_sort C dX11_flip_31 hx.1 wF_X11_20 r_sort ?_
  refine g_iload 0 C dX11_flip_34 rfl ?_
  refine ga_m_sort C dX11_flip_36 k_sort (by omega) ?_
  refine g_topi (hT.1) ?_
  refine g_bipush (v := nI 7) C dX11_flip_37 (by decide) ?_
  refine g_ncmp_eq 45 (by omega) (by omega) C dX11_flip_39 (by decide) (fun c39 => ?_) (fun c39 => ?_)
  · refine g_iload_n 3 2 C dX11_flip_45 rfl rfl ?_
    refine g_if_lt 60 C dX11_flip_46 (by decide) (fun c46 => ?_) (fun c46 => ?_)
    · have e := inR_neg (n := (tB (zH Z t)).length) c46
      refine g_bipush (v := -5) C dX11_flip_60 (by decide) ?_
      exact g_iret C dX11_flip_62 (by decide) (by decide) (⟨M, by unfold A_flip; rw [look_at hj hp]; simp only []; rw [if_pos c39, e]; rfl, rfl, rfl, by unfold N_flip; rw [look_at hj hp]; simp only []; rw [if_pos c39, e]; exact hR⟩)
    · refine g_iload_n 3 2 C dX11_flip_49 rfl rfl ?_
      refine g_aload_n 1 0 C dX11_flip_50 rfl rfl ?_
      refine gr_m_bits C dX11_flip_51 hx.1 wF_X11_26 r_bits ?_
      refine g_iload 0 C dX11_flip_54 rfl ?_
      refine ga_m_bits C dX11_flip_56 k_bits (by omega) ?_
      refine g_topi (hT.2.2.1) ?_
      refine g_icmp_lt 63 C dX11_flip_57 (by decide) (fun c57 => ?_) (fun c57 => ?_)
      · have ei := inR_in' (n := (tB (zH Z t)).length) (by omega) c46 c57
        obtain ⟨i1, hi1, rfl⟩ := inR_spec ei (by omega)
        refine g_aload_n 1 0 C dX11_flip_63 rfl rfl ?_
        refine gr_m_row C dX11_flip_64 hx.1 wF_X11_43 r_row ?_
        refine g_sipush (v := nI 4900) C dX11_flip_67 (by decide) ?_
        refine g_iload 0 C dX11_flip_70 rfl ?_
        refine g_imul C dX11_flip_72 ?_
        refine g_topi (pk_mul _ _ : _ = nI (4900 * t)) ?_
        refine g_iload_n 3 2 C dX11_flip_73 rfl rfl ?_
        refine g_iadd C dX11_flip_74 ?_
        refine g_topi (nI_add _ _ : _ = nI (4900 * t + i1)) ?_
        refine ga_m_row C dX11_flip_75 k_row (by omega) ?_
        refine g_topi (hT.2.2.2.1 i1 (by omega)) ?_
        refine g_istore (lv' := [(5, .int (nI ((tB (zH Z t)).getD i1 0))), (4, .int (nI t)), (0, .ref x), (1, .int (nI j)), (2, .int (nI i1)), (3, .int (bI one))]) C dX11_flip_76 (by decide) rfl ?_
        refine g_aload_n 2 0 C dX11_flip_78 rfl rfl ?_
        refine gr_m_row C dX11_flip_79 hx.1 wF_X11_43 r_row ?_
        refine g_sipush (v := nI 4900) C dX11_flip_82 (by decide) ?_
        refine g_iload 1 C dX11_flip_85 rfl ?_
        refine g_imul C dX11_flip_87 ?_
        refine g_topi (pk_mul _ _ : _ = nI (4900 * t)) ?_
        refine g_iload_n 4 2 C dX11_flip_88 rfl rfl ?_
        refine g_iadd C dX11_flip_89 ?_
        refine g_topi (nI_add _ _ : _ = nI (4900 * t + i1)) ?_
        refine g_iload_n 5 3 C dX11_flip_90 rfl rfl ?_
        refine g_if_eq 98 C dX11_flip_91 (by decide) (fun c91 => ?_) (fun c91 => ?_)
        · have eo := bI_f c91
          refine g_iconst (v := nI 0) C dX11_flip_98 (by decide) ?_
          refine gs_m_row C dX11_flip_99 k_row (by omega) ?_
          refine g_iload 0 C dX11_flip_100 rfl ?_
          exact g_iret C dX11_flip_102 (by decide) (by decide) (⟨_, by unfold A_flip; rw [look_at hj hp]; simp only []; rw [if_pos c39, ei, nI_clamp (by omega)]; rfl, rfl, rfl, by
            unfold N_flip; rw [look_at hj hp]; simp only []; rw [if_pos c39, ei, nI_clamp (by omega), if_pos rfl]
            refine hR.setT (fun q hq hu hh => ⟨hh.1, hh.2.1, hh.2.2.1, fun i hi => ?_, hh.2.2.2.2⟩) ⟨hT.1, hT.2.1, ?_, fun i hi => ?_, hT.2.2.2.2.1, hT.2.2.2.2.2.1, fun h => absurd h (by show ¬ tK (zH Z t) ≤ 5; omega)⟩ hR.1 rfl rfl rfl rfl
            · have := (hZ.2.2.1 q hu).2.2.2.1
              rw [← hh.2.2.2.1 i hi]
              show upd (m_row M) (4900 * t + i1) _ (4900 * q + i) = m_row M (4900 * q + i)
              simp only [upd]
              rw [if_neg (by omega)]
            · show m_bits M t = nI ((tB (zH Z t)).set i1 _).length
              rw [List.length_set]; exact hT.2.2.1
            · have hi : i < ((tB (zH Z t)).set i1 (if one = true then 1 else 0)).length := hi
              rw [List.length_set] at hi
              show upd (m_row M) (4900 * t + i1) _ (4900 * t + i) = nI (((tB (zH Z t)).set i1 (if one = true then 1 else 0)).getD i 0)
              rw [getD_set]
              simp only [upd]
              by_cases e : i1 = i
              · rw [if_pos (by omega), if_pos ⟨e, hi⟩, eo]; rfl
              · rw [if_neg (by omega), if_neg (fun z => e z.1)]; exact hT.2.2.2.1 i hi⟩)
        · have eo := bI_t c91
          refine g_iconst (v := nI 1) C dX11_flip_94 (by decide) ?_
          refine g_goto 99 C dX11_flip_95 (by decide) ?_
          refine gs_m_row C dX11_flip_99 k_row (by omega) ?_
          refine g_iload 0 C dX11_flip_100 rfl ?_
          exact g_iret C dX11_flip_102 (by decide) (by decide) (⟨_, by unfold A_flip; rw [look_at hj hp]; simp only []; rw [if_pos c39, ei, nI_clamp (by omega)]; rfl, rfl, rfl, by
            unfold N_flip; rw [look_at hj hp]; simp only []; rw [if_pos c39, ei, nI_clamp (by omega), if_pos rfl]
            refine hR.setT (fun q hq hu hh => ⟨hh.1, hh.2.1, hh.2.2.1, fun i hi => ?_, hh.2.2.2.2⟩) ⟨hT.1, hT.2.1, ?_, fun i hi => ?_, hT.2.2.2.2.1, hT.2.2.2.2.2.1, fun h => absurd h (by show ¬ tK (zH Z t) ≤ 5; omega)⟩ hR.1 rfl rfl rfl rfl
            · have := (hZ.2.2.1 q hu).2.2.2.1
              rw [← hh.2.2.2.1 i hi]
              show upd (m_row M) (4900 * t + i1) _ (4900 * q + i) = m_row M (4900 * q + i)
              simp only [upd]
              rw [if_neg (by omega)]
            · show m_bits M t = nI ((tB (zH Z t)).set i1 _).length
              rw [List.length_set]; exact hT.2.2.1
            · have hi : i < ((tB (zH Z t)).set i1 (if one = true then 1 else 0)).length := hi
              rw [List.length_set] at hi
              show upd (m_row M) (4900 * t + i1) _ (4900 * t + i) = nI (((tB (zH Z t)).set i1 (if one = true then 1 else 0)).getD i 0)
              rw [getD_set]
              simp only [upd]
              by_cases e : i1 = i
              · rw [if_pos (by omega), if_pos ⟨e, hi⟩, eo]; rfl
              · rw [if_neg (by omega), if_neg (fun z => e z.1)]; exact hT.2.2.2.1 i hi⟩)
      · have e := inR_big' (n := (tB (zH Z t)).length) (by omega) c57
        refine g_bipush (v := -5) C dX11_flip_60 (by decide) ?_
        exact g_iret C dX11_flip_62 (by decide) (by decide) (⟨M, by unfold A_flip; rw [look_at hj hp]; simp only []; rw [if_pos c39, e]; rfl, rfl, rfl, by unfold N_flip; rw [look_at hj hp]; simp only []; rw [if_pos c39, e]; exact hR⟩)
  · refine g_bipush (v := -4) C dX11_flip_42 (by decide) ?_
    exact g_iret C dX11_flip_44 (by decide) (by decide) (⟨M, by unfold A_flip; rw [look_at hj hp]; simp only []; rw [if_neg c39], rfl, rfl, by unfold N_flip; rw [look_at hj hp]; simp only []; rw [if_neg c39]; exact hR⟩)
theorem c_M_flip {l : Launch} {G : Gx} {S : PS} {M : MoT} {x : Nat} (hx : MoOk S M x) {Z : ZT} (hR : RM M Z) (hZ : okZ Z) {p i : Int32} {one : Bool} : Ct l yX11_flip cX11_flip 6 (Option.some Jvm.ClassFile.FieldType.int) rm_X11_flip G [.ref x, .int p, .int i, .int (bI one)] (mo_ S M) (fun r S' => ∃ M', r = some (.int (A_flip Z p i)) ∧ S' = mo_ S M' ∧ mo_r M' = mo_r M ∧ RM M' (N_flip Z p i one)) := by
  rcases look_cases Z p with h | ⟨j, hj, rfl, h | ⟨t, h⟩⟩
  · exact c_M_flip_out hx hR hZ h
  · exact c_M_flip_no hx hR hZ hj h
  · exact c_M_flip_at hx hR hZ hj h
def lfT (T : Th) (i : Nat) : Bool := if i = 0 then tA T else tC T
def setL (T : Th) (i : Nat) (v : Bool) : Th := (T.1, T.2.1, T.2.2.1, if i = 0 then v else tA T, if i = 0 then tC T else v)
def A_lose (Z : ZT) (p w : Int32) : Int32 := match rowedE Z p with
  | .inl e => e
  | .inr t => if inR w 2 then bI (!lfT (zH Z t) w.toNatClampNeg) else -5
def N_lose (Z : ZT) (p w : Int32) : ZT := match rowedE Z p with
  | .inl _ => Z
  | .inr t => if inR w 2 then setT Z t (setL (zH Z t) w.toNatClampNeg true) else Z
def A_mend (Z : ZT) (p : Int32) : Int32 := match rowedE Z p with
  | .inl e => e
  | .inr t => nI ((if tA (zH Z t) then 1 else 0) + (if tC (zH Z t) then 1 else 0))
def N_mend (Z : ZT) (p : Int32) : ZT := match rowedE Z p with
  | .inl _ => Z
  | .inr t => setT Z t (setL (setL (zH Z t) 0 false) 1 false)
theorem thM.lost {M : MoT} {t q : Nat} {T : Th} {f : Nat → Int32} (h : thM M q T) (h1 : f (2 * q) = m_lost M (2 * q)) (h2 : f (2 * q + 1) = m_lost M (2 * q + 1)) : thM (m_lost_ M f) q T := ⟨h.1, h.2.1, h.2.2.1, h.2.2.2.1, h1.trans h.2.2.2.2.1, h2.trans h.2.2.2.2.2.1, h.2.2.2.2.2.2⟩
set_option maxRecDepth 100000 in
set_option maxHeartbeats 400000 in
theorem c_M_lose_err {l : Launch} {G : Gx} {S : PS} {M : MoT} {x : Nat} (hx : MoOk S M x) {Z : ZT} (hR : RM M Z) (hZ : okZ Z) {p e : Int32} (he : rowedE Z p = .inl e) (hneg : e < 0) {i : Int32} : Ct l yX11_lose cX11_lose 6 (Option.some Jvm.ClassFile.FieldType.int) rm_X11_lose G [.ref x, .int p, .int i] (mo_ S M) (fun r S' => ∃ M', r = some (.int (A_lose Z p i)) ∧ S' = mo_ S M' ∧ mo_r M' = mo_r M ∧ RM M' (N_lose Z p i)) := by
  obtain ⟨q_lost, r_lost, k_lost⟩ := hx.2 8 (by decide)
  refine Ct.mk RX11 "lose" hy_X11_lose (Nat.le_of_ble_eq_true rfl) (fun X hX C => ?_)
  change Go X G _ 6 0 0 (mo_ S M) 0 [(0, .ref x), (1, .int p), (2, .int i)] []
  refine g_aload_n 0 0 C dX11_lose_0 rfl rfl ?_
  refine g_iload_n 1 1 C dX11_lose_1 rfl rfl ?_
  refine g_callV (As := [.int p]) (rest := []) C dX11_lose_2 (c_M_rowed hx hR hZ) wC_X11_rowed wM_X11_205 wI_X11_rowed wS_X11_rowed wN_X11 (kne hx.1) (pf_11 hx.1) rfl hd_X11_rowed ⟨by decide, by decide, by decide, by decide⟩ (Nat.le_of_ble_eq_true rfl) (fun r_ S_ h_ => ?_)
  obtain ⟨rfl, rfl⟩ := h_
  change Go X G _ 6 _ _ (mo_ S M) 5 [(0, .ref x), (1, .int p), (2, .int i)] [.int (errI (rowedE Z p))]
  refine g_topi (show errI (rowedE Z p) = e by rw [he]; rfl) ?_
  refine g_istore_n (lv' := [(3, .int e), (0, .ref x), (1, .int p), (2, .int i)]) C dX11_lose_5 rfl (by decide) rfl ?_
  refine g_iload_n 0 3 C dX11_lose_6 rfl rfl ?_
  refine g_if_ge 12 C dX11_lose_7 (by decide) (fun c7 => ?_) (fun c7 => ?_)
  · exact absurd c7 (Int32.not_le.mpr hneg)
  · refine g_iload_n 0 3 C dX11_lose_10 rfl rfl ?_
    exact g_iret C dX11_lose_11 (by decide) (by decide) (⟨M, by unfold A_lose; rw [he], rfl, rfl, (by unfold N_lose; rw [he]; exact hR)⟩)
set_option maxRecDepth 100000 in
set_option maxHeartbeats 400000 in
theorem c_M_lose_ok {l : Launch} {G : Gx} {S : PS} {M : MoT} {x : Nat} (hx : MoOk S M x) {Z : ZT} (hR : RM M Z) (hZ : okZ Z) {j t : Nat} (hj : j < 10) (hp : zP Z j = t + 1) (he : rowedE Z (nI j) = .inr t) {i : Int32} : Ct l yX11_lose cX11_lose 6 (Option.some Jvm.ClassFile.FieldType.int) rm_X11_lose G [.ref x, .int (nI j), .int i] (mo_ S M) (fun r S' => ∃ M', r = some (.int (A_lose Z (nI j) i)) ∧ S' = mo_ S M' ∧ mo_r M' = mo_r M ∧ RM M' (N_lose Z (nI j) i)) := by
  obtain ⟨q_lost, r_lost, k_lost⟩ := hx.2 8 (by decide)
  obtain ⟨hO, ht⟩ := hZ.th hj hp
  have hT := hR.th hj hp
  have hpl : m_place M j = nI (t + 1) := (hR.2.1 j hj).trans (by rw [hp])
  have hn1 := hT.2.1
  have hn2 := hn1.1
  have hb2 := hO.2.2.2.1
  refine Ct.mk RX11 "lose" hy_X11_lose (Nat.le_of_ble_eq_true rfl) (fun X hX C => ?_)
  change Go X G _ 6 0 0 (mo_ S M) 0 [(0, .ref x), (1, .int (nI j)), (2, .int i)] []
  refine g_aload_n 0 0 C dX11_lose_0 rfl rfl ?_
  refine g_iload_n 1 1 C dX11_lose_1 rfl rfl ?_
  refine g_callV (As := [.int (nI j)]) (rest := []) C dX11_lose_2 (c_M_rowed hx hR hZ) wC_X11_rowed wM_X11_205 wI_X11_rowed wS_X11_rowed wN_X11 (kne hx.1) (pf_11 hx.1) rfl hd_X11_rowed ⟨by decide, by decide, by decide, by decide⟩ (Nat.le_of_ble_eq_true rfl) (fun r_ S_ h_ => ?_)
  obtain ⟨rfl, rfl⟩ := h_
  change Go X G _ 6 _ _ (mo_ S M) 5 [(0, .ref x), (1, .int (nI j)), (2, .int i)] [.int (errI (rowedE Z (nI j)))]
  refine g_topi (show errI (rowedE Z (nI j)) = nI 0 by rw [he]; rfl) ?_
  refine g_istore_n (lv' := [(3, .int (nI 0)), (0, .ref x), (1, .int (nI j)), (2, .int i)]) C dX11_lose_5 rfl (by decide) rfl ?_
  refine g_iload_n 0 3 C dX11_lose_6 rfl rfl ?_
  refine g_nif_ge 12 (by omega) C dX11_lose_7 (by decide) ?_
  refine g_iload_n 3 2 C dX11_lose_12 rfl rfl ?_
  refine g_if_lt 21 C dX11_lose_13 (by decide) (fun c13 => ?_) (fun c13 => ?_)
  · have e := inR_neg (n := 2) c13
    refine g_bipush (v := -5) C dX11_lose_21 (by decide) ?_
    exact g_iret C dX11_lose_23 (by decide) (by decide) (⟨M, by unfold A_lose; rw [he]; simp only []; rw [e]; rfl, rfl, rfl, by unfold N_lose; rw [he]; simp only []; rw [e]; exact hR⟩)
  · refine g_iload_n 3 2 C dX11_lose_16 rfl rfl ?_
    refine g_iconst (v := nI 1) C dX11_lose_17 (by decide) ?_
    refine g_icmp_le 24 C dX11_lose_18 (by decide) (fun c18 => ?_) (fun c18 => ?_)
    · have ei := inR_in1 (n := 1) (by omega) c13 c18
      obtain ⟨i1, hi1, rfl⟩ := inR_spec ei (by omega)
      have hlf : m_lost M (2 * t + i1) = bI (lfT (zH Z t) i1) := by
        unfold lfT
        rcases (show i1 = 0 ∨ i1 = 1 by omega) with rfl | rfl
        · exact hT.2.2.2.2.1
        · exact hT.2.2.2.2.2.1
      refine g_iconst (v := nI 2) C dX11_lose_24 (by decide) ?_
      refine g_aload_n 1 0 C dX11_lose_25 rfl rfl ?_
      refine g_iload_n 2 1 C dX11_lose_26 rfl rfl ?_
      refine g_callV (As := [.int (nI j)]) (rest := [.int (nI 2)]) C dX11_lose_27 (c_M_at hx hj hpl) wC_X11_at wM_X11_108 wI_X11_at wS_X11_at wN_X11 (kne hx.1) (pf_11 hx.1) rfl hd_X11_at ⟨by decide, by decide, by decide, by decide⟩ (Nat.le_of_ble_eq_true rfl) (fun r_ S_ h_ => ?_)
      obtain ⟨rfl, rfl⟩ := h_
      change Go X G _ 6 _ _ (mo_ S M) 30 [(3, .int (nI 0)), (0, .ref x), (1, .int (nI j)), (2, .int (nI i1))] [.int (nI t), .int (nI 2)]
      refine g_imul C dX11_lose_30 ?_
      refine g_topi (pk_mul _ _ : _ = nI (2 * t)) ?_
      refine g_iload_n 3 2 C dX11_lose_31 rfl rfl ?_
      refine g_iadd C dX11_lose_32 ?_
      refine g_topi (nI_add _ _ : _ = nI (2 * t + i1)) ?_
      refine g_istore (lv' := [(4, .int (nI (2 * t + i1))), (3, .int (nI 0)), (0, .ref x), (1, .int (nI j)), (2, .int (nI i1))]) C dX11_lose_33 (by decide) rfl ?_
      refine g_aload_n 2 0 C dX11_lose_35 rfl rfl ?_
      refine gr_m_lost C dX11_lose_36 hx.1 wF_X11_38 r_lost ?_
      refine g_iload 0 C dX11_lose_39 rfl ?_
      refine ga_m_lost C dX11_lose_41 k_lost (by omega) ?_
      refine g_topi (hlf) ?_
      refine g_istore (lv' := [(5, .int (bI (lfT (zH Z t) i1))), (4, .int (nI (2 * t + i1))), (3, .int (nI 0)), (0, .ref x), (1, .int (nI j)), (2, .int (nI i1))]) C dX11_lose_42 (by decide) rfl ?_
      refine g_aload_n 3 0 C dX11_lose_44 rfl rfl ?_
      refine gr_m_lost C dX11_lose_45 hx.1 wF_X11_38 r_lost ?_
      refine g_iload 1 C dX11_lose_48 rfl ?_
      refine g_iconst (v := nI 1) C dX11_lose_50 (by decide) ?_
      refine gs_m_lost C dX11_lose_51 k_lost (by omega) (by decide) ?_
      refine g_iload 0 C dX11_lose_52 rfl ?_
      refine g_if_eq 61 C dX11_lose_54 (by decide) (fun c54 => ?_) (fun c54 => ?_)
      · have ef := bI_f c54
        refine g_iconst (v := nI 1) C dX11_lose_61 (by decide) ?_
        exact g_iret C dX11_lose_62 (by decide) (by decide) (⟨_, by unfold A_lose; rw [he]; simp only []; rw [ei, nI_clamp (by omega), ef]; rfl, rfl, rfl, by
          unfold N_lose; rw [he]; simp only []; rw [ei, nI_clamp (by omega), if_pos rfl]
          refine hR.setT (fun q hq hu hh => hh.lost (t := t) ?_ ?_) ⟨hT.1, hT.2.1, hT.2.2.1, hT.2.2.2.1, ?_, ?_, hT.2.2.2.2.2.2⟩ hR.1 rfl rfl rfl rfl
          · simp only [upd]; rw [if_neg (by omega)]
          · simp only [upd]; rw [if_neg (by omega)]
          · show upd (m_lost M) (2 * t + i1) 1 (2 * t) = bI (if i1 = 0 then true else tA (zH Z t))
            simp only [upd]
            by_cases e : i1 = 0
            · rw [if_pos (by omega), if_pos e]; rfl
            · rw [if_neg (by omega), if_neg e]; exact hT.2.2.2.2.1
          · show upd (m_lost M) (2 * t + i1) 1 (2 * t + 1) = bI (if i1 = 0 then tC (zH Z t) else true)
            simp only [upd]
            by_cases e : i1 = 0
            · rw [if_neg (by omega), if_pos e]; exact hT.2.2.2.2.2.1
            · rw [if_pos (by omega), if_neg e]; rfl⟩)
      · have ef := bI_t c54
        refine g_iconst (v := nI 0) C dX11_lose_57 (by decide) ?_
        refine g_goto 62 C dX11_lose_58 (by decide) ?_
        exact g_iret C dX11_lose_62 (by decide) (by decide) (⟨_, by unfold A_lose; rw [he]; simp only []; rw [ei, nI_clamp (by omega), ef]; rfl, rfl, rfl, by
          unfold N_lose; rw [he]; simp only []; rw [ei, nI_clamp (by omega), if_pos rfl]
          refine hR.setT (fun q hq hu hh => hh.lost (t := t) ?_ ?_) ⟨hT.1, hT.2.1, hT.2.2.1, hT.2.2.2.1, ?_, ?_, hT.2.2.2.2.2.2⟩ hR.1 rfl rfl rfl rfl
          · simp only [upd]; rw [if_neg (by omega)]
          · simp only [upd]; rw [if_neg (by omega)]
          · show upd (m_lost M) (2 * t + i1) 1 (2 * t) = bI (if i1 = 0 then true else tA (zH Z t))
            simp only [upd]
            by_cases e : i1 = 0
            · rw [if_pos (by omega), if_pos e]; rfl
            · rw [if_neg (by omega), if_neg e]; exact hT.2.2.2.2.1
          · show upd (m_lost M) (2 * t + i1) 1 (2 * t + 1) = bI (if i1 = 0 then tC (zH Z t) else true)
            simp only [upd]
            by_cases e : i1 = 0
            · rw [if_neg (by omega), if_pos e]; exact hT.2.2.2.2.2.1
            · rw [if_pos (by omega), if_neg e]; rfl⟩)
    · have e := inR_big1 (n := 1) (by omega) c18
      refine g_bipush (v := -5) C dX11_lose_21 (by decide) ?_
      exact g_iret C dX11_lose_23 (by decide) (by decide) (⟨M, by unfold A_lose; rw [he]; simp only []; rw [e]; rfl, rfl, rfl, by unfold N_lose; rw [he]; simp only []; rw [e]; exact hR⟩)
theorem c_M_lose {l : Launch} {G : Gx} {S : PS} {M : MoT} {x : Nat} (hx : MoOk S M x) {Z : ZT} (hR : RM M Z) (hZ : okZ Z) {p : Int32} {i : Int32} : Ct l yX11_lose cX11_lose 6 (Option.some Jvm.ClassFile.FieldType.int) rm_X11_lose G [.ref x, .int p, .int i] (mo_ S M) (fun r S' => ∃ M', r = some (.int (A_lose Z p i)) ∧ S' = mo_ S M' ∧ mo_r M' = mo_r M ∧ RM M' (N_lose Z p i)) := by
  cases he : rowedE Z p with
  | inl e => exact c_M_lose_err hx hR hZ he (rowedE_neg he)
  | inr t =>
    obtain ⟨j, hj, rfl, hp, -⟩ := rowedE_inr he
    exact c_M_lose_ok hx hR hZ hj hp he
set_option maxRecDepth 100000 in
set_option maxHeartbeats 400000 in
theorem c_M_mend_err {l : Launch} {G : Gx} {S : PS} {M : MoT} {x : Nat} (hx : MoOk S M x) {Z : ZT} (hR : RM M Z) (hZ : okZ Z) {p e : Int32} (he : rowedE Z p = .inl e) (hneg : e < 0)  : Ct l yX11_mend cX11_mend 5 (Option.some Jvm.ClassFile.FieldType.int) rm_X11_mend G [.ref x, .int p] (mo_ S M) (fun r S' => ∃ M', r = some (.int (A_mend Z p)) ∧ S' = mo_ S M' ∧ mo_r M' = mo_r M ∧ RM M' (N_mend Z p)) := by
  obtain ⟨q_lost, r_lost, k_lost⟩ := hx.2 8 (by decide)
  refine Ct.mk RX11 "mend" hy_X11_mend (Nat.le_of_ble_eq_true rfl) (fun X hX C => ?_)
  change Go X G _ 5 0 0 (mo_ S M) 0 [(0, .ref x), (1, .int p)] []
  refine g_aload_n 0 0 C dX11_mend_0 rfl rfl ?_
  refine g_iload_n 1 1 C dX11_mend_1 rfl rfl ?_
  refine g_callV (As := [.int p]) (rest := []) C dX11_mend_2 (c_M_rowed hx hR hZ) wC_X11_rowed wM_X11_205 wI_X11_rowed wS_X11_rowed wN_X11 (kne hx.1) (pf_11 hx.1) rfl hd_X11_rowed ⟨by decide, by decide, by decide, by decide⟩ (Nat.le_of_ble_eq_true rfl) (fun r_ S_ h_ => ?_)
  obtain ⟨rfl, rfl⟩ := h_
  change Go X G _ 5 _ _ (mo_ S M) 5 [(0, .ref x), (1, .int p)] [.int (errI (rowedE Z p))]
  refine g_topi (show errI (rowedE Z p) = e by rw [he]; rfl) ?_
  refine g_istore_n (lv' := [(2, .int e), (0, .ref x), (1, .int p)]) C dX11_mend_5 rfl (by decide) rfl ?_
  refine g_iload_n 0 2 C dX11_mend_6 rfl rfl ?_
  refine g_if_ge 12 C dX11_mend_7 (by decide) (fun c7 => ?_) (fun c7 => ?_)
  · exact absurd c7 (Int32.not_le.mpr hneg)
  · refine g_iload_n 0 2 C dX11_mend_10 rfl rfl ?_
    exact g_iret C dX11_mend_11 (by decide) (by decide) (⟨M, by unfold A_mend; rw [he], rfl, rfl, (by unfold N_mend; rw [he]; exact hR)⟩)
set_option maxRecDepth 100000 in
set_option maxHeartbeats 400000 in
theorem c_M_mend_ok {l : Launch} {G : Gx} {S : PS} {M : MoT} {x : Nat} (hx : MoOk S M x) {Z : ZT} (hR : RM M Z) (hZ : okZ Z) {j t : Nat} (hj : j < 10) (hp : zP Z j = t + 1) (he : rowedE Z (nI j) = .inr t)  : Ct l yX11_mend cX11_mend 5 (Option.some Jvm.ClassFile.FieldType.int) rm_X11_mend G [.ref x, .int (nI j)] (mo_ S M) (fun r S' => ∃ M', r = some (.int (A_mend Z (nI j))) ∧ S' = mo_ S M' ∧ mo_r M' = mo_r M ∧ RM M' (N_mend Z (nI j))) := by
  obtain ⟨q_lost, r_lost, k_lost⟩ := hx.2 8 (by decide)
  obtain ⟨hO, ht⟩ := hZ.th hj hp
  have hT := hR.th hj hp
  have hpl : m_place M j = nI (t + 1) := (hR.2.1 j hj).trans (by rw [hp])
  have hn1 := hT.2.1
  have hn2 := hn1.1
  have hb2 := hO.2.2.2.1
  refine Ct.mk RX11 "mend" hy_X11_mend (Nat.le_of_ble_eq_true rfl) (fun X hX C => ?_)
  change Go X G _ 5 0 0 (mo_ S M) 0 [(0, .ref x), (1, .int (nI j))] []
  refine g_aload_n 0 0 C dX11_mend_0 rfl rfl ?_
  refine g_iload_n 1 1 C dX11_mend_1 rfl rfl ?_
  refine g_callV (As := [.int (nI j)]) (rest := []) C dX11_mend_2 (c_M_rowed hx hR hZ) wC_X11_rowed wM_X11_205 wI_X11_rowed wS_X11_rowed wN_X11 (kne hx.1) (pf_11 hx.1) rfl hd_X11_rowed ⟨by decide, by decide, by decide, by decide⟩ (Nat.le_of_ble_eq_true rfl) (fun r_ S_ h_ => ?_)
  obtain ⟨rfl, rfl⟩ := h_
  change Go X G _ 5 _ _ (mo_ S M) 5 [(0, .ref x), (1, .int (nI j))] [.int (errI (rowedE Z (nI j)))]
  refine g_topi (show errI (rowedE Z (nI j)) = nI 0 by rw [he]; rfl) ?_
  refine g_istore_n (lv' := [(2, .int (nI 0)), (0, .ref x), (1, .int (nI j))]) C dX11_mend_5 rfl (by decide) rfl ?_
  refine g_iload_n 0 2 C dX11_mend_6 rfl rfl ?_
  refine g_nif_ge 12 (by omega) C dX11_mend_7 (by decide) ?_
  refine g_iconst (v := nI 0) C dX11_mend_12 (by decide) ?_
  refine g_istore_n (lv' := [(3, .int (nI 0)), (2, .int (nI 0)), (0, .ref x), (1, .int (nI j))]) C dX11_mend_13 rfl (by decide) rfl ?_
  refine g_iconst (v := nI 2) C dX11_mend_14 (by decide) ?_
  refine g_aload_n 2 0 C dX11_mend_15 rfl rfl ?_
  refine g_iload_n 3 1 C dX11_mend_16 rfl rfl ?_
  refine g_callV (As := [.int (nI j)]) (rest := [.int (nI 2)]) C dX11_mend_17 (c_M_at hx hj hpl) wC_X11_at wM_X11_108 wI_X11_at wS_X11_at wN_X11 (kne hx.1) (pf_11 hx.1) rfl hd_X11_at ⟨by decide, by decide, by decide, by decide⟩ (Nat.le_of_ble_eq_true rfl) (fun r_ S_ h_ => ?_)
  obtain ⟨rfl, rfl⟩ := h_
  change Go X G _ 5 _ _ (mo_ S M) 20 [(3, .int (nI 0)), (2, .int (nI 0)), (0, .ref x), (1, .int (nI j))] [.int (nI t), .int (nI 2)]
  refine g_imul C dX11_mend_20 ?_
  refine g_topi (pk_mul _ _ : _ = nI (2 * t)) ?_
  refine g_istore (lv' := [(4, .int (nI (2 * t))), (3, .int (nI 0)), (2, .int (nI 0)), (0, .ref x), (1, .int (nI j))]) C dX11_mend_21 (by decide) rfl ?_
  refine g_iload 0 C dX11_mend_23 rfl ?_
  refine g_iconst (v := nI 2) C dX11_mend_25 (by decide) ?_
  refine g_aload_n 3 0 C dX11_mend_26 rfl rfl ?_
  refine g_iload_n 4 1 C dX11_mend_27 rfl rfl ?_
  refine g_callV (As := [.int (nI j)]) (rest := [.int (nI 2), .int (nI (2 * t))]) C dX11_mend_28 (c_M_at (M := M) hx hj hpl) wC_X11_at wM_X11_108 wI_X11_at wS_X11_at wN_X11 (kne hx.1) (pf_11 hx.1) rfl hd_X11_at ⟨by decide, by decide, by decide, by decide⟩ (Nat.le_of_ble_eq_true rfl) (fun r_ S_ h_ => ?_)
  obtain ⟨rfl, rfl⟩ := h_
  change Go X G _ 5 _ _ (mo_ S M) 31 [(4, .int (nI (2 * t))), (3, .int (nI 0)), (2, .int (nI 0)), (0, .ref x), (1, .int (nI j))] [.int (nI t), .int (nI 2), .int (nI (2 * t))]
  refine g_imul C dX11_mend_31 ?_
  refine g_topi (pk_mul _ _ : _ = nI (2 * t)) ?_
  refine g_iconst (v := nI 2) C dX11_mend_32 (by decide) ?_
  refine g_iadd C dX11_mend_33 ?_
  refine g_topi (nI_add _ _ : _ = nI (2 * t + 2)) ?_
  refine g_ncmp_ge 69 (by omega) (by omega) C dX11_mend_34 (by decide) (fun c34 => ?_) (fun c34 => ?_)
  · omega
  · refine g_iload_n 1 3 C dX11_mend_37 rfl rfl ?_
    refine g_aload_n 3 0 C dX11_mend_38 rfl rfl ?_
    refine gr_m_lost C dX11_mend_39 hx.1 wF_X11_38 r_lost ?_
    refine g_iload 0 C dX11_mend_42 rfl ?_
    refine ga_m_lost C dX11_mend_44 k_lost (by omega) ?_
    refine g_topi (hT.2.2.2.2.1) ?_
    refine g_if_eq 52 C dX11_mend_45 (by decide) (fun c45 => ?_) (fun c45 => ?_)
    · have ea := bI_f c45
      refine g_iconst (v := nI 0) C dX11_mend_52 (by decide) ?_
      refine g_iadd C dX11_mend_53 ?_
      refine g_topi (nI_add _ _ : _ = nI (0 + 0)) ?_
      refine g_istore_n (lv' := [(3, .int (nI (0 + 0))), (4, .int (nI (2 * t))), (2, .int (nI 0)), (0, .ref x), (1, .int (nI j))]) C dX11_mend_54 rfl (by decide) rfl ?_
      refine g_aload_n 3 0 C dX11_mend_55 rfl rfl ?_
      refine gr_m_lost C dX11_mend_56 hx.1 wF_X11_38 r_lost ?_
      refine g_iload 1 C dX11_mend_59 rfl ?_
      refine g_iconst (v := nI 0) C dX11_mend_61 (by decide) ?_
      refine gs_m_lost C dX11_mend_62 k_lost (by omega) (by decide) ?_
      refine g_iinc (v := nI (2 * t + 1)) (lv' := [(4, .int (nI (2 * t + 1))), (3, .int (nI (0 + 0))), (2, .int (nI 0)), (0, .ref x), (1, .int (nI j))]) 1 C dX11_mend_63 rfl (nI_add _ 1) (by decide) rfl ?_
      refine g_goto 23 C dX11_mend_66 (by decide) ?_
      refine g_iload 0 C dX11_mend_23 rfl ?_
      refine g_iconst (v := nI 2) C dX11_mend_25 (by decide) ?_
      refine g_aload_n 3 0 C dX11_mend_26 rfl rfl ?_
      refine g_iload_n 4 1 C dX11_mend_27 rfl rfl ?_
      refine g_callV (As := [.int (nI j)]) (rest := [.int (nI 2), .int (nI (2 * t + 1))]) C dX11_mend_28 (c_M_at (M := (m_lost_ M (upd (m_lost M) (2 * t) (nI 0)))) hx hj hpl) wC_X11_at wM_X11_108 wI_X11_at wS_X11_at wN_X11 (kne hx.1) (pf_11 hx.1) rfl hd_X11_at ⟨by decide, by decide, by decide, by decide⟩ (Nat.le_of_ble_eq_true rfl) (fun r_ S_ h_ => ?_)
      obtain ⟨rfl, rfl⟩ := h_
      change Go X G _ 5 _ _ (mo_ S (m_lost_ M (upd (m_lost M) (2 * t) (nI 0)))) 31 [(4, .int (nI (2 * t + 1))), (3, .int (nI (0 + 0))), (2, .int (nI 0)), (0, .ref x), (1, .int (nI j))] [.int (nI t), .int (nI 2), .int (nI (2 * t + 1))]
      refine g_imul C dX11_mend_31 ?_
      refine g_topi (pk_mul _ _ : _ = nI (2 * t)) ?_
      refine g_iconst (v := nI 2) C dX11_mend_32 (by decide) ?_
      refine g_iadd C dX11_mend_33 ?_
      refine g_topi (nI_add _ _ : _ = nI (2 * t + 2)) ?_
      refine g_ncmp_ge 69 (by omega) (by omega) C dX11_mend_34 (by decide) (fun c34 => ?_) (fun c34 => ?_)
      · omega
      · refine g_iload_n 1 3 C dX11_mend_37 rfl rfl ?_
        refine g_aload_n 3 0 C dX11_mend_38 rfl rfl ?_
        refine gr_m_lost C dX11_mend_39 hx.1 wF_X11_38 r_lost ?_
        refine g_iload 0 C dX11_mend_42 rfl ?_
        refine ga_m_lost C dX11_mend_44 k_lost (by omega) ?_
        refine g_topi ((by show upd (m_lost M) (2 * t) (nI 0) (2 * t + 1) = bI (tC (zH Z t)); simp only [upd]; rw [if_neg (by omega)]; exact hT.2.2.2.2.2.1)) ?_
        refine g_if_eq 52 C dX11_mend_45 (by decide) (fun c45 => ?_) (fun c45 => ?_)
        · have ec := bI_f c45
          refine g_iconst (v := nI 0) C dX11_mend_52 (by decide) ?_
          refine g_iadd C dX11_mend_53 ?_
          refine g_topi (nI_add _ _ : _ = nI (0 + 0 + 0)) ?_
          refine g_istore_n (lv' := [(3, .int (nI (0 + 0 + 0))), (4, .int (nI (2 * t + 1))), (2, .int (nI 0)), (0, .ref x), (1, .int (nI j))]) C dX11_mend_54 rfl (by decide) rfl ?_
          refine g_aload_n 3 0 C dX11_mend_55 rfl rfl ?_
          refine gr_m_lost C dX11_mend_56 hx.1 wF_X11_38 r_lost ?_
          refine g_iload 1 C dX11_mend_59 rfl ?_
          refine g_iconst (v := nI 0) C dX11_mend_61 (by decide) ?_
          refine gs_m_lost C dX11_mend_62 k_lost (by omega) (by decide) ?_
          refine g_iinc (v := nI (2 * t + 1 + 1)) (lv' := [(4, .int (nI (2 * t + 1 + 1))), (3, .int (nI (0 + 0 + 0))), (2, .int (nI 0)), (0, .ref x), (1, .int (nI j))]) 1 C dX11_mend_63 rfl (nI_add _ 1) (by decide) rfl ?_
          refine g_goto 23 C dX11_mend_66 (by decide) ?_
          refine g_iload 0 C dX11_mend_23 rfl ?_
          refine g_iconst (v := nI 2) C dX11_mend_25 (by decide) ?_
          refine g_aload_n 3 0 C dX11_mend_26 rfl rfl ?_
          refine g_iload_n 4 1 C dX11_mend_27 rfl rfl ?_
          refine g_callV (As := [.int (nI j)]) (rest := [.int (nI 2), .int (nI (2 * t + 1 + 1))]) C dX11_mend_28 (c_M_at (M := (m_lost_ (m_lost_ M (upd (m_lost M) (2 * t) (nI 0))) (upd (m_lost (m_lost_ M (upd (m_lost M) (2 * t) (nI 0)))) (2 * t + 1) (nI 0)))) hx hj hpl) wC_X11_at wM_X11_108 wI_X11_at wS_X11_at wN_X11 (kne hx.1) (pf_11 hx.1) rfl hd_X11_at ⟨by decide, by decide, by decide, by decide⟩ (Nat.le_of_ble_eq_true rfl) (fun r_ S_ h_ => ?_)
          obtain ⟨rfl, rfl⟩ := h_
          change Go X G _ 5 _ _ (mo_ S (m_lost_ (m_lost_ M (upd (m_lost M) (2 * t) (nI 0))) (upd (m_lost (m_lost_ M (upd (m_lost M) (2 * t) (nI 0)))) (2 * t + 1) (nI 0)))) 31 [(4, .int (nI (2 * t + 1 + 1))), (3, .int (nI (0 + 0 + 0))), (2, .int (nI 0)), (0, .ref x), (1, .int (nI j))] [.int (nI t), .int (nI 2), .int (nI (2 * t + 1 + 1))]
          refine g_imul C dX11_mend_31 ?_
          refine g_topi (pk_mul _ _ : _ = nI (2 * t)) ?_
          refine g_iconst (v := nI 2) C dX11_mend_32 (by decide) ?_
          refine g_iadd C dX11_mend_33 ?_
          refine g_topi (nI_add _ _ : _ = nI (2 * t + 2)) ?_
          refine g_ncmp_ge 69 (by omega) (by omega) C dX11_mend_34 (by decide) (fun c34 => ?_) (fun c34 => ?_)
          · refine g_iload_n 1 3 C dX11_mend_69 rfl rfl ?_
            exact g_iret C dX11_mend_70 (by decide) (by decide) (⟨_, by unfold A_mend; rw [he]; simp only []; rw [ea, ec]; rfl, rfl, rfl, by
              unfold N_mend; rw [he]; simp only []
              refine hR.setT (fun q hq hu hh => hh.lost (t := t) ?_ ?_) ⟨hT.1, hT.2.1, hT.2.2.1, hT.2.2.2.1, ?_, ?_, hT.2.2.2.2.2.2⟩ hR.1 rfl rfl rfl rfl
              · show upd (upd (m_lost M) (2 * t) 0) (2 * t + 1) 0 (2 * q) = _
                rw [pk_un (by omega), pk_un (by omega)]
              · show upd (upd (m_lost M) (2 * t) 0) (2 * t + 1) 0 (2 * q + 1) = _
                rw [pk_un (by omega), pk_un (by omega)]
              · show upd (upd (m_lost M) (2 * t) 0) (2 * t + 1) 0 (2 * t) = bI false
                rw [pk_un (by omega), pk_us]; rfl
              · show upd (upd (m_lost M) (2 * t) 0) (2 * t + 1) 0 (2 * t + 1) = bI false
                rw [pk_us]; rfl⟩)
          · omega
        · have ec := bI_t c45
          refine g_iconst (v := nI 1) C dX11_mend_48 (by decide) ?_
          refine g_goto 53 C dX11_mend_49 (by decide) ?_
          refine g_iadd C dX11_mend_53 ?_
          refine g_topi (nI_add _ _ : _ = nI (0 + 0 + 1)) ?_
          refine g_istore_n (lv' := [(3, .int (nI (0 + 0 + 1))), (4, .int (nI (2 * t + 1))), (2, .int (nI 0)), (0, .ref x), (1, .int (nI j))]) C dX11_mend_54 rfl (by decide) rfl ?_
          refine g_aload_n 3 0 C dX11_mend_55 rfl rfl ?_
          refine gr_m_lost C dX11_mend_56 hx.1 wF_X11_38 r_lost ?_
          refine g_iload 1 C dX11_mend_59 rfl ?_
          refine g_iconst (v := nI 0) C dX11_mend_61 (by decide) ?_
          refine gs_m_lost C dX11_mend_62 k_lost (by omega) (by decide) ?_
          refine g_iinc (v := nI (2 * t + 1 + 1)) (lv' := [(4, .int (nI (2 * t + 1 + 1))), (3, .int (nI (0 + 0 + 1))), (2, .int (nI 0)), (0, .ref x), (1, .int (nI j))]) 1 C dX11_mend_63 rfl (nI_add _ 1) (by decide) rfl ?_
          refine g_goto 23 C dX11_mend_66 (by decide) ?_
          refine g_iload 0 C dX11_mend_23 rfl ?_
          refine g_iconst (v := nI 2) C dX11_mend_25 (by decide) ?_
          refine g_aload_n 3 0 C dX11_mend_26 rfl rfl ?_
          refine g_iload_n 4 1 C dX11_mend_27 rfl rfl ?_
          refine g_callV (As := [.int (nI j)]) (rest := [.int (nI 2), .int (nI (2 * t + 1 + 1))]) C dX11_mend_28 (c_M_at (M := (m_lost_ (m_lost_ M (upd (m_lost M) (2 * t) (nI 0))) (upd (m_lost (m_lost_ M (upd (m_lost M) (2 * t) (nI 0)))) (2 * t + 1) (nI 0)))) hx hj hpl) wC_X11_at wM_X11_108 wI_X11_at wS_X11_at wN_X11 (kne hx.1) (pf_11 hx.1) rfl hd_X11_at ⟨by decide, by decide, by decide, by decide⟩ (Nat.le_of_ble_eq_true rfl) (fun r_ S_ h_ => ?_)
          obtain ⟨rfl, rfl⟩ := h_
          change Go X G _ 5 _ _ (mo_ S (m_lost_ (m_lost_ M (upd (m_lost M) (2 * t) (nI 0))) (upd (m_lost (m_lost_ M (upd (m_lost M) (2 * t) (nI 0)))) (2 * t + 1) (nI 0)))) 31 [(4, .int (nI (2 * t + 1 + 1))), (3, .int (nI (0 + 0 + 1))), (2, .int (nI 0)), (0, .ref x), (1, .int (nI j))] [.int (nI t), .int (nI 2), .int (nI (2 * t + 1 + 1))]
          refine g_imul C dX11_mend_31 ?_
          refine g_topi (pk_mul _ _ : _ = nI (2 * t)) ?_
          refine g_iconst (v := nI 2) C dX11_mend_32 (by decide) ?_
          refine g_iadd C dX11_mend_33 ?_
          refine g_topi (nI_add _ _ : _ = nI (2 * t + 2)) ?_
          refine g_ncmp_ge 69 (by omega) (by omega) C dX11_mend_34 (by decide) (fun c34 => ?_) (fun c34 => ?_)
          · refine g_iload_n 1 3 C dX11_mend_69 rfl rfl ?_
            exact g_iret C dX11_mend_70 (by decide) (by decide) (⟨_, by unfold A_mend; rw [he]; simp only []; rw [ea, ec]; rfl, rfl, rfl, by
              unfold N_mend; rw [he]; simp only []
              refine hR.setT (fun q hq hu hh => hh.lost (t := t) ?_ ?_) ⟨hT.1, hT.2.1, hT.2.2.1, hT.2.2.2.1, ?_, ?_, hT.2.2.2.2.2.2⟩ hR.1 rfl rfl rfl rfl
              · show upd (upd (m_lost M) (2 * t) 0) (2 * t + 1) 0 (2 * q) = _
                rw [pk_un (by omega), pk_un (by omega)]
              · show upd (upd (m_lost M) (2 * t) 0) (2 * t + 1) 0 (2 * q + 1) = _
                rw [pk_un (by omega), pk_un (by omega)]
              · show upd (upd (m_lost M) (2 * t) 0) (2 * t + 1) 0 (2 * t) = bI false
                rw [pk_un (by omega), pk_us]; rfl
              · show upd (upd (m_lost M) (2 * t) 0) (2 * t + 1) 0 (2 * t + 1) = bI false
                rw [pk_us]; rfl⟩)
          · omega
    · have ea := bI_t c45
      refine g_iconst (v := nI 1) C dX11_mend_48 (by decide) ?_
      refine g_goto 53 C dX11_mend_49 (by decide) ?_
      refine g_iadd C dX11_mend_53 ?_
      refine g_topi (nI_add _ _ : _ = nI (0 + 1)) ?_
      refine g_istore_n (lv' := [(3, .int (nI (0 + 1))), (4, .int (nI (2 * t))), (2, .int (nI 0)), (0, .ref x), (1, .int (nI j))]) C dX11_mend_54 rfl (by decide) rfl ?_
      refine g_aload_n 3 0 C dX11_mend_55 rfl rfl ?_
      refine gr_m_lost C dX11_mend_56 hx.1 wF_X11_38 r_lost ?_
      refine g_iload 1 C dX11_mend_59 rfl ?_
      refine g_iconst (v := nI 0) C dX11_mend_61 (by decide) ?_
      refine gs_m_lost C dX11_mend_62 k_lost (by omega) (by decide) ?_
      refine g_iinc (v := nI (2 * t + 1)) (lv' := [(4, .int (nI (2 * t + 1))), (3, .int (nI (0 + 1))), (2, .int (nI 0)), (0, .ref x), (1, .int (nI j))]) 1 C dX11_mend_63 rfl (nI_add _ 1) (by decide) rfl ?_
      refine g_goto 23 C dX11_mend_66 (by decide) ?_
      refine g_iload 0 C dX11_mend_23 rfl ?_
      refine g_iconst (v := nI 2) C dX11_mend_25 (by decide) ?_
      refine g_aload_n 3 0 C dX11_mend_26 rfl rfl ?_
      refine g_iload_n 4 1 C dX11_mend_27 rfl rfl ?_
      refine g_callV (As := [.int (nI j)]) (rest := [.int (nI 2), .int (nI (2 * t + 1))]) C dX11_mend_28 (c_M_at (M := (m_lost_ M (upd (m_lost M) (2 * t) (nI 0)))) hx hj hpl) wC_X11_at wM_X11_108 wI_X11_at wS_X11_at wN_X11 (kne hx.1) (pf_11 hx.1) rfl hd_X11_at ⟨by decide, by decide, by decide, by decide⟩ (Nat.le_of_ble_eq_true rfl) (fun r_ S_ h_ => ?_)
      obtain ⟨rfl, rfl⟩ := h_
      change Go X G _ 5 _ _ (mo_ S (m_lost_ M (upd (m_lost M) (2 * t) (nI 0)))) 31 [(4, .int (nI (2 * t + 1))), (3, .int (nI (0 + 1))), (2, .int (nI 0)), (0, .ref x), (1, .int (nI j))] [.int (nI t), .int (nI 2), .int (nI (2 * t + 1))]
      refine g_imul C dX11_mend_31 ?_
      refine g_topi (pk_mul _ _ : _ = nI (2 * t)) ?_
      refine g_iconst (v := nI 2) C dX11_mend_32 (by decide) ?_
      refine g_iadd C dX11_mend_33 ?_
      refine g_topi (nI_add _ _ : _ = nI (2 * t + 2)) ?_
      refine g_ncmp_ge 69 (by omega) (by omega) C dX11_mend_34 (by decide) (fun c34 => ?_) (fun c34 => ?_)
      · omega
      · refine g_iload_n 1 3 C dX11_mend_37 rfl rfl ?_
        refine g_aload_n 3 0 C dX11_mend_38 rfl rfl ?_
        refine gr_m_lost C dX11_mend_39 hx.1 wF_X11_38 r_lost ?_
        refine g_iload 0 C dX11_mend_42 rfl ?_
        refine ga_m_lost C dX11_mend_44 k_lost (by omega) ?_
        refine g_topi ((by show upd (m_lost M) (2 * t) (nI 0) (2 * t + 1) = bI (tC (zH Z t)); simp only [upd]; rw [if_neg (by omega)]; exact hT.2.2.2.2.2.1)) ?_
        refine g_if_eq 52 C dX11_mend_45 (by decide) (fun c45 => ?_) (fun c45 => ?_)
        · have ec := bI_f c45
          refine g_iconst (v := nI 0) C dX11_mend_52 (by decide) ?_
          refine g_iadd C dX11_mend_53 ?_
          refine g_topi (nI_add _ _ : _ = nI (0 + 1 + 0)) ?_
          refine g_istore_n (lv' := [(3, .int (nI (0 + 1 + 0))), (4, .int (nI (2 * t + 1))), (2, .int (nI 0)), (0, .ref x), (1, .int (nI j))]) C dX11_mend_54 rfl (by decide) rfl ?_
          refine g_aload_n 3 0 C dX11_mend_55 rfl rfl ?_
          refine gr_m_lost C dX11_mend_56 hx.1 wF_X11_38 r_lost ?_
          refine g_iload 1 C dX11_mend_59 rfl ?_
          refine g_iconst (v := nI 0) C dX11_mend_61 (by decide) ?_
          refine gs_m_lost C dX11_mend_62 k_lost (by omega) (by decide) ?_
          refine g_iinc (v := nI (2 * t + 1 + 1)) (lv' := [(4, .int (nI (2 * t + 1 + 1))), (3, .int (nI (0 + 1 + 0))), (2, .int (nI 0)), (0, .ref x), (1, .int (nI j))]) 1 C dX11_mend_63 rfl (nI_add _ 1) (by decide) rfl ?_
          refine g_goto 23 C dX11_mend_66 (by decide) ?_
          refine g_iload 0 C dX11_mend_23 rfl ?_
          refine g_iconst (v := nI 2) C dX11_mend_25 (by decide) ?_
          refine g_aload_n 3 0 C dX11_mend_26 rfl rfl ?_
          refine g_iload_n 4 1 C dX11_mend_27 rfl rfl ?_
          refine g_callV (As := [.int (nI j)]) (rest := [.int (nI 2), .int (nI (2 * t + 1 + 1))]) C dX11_mend_28 (c_M_at (M := (m_lost_ (m_lost_ M (upd (m_lost M) (2 * t) (nI 0))) (upd (m_lost (m_lost_ M (upd (m_lost M) (2 * t) (nI 0)))) (2 * t + 1) (nI 0)))) hx hj hpl) wC_X11_at wM_X11_108 wI_X11_at wS_X11_at wN_X11 (kne hx.1) (pf_11 hx.1) rfl hd_X11_at ⟨by decide, by decide, by decide, by decide⟩ (Nat.le_of_ble_eq_true rfl) (fun r_ S_ h_ => ?_)
          obtain ⟨rfl, rfl⟩ := h_
          change Go X G _ 5 _ _ (mo_ S (m_lost_ (m_lost_ M (upd (m_lost M) (2 * t) (nI 0))) (upd (m_lost (m_lost_ M (upd (m_lost M) (2 * t) (nI 0)))) (2 * t + 1) (nI 0)))) 31 [(4, .int (nI (2 * t + 1 + 1))), (3, .int (nI (0 + 1 + 0))), (2, .int (nI 0)), (0, .ref x), (1, .int (nI j))] [.int (nI t), .int (nI 2), .int (nI (2 * t + 1 + 1))]
          refine g_imul C dX11_mend_31 ?_
          refine g_topi (pk_mul _ _ : _ = nI (2 * t)) ?_
          refine g_iconst (v := nI 2) C dX11_mend_32 (by decide) ?_
          refine g_iadd C dX11_mend_33 ?_
          refine g_topi (nI_add _ _ : _ = nI (2 * t + 2)) ?_
          refine g_ncmp_ge 69 (by omega) (by omega) C dX11_mend_34 (by decide) (fun c34 => ?_) (fun c34 => ?_)
          · refine g_iload_n 1 3 C dX11_mend_69 rfl rfl ?_
            exact g_iret C dX11_mend_70 (by decide) (by decide) (⟨_, by unfold A_mend; rw [he]; simp only []; rw [ea, ec]; rfl, rfl, rfl, by
              unfold N_mend; rw [he]; simp only []
              refine hR.setT (fun q hq hu hh => hh.lost (t := t) ?_ ?_) ⟨hT.1, hT.2.1, hT.2.2.1, hT.2.2.2.1, ?_, ?_, hT.2.2.2.2.2.2⟩ hR.1 rfl rfl rfl rfl
              · show upd (upd (m_lost M) (2 * t) 0) (2 * t + 1) 0 (2 * q) = _
                rw [pk_un (by omega), pk_un (by omega)]
              · show upd (upd (m_lost M) (2 * t) 0) (2 * t + 1) 0 (2 * q + 1) = _
                rw [pk_un (by omega), pk_un (by omega)]
              · show upd (upd (m_lost M) (2 * t) 0) (2 * t + 1) 0 (2 * t) = bI false
                rw [pk_un (by omega), pk_us]; rfl
              · show upd (upd (m_lost M) (2 * t) 0) (2 * t + 1) 0 (2 * t + 1) = bI false
                rw [pk_us]; rfl⟩)
          · omega
        · have ec := bI_t c45
          refine g_iconst (v := nI 1) C dX11_mend_48 (by decide) ?_
          refine g_goto 53 C dX11_mend_49 (by decide) ?_
          refine g_iadd C dX11_mend_53 ?_
          refine g_topi (nI_add _ _ : _ = nI (0 + 1 + 1)) ?_
          refine g_istore_n (lv' := [(3, .int (nI (0 + 1 + 1))), (4, .int (nI (2 * t + 1))), (2, .int (nI 0)), (0, .ref x), (1, .int (nI j))]) C dX11_mend_54 rfl (by decide) rfl ?_
          refine g_aload_n 3 0 C dX11_mend_55 rfl rfl ?_
          refine gr_m_lost C dX11_mend_56 hx.1 wF_X11_38 r_lost ?_
          refine g_iload 1 C dX11_mend_59 rfl ?_
          refine g_iconst (v := nI 0) C dX11_mend_61 (by decide) ?_
          refine gs_m_lost C dX11_mend_62 k_lost (by omega) (by decide) ?_
          refine g_iinc (v := nI (2 * t + 1 + 1)) (lv' := [(4, .int (nI (2 * t + 1 + 1))), (3, .int (nI (0 + 1 + 1))), (2, .int (nI 0)), (0, .ref x), (1, .int (nI j))]) 1 C dX11_mend_63 rfl (nI_add _ 1) (by decide) rfl ?_
          refine g_goto 23 C dX11_mend_66 (by decide) ?_
          refine g_iload 0 C dX11_mend_23 rfl ?_
          refine g_iconst (v := nI 2) C dX11_mend_25 (by decide) ?_
          refine g_aload_n 3 0 C dX11_mend_26 rfl rfl ?_
          refine g_iload_n 4 1 C dX11_mend_27 rfl rfl ?_
          refine g_callV (As := [.int (nI j)]) (rest := [.int (nI 2), .int (nI (2 * t + 1 + 1))]) C dX11_mend_28 (c_M_at (M := (m_lost_ (m_lost_ M (upd (m_lost M) (2 * t) (nI 0))) (upd (m_lost (m_lost_ M (upd (m_lost M) (2 * t) (nI 0)))) (2 * t + 1) (nI 0)))) hx hj hpl) wC_X11_at wM_X11_108 wI_X11_at wS_X11_at wN_X11 (kne hx.1) (pf_11 hx.1) rfl hd_X11_at ⟨by decide, by decide, by decide, by decide⟩ (Nat.le_of_ble_eq_true rfl) (fun r_ S_ h_ => ?_)
          obtain ⟨rfl, rfl⟩ := h_
          change Go X G _ 5 _ _ (mo_ S (m_lost_ (m_lost_ M (upd (m_lost M) (2 * t) (nI 0))) (upd (m_lost (m_lost_ M (upd (m_lost M) (2 * t) (nI 0)))) (2 * t + 1) (nI 0)))) 31 [(4, .int (nI (2 * t + 1 + 1))), (3, .int (nI (0 + 1 + 1))), (2, .int (nI 0)), (0, .ref x), (1, .int (nI j))] [.int (nI t), .int (nI 2), .int (nI (2 * t + 1 + 1))]
          refine g_imul C dX11_mend_31 ?_
          refine g_topi (pk_mul _ _ : _ = nI (2 * t)) ?_
          refine g_iconst (v := nI 2) C dX11_mend_32 (by decide) ?_
          refine g_iadd C dX11_mend_33 ?_
          refine g_topi (nI_add _ _ : _ = nI (2 * t + 2)) ?_
          refine g_ncmp_ge 69 (by omega) (by omega) C dX11_mend_34 (by decide) (fun c34 => ?_) (fun c34 => ?_)
          · refine g_iload_n 1 3 C dX11_mend_69 rfl rfl ?_
            exact g_iret C dX11_mend_70 (by decide) (by decide) (⟨_, by unfold A_mend; rw [he]; simp only []; rw [ea, ec]; rfl, rfl, rfl, by
              unfold N_mend; rw [he]; simp only []
              refine hR.setT (fun q hq hu hh => hh.lost (t := t) ?_ ?_) ⟨hT.1, hT.2.1, hT.2.2.1, hT.2.2.2.1, ?_, ?_, hT.2.2.2.2.2.2⟩ hR.1 rfl rfl rfl rfl
              · show upd (upd (m_lost M) (2 * t) 0) (2 * t + 1) 0 (2 * q) = _
                rw [pk_un (by omega), pk_un (by omega)]
              · show upd (upd (m_lost M) (2 * t) 0) (2 * t + 1) 0 (2 * q + 1) = _
                rw [pk_un (by omega), pk_un (by omega)]
              · show upd (upd (m_lost M) (2 * t) 0) (2 * t + 1) 0 (2 * t) = bI false
                rw [pk_un (by omega), pk_us]; rfl
              · show upd (upd (m_lost M) (2 * t) 0) (2 * t + 1) 0 (2 * t + 1) = bI false
                rw [pk_us]; rfl⟩)
          · omega
theorem c_M_mend {l : Launch} {G : Gx} {S : PS} {M : MoT} {x : Nat} (hx : MoOk S M x) {Z : ZT} (hR : RM M Z) (hZ : okZ Z) {p : Int32}  : Ct l yX11_mend cX11_mend 5 (Option.some Jvm.ClassFile.FieldType.int) rm_X11_mend G [.ref x, .int p] (mo_ S M) (fun r S' => ∃ M', r = some (.int (A_mend Z p)) ∧ S' = mo_ S M' ∧ mo_r M' = mo_r M ∧ RM M' (N_mend Z p)) := by
  cases he : rowedE Z p with
  | inl e => exact c_M_mend_err hx hR hZ he (rowedE_neg he)
  | inr t =>
    obtain ⟨j, hj, rfl, hp, -⟩ := rowedE_inr he
    exact c_M_mend_ok hx hR hZ hj hp he
