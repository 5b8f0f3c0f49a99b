set_option maxRecDepth 100000 in
set_option maxHeartbeats 4000000 in
theorem c_M_prefix_err {l : Launch} {G : Gx} {S : PS} {M : MoT} {x : Nat} (hx : MoOk S M x) {Z : ZT} (hR : RM M Z) (hZ : okZ Z) {p e : Int32} (he : askE Z p = .inl e) (hneg : e < 0) {last : Bool} : Ct l yX11_prefix cX11_prefix 7 (Option.some Jvm.ClassFile.FieldType.int) rm_X11_prefix G [.ref x, .int p, .int (bI last)] (mo_ S M) (fun r S' => ∃ M', r = some (.int (A_prefix Z p last)) ∧ S' = mo_ S M' ∧ mo_r M' = mo_r M ∧ RM M' (askZ Z p)) := by
  obtain ⟨q_many, r_many, k_many⟩ := hx.2 3 (by decide)
  refine Ct.mk RX11 "prefix" hy_X11_prefix (Nat.le_of_ble_eq_true rfl) (fun X hX C => ?_)
  change Go X G _ 7 0 0 (mo_ S M) 0 [(0, .ref x), (1, .int p), (2, .int (bI last))] []
  refine g_aload_n 0 0 C dX11_prefix_0 rfl rfl ?_
  refine g_iload_n 1 1 C dX11_prefix_1 rfl rfl ?_
  refine g_callV (As := [.int p]) (rest := []) C dX11_prefix_2 (c_M_asked hx hR hZ) wC_X11_asked wM_X11_196 wI_X11_asked wS_X11_asked wN_X11 (kne hx.1) (pf_11 hx.1) rfl hd_X11_asked ⟨by decide, by decide, by decide, by decide⟩ (Nat.le_of_ble_eq_true rfl) (fun r_ S_ h_ => ?_)
  obtain ⟨M1, rfl, rfl, h1, hR1, hc1⟩ := h_
  change Go X G _ 7 _ _ (mo_ S M1) 5 [(0, .ref x), (1, .int p), (2, .int (bI last))] [.int (errI (askE Z p))]
  refine g_topi (show errI (askE Z p) = e by rw [he]; rfl) ?_
  refine g_istore_n (lv' := [(3, .int e), (0, .ref x), (1, .int p), (2, .int (bI last))]) C dX11_prefix_5 rfl (by decide) rfl ?_
  refine g_iload_n 0 3 C dX11_prefix_6 rfl rfl ?_
  refine g_if_ge 12 C dX11_prefix_7 (by decide) (fun c7 => ?_) (fun c7 => ?_)
  · exact absurd c7 (Int32.not_le.mpr hneg)
  · refine g_iload_n 0 3 C dX11_prefix_10 rfl rfl ?_
    exact g_iret C dX11_prefix_11 (by decide) (by decide) (⟨M1, by unfold A_prefix; rw [he], rfl, h1, hR1⟩)
set_option maxRecDepth 100000 in
set_option maxHeartbeats 4000000 in
theorem c_M_prefix_ok {l : Launch} {G : Gx} {S : PS} {M : MoT} {x : Nat} (hx : MoOk S M x) {Z : ZT} (hR : RM M Z) (hZ : okZ Z) {j t : Nat} (hj : j < 10) (hp : zP Z j = t + 1) (ha : askE Z (nI j) = .inr t) (hc0 : okN (zT Z)) {last : Bool} : Ct l yX11_prefix cX11_prefix 7 (Option.some Jvm.ClassFile.FieldType.int) rm_X11_prefix G [.ref x, .int (nI j), .int (bI last)] (mo_ S M) (fun r S' => ∃ M', r = some (.int (A_prefix Z (nI j) last)) ∧ S' = mo_ S M' ∧ mo_r M' = mo_r M ∧ RM M' (askZ Z (nI j))) := by
  obtain ⟨q_many, r_many, k_many⟩ := hx.2 3 (by decide)
  obtain ⟨hO, ht⟩ := hZ.th hj hp
  refine Ct.mk RX11 "prefix" hy_X11_prefix (Nat.le_of_ble_eq_true rfl) (fun X hX C => ?_)
  change Go X G _ 7 0 0 (mo_ S M) 0 [(0, .ref x), (1, .int (nI j)), (2, .int (bI last))] []
  refine g_aload_n 0 0 C dX11_prefix_0 rfl rfl ?_
  refine g_iload_n 1 1 C dX11_prefix_1 rfl rfl ?_
  refine g_callV (As := [.int (nI j)]) (rest := []) C dX11_prefix_2 (c_M_asked hx hR hZ) wC_X11_asked wM_X11_196 wI_X11_asked wS_X11_asked wN_X11 (kne hx.1) (pf_11 hx.1) rfl hd_X11_asked ⟨by decide, by decide, by decide, by decide⟩ (Nat.le_of_ble_eq_true rfl) (fun r_ S_ h_ => ?_)
  obtain ⟨M1, rfl, rfl, h1, hR1, hc1⟩ := h_
  change Go X G _ 7 _ _ (mo_ S M1) 5 [(0, .ref x), (1, .int (nI j)), (2, .int (bI last))] [.int (errI (askE Z (nI j)))]
  refine g_topi (show errI (askE Z (nI j)) = nI 0 by rw [ha]; rfl) ?_
  have hx1 := hx.of h1
  obtain ⟨q_many, r_many, k_many⟩ := hx1.2 3 (by decide)
  obtain ⟨hT, hpl⟩ := hR1.ask hj hp
  have hc := hc1 t ha
  have hn1 := hT.2.1
  have hn2 := hn1.1
  have hah : aheadN (tL (zH Z t)) (zT Z) ≤ (tL (zH Z t)).length := fN_le _ _
  have hcl := hc0.2.1
  refine g_istore_n (lv' := [(3, .int (nI 0)), (0, .ref x), (1, .int (nI j)), (2, .int (bI last))]) C dX11_prefix_5 rfl (by decide) rfl ?_
  refine g_iload_n 0 3 C dX11_prefix_6 rfl rfl ?_
  refine g_nif_ge 12 (by omega) C dX11_prefix_7 (by decide) ?_
  refine g_aload_n 1 0 C dX11_prefix_12 rfl rfl ?_
  refine g_iload_n 2 1 C dX11_prefix_13 rfl rfl ?_
  refine g_callV (As := [.int (nI j)]) (rest := []) C dX11_prefix_14 (c_M_at hx1 hj hpl) wC_X11_at wM_X11_108 wI_X11_at wS_X11_at wN_X11 (kne hx1.1) (pf_11 hx1.1) rfl hd_X11_at ⟨by decide, by decide, by decide, by decide⟩ (Nat.le_of_ble_eq_true rfl) (fun r_ S_ h_ => ?_)
  obtain ⟨rfl, rfl⟩ := h_
  change Go X G _ 7 _ _ (mo_ S M1) 17 [(3, .int (nI 0)), (0, .ref x), (1, .int (nI j)), (2, .int (bI last))] [.int (nI t)]
  refine g_istore (lv' := [(4, .int (nI t)), (3, .int (nI 0)), (0, .ref x), (1, .int (nI j)), (2, .int (bI last))]) C dX11_prefix_17 (by decide) rfl ?_
  refine g_aload_n 2 0 C dX11_prefix_19 rfl rfl ?_
  refine g_iload 0 C dX11_prefix_20 rfl ?_
  refine g_callV (As := [.int (nI t)]) (rest := []) C dX11_prefix_22 (c_M_ahead hx1 (by omega) hn1 hc hc0) wC_X11_ahead wM_X11_130 wI_X11_ahead wS_X11_ahead wN_X11 (kne hx1.1) (pf_11 hx1.1) rfl hd_X11_ahead ⟨by decide, by decide, by decide, by decide⟩ (Nat.le_of_ble_eq_true rfl) (fun r_ S_ h_ => ?_)
  obtain ⟨rfl, rfl⟩ := h_
  change Go X G _ 7 _ _ (mo_ S M1) 25 [(4, .int (nI t)), (3, .int (nI 0)), (0, .ref x), (1, .int (nI j)), (2, .int (bI last))] [.int (nI (aheadN (tL (zH Z t)) (zT Z)))]
  refine g_istore (lv' := [(5, .int (nI (aheadN (tL (zH Z t)) (zT Z)))), (4, .int (nI t)), (3, .int (nI 0)), (0, .ref x), (1, .int (nI j)), (2, .int (bI last))]) C dX11_prefix_25 (by decide) rfl ?_
  refine g_iload 0 C dX11_prefix_27 rfl ?_
  refine g_istore (lv' := [(6, .int (nI (aheadN (tL (zH Z t)) (zT Z)))), (5, .int (nI (aheadN (tL (zH Z t)) (zT Z)))), (4, .int (nI t)), (3, .int (nI 0)), (0, .ref x), (1, .int (nI j)), (2, .int (bI last))]) C dX11_prefix_29 (by decide) rfl ?_
  have lp : ∀ (n_ : Nat) (i : Nat), (tL (zH Z t)).length - (aheadN (tL (zH Z t)) (zT Z) + i) < n_ → (aheadN (tL (zH Z t)) (zT Z) + i ≤ (tL (zH Z t)).length ∧ ∀ q, q < i → lcp (zT Z) (nm (tL (zH Z t)) (aheadN (tL (zH Z t)) (zT Z) + q)) = (zT Z).length) → Go X G (Qe X G (fun r S' => ∃ M', r = some (.int (A_prefix Z (nI j) last)) ∧ S' = mo_ S M' ∧ mo_r M' = mo_r M ∧ RM M' (askZ Z (nI j))) rm_X11_prefix.cells rm_X11_prefix.slots) 7 0 0 (mo_ S M1) 31 [(6, .int (nI (aheadN (tL (zH Z t)) (zT Z) + i))), (5, .int (nI (aheadN (tL (zH Z t)) (zT Z)))), (4, .int (nI t)), (3, .int (nI 0)), (0, .ref x), (1, .int (nI j)), (2, .int (bI last))] [] := by
    intro n_
    induction n_ with
    | zero => intro i hm_; exact absurd hm_ (Nat.not_lt_zero _)
    | succ n_ ih_ =>
      intro i hm_ hi
      refine g_iload 0 C dX11_prefix_31 rfl ?_
      refine g_aload_n 4 0 C dX11_prefix_33 rfl rfl ?_
      refine gr_m_many C dX11_prefix_34 hx1.1 wF_X11_23 r_many ?_
      refine g_iload 2 C dX11_prefix_37 rfl ?_
      refine ga_m_many C dX11_prefix_39 k_many (by omega) ?_
      refine g_topi (hn1.2.1) ?_
      refine g_ncmp_ge 64 (by omega) (by omega) C dX11_prefix_40 (by decide) (fun c40 => ?_) (fun c40 => ?_)
      · have e : pastN (tL (zH Z t)) (zT Z) = aheadN (tL (zH Z t)) (zT Z) + i := by unfold pastN; rw [fN_eq (k := i) (by omega) (fun q hq => decide_eq_true (hi.2 q hq)) (Or.inl (by omega))]
        refine g_iload 0 C dX11_prefix_64 rfl ?_
        refine g_iload 1 C dX11_prefix_66 rfl ?_
        refine g_ncmp_ne 77 (by omega) (by omega) C dX11_prefix_68 (by decide) (fun c68 => ?_) (fun c68 => ?_)
        · have e2 : ¬ pastN (tL (zH Z t)) (zT Z) = aheadN (tL (zH Z t)) (zT Z) := by omega
          refine g_iload_n 6 2 C dX11_prefix_77 rfl rfl ?_
          refine g_if_eq 88 C dX11_prefix_78 (by decide) (fun c78 => ?_) (fun c78 => ?_)
          · have e3 := bI_f c78
            refine g_iload 1 C dX11_prefix_88 rfl ?_
            exact g_iret C dX11_prefix_90 (by decide) (by decide) (⟨M1, by unfold A_prefix; rw [ha]; simp only []; rw [if_neg e2, e3]; rfl, rfl, h1, hR1⟩)
          · have e3 := bI_t c78
            refine g_iload 0 C dX11_prefix_81 rfl ?_
            refine g_iconst (v := nI 1) C dX11_prefix_83 (by decide) ?_
            refine g_isub C dX11_prefix_84 ?_
            refine g_topi (pk_sub (by omega) : _ = nI (aheadN (tL (zH Z t)) (zT Z) + i - 1)) ?_
            refine g_goto 90 C dX11_prefix_85 (by decide) ?_
            exact g_iret C dX11_prefix_90 (by decide) (by decide) (⟨M1, by unfold A_prefix; rw [ha]; simp only []; rw [if_neg e2, e3, e]; rfl, rfl, h1, hR1⟩)
        · have e2 : i = 0 := by omega
          refine g_bipush (v := -10) C dX11_prefix_71 (by decide) ?_
          refine g_iload 1 C dX11_prefix_73 rfl ?_
          refine g_isub C dX11_prefix_75 ?_
          exact g_iret C dX11_prefix_76 (by decide) (by decide) (⟨M1, by unfold A_prefix; rw [ha]; simp only []; rw [if_pos (by omega)], rfl, h1, hR1⟩)
      · have hk := hn1.2.2 (aheadN (tL (zH Z t)) (zT Z) + i) (by omega)
        have l1 := lcp_le1 (zT Z) (nm (tL (zH Z t)) (aheadN (tL (zH Z t)) (zT Z) + i))
        refine g_aload_n 4 0 C dX11_prefix_43 rfl rfl ?_
        refine g_iload 2 C dX11_prefix_44 rfl ?_
        refine g_iload 0 C dX11_prefix_46 rfl ?_
        refine g_callV (As := [.int (nI t), .int (nI (aheadN (tL (zH Z t)) (zT Z) + i))]) (rest := []) C dX11_prefix_48 (c_M_alike hx1 (by omega) (by omega) hc hc0 hk.2.1 hk.1) wC_X11_alike wM_X11_202 wI_X11_alike wS_X11_alike wN_X11 (kne hx1.1) (pf_11 hx1.1) rfl hd_X11_alike ⟨by decide, by decide, by decide, by decide⟩ (Nat.le_of_ble_eq_true rfl) (fun r_ S_ h_ => ?_)
        obtain ⟨rfl, rfl⟩ := h_
        change Go X G _ 7 _ _ (mo_ S M1) 51 [(6, .int (nI (aheadN (tL (zH Z t)) (zT Z) + i))), (5, .int (nI (aheadN (tL (zH Z t)) (zT Z)))), (4, .int (nI t)), (3, .int (nI 0)), (0, .ref x), (1, .int (nI j)), (2, .int (bI last))] [.int (nI (lcp (zT Z) (nm (tL (zH Z t)) (aheadN (tL (zH Z t)) (zT Z) + i))))]
        refine g_aload_n 4 0 C dX11_prefix_51 rfl rfl ?_
        refine gf_m_length C dX11_prefix_52 hx1.1 wF_X11_59 ?_
        refine g_topi (hc.1) ?_
        refine g_ncmp_ne 64 (by omega) (by omega) C dX11_prefix_55 (by decide) (fun c55 => ?_) (fun c55 => ?_)
        · have e : pastN (tL (zH Z t)) (zT Z) = aheadN (tL (zH Z t)) (zT Z) + i := by unfold pastN; rw [fN_eq (k := i) (by omega) (fun q hq => decide_eq_true (hi.2 q hq)) (Or.inr (decide_eq_false c55))]
          refine g_iload 0 C dX11_prefix_64 rfl ?_
          refine g_iload 1 C dX11_prefix_66 rfl ?_
          refine g_ncmp_ne 77 (by omega) (by omega) C dX11_prefix_68 (by decide) (fun c68 => ?_) (fun c68 => ?_)
          · have e2 : ¬ pastN (tL (zH Z t)) (zT Z) = aheadN (tL (zH Z t)) (zT Z) := by omega
            refine g_iload_n 6 2 C dX11_prefix_77 rfl rfl ?_
            refine g_if_eq 88 C dX11_prefix_78 (by decide) (fun c78 => ?_) (fun c78 => ?_)
            · have e3 := bI_f c78
              refine g_iload 1 C dX11_prefix_88 rfl ?_
              exact g_iret C dX11_prefix_90 (by decide) (by decide) (⟨M1, by unfold A_prefix; rw [ha]; simp only []; rw [if_neg e2, e3]; rfl, rfl, h1, hR1⟩)
            · have e3 := bI_t c78
              refine g_iload 0 C dX11_prefix_81 rfl ?_
              refine g_iconst (v := nI 1) C dX11_prefix_83 (by decide) ?_
              refine g_isub C dX11_prefix_84 ?_
              refine g_topi (pk_sub (by omega) : _ = nI (aheadN (tL (zH Z t)) (zT Z) + i - 1)) ?_
              refine g_goto 90 C dX11_prefix_85 (by decide) ?_
              exact g_iret C dX11_prefix_90 (by decide) (by decide) (⟨M1, by unfold A_prefix; rw [ha]; simp only []; rw [if_neg e2, e3, e]; rfl, rfl, h1, hR1⟩)
          · have e2 : i = 0 := by omega
            refine g_bipush (v := -10) C dX11_prefix_71 (by decide) ?_
            refine g_iload 1 C dX11_prefix_73 rfl ?_
            refine g_isub C dX11_prefix_75 ?_
            exact g_iret C dX11_prefix_76 (by decide) (by decide) (⟨M1, by unfold A_prefix; rw [ha]; simp only []; rw [if_pos (by omega)], rfl, h1, hR1⟩)
        · refine g_iinc (v := nI (aheadN (tL (zH Z t)) (zT Z) + i + 1)) (lv' := [(6, .int (nI (aheadN (tL (zH Z t)) (zT Z) + i + 1))), (5, .int (nI (aheadN (tL (zH Z t)) (zT Z)))), (4, .int (nI t)), (3, .int (nI 0)), (0, .ref x), (1, .int (nI j)), (2, .int (bI last))]) 0 C dX11_prefix_58 rfl (nI_add _ 1) (by decide) rfl ?_
          refine g_goto 31 C dX11_prefix_61 (by decide) ?_
          exact ih_ (i + 1) (by omega) ⟨by omega, fun q hq => by
            by_cases e : q = i
            · rw [e]; exact c55
            · exact hi.2 q (by omega)⟩
  exact lp ((tL (zH Z t)).length + 1) 0 (by omega) ⟨by omega, fun q hq => absurd hq (Nat.not_lt_zero _)⟩
theorem c_M_prefix {l : Launch} {G : Gx} {S : PS} {M : MoT} {x : Nat} (hx : MoOk S M x) {Z : ZT} (hR : RM M Z) (hZ : okZ Z) {p : Int32} {last : Bool} : Ct l yX11_prefix cX11_prefix 7 (Option.some Jvm.ClassFile.FieldType.int) rm_X11_prefix G [.ref x, .int p, .int (bI last)] (mo_ S M) (fun r S' => ∃ M', r = some (.int (A_prefix Z p last)) ∧ S' = mo_ S M' ∧ mo_r M' = mo_r M ∧ RM M' (askZ Z p)) := by
  cases ha : askE Z p with
  | inl e => exact c_M_prefix_err hx hR hZ ha (askE_neg ha)
  | inr t =>
    obtain ⟨j, hj, rfl, hp, hk, hc0, hm⟩ := askE_inr hZ ha
    exact c_M_prefix_ok hx hR hZ hj hp ha hc0
set_option maxRecDepth 100000 in
set_option maxHeartbeats 4000000 in
theorem c_M_longest_err {l : Launch} {G : Gx} {S : PS} {M : MoT} {x : Nat} (hx : MoOk S M x) {Z : ZT} (hR : RM M Z) (hZ : okZ Z) {p e : Int32} (he : askE Z p = .inl e) (hneg : e < 0)  : Ct l yX11_longest cX11_longest 6 (Option.some Jvm.ClassFile.FieldType.int) rm_X11_longest G [.ref x, .int p] (mo_ S M) (fun r S' => ∃ M', r = some (.int (A_longest Z p)) ∧ S' = mo_ S M' ∧ mo_r M' = mo_r M ∧ RM M' (askZ Z p)) := by
  obtain ⟨q_many, r_many, k_many⟩ := hx.2 3 (by decide)
  obtain ⟨q_size, r_size, k_size⟩ := hx.2 10 (by decide)
  refine Ct.mk RX11 "longest" hy_X11_longest (Nat.le_of_ble_eq_true rfl) (fun X hX C => ?_)
  change Go X G _ 6 0 0 (mo_ S M) 0 [(0, .ref x), (1, .int p)] []
  refine g_aload_n 0 0 C dX11_longest_0 rfl rfl ?_
  refine g_iload_n 1 1 C dX11_longest_1 rfl rfl ?_
  refine g_callV (As := [.int p]) (rest := []) C dX11_longest_2 (c_M_asked hx hR hZ) wC_X11_asked wM_X11_196 wI_X11_asked wS_X11_asked wN_X11 (kne hx.1) (pf_11 hx.1) rfl hd_X11_asked ⟨by decide, by decide, by decide, by decide⟩ (Nat.le_of_ble_eq_true rfl) (fun r_ S_ h_ => ?_)
  obtain ⟨M1, rfl, rfl, h1, hR1, hc1⟩ := h_
  change Go X G _ 6 _ _ (mo_ S M1) 5 [(0, .ref x), (1, .int p)] [.int (errI (askE Z p))]
  refine g_topi (show errI (askE Z p) = e by rw [he]; rfl) ?_
  refine g_istore_n (lv' := [(2, .int e), (0, .ref x), (1, .int p)]) C dX11_longest_5 rfl (by decide) rfl ?_
  refine g_iload_n 0 2 C dX11_longest_6 rfl rfl ?_
  refine g_if_ge 12 C dX11_longest_7 (by decide) (fun c7 => ?_) (fun c7 => ?_)
  · exact absurd c7 (Int32.not_le.mpr hneg)
  · refine g_iload_n 0 2 C dX11_longest_10 rfl rfl ?_
    exact g_iret C dX11_longest_11 (by decide) (by decide) (⟨M1, by unfold A_longest; rw [he], rfl, h1, hR1⟩)
set_option maxRecDepth 100000 in
set_option maxHeartbeats 4000000 in
theorem c_M_longest_ok {l : Launch} {G : Gx} {S : PS} {M : MoT} {x : Nat} (hx : MoOk S M x) {Z : ZT} (hR : RM M Z) (hZ : okZ Z) {j t : Nat} (hj : j < 10) (hp : zP Z j = t + 1) (ha : askE Z (nI j) = .inr t) (hc0 : okN (zT Z))  : Ct l yX11_longest cX11_longest 6 (Option.some Jvm.ClassFile.FieldType.int) rm_X11_longest G [.ref x, .int (nI j)] (mo_ S M) (fun r S' => ∃ M', r = some (.int (A_longest Z (nI j))) ∧ S' = mo_ S M' ∧ mo_r M' = mo_r M ∧ RM M' (askZ Z (nI j))) := by
  obtain ⟨q_many, r_many, k_many⟩ := hx.2 3 (by decide)
  obtain ⟨q_size, r_size, k_size⟩ := hx.2 10 (by decide)
  obtain ⟨hO, ht⟩ := hZ.th hj hp
  refine Ct.mk RX11 "longest" hy_X11_longest (Nat.le_of_ble_eq_true rfl) (fun X hX C => ?_)
  change Go X G _ 6 0 0 (mo_ S M) 0 [(0, .ref x), (1, .int (nI j))] []
  refine g_aload_n 0 0 C dX11_longest_0 rfl rfl ?_
  refine g_iload_n 1 1 C dX11_longest_1 rfl rfl ?_
  refine g_callV (As := [.int (nI j)]) (rest := []) C dX11_longest_2 (c_M_asked hx hR hZ) wC_X11_asked wM_X11_196 wI_X11_asked wS_X11_asked wN_X11 (kne hx.1) (pf_11 hx.1) rfl hd_X11_asked ⟨by decide, by decide, by decide, by decide⟩ (Nat.le_of_ble_eq_true rfl) (fun r_ S_ h_ => ?_)
  obtain ⟨M1, rfl, rfl, h1, hR1, hc1⟩ := h_
  change Go X G _ 6 _ _ (mo_ S M1) 5 [(0, .ref x), (1, .int (nI j))] [.int (errI (askE Z (nI j)))]
  refine g_topi (show errI (askE Z (nI j)) = nI 0 by rw [ha]; rfl) ?_
  have hx1 := hx.of h1
  obtain ⟨q_many, r_many, k_many⟩ := hx1.2 3 (by decide)
  obtain ⟨q_size, r_size, k_size⟩ := hx1.2 10 (by decide)
  obtain ⟨hT, hpl⟩ := hR1.ask hj hp
  have hc := hc1 t ha
  have hn1 := hT.2.1
  have hn2 := hn1.1
  have hcl := hc0.2.1
  refine g_istore_n (lv' := [(2, .int (nI 0)), (0, .ref x), (1, .int (nI j))]) C dX11_longest_5 rfl (by decide) rfl ?_
  refine g_iload_n 0 2 C dX11_longest_6 rfl rfl ?_
  refine g_nif_ge 12 (by omega) C dX11_longest_7 (by decide) ?_
  refine g_aload_n 1 0 C dX11_longest_12 rfl rfl ?_
  refine g_iload_n 2 1 C dX11_longest_13 rfl rfl ?_
  refine g_callV (As := [.int (nI j)]) (rest := []) C dX11_longest_14 (c_M_at hx1 hj hpl) wC_X11_at wM_X11_108 wI_X11_at wS_X11_at wN_X11 (kne hx1.1) (pf_11 hx1.1) rfl hd_X11_at ⟨by decide, by decide, by decide, by decide⟩ (Nat.le_of_ble_eq_true rfl) (fun r_ S_ h_ => ?_)
  obtain ⟨rfl, rfl⟩ := h_
  change Go X G _ 6 _ _ (mo_ S M1) 17 [(2, .int (nI 0)), (0, .ref x), (1, .int (nI j))] [.int (nI t)]
  refine g_istore_n (lv' := [(3, .int (nI t)), (2, .int (nI 0)), (0, .ref x), (1, .int (nI j))]) C dX11_longest_17 rfl (by decide) rfl ?_
  refine g_iconst (v := -1) C dX11_longest_18 (by decide) ?_
  refine g_istore (lv' := [(4, .int (-1)), (3, .int (nI t)), (2, .int (nI 0)), (0, .ref x), (1, .int (nI j))]) C dX11_longest_19 (by decide) rfl ?_
  refine g_iconst (v := nI 0) C dX11_longest_21 (by decide) ?_
  refine g_istore (lv' := [(5, .int (nI 0)), (4, .int (-1)), (3, .int (nI t)), (2, .int (nI 0)), (0, .ref x), (1, .int (nI j))]) C dX11_longest_22 (by decide) rfl ?_
  have lp : ∀ (n_ : Nat) (k : Nat) (b : Int32), (tL (zH Z t)).length - k < n_ → (k ≤ (tL (zH Z t)).length ∧ b = longN (tL (zH Z t)) (zT Z) k) → Go X G (Qe X G (fun r S' => ∃ M', r = some (.int (A_longest Z (nI j))) ∧ S' = mo_ S M' ∧ mo_r M' = mo_r M ∧ RM M' (askZ Z (nI j))) rm_X11_longest.cells rm_X11_longest.slots) 6 0 0 (mo_ S M1) 24 [(5, .int (nI k)), (4, .int b), (3, .int (nI t)), (2, .int (nI 0)), (0, .ref x), (1, .int (nI j))] [] := by
    intro n_
    induction n_ with
    | zero => intro k b hm_; exact absurd hm_ (Nat.not_lt_zero _)
    | succ n_ ih_ =>
      intro k b hm_ hi
      refine g_iload 0 C dX11_longest_24 rfl ?_
      refine g_aload_n 4 0 C dX11_longest_26 rfl rfl ?_
      refine gr_m_many C dX11_longest_27 hx1.1 wF_X11_23 r_many ?_
      refine g_iload_n 2 3 C dX11_longest_30 rfl rfl ?_
      refine ga_m_many C dX11_longest_31 k_many (by omega) ?_
      refine g_topi (hn1.2.1) ?_
      refine g_ncmp_ge 67 (by omega) (by omega) C dX11_longest_32 (by decide) (fun c32 => ?_) (fun c32 => ?_)
      · refine g_iload 1 C dX11_longest_67 rfl ?_
        exact g_iret C dX11_longest_69 (by decide) (by decide) (⟨M1, by unfold A_longest; rw [ha]; simp only []; rw [hi.2, show k = (tL (zH Z t)).length by omega], rfl, h1, hR1⟩)
      · have hk := hn1.2.2 k (by omega)
        have l1 := lcp_le1 (zT Z) (nm (tL (zH Z t)) k)
        have hkl := hk.1.2.1
        refine g_aload_n 4 0 C dX11_longest_35 rfl rfl ?_
        refine g_iload_n 2 3 C dX11_longest_36 rfl rfl ?_
        refine g_iload 0 C dX11_longest_37 rfl ?_
        refine g_callV (As := [.int (nI t), .int (nI k)]) (rest := []) C dX11_longest_39 (c_M_alike hx1 (by omega) (by omega) hc hc0 hk.2.1 hk.1) wC_X11_alike wM_X11_202 wI_X11_alike wS_X11_alike wN_X11 (kne hx1.1) (pf_11 hx1.1) rfl hd_X11_alike ⟨by decide, by decide, by decide, by decide⟩ (Nat.le_of_ble_eq_true rfl) (fun r_ S_ h_ => ?_)
        obtain ⟨rfl, rfl⟩ := h_
        change Go X G _ 6 _ _ (mo_ S M1) 42 [(5, .int (nI k)), (4, .int b), (3, .int (nI t)), (2, .int (nI 0)), (0, .ref x), (1, .int (nI j))] [.int (nI (lcp (zT Z) (nm (tL (zH Z t)) k)))]
        refine g_aload_n 4 0 C dX11_longest_42 rfl rfl ?_
        refine gr_m_size C dX11_longest_43 hx1.1 wF_X11_46 r_size ?_
        refine g_bipush (v := nI 100) C dX11_longest_46 (by decide) ?_
        refine g_iload_n 2 3 C dX11_longest_48 rfl rfl ?_
        refine g_imul C dX11_longest_49 ?_
        refine g_topi (pk_mul _ _ : _ = nI (100 * t)) ?_
        refine g_iload 0 C dX11_longest_50 rfl ?_
        refine g_iadd C dX11_longest_52 ?_
        refine g_topi (nI_add _ _ : _ = nI (100 * t + k)) ?_
        refine ga_m_size C dX11_longest_53 k_size (by omega) ?_
        refine g_topi (hk.2.1.1) ?_
        refine g_ncmp_ne 61 (by omega) (by omega) C dX11_longest_54 (by decide) (fun c54 => ?_) (fun c54 => ?_)
        · refine g_iinc (v := nI (k + 1)) (lv' := [(5, .int (nI (k + 1))), (4, .int b), (3, .int (nI t)), (2, .int (nI 0)), (0, .ref x), (1, .int (nI j))]) 0 C dX11_longest_61 rfl (nI_add _ 1) (by decide) rfl ?_
          refine g_goto 24 C dX11_longest_64 (by decide) ?_
          exact ih_ (k + 1) _ (by omega) ⟨by omega, by unfold longN; rw [if_neg c54]; exact hi.2⟩
        · refine g_iload 0 C dX11_longest_57 rfl ?_
          refine g_istore (lv' := [(4, .int (nI k)), (5, .int (nI k)), (3, .int (nI t)), (2, .int (nI 0)), (0, .ref x), (1, .int (nI j))]) C dX11_longest_59 (by decide) rfl ?_
          refine g_iinc (v := nI (k + 1)) (lv' := [(5, .int (nI (k + 1))), (4, .int (nI k)), (3, .int (nI t)), (2, .int (nI 0)), (0, .ref x), (1, .int (nI j))]) 1 C dX11_longest_61 rfl (nI_add _ 1) (by decide) rfl ?_
          refine g_goto 24 C dX11_longest_64 (by decide) ?_
          exact ih_ (k + 1) _ (by omega) ⟨by omega, by unfold longN; rw [if_pos c54]⟩
  exact lp ((tL (zH Z t)).length + 1) 0 (-1) (by omega) ⟨Nat.zero_le _, rfl⟩
theorem c_M_longest {l : Launch} {G : Gx} {S : PS} {M : MoT} {x : Nat} (hx : MoOk S M x) {Z : ZT} (hR : RM M Z) (hZ : okZ Z) {p : Int32}  : Ct l yX11_longest cX11_longest 6 (Option.some Jvm.ClassFile.FieldType.int) rm_X11_longest G [.ref x, .int p] (mo_ S M) (fun r S' => ∃ M', r = some (.int (A_longest Z p)) ∧ S' = mo_ S M' ∧ mo_r M' = mo_r M ∧ RM M' (askZ Z p)) := by
  cases ha : askE Z p with
  | inl e => exact c_M_longest_err hx hR hZ ha (askE_neg ha)
  | inr t =>
    obtain ⟨j, hj, rfl, hp, hk, hc0, hm⟩ := askE_inr hZ ha
    exact c_M_longest_ok hx hR hZ hj hp ha hc0
/-- is a number within 0 .. n - 1 -/
def inR (k : Int32) (n : Nat) : Bool := decide (0 ≤ k.toInt ∧ k.toInt < n)
theorem inR_nI {i n : Nat} (hi : i < 2 ^ 31) : inR (nI i) n = decide (i < n) := by
  unfold inR
  rw [nI_toInt hi]
  by_cases h : i < n
  · rw [decide_eq_true h]; exact decide_eq_true ⟨by omega, by omega⟩
  · rw [decide_eq_false h]; exact decide_eq_false (by omega)
theorem inR_spec {k : Int32} {n : Nat} (h : inR k n = true) (hn : n < 2 ^ 31) : ∃ i, i < n ∧ k = nI i := by
  unfold inR at h
  have h := of_decide_eq_true h
  obtain ⟨i, hi, e⟩ := nI_of (x := k) (by rw [Int32.lt_iff_toInt_lt, Int32.toInt_zero]; omega)
  refine ⟨i, ?_, e⟩
  have := nI_toInt hi
  rw [← e] at this
  omega
theorem inR_neg {k : Int32} {n : Nat} (h : k < 0) : inR k n = false := by
  rw [Int32.lt_iff_toInt_lt, Int32.toInt_zero] at h
  exact decide_eq_false (by omega)
theorem inR_big {k : Int32} {n : Nat} (hn : n < 2 ^ 31) (h : nI n ≤ k) : inR k n = false := by
  rw [Int32.le_iff_toInt_le, nI_toInt hn] at h
  exact decide_eq_false (by omega)
theorem inR_in {k : Int32} {n : Nat} (hn : n < 2 ^ 31) (h0 : ¬ k < 0) (h : ¬ nI n ≤ k) : inR k n = true := by
  rw [Int32.le_iff_toInt_le, nI_toInt hn] at h
  rw [Int32.lt_iff_toInt_lt, Int32.toInt_zero] at h0
  exact decide_eq_true ⟨by omega, by omega⟩
theorem draftE_neg {Z : ZT} {p e : Int32} (h : draftE Z p = .inl e) : e < 0 := by
  unfold draftE at h
  split at h
  · rename_i e' he; cases h; exact look_neg he
  · split at h
    · cases h
    · cases h; decide
theorem draftE_inr {Z : ZT} {p : Int32} {t : Nat} (h : draftE Z p = .inr t) : ∃ j, j < 10 ∧ p = nI j ∧ zP Z j = t + 1 ∧ tK (zH Z t) = 6 := by
  unfold draftE at h
  split at h
  · cases h
  · rename_i t' he
    split at h
    · cases h
      rename_i hk
      obtain ⟨j, h1, h2, h3⟩ := look_inr he
      exact ⟨j, h1, h2, h3, hk⟩
    · cases h
theorem rowedE_neg {Z : ZT} {p e : Int32} (h : rowedE Z p = .inl e) : e < 0 := by
  unfold rowedE at h
  split at h
  · rename_i e' he; cases h; exact look_neg he
  · split at h
    · cases h; decide
    · cases h
theorem rowedE_inr {Z : ZT} {p : Int32} {t : Nat} (h : rowedE Z p = .inr t) : ∃ j, j < 10 ∧ p = nI j ∧ zP Z j = t + 1 ∧ ¬ (tK (zH Z t) = 1 ∨ tK (zH Z t) = 6) := by
  unfold rowedE at h
  split at h
  · cases h
  · rename_i t' he
    split at h
    · cases h
    · cases h
      rename_i hk
      obtain ⟨j, h1, h2, h3⟩ := look_inr he
      exact ⟨j, h1, h2, h3, hk⟩
set_option maxRecDepth 100000 in
set_option maxHeartbeats 4000000 in
theorem c_M_isName {l : Launch} {G : Gx} {S : PS} {M : MoT} {x : Nat} (hx : MoOk S M x) {t : Nat} {ls : List Ent} {k : Int32} (ht : t < 12) (hl : namesM M t ls) : Ct l yX11_isName cX11_isName 3 (Option.some Jvm.ClassFile.FieldType.boolean) rm_X11_isName G [.ref x, .int (nI t), .int k] (mo_ S M) (fun r S' => r = some (.int (bI (inR k ls.length))) ∧ S' = mo_ S M) := by
  obtain ⟨q_many, r_many, k_many⟩ := hx.2 3 (by decide)
  have hl1 := hl.1
  refine Ct.mk RX11 "isName" hy_X11_isName (Nat.le_of_ble_eq_true rfl) (fun X hX C => ?_)
  change Go X G _ 3 0 0 (mo_ S M) 0 [(0, .ref x), (1, .int (nI t)), (2, .int k)] []
  refine g_iload_n 2 2 C dX11_isName_0 rfl rfl ?_
  refine g_if_lt 18 C dX11_isName_1 (by decide) (fun c1 => ?_) (fun c1 => ?_)
  · have e := inR_neg (n := ls.length) c1
    refine g_iconst (v := nI 0) C dX11_isName_18 (by decide) ?_
    exact g_zret C dX11_isName_19 (by decide) (by decide) (Or.inl rfl) (⟨by rw [e]; rfl, rfl⟩)
  · refine g_iload_n 2 2 C dX11_isName_4 rfl rfl ?_
    refine g_aload_n 0 0 C dX11_isName_5 rfl rfl ?_
    refine gr_m_many C dX11_isName_6 hx.1 wF_X11_23 r_many ?_
    refine g_iload_n 1 1 C dX11_isName_9 rfl rfl ?_
    refine ga_m_many C dX11_isName_10 k_many (by omega) ?_
    refine g_topi (hl.2.1) ?_
    refine g_icmp_ge 18 C dX11_isName_11 (by decide) (fun c11 => ?_) (fun c11 => ?_)
    · have e := inR_big (by omega) c11
      refine g_iconst (v := nI 0) C dX11_isName_18 (by decide) ?_
      exact g_zret C dX11_isName_19 (by decide) (by decide) (Or.inl rfl) (⟨by rw [e]; rfl, rfl⟩)
    · have e := inR_in (by omega) c1 c11
      refine g_iconst (v := nI 1) C dX11_isName_14 (by decide) ?_
      refine g_goto 19 C dX11_isName_15 (by decide) ?_
      exact g_zret C dX11_isName_19 (by decide) (by decide) (Or.inr rfl) (⟨by rw [e]; rfl, rfl⟩)
set_option maxRecDepth 100000 in
set_option maxHeartbeats 4000000 in
theorem c_M_lay {l : Launch} {G : Gx} {S : PS} {M : MoT} {x : Nat} (hx : MoOk S M x) {t k : Nat} {bs : List Nat} (ht : t < 12) (hk : k < 100) (hn : nameM M t k bs) (hb : okN bs) : Ct l yX11_lay cX11_lay 4 (Option.none : Option Jvm.ClassFile.FieldType) rm_X11_lay G [.ref x, .int (nI t), .int (nI k)] (mo_ S M) (fun r S' => ∃ fn : Nat → Int32, r = none ∧ S' = mo_ S (m_length_ (m_name_ M fn) (nI bs.length)) ∧ ∀ q, q < bs.length → fn q = nI (bs.getD q 0)) := by
  obtain ⟨q_size, r_size, k_size⟩ := hx.2 10 (by decide)
  obtain ⟨q_name, r_name, k_name⟩ := hx.2 13 (by decide)
  have hbl := hb.2.1
  refine Ct.mk RX11 "lay" hy_X11_lay (Nat.le_of_ble_eq_true rfl) (fun X hX C => ?_)
  change Go X G _ 4 0 0 (mo_ S M) 0 [(0, .ref x), (1, .int (nI t)), (2, .int (nI k))] []
  refine g_aload_n 0 0 C dX11_lay_0 rfl rfl ?_
  refine g_aload_n 0 0 C dX11_lay_1 rfl rfl ?_
  refine gr_m_size C dX11_lay_2 hx.1 wF_X11_46 r_size ?_
  refine g_bipush (v := nI 100) C dX11_lay_5 (by decide) ?_
  refine g_iload_n 1 1 C dX11_lay_7 rfl rfl ?_
  refine g_imul C dX11_lay_8 ?_
  refine g_topi (pk_mul _ _ : _ = nI (100 * t)) ?_
  refine g_iload_n 2 2 C dX11_lay_9 rfl rfl ?_
  refine g_iadd C dX11_lay_10 ?_
  refine g_topi (nI_add _ _ : _ = nI (100 * t + k)) ?_
  refine ga_m_size C dX11_lay_11 k_size (by omega) ?_
  refine g_topi (hn.1) ?_
  refine pp_m_length C dX11_lay_12 hx.1 wF_X11_59 (Or.inl rfl) ?_
  refine g_iconst (v := nI 0) C dX11_lay_15 (by decide) ?_
  refine g_istore_n (lv' := [(3, .int (nI 0)), (0, .ref x), (1, .int (nI t)), (2, .int (nI k))]) C dX11_lay_16 rfl (by decide) rfl ?_
  have lp : ∀ (n_ : Nat) (i : Nat) (fn : Nat → Int32), bs.length - i < n_ → (i ≤ bs.length ∧ ∀ q, q < i → fn q = nI (bs.getD q 0)) → Go X G (Qe X G (fun r S' => ∃ fn : Nat → Int32, r = none ∧ S' = mo_ S (m_length_ (m_name_ M fn) (nI bs.length)) ∧ ∀ q, q < bs.length → fn q = nI (bs.getD q 0)) rm_X11_lay.cells rm_X11_lay.slots) 4 0 0 (mo_ S (m_length_ (m_name_ M fn) (nI bs.length))) 17 [(3, .int (nI i)), (0, .ref x), (1, .int (nI t)), (2, .int (nI k))] [] := by
    intro n_
    induction n_ with
    | zero => intro i fn hm_; exact absurd hm_ (Nat.not_lt_zero _)
    | succ n_ ih_ =>
      intro i fn hm_ hi
      refine g_iload_n 0 3 C dX11_lay_17 rfl rfl ?_
      refine g_aload_n 1 0 C dX11_lay_18 rfl rfl ?_
      refine gf_m_length C dX11_lay_19 hx.1 wF_X11_59 ?_
      refine g_topi (rfl) ?_
      refine g_ncmp_ge 44 (by omega) (by omega) C dX11_lay_22 (by decide) (fun c22 => ?_) (fun c22 => ?_)
      · exact g_vret C dX11_lay_44 (by decide) (by decide) (⟨fn, rfl, rfl, fun q hq => hi.2 q (by omega)⟩)
      · refine g_aload_n 1 0 C dX11_lay_25 rfl rfl ?_
        refine gr_m_name C dX11_lay_26 hx.1 wF_X11_56 r_name ?_
        refine g_iload_n 0 3 C dX11_lay_29 rfl rfl ?_
        refine g_aload_n 1 0 C dX11_lay_30 rfl rfl ?_
        refine g_iload_n 2 1 C dX11_lay_31 rfl rfl ?_
        refine g_iload_n 3 2 C dX11_lay_32 rfl rfl ?_
        refine g_iload_n 0 3 C dX11_lay_33 rfl rfl ?_
        refine g_callV (As := [.int (nI t), .int (nI k), .int (nI i)]) (rest := [.int (nI i), .ref q_name]) C dX11_lay_34 (c_M_byteAt (M := m_length_ (m_name_ M fn) (nI bs.length)) hx ht hk (by omega)) wC_X11_byteAt wM_X11_111 wI_X11_byteAt wS_X11_byteAt wN_X11 (kne hx.1) (pf_11 hx.1) rfl hd_X11_byteAt ⟨by decide, by decide, by decide, by decide⟩ (Nat.le_of_ble_eq_true rfl) (fun r_ S_ h_ => ?_)
        obtain ⟨rfl, rfl⟩ := h_
        change Go X G _ 4 _ _ (mo_ S (m_length_ (m_name_ M fn) (nI bs.length))) 37 [(3, .int (nI i)), (0, .ref x), (1, .int (nI t)), (2, .int (nI k))] [.int (m_bytes M (24 * (100 * t + k) + i)), .int (nI i), .ref q_name]
        refine g_topi (hn.2 i (by omega)) ?_
        refine gs_m_name C dX11_lay_37 k_name (by omega) ?_
        refine g_iinc (v := nI (i + 1)) (lv' := [(3, .int (nI (i + 1))), (0, .ref x), (1, .int (nI t)), (2, .int (nI k))]) 0 C dX11_lay_38 rfl (nI_add _ 1) (by decide) rfl ?_
        refine g_goto 17 C dX11_lay_41 (by decide) ?_
        exact ih_ (i + 1) _ (by omega) ⟨by omega, fun q hq => by
          by_cases e : q = i
          · rw [e]; simp [upd]
          · simp only [upd, if_neg e]; exact hi.2 q (by omega)⟩
  exact lp (bs.length + 1) 0 (m_name M) (by omega) ⟨Nat.zero_le _, fun q hq => absurd hq (Nat.not_lt_zero _)⟩
def A_common (Z : ZT) (p a b : Int32) : Int32 := match bookE Z p with
  | .inl e => e
  | .inr t => if inR a (tL (zH Z t)).length && inR b (tL (zH Z t)).length then (if missT (zH Z t) then -6 else nI (lcp (nm (tL (zH Z t)) a.toNatClampNeg) (nm (tL (zH Z t)) b.toNatClampNeg))) else -5
theorem RM.name {M : MoT} {Z : ZT} (h : RM M Z) {fn : Nat → Int32} {v : Int32} : RM (m_length_ (m_name_ M fn) v) Z := h
set_option maxRecDepth 100000 in
set_option maxHeartbeats 4000000 in
theorem c_M_common_err {l : Launch} {G : Gx} {S : PS} {M : MoT} {x : Nat} (hx : MoOk S M x) {Z : ZT} (hR : RM M Z) (hZ : okZ Z) {p e : Int32} (he : bookE Z p = .inl e) (hneg : e < 0) {a b : Int32} : Ct l yX11_common cX11_common 6 (Option.some Jvm.ClassFile.FieldType.int) rm_X11_common G [.ref x, .int p, .int a, .int b] (mo_ S M) (fun r S' => ∃ M', r = some (.int (A_common Z p a b)) ∧ S' = mo_ S M' ∧ mo_r M' = mo_r M ∧ RM M' (Z)) := by
  refine Ct.mk RX11 "common" hy_X11_common (Nat.le_of_ble_eq_true rfl) (fun X hX C => ?_)
  change Go X G _ 6 0 0 (mo_ S M) 0 [(0, .ref x), (1, .int p), (2, .int a), (3, .int b)] []
  refine g_aload_n 0 0 C dX11_common_0 rfl rfl ?_
  refine g_iload_n 1 1 C dX11_common_1 rfl rfl ?_
  refine g_callV (As := [.int p]) (rest := []) C dX11_common_2 (c_M_book hx hR hZ) wC_X11_book wM_X11_175 wI_X11_book wS_X11_book wN_X11 (kne hx.1) (pf_11 hx.1) rfl hd_X11_book ⟨by decide, by decide, by decide, by decide⟩ (Nat.le_of_ble_eq_true rfl) (fun r_ S_ h_ => ?_)
  obtain ⟨rfl, rfl⟩ := h_
  change Go X G _ 6 _ _ (mo_ S M) 5 [(0, .ref x), (1, .int p), (2, .int a), (3, .int b)] [.int (errI (bookE Z p))]
  refine g_topi (show errI (bookE Z p) = e by rw [he]; rfl) ?_
  refine g_istore (lv' := [(4, .int e), (0, .ref x), (1, .int p), (2, .int a), (3, .int b)]) C dX11_common_5 (by decide) rfl ?_
  refine g_iload 0 C dX11_common_7 rfl ?_
  refine g_if_ge 15 C dX11_common_9 (by decide) (fun c9 => ?_) (fun c9 => ?_)
  · exact absurd c9 (Int32.not_le.mpr hneg)
  · refine g_iload 0 C dX11_common_12 rfl ?_
    exact g_iret C dX11_common_14 (by decide) (by decide) (⟨M, by unfold A_common; rw [he], rfl, rfl, hR⟩)
set_option maxRecDepth 100000 in
set_option maxHeartbeats 4000000 in
theorem c_M_common_ok {l : Launch} {G : Gx} {S : PS} {M : MoT} {x : Nat} (hx : MoOk S M x) {Z : ZT} (hR : RM M Z) (hZ : okZ Z) {j t : Nat} (hj : j < 10) (hp : zP Z j = t + 1) (he : bookE Z (nI j) = .inr t) {a b : Int32} : Ct l yX11_common cX11_common 6 (Option.some Jvm.ClassFile.FieldType.int) rm_X11_common G [.ref x, .int (nI j), .int a, .int b] (mo_ S M) (fun r S' => ∃ M', r = some (.int (A_common Z (nI j) a b)) ∧ S' = mo_ S M' ∧ mo_r M' = mo_r M ∧ RM M' (Z)) := by
  obtain ⟨hO, ht⟩ := hZ.th hj hp
  have hT := hR.th hj hp
  have hpl : m_place M j = nI (t + 1) := (hR.2.1 j hj).trans (by rw [hp])
  have hn1 := hT.2.1
  have hn2 := hn1.1
  have hb2 := hO.2.2.2.1
  refine Ct.mk RX11 "common" hy_X11_common (Nat.le_of_ble_eq_true rfl) (fun X hX C => ?_)
  change Go X G _ 6 0 0 (mo_ S M) 0 [(0, .ref x), (1, .int (nI j)), (2, .int a), (3, .int b)] []
  refine g_aload_n 0 0 C dX11_common_0 rfl rfl ?_
  refine g_iload_n 1 1 C dX11_common_1 rfl rfl ?_
  refine g_callV (As := [.int (nI j)]) (rest := []) C dX11_common_2 (c_M_book hx hR hZ) wC_X11_book wM_X11_175 wI_X11_book wS_X11_book wN_X11 (kne hx.1) (pf_11 hx.1) rfl hd_X11_book ⟨by decide, by decide, by decide, by decide⟩ (Nat.le_of_ble_eq_true rfl) (fun r_ S_ h_ => ?_)
  obtain ⟨rfl, rfl⟩ := h_
  change Go X G _ 6 _ _ (mo_ S M) 5 [(0, .ref x), (1, .int (nI j)), (2, .int a), (3, .int b)] [.int (errI (bookE Z (nI j)))]
  refine g_topi (show errI (bookE Z (nI j)) = nI 0 by rw [he]; rfl) ?_
  refine g_istore (lv' := [(4, .int (nI 0)), (0, .ref x), (1, .int (nI j)), (2, .int a), (3, .int b)]) C dX11_common_5 (by decide) rfl ?_
  refine g_iload 0 C dX11_common_7 rfl ?_
  refine g_nif_ge 15 (by omega) C dX11_common_9 (by decide) ?_
  refine g_aload_n 1 0 C dX11_common_15 rfl rfl ?_
  refine g_iload_n 2 1 C dX11_common_16 rfl rfl ?_
  refine g_callV (As := [.int (nI j)]) (rest := []) C dX11_common_17 (c_M_at hx hj hpl) wC_X11_at wM_X11_108 wI_X11_at wS_X11_at wN_X11 (kne hx.1) (pf_11 hx.1) rfl hd_X11_at ⟨by decide, by decide, by decide, by decide⟩ (Nat.le_of_ble_eq_true rfl) (fun r_ S_ h_ => ?_)
  obtain ⟨rfl, rfl⟩ := h_
  change Go X G _ 6 _ _ (mo_ S M) 20 [(4, .int (nI 0)), (0, .ref x), (1, .int (nI j)), (2, .int a), (3, .int b)] [.int (nI t)]
  refine g_istore (lv' := [(5, .int (nI t)), (4, .int (nI 0)), (0, .ref x), (1, .int (nI j)), (2, .int a), (3, .int b)]) C dX11_common_20 (by decide) rfl ?_
  refine g_aload_n 2 0 C dX11_common_22 rfl rfl ?_
  refine g_iload 0 C dX11_common_23 rfl ?_
  refine g_iload_n 4 2 C dX11_common_25 rfl rfl ?_
  refine g_callV (As := [.int (nI t), .int a]) (rest := []) C dX11_common_26 (c_M_isName hx (by omega) hn1) wC_X11_isName wM_X11_199 wI_X11_isName wS_X11_isName wN_X11 (kne hx.1) (pf_11 hx.1) rfl hd_X11_isName ⟨by decide, by decide, by decide, by decide⟩ (Nat.le_of_ble_eq_true rfl) (fun r_ S_ h_ => ?_)
  obtain ⟨rfl, rfl⟩ := h_
  change Go X G _ 6 _ _ (mo_ S M) 29 [(5, .int (nI t)), (4, .int (nI 0)), (0, .ref x), (1, .int (nI j)), (2, .int a), (3, .int b)] [.int (bI (inR a (tL (zH Z t)).length))]
  refine g_if_eq 42 C dX11_common_29 (by decide) (fun c29 => ?_) (fun c29 => ?_)
  · have e := bI_f c29
    refine g_bipush (v := -5) C dX11_common_42 (by decide) ?_
    exact g_iret C dX11_common_44 (by decide) (by decide) (⟨M, by unfold A_common; rw [he]; simp only []; rw [e]; rfl, rfl, rfl, hR⟩)
  · have ea := bI_t c29
    obtain ⟨i1, hi1, rfl⟩ := inR_spec ea (by omega)
    refine g_aload_n 2 0 C dX11_common_32 rfl rfl ?_
    refine g_iload 0 C dX11_common_33 rfl ?_
    refine g_iload_n 5 3 C dX11_common_35 rfl rfl ?_
    refine g_callV (As := [.int (nI t), .int b]) (rest := []) C dX11_common_36 (c_M_isName hx (by omega) hn1) wC_X11_isName wM_X11_199 wI_X11_isName wS_X11_isName wN_X11 (kne hx.1) (pf_11 hx.1) rfl hd_X11_isName ⟨by decide, by decide, by decide, by decide⟩ (Nat.le_of_ble_eq_true rfl) (fun r_ S_ h_ => ?_)
    obtain ⟨rfl, rfl⟩ := h_
    change Go X G _ 6 _ _ (mo_ S M) 39 [(5, .int (nI t)), (4, .int (nI 0)), (0, .ref x), (1, .int (nI j)), (2, .int (nI i1)), (3, .int b)] [.int (bI (inR b (tL (zH Z t)).length))]
    refine g_if_ne 45 C dX11_common_39 (by decide) (fun c39 => ?_) (fun c39 => ?_)
    · have eb := bI_t c39
      obtain ⟨i2, hi2, rfl⟩ := inR_spec eb (by omega)
      refine g_aload_n 2 0 C dX11_common_45 rfl rfl ?_
      refine g_iload 0 C dX11_common_46 rfl ?_
      refine g_callV (As := [.int (nI t)]) (rest := []) C dX11_common_48 (c_M_misses hx (by omega) hT.2.2.2.2.1 hT.2.2.2.2.2.1) wC_X11_misses wM_X11_178 wI_X11_misses wS_X11_misses wN_X11 (kne hx.1) (pf_11 hx.1) rfl hd_X11_misses ⟨by decide, by decide, by decide, by decide⟩ (Nat.le_of_ble_eq_true rfl) (fun r_ S_ h_ => ?_)
      obtain ⟨rfl, rfl⟩ := h_
      change Go X G _ 6 _ _ (mo_ S M) 51 [(5, .int (nI t)), (4, .int (nI 0)), (0, .ref x), (1, .int (nI j)), (2, .int (nI i1)), (3, .int (nI i2))] [.int (bI (missT (zH Z t)))]
      refine g_if_eq 57 C dX11_common_51 (by decide) (fun c51 => ?_) (fun c51 => ?_)
      · have em := bI_f c51
        have hk1 := hn1.2.2 i1 hi1
        have hk2 := hn1.2.2 i2 hi2
        refine g_aload_n 2 0 C dX11_common_57 rfl rfl ?_
        refine g_iload 0 C dX11_common_58 rfl ?_
        refine g_iload_n 4 2 C dX11_common_60 rfl rfl ?_
        refine g_callV (As := [.int (nI t), .int (nI i1)]) (rest := []) C dX11_common_61 (c_M_lay hx (by omega) (by omega) hk1.2.1 hk1.1) wC_X11_lay wM_X11_193 wI_X11_lay wS_X11_lay wN_X11 (kne hx.1) (pf_11 hx.1) rfl hd_X11_lay ⟨by decide, by decide, by decide, by decide⟩ (Nat.le_of_ble_eq_true rfl) (fun r_ S_ h_ => ?_)
        obtain ⟨fn, rfl, rfl, hfn⟩ := h_
        change Go X G _ 6 _ _ (mo_ S (m_length_ (m_name_ M fn) (nI (nm (tL (zH Z t)) i1).length))) 64 [(5, .int (nI t)), (4, .int (nI 0)), (0, .ref x), (1, .int (nI j)), (2, .int (nI i1)), (3, .int (nI i2))] []
        refine g_aload_n 2 0 C dX11_common_64 rfl rfl ?_
        refine g_iload 0 C dX11_common_65 rfl ?_
        refine g_iload_n 5 3 C dX11_common_67 rfl rfl ?_
        refine g_callV (As := [.int (nI t), .int (nI i2)]) (rest := []) C dX11_common_68 (c_M_alike (M := m_length_ (m_name_ M fn) (nI (nm (tL (zH Z t)) i1).length)) (cur := nm (tL (zH Z t)) i1) hx (by omega) (by omega) ⟨rfl, hfn⟩ hk1.1 hk2.2.1 hk2.1) wC_X11_alike wM_X11_202 wI_X11_alike wS_X11_alike wN_X11 (kne hx.1) (pf_11 hx.1) rfl hd_X11_alike ⟨by decide, by decide, by decide, by decide⟩ (Nat.le_of_ble_eq_true rfl) (fun r_ S_ h_ => ?_)
        obtain ⟨rfl, rfl⟩ := h_
        change Go X G _ 6 _ _ (mo_ S (m_length_ (m_name_ M fn) (nI (nm (tL (zH Z t)) i1).length))) 71 [(5, .int (nI t)), (4, .int (nI 0)), (0, .ref x), (1, .int (nI j)), (2, .int (nI i1)), (3, .int (nI i2))] [.int (nI (lcp (nm (tL (zH Z t)) i1) (nm (tL (zH Z t)) i2)))]
        exact g_iret C dX11_common_71 (by decide) (by decide) (⟨_, by unfold A_common; rw [he]; simp only []; rw [ea, eb, em, nI_clamp (by omega), nI_clamp (by omega)]; rfl, rfl, rfl, hR.name⟩)
      · have em := bI_t c51
        refine g_bipush (v := -6) C dX11_common_54 (by decide) ?_
        exact g_iret C dX11_common_56 (by decide) (by decide) (⟨M, by unfold A_common; rw [he]; simp only []; rw [ea, eb, em]; rfl, rfl, rfl, hR⟩)
    · have e := bI_f c39
      refine g_bipush (v := -5) C dX11_common_42 (by decide) ?_
      exact g_iret C dX11_common_44 (by decide) (by decide) (⟨M, by unfold A_common; rw [he]; simp only []; rw [e, Bool.and_false]; rfl, rfl, rfl, hR⟩)
theorem c_M_common {l : Launch} {G : Gx} {S : PS} {M : MoT} {x : Nat} (hx : MoOk S M x) {Z : ZT} (hR : RM M Z) (hZ : okZ Z) {p : Int32} {a b : Int32} : Ct l yX11_common cX11_common 6 (Option.some Jvm.ClassFile.FieldType.int) rm_X11_common G [.ref x, .int p, .int a, .int b] (mo_ S M) (fun r S' => ∃ M', r = some (.int (A_common Z p a b)) ∧ S' = mo_ S M' ∧ mo_r M' = mo_r M ∧ RM M' (Z)) := by
  cases he : bookE Z p with
  | inl e => exact c_M_common_err hx hR hZ he (bookE_neg he)
  | inr t =>
    obtain ⟨j, hj, rfl, hp, -⟩ := bookE_inr he
    exact c_M_common_ok hx hR hZ hj hp he
