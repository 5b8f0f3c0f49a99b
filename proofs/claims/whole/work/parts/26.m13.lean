set_option maxRecDepth 100000 in
set_option maxHeartbeats 400000 in
theorem c_M_unput_err {l : Launch} {G : Gx} {S : PS} {M : MoT} {x : Nat} (hx : MoOk S M x) {Z : ZT} (hR : RM M Z) (hZ : okZ Z) {p e : Int32} (he : draftE Z p = .inl e) (hneg : e < 0)  : Ct l yX11_unput cX11_unput 6 (Option.some Jvm.ClassFile.FieldType.int) rm_X11_unput G [.ref x, .int p] (mo_ S M) (fun r S' => ∃ M', r = some (.int (A_unput Z p)) ∧ S' = mo_ S M' ∧ mo_r M' = mo_r M ∧ RM M' (N_unput Z p)) := by
  obtain ⟨q_many, r_many, k_many⟩ := hx.2 3 (by decide)
  refine Ct.mk RX11 "unput" hy_X11_unput (Nat.le_of_ble_eq_true rfl) (fun X hX C => ?_)
  change Go X G _ 6 0 0 (mo_ S M) 0 [(0, .ref x), (1, .int p)] []
  refine g_aload_n 0 0 C dX11_unput_0 rfl rfl ?_
  refine g_iload_n 1 1 C dX11_unput_1 rfl rfl ?_
  refine g_callV (As := [.int p]) (rest := []) C dX11_unput_2 (c_M_drafted hx hR hZ) wC_X11_drafted wM_X11_123 wI_X11_drafted wS_X11_drafted wN_X11 (kne hx.1) (pf_11 hx.1) rfl hd_X11_drafted ⟨by decide, by decide, by decide, by decide⟩ (Nat.le_of_ble_eq_true rfl) (fun r_ S_ h_ => ?_)
  obtain ⟨rfl, rfl⟩ := h_
  change Go X G _ 6 _ _ (mo_ S M) 5 [(0, .ref x), (1, .int p)] [.int (errI (draftE Z p))]
  refine g_topi (show errI (draftE Z p) = e by rw [he]; rfl) ?_
  refine g_istore_n (lv' := [(2, .int e), (0, .ref x), (1, .int p)]) C dX11_unput_5 rfl (by decide) rfl ?_
  refine g_iload_n 0 2 C dX11_unput_6 rfl rfl ?_
  refine g_if_ge 12 C dX11_unput_7 (by decide) (fun c7 => ?_) (fun c7 => ?_)
  · exact absurd c7 (Int32.not_le.mpr hneg)
  · refine g_iload_n 0 2 C dX11_unput_10 rfl rfl ?_
    exact g_iret C dX11_unput_11 (by decide) (by decide) (⟨M, by unfold A_unput; rw [he], rfl, rfl, (by unfold N_unput; rw [he]; exact hR)⟩)
set_option maxRecDepth 100000 in
set_option maxHeartbeats 400000 in
theorem c_M_unput_ok {l : Launch} {G : Gx} {S : PS} {M : MoT} {x : Nat} (hx : MoOk S M x) {Z : ZT} (hR : RM M Z) (hZ : okZ Z) {j t : Nat} (hj : j < 10) (hp : zP Z j = t + 1) (he : draftE Z (nI j) = .inr t)  : Ct l yX11_unput cX11_unput 6 (Option.some Jvm.ClassFile.FieldType.int) rm_X11_unput G [.ref x, .int (nI j)] (mo_ S M) (fun r S' => ∃ M', r = some (.int (A_unput Z (nI j))) ∧ S' = mo_ S M' ∧ mo_r M' = mo_r M ∧ RM M' (N_unput Z (nI j))) := by
  obtain ⟨q_many, r_many, k_many⟩ := hx.2 3 (by decide)
  obtain ⟨hO, ht⟩ := hZ.th hj hp
  have hT := hR.th hj hp
  have hpl : m_place M j = nI (t + 1) := (hR.2.1 j hj).trans (by rw [hp])
  have hn1 := hT.2.1
  have hn2 := hn1.1
  have hb2 := hO.2.2.2.1
  refine Ct.mk RX11 "unput" hy_X11_unput (Nat.le_of_ble_eq_true rfl) (fun X hX C => ?_)
  change Go X G _ 6 0 0 (mo_ S M) 0 [(0, .ref x), (1, .int (nI j))] []
  refine g_aload_n 0 0 C dX11_unput_0 rfl rfl ?_
  refine g_iload_n 1 1 C dX11_unput_1 rfl rfl ?_
  refine g_callV (As := [.int (nI j)]) (rest := []) C dX11_unput_2 (c_M_drafted hx hR hZ) wC_X11_drafted wM_X11_123 wI_X11_drafted wS_X11_drafted wN_X11 (kne hx.1) (pf_11 hx.1) rfl hd_X11_drafted ⟨by decide, by decide, by decide, by decide⟩ (Nat.le_of_ble_eq_true rfl) (fun r_ S_ h_ => ?_)
  obtain ⟨rfl, rfl⟩ := h_
  change Go X G _ 6 _ _ (mo_ S M) 5 [(0, .ref x), (1, .int (nI j))] [.int (errI (draftE Z (nI j)))]
  refine g_topi (show errI (draftE Z (nI j)) = nI 0 by rw [he]; rfl) ?_
  refine g_istore_n (lv' := [(2, .int (nI 0)), (0, .ref x), (1, .int (nI j))]) C dX11_unput_5 rfl (by decide) rfl ?_
  refine g_iload_n 0 2 C dX11_unput_6 rfl rfl ?_
  refine g_nif_ge 12 (by omega) C dX11_unput_7 (by decide) ?_
  refine g_aload_n 1 0 C dX11_unput_12 rfl rfl ?_
  refine g_callV (As := []) (rest := []) C dX11_unput_13 (c_M_takes hx hR.1 hZ.1.1 hZ.1.2) wC_X11_takes wM_X11_126 wI_X11_takes wS_X11_takes wN_X11 (kne hx.1) (pf_11 hx.1) rfl hd_X11_takes ⟨by decide, by decide, by decide, by decide⟩ (Nat.le_of_ble_eq_true rfl) (fun r_ S_ h_ => ?_)
  obtain ⟨fn, rfl, rfl, hfn⟩ := h_
  change Go X G _ 6 _ _ (mo_ S (m_taped_ (m_length_ (m_name_ M fn) (nI (zT Z).length)) 0)) 16 [(2, .int (nI 0)), (0, .ref x), (1, .int (nI j))] [.int (bI (nameB (zT Z)))]
  have hx1 : MoOk S (m_taped_ (m_length_ (m_name_ M fn) (nI (zT Z).length)) 0) x := hx
  have hR1 : RM (m_taped_ (m_length_ (m_name_ M fn) (nI (zT Z).length)) 0) (zT_ Z []) := hR.scratch
  obtain ⟨-, -, -, -, hk6⟩ := draftE_inr he
  refine g_if_ne 22 C dX11_unput_16 (by decide) (fun c16 => ?_) (fun c16 => ?_)
  · have hn := bI_t c16
    have hc0 := nameB_ok hn hZ.1.2
    have hc : curM (m_taped_ (m_length_ (m_name_ M fn) (nI (zT Z).length)) 0) (zT Z) := ⟨rfl, hfn hn⟩
    have hah : aheadN (tL (zH Z t)) (zT Z) ≤ (tL (zH Z t)).length := fN_le _ _
    refine g_aload_n 1 0 C dX11_unput_22 rfl rfl ?_
    refine g_iload_n 2 1 C dX11_unput_23 rfl rfl ?_
    refine g_callV (As := [.int (nI j)]) (rest := []) C dX11_unput_24 (c_M_at (M := (m_taped_ (m_length_ (m_name_ M fn) (nI (zT Z).length)) 0)) hx hj hpl) wC_X11_at wM_X11_108 wI_X11_at wS_X11_at wN_X11 (kne hx.1) (pf_11 hx.1) rfl hd_X11_at ⟨by decide, by decide, by decide, by decide⟩ (Nat.le_of_ble_eq_true rfl) (fun r_ S_ h_ => ?_)
    obtain ⟨rfl, rfl⟩ := h_
    change Go X G _ 6 _ _ (mo_ S (m_taped_ (m_length_ (m_name_ M fn) (nI (zT Z).length)) 0)) 27 [(2, .int (nI 0)), (0, .ref x), (1, .int (nI j))] [.int (nI t)]
    refine g_istore_n (lv' := [(3, .int (nI t)), (2, .int (nI 0)), (0, .ref x), (1, .int (nI j))]) C dX11_unput_27 rfl (by decide) rfl ?_
    refine g_aload_n 2 0 C dX11_unput_28 rfl rfl ?_
    refine g_iload_n 0 3 C dX11_unput_29 rfl rfl ?_
    refine g_callV (As := [.int (nI t)]) (rest := []) C dX11_unput_30 (c_M_ahead (M := (m_taped_ (m_length_ (m_name_ M fn) (nI (zT Z).length)) 0)) hx (by omega) hn1 hc hc0) wC_X11_ahead wM_X11_130 wI_X11_ahead wS_X11_ahead wN_X11 (kne hx.1) (pf_11 hx.1) rfl hd_X11_ahead ⟨by decide, by decide, by decide, by decide⟩ (Nat.le_of_ble_eq_true rfl) (fun r_ S_ h_ => ?_)
    obtain ⟨rfl, rfl⟩ := h_
    change Go X G _ 6 _ _ (mo_ S (m_taped_ (m_length_ (m_name_ M fn) (nI (zT Z).length)) 0)) 33 [(3, .int (nI t)), (2, .int (nI 0)), (0, .ref x), (1, .int (nI j))] [.int (nI (aheadN (tL (zH Z t)) (zT Z)))]
    refine g_istore (lv' := [(4, .int (nI (aheadN (tL (zH Z t)) (zT Z)))), (3, .int (nI t)), (2, .int (nI 0)), (0, .ref x), (1, .int (nI j))]) C dX11_unput_33 (by decide) rfl ?_
    refine g_aload_n 3 0 C dX11_unput_35 rfl rfl ?_
    refine g_iload_n 1 3 C dX11_unput_36 rfl rfl ?_
    refine g_iload 0 C dX11_unput_37 rfl ?_
    refine g_callV (As := [.int (nI t), .int (nI (aheadN (tL (zH Z t)) (zT Z)))]) (rest := []) C dX11_unput_39 (c_M_isAt (M := (m_taped_ (m_length_ (m_name_ M fn) (nI (zT Z).length)) 0)) hx (by omega) hn1 hc hc0 (by omega)) wC_X11_isAt wM_X11_133 wI_X11_isAt wS_X11_isAt wN_X11 (kne hx.1) (pf_11 hx.1) rfl hd_X11_isAt ⟨by decide, by decide, by decide, by decide⟩ (Nat.le_of_ble_eq_true rfl) (fun r_ S_ h_ => ?_)
    obtain ⟨rfl, rfl⟩ := h_
    change Go X G _ 6 _ _ (mo_ S (m_taped_ (m_length_ (m_name_ M fn) (nI (zT Z).length)) 0)) 42 [(4, .int (nI (aheadN (tL (zH Z t)) (zT Z)))), (3, .int (nI t)), (2, .int (nI 0)), (0, .ref x), (1, .int (nI j))] [.int (bI (isAtN (tL (zH Z t)) (aheadN (tL (zH Z t)) (zT Z)) (zT Z)))]
    refine g_if_ne 47 C dX11_unput_42 (by decide) (fun c42 => ?_) (fun c42 => ?_)
    · have ea := bI_t c42
      have hlt := isAtN_lt ea
      refine g_aload_n 3 0 C dX11_unput_47 rfl rfl ?_
      refine gr_m_many C dX11_unput_48 hx.1 wF_X11_23 r_many ?_
      refine g_iload_n 1 3 C dX11_unput_51 rfl rfl ?_
      refine g_dup2_11 C dX11_unput_52 rfl rfl ?_
      refine ga_m_many C dX11_unput_53 k_many (by omega) ?_
      refine g_topi (hn1.2.1) ?_
      refine g_iconst (v := nI 1) C dX11_unput_54 (by decide) ?_
      refine g_isub C dX11_unput_55 ?_
      refine g_topi (pk_sub (by omega) : _ = nI ((tL (zH Z t)).length - 1)) ?_
      refine gs_m_many C dX11_unput_56 k_many (by omega) ?_
      refine g_iload 0 C dX11_unput_57 rfl ?_
      refine g_istore (lv' := [(5, .int (nI (aheadN (tL (zH Z t)) (zT Z)))), (4, .int (nI (aheadN (tL (zH Z t)) (zT Z)))), (3, .int (nI t)), (2, .int (nI 0)), (0, .ref x), (1, .int (nI j))]) C dX11_unput_59 (by decide) rfl ?_
      have lp : ∀ (n_ : Nat) (q1 : Nat) (M3 : MoT), (tL (zH Z t)).length - q1 < n_ → (aheadN (tL (zH Z t)) (zT Z) ≤ q1 ∧ q1 ≤ (tL (zH Z t)).length - 1 ∧ LF t (m_taped_ (m_length_ (m_name_ M fn) (nI (zT Z).length)) 0) M3 ∧ m_many M3 t = nI ((tL (zH Z t)).length - 1) ∧ (∀ q, q < aheadN (tL (zH Z t)) (zT Z) → entP M3 (100 * t + q) (ent (tL (zH Z t)) q)) ∧ (∀ q, aheadN (tL (zH Z t)) (zT Z) ≤ q → q < q1 → entP M3 (100 * t + q) (ent (tL (zH Z t)) (q + 1))) ∧ ∀ q, q1 < q → q < (tL (zH Z t)).length → entP M3 (100 * t + q) (ent (tL (zH Z t)) q)) → Go X G (Qe X G (fun r S' => ∃ M', r = some (.int (A_unput Z (nI j))) ∧ S' = mo_ S M' ∧ mo_r M' = mo_r M ∧ RM M' (N_unput Z (nI j))) rm_X11_unput.cells rm_X11_unput.slots) 6 0 0 (mo_ S M3) 61 [(5, .int (nI q1)), (4, .int (nI (aheadN (tL (zH Z t)) (zT Z)))), (3, .int (nI t)), (2, .int (nI 0)), (0, .ref x), (1, .int (nI j))] [] := by
        intro n_
        induction n_ with
        | zero => intro q1 M3 hm_; exact absurd hm_ (Nat.not_lt_zero _)
        | succ n_ ih_ =>
          intro q1 M3 hm_ hi
          have hx3 := hx1.of hi.2.2.1.mo_r
          obtain ⟨q_many, r_many, k_many⟩ := hx3.2 3 (by decide)
          refine g_iload 0 C dX11_unput_61 rfl ?_
          refine g_aload_n 4 0 C dX11_unput_63 rfl rfl ?_
          refine gr_m_many C dX11_unput_64 hx.1 wF_X11_23 r_many ?_
          refine g_iload_n 2 3 C dX11_unput_67 rfl rfl ?_
          refine ga_m_many C dX11_unput_68 k_many (by omega) ?_
          refine g_topi (hi.2.2.2.1) ?_
          refine g_ncmp_ge 90 (by omega) (by omega) C dX11_unput_69 (by decide) (fun c69 => ?_) (fun c69 => ?_)
          · refine g_iconst (v := nI 1) C dX11_unput_90 (by decide) ?_
            exact g_iret C dX11_unput_91 (by decide) (by decide) (⟨M3, by unfold A_unput; rw [he]; simp only []; rw [hn, ea]; rfl, rfl, (hi.2.2.1.mo_r).trans rfl, by
              unfold N_unput; rw [he]; simp only []; rw [hn, ea, if_pos rfl, if_pos rfl]
              refine rm_lf hR1 hi.2.2.1 hT (namesM_iff.mpr ⟨by rw [delL_len hlt]; omega, by rw [delL_len hlt]; exact hi.2.2.2.1, fun q hq => ?_⟩) hk6
              rw [delL_len hlt] at hq
              rw [ent_del hlt]
              by_cases g : q < aheadN (tL (zH Z t)) (zT Z)
              · rw [if_pos g]; exact hi.2.2.2.2.1 q g
              · rw [if_neg g]; exact hi.2.2.2.2.2.1 q (by omega) (by omega)⟩)
          · refine g_aload_n 4 0 C dX11_unput_72 rfl rfl ?_
            refine g_iload_n 2 3 C dX11_unput_73 rfl rfl ?_
            refine g_iload 0 C dX11_unput_74 rfl ?_
            refine g_iconst (v := nI 1) C dX11_unput_76 (by decide) ?_
            refine g_iadd C dX11_unput_77 ?_
            refine g_topi (nI_add _ _ : _ = nI (q1 + 1)) ?_
            refine g_iload_n 2 3 C dX11_unput_78 rfl rfl ?_
            refine g_iload 0 C dX11_unput_79 rfl ?_
            refine g_callV (As := [.int (nI t), .int (nI (q1 + 1)), .int (nI t), .int (nI q1)]) (rest := []) C dX11_unput_81 (c_M_copy hx3 (by omega) (by omega) (by omega) (by omega) (by omega)) wC_X11_copy wM_X11_119 wI_X11_copy wS_X11_copy wN_X11 (kne hx.1) (pf_11 hx.1) rfl hd_X11_copy ⟨by decide, by decide, by decide, by decide⟩ (Nat.le_of_ble_eq_true rfl) (fun r_ S_ h_ => ?_)
            obtain ⟨rfl, rfl⟩ := h_
            change Go X G _ 6 _ _ (mo_ S (cpM M3 (100 * t + (q1 + 1)) (100 * t + q1))) 84 [(5, .int (nI q1)), (4, .int (nI (aheadN (tL (zH Z t)) (zT Z)))), (3, .int (nI t)), (2, .int (nI 0)), (0, .ref x), (1, .int (nI j))] []
            refine g_iinc (v := nI (q1 + 1)) (lv' := [(5, .int (nI (q1 + 1))), (4, .int (nI (aheadN (tL (zH Z t)) (zT Z)))), (3, .int (nI t)), (2, .int (nI 0)), (0, .ref x), (1, .int (nI j))]) 0 C dX11_unput_84 rfl (nI_add _ 1) (by decide) rfl ?_
            refine g_goto 61 C dX11_unput_87 (by decide) ?_
            exact ih_ (q1 + 1) _ (by omega) ⟨by omega, by omega, hi.2.2.1.trans (LF.cp (by omega) (by omega)), hi.2.2.2.1, fun q h => (hi.2.2.2.2.1 q h).cp_ne (by omega), fun q h1 h2 => by
              by_cases e : q = q1
              · rw [e]; exact (hi.2.2.2.2.2.2 (q1 + 1) (by omega) (by omega)).cp_to
              · exact (hi.2.2.2.2.2.1 q h1 (by omega)).cp_ne (by omega), fun q h1 h2 => (hi.2.2.2.2.2.2 q (by omega) h2).cp_ne (by omega)⟩
      exact lp ((tL (zH Z t)).length + 1) (aheadN (tL (zH Z t)) (zT Z)) (m_many_ (m_taped_ (m_length_ (m_name_ M fn) (nI (zT Z).length)) 0) (upd (m_many (m_taped_ (m_length_ (m_name_ M fn) (nI (zT Z).length)) 0)) t (nI ((tL (zH Z t)).length - 1)))) (by omega) ⟨by omega, by omega, ⟨m_size M, m_bytes M, m_value M, _, rfl, fun p e _ h => h, fun q hq => pk_un hq⟩, pk_us, fun q h => hn1.2.2 q (by omega), fun q h1 h2 => absurd h1 (by omega), fun q h1 h2 => hn1.2.2 q h2⟩
    · have ea := bI_f c42
      refine g_iconst (v := nI 0) C dX11_unput_45 (by decide) ?_
      exact g_iret C dX11_unput_46 (by decide) (by decide) (⟨_, by unfold A_unput; rw [he]; simp only []; rw [hn, ea]; rfl, rfl, rfl, by unfold N_unput; rw [he]; simp only []; rw [hn, ea, if_pos rfl, if_neg (by decide)]; exact hR1⟩)
  · have hn := bI_f c16
    refine g_bipush (v := -5) C dX11_unput_19 (by decide) ?_
    exact g_iret C dX11_unput_21 (by decide) (by decide) (⟨_, by unfold A_unput; rw [he]; simp only []; rw [hn]; rfl, rfl, rfl, by unfold N_unput; rw [he]; simp only []; rw [hn]; exact hR1⟩)
theorem c_M_unput {l : Launch} {G : Gx} {S : PS} {M : MoT} {x : Nat} (hx : MoOk S M x) {Z : ZT} (hR : RM M Z) (hZ : okZ Z) {p : Int32}  : Ct l yX11_unput cX11_unput 6 (Option.some Jvm.ClassFile.FieldType.int) rm_X11_unput G [.ref x, .int p] (mo_ S M) (fun r S' => ∃ M', r = some (.int (A_unput Z p)) ∧ S' = mo_ S M' ∧ mo_r M' = mo_r M ∧ RM M' (N_unput Z p)) := by
  cases he : draftE Z p with
  | inl e => exact c_M_unput_err hx hR hZ he (draftE_neg he)
  | inr t =>
    obtain ⟨j, hj, rfl, hp, -⟩ := draftE_inr he
    exact c_M_unput_ok hx hR hZ hj hp he
