def outP (p : Int32) : Prop := p < 0 ∨ nI 10 ≤ p
def A_draft (p : Int32) : Int32 := if p < 0 ∨ nI 10 ≤ p then -2 else 0
/-- a place gets a new thing -/
def newZ (Z : ZT) (p : Int32) (T : Th) : ZT := setT (zP_ Z (setP (zP Z) p.toNatClampNeg (madeN (zP Z) + 1))) (madeN (zP Z)) T
def N_draft (Z : ZT) (p : Int32) : ZT := if p < 0 ∨ nI 10 ≤ p then Z else newZ Z p (6, [], [], false, false)
def A_row (p n : Int32) : Int32 := if p < 0 ∨ nI 10 ≤ p then -2 else if inR n 4001 then n else -5
def N_row (Z : ZT) (p n : Int32) : ZT := if p < 0 ∨ nI 10 ≤ p then Z else if inR n 4001 then newZ Z p (7, [], List.replicate n.toNatClampNeg 0, false, false) else Z
theorem mkM_draft {M : MoT} {t : Nat} : thM (mkM M t 6) t (6, [], [], false, false) := ⟨mkM_new.1, mkM_new.2.1, mkM_new.2.2.1, fun i hi => absurd hi (Nat.not_lt_zero _), mkM_new.2.2.2.1, mkM_new.2.2.2.2, fun h => absurd h (by decide)⟩
set_option maxRecDepth 100000 in
set_option maxHeartbeats 400000 in
theorem c_M_draft_out {l : Launch} {G : Gx} {S : PS} {M : MoT} {x : Nat} (hx : MoOk S M x) {Z : ZT} (hR : RM M Z) (hZ : okZ Z) {p : Int32} (hp : p < 0 ∨ nI 10 ≤ p) : Ct l yX11_draft cX11_draft 3 (Option.some Jvm.ClassFile.FieldType.int) rm_X11_draft G [.ref x, .int p] (mo_ S M) (fun r S' => ∃ M', r = some (.int (A_draft p)) ∧ S' = mo_ S M' ∧ mo_r M' = mo_r M ∧ RM M' (N_draft Z p)) := by
  obtain ⟨q_place, r_place, k_place⟩ := hx.2 1 (by decide)
  refine Ct.mk RX11 "draft" hy_X11_draft (Nat.le_of_ble_eq_true rfl) (fun X hX C => ?_)
  change Go X G _ 3 0 0 (mo_ S M) 0 [(0, .ref x), (1, .int p)] []
  refine g_aload_n 0 0 C dX11_draft_0 rfl rfl ?_
  refine g_iload_n 1 1 C dX11_draft_1 rfl rfl ?_
  refine g_callV (As := [.int p]) (rest := []) C dX11_draft_2 (c_M_isPlace_out hp) wC_X11_isPlace wM_X11_97 wI_X11_isPlace wS_X11_isPlace wN_X11 (kne hx.1) (pf_11 hx.1) rfl hd_X11_isPlace ⟨by decide, by decide, by decide, by decide⟩ (Nat.le_of_ble_eq_true rfl) (fun r_ S_ h_ => ?_)
  obtain ⟨rfl, rfl⟩ := h_
  change Go X G _ 3 _ _ (mo_ S M) 5 [(0, .ref x), (1, .int p)] [.int (nI 0)]
  refine g_nif_ne 11 (by decide) C dX11_draft_5 (by decide) (fun c => absurd c (by decide)) (fun _ => ?_)
  refine g_bipush (v := -2) C dX11_draft_8 (by decide) ?_
  exact g_iret C dX11_draft_10 (by decide) (by decide) (⟨M, by unfold A_draft; rw [if_pos hp], rfl, rfl, by unfold N_draft; rw [if_pos hp]; exact hR⟩)
set_option maxRecDepth 100000 in
set_option maxHeartbeats 400000 in
theorem c_M_draft_in {l : Launch} {G : Gx} {S : PS} {M : MoT} {x : Nat} (hx : MoOk S M x) {Z : ZT} (hR : RM M Z) (hZ : okZ Z) {j : Nat} (hj : j < 10) : Ct l yX11_draft cX11_draft 3 (Option.some Jvm.ClassFile.FieldType.int) rm_X11_draft G [.ref x, .int (nI j)] (mo_ S M) (fun r S' => ∃ M', r = some (.int (A_draft (nI j))) ∧ S' = mo_ S M' ∧ mo_r M' = mo_r M ∧ RM M' (N_draft Z (nI j))) := by
  obtain ⟨q_place, r_place, k_place⟩ := hx.2 1 (by decide)
  have hm := madeN_le (zP Z)
  refine Ct.mk RX11 "draft" hy_X11_draft (Nat.le_of_ble_eq_true rfl) (fun X hX C => ?_)
  change Go X G _ 3 0 0 (mo_ S M) 0 [(0, .ref x), (1, .int (nI j))] []
  refine g_aload_n 0 0 C dX11_draft_0 rfl rfl ?_
  refine g_iload_n 1 1 C dX11_draft_1 rfl rfl ?_
  refine g_callV (As := [.int (nI j)]) (rest := []) C dX11_draft_2 (c_M_isPlace_in hj) wC_X11_isPlace wM_X11_97 wI_X11_isPlace wS_X11_isPlace wN_X11 (kne hx.1) (pf_11 hx.1) rfl hd_X11_isPlace ⟨by decide, by decide, by decide, by decide⟩ (Nat.le_of_ble_eq_true rfl) (fun r_ S_ h_ => ?_)
  obtain ⟨rfl, rfl⟩ := h_
  change Go X G _ 3 _ _ (mo_ S M) 5 [(0, .ref x), (1, .int (nI j))] [.int (nI 1)]
  refine g_nif_ne 11 (by decide) C dX11_draft_5 (by decide) (fun _ => ?_) (fun c => absurd c (by decide))
  refine g_aload_n 0 0 C dX11_draft_11 rfl rfl ?_
  refine g_bipush (v := nI 6) C dX11_draft_12 (by decide) ?_
  refine g_callV (As := [.int (nI 6)]) (rest := []) C dX11_draft_14 (c_M_made hx hR hZ) wC_X11_made wM_X11_101 wI_X11_made wS_X11_made wN_X11 (kne hx.1) (pf_11 hx.1) rfl hd_X11_made ⟨by decide, by decide, by decide, by decide⟩ (Nat.le_of_ble_eq_true rfl) (fun r_ S_ h_ => ?_)
  obtain ⟨rfl, rfl⟩ := h_
  change Go X G _ 3 _ _ (mo_ S (mkM M (madeN (zP Z)) 6)) 17 [(0, .ref x), (1, .int (nI j))] [.int (nI (madeN (zP Z)))]
  refine g_istore_n (lv' := [(2, .int (nI (madeN (zP Z)))), (0, .ref x), (1, .int (nI j))]) C dX11_draft_17 rfl (by decide) rfl ?_
  refine g_aload_n 1 0 C dX11_draft_18 rfl rfl ?_
  refine gr_m_place C dX11_draft_19 hx.1 wF_X11_17 r_place ?_
  refine g_iload_n 2 1 C dX11_draft_22 rfl rfl ?_
  refine g_iload_n 0 2 C dX11_draft_23 rfl rfl ?_
  refine g_iconst (v := nI 1) C dX11_draft_24 (by decide) ?_
  refine g_iadd C dX11_draft_25 ?_
  refine g_topi (nI_add _ _ : _ = nI (madeN (zP Z) + 1)) ?_
  refine gs_m_place C dX11_draft_26 k_place (by omega) ?_
  refine g_iconst (v := nI 0) C dX11_draft_27 (by decide) ?_
  exact g_iret C dX11_draft_28 (by decide) (by decide) (⟨_, by unfold A_draft; rw [if_neg (nI_in10 hj)]; rfl, rfl, rfl, by unfold N_draft newZ; rw [if_neg (nI_in10 hj), nI_clamp (by omega)]; exact rm_newT hR.mk (madeN_new _) mkM_draft⟩)
theorem c_M_draft {l : Launch} {G : Gx} {S : PS} {M : MoT} {x : Nat} (hx : MoOk S M x) {Z : ZT} (hR : RM M Z) (hZ : okZ Z) {p : Int32} : Ct l yX11_draft cX11_draft 3 (Option.some Jvm.ClassFile.FieldType.int) rm_X11_draft G [.ref x, .int p] (mo_ S M) (fun r S' => ∃ M', r = some (.int (A_draft p)) ∧ S' = mo_ S M' ∧ mo_r M' = mo_r M ∧ RM M' (N_draft Z p)) := by
  rcases look_cases Z p with h | ⟨j, hj, rfl, -⟩
  · exact c_M_draft_out hx hR hZ h
  · exact c_M_draft_in hx hR hZ hj
set_option maxRecDepth 100000 in
set_option maxHeartbeats 400000 in
theorem c_M_row_out {l : Launch} {G : Gx} {S : PS} {M : MoT} {x : Nat} (hx : MoOk S M x) {Z : ZT} (hR : RM M Z) (hZ : okZ Z) {p n : Int32} (hp : p < 0 ∨ nI 10 ≤ p) : Ct l yX11_row cX11_row 5 (Option.some Jvm.ClassFile.FieldType.int) rm_X11_row G [.ref x, .int p, .int n] (mo_ S M) (fun r S' => ∃ M', r = some (.int (A_row p n)) ∧ S' = mo_ S M' ∧ mo_r M' = mo_r M ∧ RM M' (N_row Z p n)) := by
  obtain ⟨q_bits, r_bits, k_bits⟩ := hx.2 4 (by decide)
  obtain ⟨q_row, r_row, k_row⟩ := hx.2 9 (by decide)
  obtain ⟨q_place, r_place, k_place⟩ := hx.2 1 (by decide)
  refine Ct.mk RX11 "row" hy_X11_row (Nat.le_of_ble_eq_true rfl) (fun X hX C => ?_)
  change Go X G _ 5 0 0 (mo_ S M) 0 [(0, .ref x), (1, .int p), (2, .int n)] []
  refine g_aload_n 0 0 C dX11_row_0 rfl rfl ?_
  refine g_iload_n 1 1 C dX11_row_1 rfl rfl ?_
  refine g_callV (As := [.int p]) (rest := []) C dX11_row_2 (c_M_isPlace_out hp) wC_X11_isPlace wM_X11_97 wI_X11_isPlace wS_X11_isPlace wN_X11 (kne hx.1) (pf_11 hx.1) rfl hd_X11_isPlace ⟨by decide, by decide, by decide, by decide⟩ (Nat.le_of_ble_eq_true rfl) (fun r_ S_ h_ => ?_)
  obtain ⟨rfl, rfl⟩ := h_
  change Go X G _ 5 _ _ (mo_ S M) 5 [(0, .ref x), (1, .int p), (2, .int n)] [.int (nI 0)]
  refine g_nif_ne 11 (by decide) C dX11_row_5 (by decide) (fun c => absurd c (by decide)) (fun _ => ?_)
  refine g_bipush (v := -2) C dX11_row_8 (by decide) ?_
  exact g_iret C dX11_row_10 (by decide) (by decide) (⟨M, by unfold A_row; rw [if_pos hp], rfl, rfl, by unfold N_row; rw [if_pos hp]; exact hR⟩)
set_option maxRecDepth 100000 in
set_option maxHeartbeats 400000 in
theorem c_M_row_in {l : Launch} {G : Gx} {S : PS} {M : MoT} {x : Nat} (hx : MoOk S M x) {Z : ZT} (hR : RM M Z) (hZ : okZ Z) {j : Nat} {n : Int32} (hj : j < 10) : Ct l yX11_row cX11_row 5 (Option.some Jvm.ClassFile.FieldType.int) rm_X11_row G [.ref x, .int (nI j), .int n] (mo_ S M) (fun r S' => ∃ M', r = some (.int (A_row (nI j) n)) ∧ S' = mo_ S M' ∧ mo_r M' = mo_r M ∧ RM M' (N_row Z (nI j) n)) := by
  obtain ⟨q_bits, r_bits, k_bits⟩ := hx.2 4 (by decide)
  obtain ⟨q_row, r_row, k_row⟩ := hx.2 9 (by decide)
  obtain ⟨q_place, r_place, k_place⟩ := hx.2 1 (by decide)
  have hm := madeN_le (zP Z)
  refine Ct.mk RX11 "row" hy_X11_row (Nat.le_of_ble_eq_true rfl) (fun X hX C => ?_)
  change Go X G _ 5 0 0 (mo_ S M) 0 [(0, .ref x), (1, .int (nI j)), (2, .int n)] []
  refine g_aload_n 0 0 C dX11_row_0 rfl rfl ?_
  refine g_iload_n 1 1 C dX11_row_1 rfl rfl ?_
  refine g_callV (As := [.int (nI j)]) (rest := []) C dX11_row_2 (c_M_isPlace_in hj) wC_X11_isPlace wM_X11_97 wI_X11_isPlace wS_X11_isPlace wN_X11 (kne hx.1) (pf_11 hx.1) rfl hd_X11_isPlace ⟨by decide, by decide, by decide, by decide⟩ (Nat.le_of_ble_eq_true rfl) (fun r_ S_ h_ => ?_)
  obtain ⟨rfl, rfl⟩ := h_
  change Go X G _ 5 _ _ (mo_ S M) 5 [(0, .ref x), (1, .int (nI j)), (2, .int n)] [.int (nI 1)]
  refine g_nif_ne 11 (by decide) C dX11_row_5 (by decide) (fun _ => ?_) (fun c => absurd c (by decide))
  refine g_iload_n 2 2 C dX11_row_11 rfl rfl ?_
  refine g_if_lt 22 C dX11_row_12 (by decide) (fun c12 => ?_) (fun c12 => ?_)
  · have e := inR_neg (n := 4001) c12
    refine g_bipush (v := -5) C dX11_row_22 (by decide) ?_
    exact g_iret C dX11_row_24 (by decide) (by decide) (⟨M, by unfold A_row; rw [if_neg (nI_in10 hj), e]; rfl, rfl, rfl, by unfold N_row; rw [if_neg (nI_in10 hj), e]; exact hR⟩)
  · refine g_iload_n 2 2 C dX11_row_15 rfl rfl ?_
    refine g_sipush (v := nI 4000) C dX11_row_16 (by decide) ?_
    refine g_icmp_le 25 C dX11_row_19 (by decide) (fun c19 => ?_) (fun c19 => ?_)
    · have en := inR_in1 (n := 4000) (by omega) c12 c19
      obtain ⟨i1, hi1, rfl⟩ := inR_spec en (by omega)
      refine g_aload_n 0 0 C dX11_row_25 rfl rfl ?_
      refine g_bipush (v := nI 7) C dX11_row_26 (by decide) ?_
      refine g_callV (As := [.int (nI 7)]) (rest := []) C dX11_row_28 (c_M_made hx hR hZ) wC_X11_made wM_X11_101 wI_X11_made wS_X11_made wN_X11 (kne hx.1) (pf_11 hx.1) rfl hd_X11_made ⟨by decide, by decide, by decide, by decide⟩ (Nat.le_of_ble_eq_true rfl) (fun r_ S_ h_ => ?_)
      obtain ⟨rfl, rfl⟩ := h_
      change Go X G _ 5 _ _ (mo_ S (mkM M (madeN (zP Z)) 7)) 31 [(0, .ref x), (1, .int (nI j)), (2, .int (nI i1))] [.int (nI (madeN (zP Z)))]
      refine g_istore_n (lv' := [(3, .int (nI (madeN (zP Z)))), (0, .ref x), (1, .int (nI j)), (2, .int (nI i1))]) C dX11_row_31 rfl (by decide) rfl ?_
      refine g_aload_n 1 0 C dX11_row_32 rfl rfl ?_
      refine gr_m_bits C dX11_row_33 hx.1 wF_X11_26 r_bits ?_
      refine g_iload_n 0 3 C dX11_row_36 rfl rfl ?_
      refine g_iload_n 3 2 C dX11_row_37 rfl rfl ?_
      refine gs_m_bits C dX11_row_38 k_bits (by omega) ?_
      refine g_iconst (v := nI 0) C dX11_row_39 (by decide) ?_
      refine g_istore (lv' := [(4, .int (nI 0)), (3, .int (nI (madeN (zP Z)))), (0, .ref x), (1, .int (nI j)), (2, .int (nI i1))]) C dX11_row_40 (by decide) rfl ?_
      have lp : ∀ (n_ : Nat) (k : Nat) (fr : Nat → Int32), i1 - k < n_ → (k ≤ i1 ∧ (∀ q, q < k → fr (4900 * madeN (zP Z) + q) = nI 0) ∧ ∀ q, q < 4900 * madeN (zP Z) ∨ 4900 * madeN (zP Z) + k ≤ q → fr q = m_row M q) → Go X G (Qe X G (fun r S' => ∃ M', r = some (.int (A_row (nI j) (nI i1))) ∧ S' = mo_ S M' ∧ mo_r M' = mo_r M ∧ RM M' (N_row Z (nI j) (nI i1))) rm_X11_row.cells rm_X11_row.slots) 5 0 0 (mo_ S (m_row_ (m_bits_ (mkM M (madeN (zP Z)) 7) (upd (m_bits (mkM M (madeN (zP Z)) 7)) (madeN (zP Z)) (nI i1))) fr)) 42 [(4, .int (nI k)), (3, .int (nI (madeN (zP Z)))), (0, .ref x), (1, .int (nI j)), (2, .int (nI i1))] [] := by
        intro n_
        induction n_ with
        | zero => intro k fr hm_; exact absurd hm_ (Nat.not_lt_zero _)
        | succ n_ ih_ =>
          intro k fr hm_ hk
          refine g_iload 0 C dX11_row_42 rfl ?_
          refine g_iload_n 4 2 C dX11_row_44 rfl rfl ?_
          refine g_ncmp_ge 68 (by omega) (by omega) C dX11_row_45 (by decide) (fun c45 => ?_) (fun c45 => ?_)
          · refine g_aload_n 2 0 C dX11_row_68 rfl rfl ?_
            refine gr_m_place C dX11_row_69 hx.1 wF_X11_17 r_place ?_
            refine g_iload_n 3 1 C dX11_row_72 rfl rfl ?_
            refine g_iload_n 1 3 C dX11_row_73 rfl rfl ?_
            refine g_iconst (v := nI 1) C dX11_row_74 (by decide) ?_
            refine g_iadd C dX11_row_75 ?_
            refine g_topi (nI_add _ _ : _ = nI (madeN (zP Z) + 1)) ?_
            refine gs_m_place C dX11_row_76 k_place (by omega) ?_
            refine g_iload_n 4 2 C dX11_row_77 rfl rfl ?_
            exact g_iret C dX11_row_78 (by decide) (by decide) (⟨_, by unfold A_row; rw [if_neg (nI_in10 hj), en]; rfl, rfl, rfl, by
              unfold N_row newZ; rw [if_neg (nI_in10 hj), en, if_pos rfl, nI_clamp (by omega), nI_clamp (by omega)]
              have hR2 : RM (m_row_ (m_bits_ (mkM M (madeN (zP Z)) 7) (upd (m_bits (mkM M (madeN (zP Z)) 7)) (madeN (zP Z)) (nI i1))) fr) Z := by
                have h0 := hR.mk (w := 7)
                refine ⟨h0.1, h0.2.1, fun q hq => ?_, h0.2.2.2⟩
                have h1 := h0.2.2.1 q hq
                have hne : q ≠ madeN (zP Z) := fun e => madeN_new (zP Z) (e ▸ hq)
                have hl := (hZ.2.2.1 q hq).2.2.2.1
                exact ⟨h1.1, h1.2.1, (pk_un hne).trans h1.2.2.1, fun i hi => (hk.2.2 _ (by omega)).trans (h1.2.2.2.1 i hi), h1.2.2.2.2⟩
              refine rm_newT hR2 (madeN_new _) ⟨mkM_new.1, mkM_new.2.1, ?_, fun i hi => ?_, mkM_new.2.2.2.1, mkM_new.2.2.2.2, fun h => absurd h (by show ¬ 7 ≤ 5; decide)⟩
              · show upd _ _ (nI i1) (madeN (zP Z)) = nI (List.replicate i1 0).length
                rw [pk_us, List.length_replicate]
              · have hi : i < (List.replicate i1 0).length := hi
                rw [List.length_replicate] at hi
                refine (hk.2.1 i (by omega)).trans ?_
                show nI 0 = nI ((List.replicate i1 0).getD i 0)
                rw [List.getD_eq_getElem?_getD, List.getElem?_replicate]
                simp [hi]⟩)
          · refine g_aload_n 2 0 C dX11_row_48 rfl rfl ?_
            refine gr_m_row C dX11_row_49 hx.1 wF_X11_43 r_row ?_
            refine g_sipush (v := nI 4900) C dX11_row_52 (by decide) ?_
            refine g_iload_n 1 3 C dX11_row_55 rfl rfl ?_
            refine g_imul C dX11_row_56 ?_
            refine g_topi (pk_mul _ _ : _ = nI (4900 * (madeN (zP Z)))) ?_
            refine g_iload 0 C dX11_row_57 rfl ?_
            refine g_iadd C dX11_row_59 ?_
            refine g_topi (nI_add _ _ : _ = nI (4900 * (madeN (zP Z)) + k)) ?_
            refine g_iconst (v := nI 0) C dX11_row_60 (by decide) ?_
            refine gs_m_row C dX11_row_61 k_row (by omega) ?_
            refine g_iinc (v := nI (k + 1)) (lv' := [(4, .int (nI (k + 1))), (3, .int (nI (madeN (zP Z)))), (0, .ref x), (1, .int (nI j)), (2, .int (nI i1))]) 0 C dX11_row_62 rfl (nI_add _ 1) (by decide) rfl ?_
            refine g_goto 42 C dX11_row_65 (by decide) ?_
            exact ih_ (k + 1) _ (by omega) ⟨by omega, fun q hq => by
              by_cases e : q = k
              · rw [e]; exact pk_us
              · exact (pk_un (by omega)).trans (hk.2.1 q (by omega)), fun q hq => (pk_un (by omega)).trans (hk.2.2 q (by omega))⟩
      exact lp (i1 + 1) 0 (m_row M) (by omega) ⟨by omega, fun q hq => absurd hq (Nat.not_lt_zero _), fun q _ => rfl⟩
    · have e := inR_big1 (n := 4000) (by omega) c19
      refine g_bipush (v := -5) C dX11_row_22 (by decide) ?_
      exact g_iret C dX11_row_24 (by decide) (by decide) (⟨M, by unfold A_row; rw [if_neg (nI_in10 hj), e]; rfl, rfl, rfl, by unfold N_row; rw [if_neg (nI_in10 hj), e]; exact hR⟩)
theorem c_M_row {l : Launch} {G : Gx} {S : PS} {M : MoT} {x : Nat} (hx : MoOk S M x) {Z : ZT} (hR : RM M Z) (hZ : okZ Z) {p n : Int32} : Ct l yX11_row cX11_row 5 (Option.some Jvm.ClassFile.FieldType.int) rm_X11_row G [.ref x, .int p, .int n] (mo_ S M) (fun r S' => ∃ M', r = some (.int (A_row p n)) ∧ S' = mo_ S M' ∧ mo_r M' = mo_r M ∧ RM M' (N_row Z p n)) := by
  rcases look_cases Z p with h | ⟨j, hj, rfl, -⟩
  · exact c_M_row_out hx hR hZ h
  · exact c_M_row_in hx hR hZ hj
