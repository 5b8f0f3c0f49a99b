def A_name (Z : ZT) (p k : Int32) : Int32 := match bookE Z p with
  | .inl e => e
  | .inr t => if inR k (tL (zH Z t)).length then (if missT (zH Z t) then -6 else nI (nm (tL (zH Z t)) k.toNatClampNeg).length) else -5
def N_name (Z : ZT) (p k : Int32) : ZT := match bookE Z p with
  | .inl _ => Z
  | .inr t => if inR k (tL (zH Z t)).length && !missT (zH Z t) then zT_ Z (nm (tL (zH Z t)) k.toNatClampNeg) else Z
theorem RM.tape {M : MoT} {Z : ZT} (h : RM M Z) {f : Nat → Int32} {v : Int32} {tp : List Nat} (h1 : v = nI tp.length) (h2 : ∀ i, i < tp.length → f i = nI (tp.getD i 0)) : RM (m_tape_ (m_taped_ M v) f) (zT_ Z tp) := ⟨⟨h1, h2⟩, h.2.1, h.2.2.1, h.2.2.2⟩
set_option maxRecDepth 100000 in
set_option maxHeartbeats 400000 in
theorem c_M_name_err {l : Launch} {G : Gx} {S : PS} {M : MoT} {x : Nat} (hx : MoOk S M x) {Z : ZT} (hR : RM M Z) (hZ : okZ Z) {p e : Int32} (he : bookE Z p = .inl e) (hneg : e < 0) {k : Int32} : Ct l yX11_name cX11_name 6 (Option.some Jvm.ClassFile.FieldType.int) rm_X11_name G [.ref x, .int p, .int k] (mo_ S M) (fun r S' => ∃ M', r = some (.int (A_name Z p k)) ∧ S' = mo_ S M' ∧ mo_r M' = mo_r M ∧ RM M' (N_name Z p k)) := by
  obtain ⟨q_size, r_size, k_size⟩ := hx.2 10 (by decide)
  obtain ⟨q_tape, r_tape, k_tape⟩ := hx.2 0 (by decide)
  refine Ct.mk RX11 "name" hy_X11_name (Nat.le_of_ble_eq_true rfl) (fun X hX C => ?_)
  change Go X G _ 6 0 0 (mo_ S M) 0 [(0, .ref x), (1, .int p), (2, .int k)] []
  refine g_aload_n 0 0 C dX11_name_0 rfl rfl ?_
  refine g_iload_n 1 1 C dX11_name_1 rfl rfl ?_
  refine g_callV (As := [.int p]) (rest := []) C dX11_name_2 (c_M_book hx hR hZ) wC_X11_book wM_X11_175 wI_X11_book wS_X11_book wN_X11 (kne hx.1) (pf_11 hx.1) rfl hd_X11_book ⟨by decide, by decide, by decide, by decide⟩ (Nat.le_of_ble_eq_true rfl) (fun r_ S_ h_ => ?_)
  obtain ⟨rfl, rfl⟩ := h_
  change Go X G _ 6 _ _ (mo_ S M) 5 [(0, .ref x), (1, .int p), (2, .int k)] [.int (errI (bookE Z p))]
  refine g_topi (show errI (bookE Z p) = e by rw [he]; rfl) ?_
  refine g_istore_n (lv' := [(3, .int e), (0, .ref x), (1, .int p), (2, .int k)]) C dX11_name_5 rfl (by decide) rfl ?_
  refine g_iload_n 0 3 C dX11_name_6 rfl rfl ?_
  refine g_if_ge 12 C dX11_name_7 (by decide) (fun c7 => ?_) (fun c7 => ?_)
  · exact absurd c7 (Int32.not_le.mpr hneg)
  · refine g_iload_n 0 3 C dX11_name_10 rfl rfl ?_
    exact g_iret C dX11_name_11 (by decide) (by decide) (⟨M, by unfold A_name; rw [he], rfl, rfl, (by unfold N_name; rw [he]; exact hR)⟩)
set_option maxRecDepth 100000 in
set_option maxHeartbeats 400000 in
theorem c_M_name_ok {l : Launch} {G : Gx} {S : PS} {M : MoT} {x : Nat} (hx : MoOk S M x) {Z : ZT} (hR : RM M Z) (hZ : okZ Z) {j t : Nat} (hj : j < 10) (hp : zP Z j = t + 1) (he : bookE Z (nI j) = .inr t) {k : Int32} : Ct l yX11_name cX11_name 6 (Option.some Jvm.ClassFile.FieldType.int) rm_X11_name G [.ref x, .int (nI j), .int k] (mo_ S M) (fun r S' => ∃ M', r = some (.int (A_name Z (nI j) k)) ∧ S' = mo_ S M' ∧ mo_r M' = mo_r M ∧ RM M' (N_name Z (nI j) k)) := by
  obtain ⟨q_size, r_size, k_size⟩ := hx.2 10 (by decide)
  obtain ⟨q_tape, r_tape, k_tape⟩ := hx.2 0 (by decide)
  obtain ⟨hO, ht⟩ := hZ.th hj hp
  have hT := hR.th hj hp
  have hpl : m_place M j = nI (t + 1) := (hR.2.1 j hj).trans (by rw [hp])
  have hn1 := hT.2.1
  have hn2 := hn1.1
  have hb2 := hO.2.2.2.1
  refine Ct.mk RX11 "name" hy_X11_name (Nat.le_of_ble_eq_true rfl) (fun X hX C => ?_)
  change Go X G _ 6 0 0 (mo_ S M) 0 [(0, .ref x), (1, .int (nI j)), (2, .int k)] []
  refine g_aload_n 0 0 C dX11_name_0 rfl rfl ?_
  refine g_iload_n 1 1 C dX11_name_1 rfl rfl ?_
  refine g_callV (As := [.int (nI j)]) (rest := []) C dX11_name_2 (c_M_book hx hR hZ) wC_X11_book wM_X11_175 wI_X11_book wS_X11_book wN_X11 (kne hx.1) (pf_11 hx.1) rfl hd_X11_book ⟨by decide, by decide, by decide, by decide⟩ (Nat.le_of_ble_eq_true rfl) (fun r_ S_ h_ => ?_)
  obtain ⟨rfl, rfl⟩ := h_
  change Go X G _ 6 _ _ (mo_ S M) 5 [(0, .ref x), (1, .int (nI j)), (2, .int k)] [.int (errI (bookE Z (nI j)))]
  refine g_topi (show errI (bookE Z (nI j)) = nI 0 by rw [he]; rfl) ?_
  refine g_istore_n (lv' := [(3, .int (nI 0)), (0, .ref x), (1, .int (nI j)), (2, .int k)]) C dX11_name_5 rfl (by decide) rfl ?_
  refine g_iload_n 0 3 C dX11_name_6 rfl rfl ?_
  refine g_nif_ge 12 (by omega) C dX11_name_7 (by decide) ?_
  refine g_aload_n 1 0 C dX11_name_12 rfl rfl ?_
  refine g_iload_n 2 1 C dX11_name_13 rfl rfl ?_
  refine g_callV (As := [.int (nI j)]) (rest := []) C dX11_name_14 (c_M_at hx hj hpl) wC_X11_at wM_X11_108 wI_X11_at wS_X11_at wN_X11 (kne hx.1) (pf_11 hx.1) rfl hd_X11_at ⟨by decide, by decide, by decide, by decide⟩ (Nat.le_of_ble_eq_true rfl) (fun r_ S_ h_ => ?_)
  obtain ⟨rfl, rfl⟩ := h_
  change Go X G _ 6 _ _ (mo_ S M) 17 [(3, .int (nI 0)), (0, .ref x), (1, .int (nI j)), (2, .int k)] [.int (nI t)]
  refine g_istore (lv' := [(4, .int (nI t)), (3, .int (nI 0)), (0, .ref x), (1, .int (nI j)), (2, .int k)]) C dX11_name_17 (by decide) rfl ?_
  refine g_aload_n 2 0 C dX11_name_19 rfl rfl ?_
  refine g_iload 0 C dX11_name_20 rfl ?_
  refine g_iload_n 4 2 C dX11_name_22 rfl rfl ?_
  refine g_callV (As := [.int (nI t), .int k]) (rest := []) C dX11_name_23 (c_M_isName hx (by omega) hn1) wC_X11_isName wM_X11_199 wI_X11_isName wS_X11_isName wN_X11 (kne hx.1) (pf_11 hx.1) rfl hd_X11_isName ⟨by decide, by decide, by decide, by decide⟩ (Nat.le_of_ble_eq_true rfl) (fun r_ S_ h_ => ?_)
  obtain ⟨rfl, rfl⟩ := h_
  change Go X G _ 6 _ _ (mo_ S M) 26 [(4, .int (nI t)), (3, .int (nI 0)), (0, .ref x), (1, .int (nI j)), (2, .int k)] [.int (bI (inR k (tL (zH Z t)).length))]
  refine g_if_ne 32 C dX11_name_26 (by decide) (fun c26 => ?_) (fun c26 => ?_)
  · have ek := bI_t c26
    obtain ⟨i1, hi1, rfl⟩ := inR_spec ek (by omega)
    refine g_aload_n 2 0 C dX11_name_32 rfl rfl ?_
    refine g_iload 0 C dX11_name_33 rfl ?_
    refine g_callV (As := [.int (nI t)]) (rest := []) C dX11_name_35 (c_M_misses hx (by omega) hT.2.2.2.2.1 hT.2.2.2.2.2.1) wC_X11_misses wM_X11_178 wI_X11_misses wS_X11_misses wN_X11 (kne hx.1) (pf_11 hx.1) rfl hd_X11_misses ⟨by decide, by decide, by decide, by decide⟩ (Nat.le_of_ble_eq_true rfl) (fun r_ S_ h_ => ?_)
    obtain ⟨rfl, rfl⟩ := h_
    change Go X G _ 6 _ _ (mo_ S M) 38 [(4, .int (nI t)), (3, .int (nI 0)), (0, .ref x), (1, .int (nI j)), (2, .int (nI i1))] [.int (bI (missT (zH Z t)))]
    refine g_if_eq 44 C dX11_name_38 (by decide) (fun c38 => ?_) (fun c38 => ?_)
    · have em := bI_f c38
      have hk1 := hn1.2.2 i1 hi1
      have hkl := hk1.1.2.1
      refine g_aload_n 2 0 C dX11_name_44 rfl rfl ?_
      refine g_aload_n 2 0 C dX11_name_45 rfl rfl ?_
      refine gr_m_size C dX11_name_46 hx.1 wF_X11_46 r_size ?_
      refine g_bipush (v := nI 100) C dX11_name_49 (by decide) ?_
      refine g_iload 0 C dX11_name_51 rfl ?_
      refine g_imul C dX11_name_53 ?_
      refine g_topi (pk_mul _ _ : _ = nI (100 * t)) ?_
      refine g_iload_n 4 2 C dX11_name_54 rfl rfl ?_
      refine g_iadd C dX11_name_55 ?_
      refine g_topi (nI_add _ _ : _ = nI (100 * t + i1)) ?_
      refine ga_m_size C dX11_name_56 k_size (by omega) ?_
      refine g_topi (hk1.2.1.1) ?_
      refine pp_m_taped C dX11_name_57 hx.1 wF_X11_13 (Or.inl rfl) ?_
      refine g_iconst (v := nI 0) C dX11_name_60 (by decide) ?_
      refine g_istore (lv' := [(5, .int (nI 0)), (4, .int (nI t)), (3, .int (nI 0)), (0, .ref x), (1, .int (nI j)), (2, .int (nI i1))]) C dX11_name_61 (by decide) rfl ?_
      have lp : ∀ (n_ : Nat) (i : Nat) (f : Nat → Int32), (nm (tL (zH Z t)) i1).length - i < n_ → (i ≤ (nm (tL (zH Z t)) i1).length ∧ ∀ q, q < i → f q = nI ((nm (tL (zH Z t)) i1).getD q 0)) → Go X G (Qe X G (fun r S' => ∃ M', r = some (.int (A_name Z (nI j) (nI i1))) ∧ S' = mo_ S M' ∧ mo_r M' = mo_r M ∧ RM M' (N_name Z (nI j) (nI i1))) rm_X11_name.cells rm_X11_name.slots) 6 0 0 (mo_ S (m_tape_ (m_taped_ M (nI (nm (tL (zH Z t)) i1).length)) f)) 63 [(5, .int (nI i)), (4, .int (nI t)), (3, .int (nI 0)), (0, .ref x), (1, .int (nI j)), (2, .int (nI i1))] [] := by
        intro n_
        induction n_ with
        | zero => intro i f hm_; exact absurd hm_ (Nat.not_lt_zero _)
        | succ n_ ih_ =>
          intro i f hm_ hi
          refine g_iload 0 C dX11_name_63 rfl ?_
          refine g_aload_n 3 0 C dX11_name_65 rfl rfl ?_
          refine gf_m_taped C dX11_name_66 hx.1 wF_X11_13 ?_
          refine g_topi (rfl) ?_
          refine g_ncmp_ge 94 (by omega) (by omega) C dX11_name_69 (by decide) (fun c69 => ?_) (fun c69 => ?_)
          · refine g_aload_n 3 0 C dX11_name_94 rfl rfl ?_
            refine gf_m_taped C dX11_name_95 hx.1 wF_X11_13 ?_
            refine g_topi (rfl) ?_
            exact g_iret C dX11_name_98 (by decide) (by decide) (⟨_, by unfold A_name; rw [he]; simp only []; rw [ek, em, nI_clamp (by omega)]; rfl, rfl, rfl, by unfold N_name; rw [he]; simp only []; rw [ek, em, nI_clamp (by omega), if_pos (show (true && !false) = true from rfl)]; exact hR.tape (tp := nm (tL (zH Z t)) i1) rfl (fun q hq => hi.2 q (by omega))⟩)
          · refine g_aload_n 3 0 C dX11_name_72 rfl rfl ?_
            refine gr_m_tape C dX11_name_73 hx.1 wF_X11_7 r_tape ?_
            refine g_iload 0 C dX11_name_76 rfl ?_
            refine g_aload_n 3 0 C dX11_name_78 rfl rfl ?_
            refine g_iload 1 C dX11_name_79 rfl ?_
            refine g_iload_n 5 2 C dX11_name_81 rfl rfl ?_
            refine g_iload 0 C dX11_name_82 rfl ?_
            refine g_callV (As := [.int (nI t), .int (nI i1), .int (nI i)]) (rest := [.int (nI i), .ref q_tape]) C dX11_name_84 (c_M_byteAt (M := m_tape_ (m_taped_ M (nI (nm (tL (zH Z t)) i1).length)) f) hx (by omega) (by omega) (by omega)) wC_X11_byteAt wM_X11_111 wI_X11_byteAt wS_X11_byteAt wN_X11 (kne hx.1) (pf_11 hx.1) rfl hd_X11_byteAt ⟨by decide, by decide, by decide, by decide⟩ (Nat.le_of_ble_eq_true rfl) (fun r_ S_ h_ => ?_)
            obtain ⟨rfl, rfl⟩ := h_
            change Go X G _ 6 _ _ (mo_ S (m_tape_ (m_taped_ M (nI (nm (tL (zH Z t)) i1).length)) f)) 87 [(5, .int (nI i)), (4, .int (nI t)), (3, .int (nI 0)), (0, .ref x), (1, .int (nI j)), (2, .int (nI i1))] [.int (m_bytes M (24 * (100 * t + i1) + i)), .int (nI i), .ref q_tape]
            refine g_topi (hk1.2.1.2 i (by omega)) ?_
            refine gs_m_tape C dX11_name_87 k_tape (by omega) ?_
            refine g_iinc (v := nI (i + 1)) (lv' := [(5, .int (nI (i + 1))), (4, .int (nI t)), (3, .int (nI 0)), (0, .ref x), (1, .int (nI j)), (2, .int (nI i1))]) 0 C dX11_name_88 rfl (nI_add _ 1) (by decide) rfl ?_
            refine g_goto 63 C dX11_name_91 (by decide) ?_
            exact ih_ (i + 1) _ (by omega) ⟨by omega, fun q hq => by
              by_cases e : q = i
              · rw [e]; simp [upd]
              · simp only [upd, if_neg e]; exact hi.2 q (by omega)⟩
      exact lp ((nm (tL (zH Z t)) i1).length + 1) 0 (m_tape M) (by omega) ⟨Nat.zero_le _, fun q hq => absurd hq (Nat.not_lt_zero _)⟩
    · have em := bI_t c38
      refine g_bipush (v := -6) C dX11_name_41 (by decide) ?_
      exact g_iret C dX11_name_43 (by decide) (by decide) (⟨M, by unfold A_name; rw [he]; simp only []; rw [ek, em]; rfl, rfl, rfl, by unfold N_name; rw [he]; simp only []; rw [ek, em]; exact hR⟩)
  · have e := bI_f c26
    refine g_bipush (v := -5) C dX11_name_29 (by decide) ?_
    exact g_iret C dX11_name_31 (by decide) (by decide) (⟨M, by unfold A_name; rw [he]; simp only []; rw [e]; rfl, rfl, rfl, by unfold N_name; rw [he]; simp only []; rw [e]; exact hR⟩)
theorem c_M_name {l : Launch} {G : Gx} {S : PS} {M : MoT} {x : Nat} (hx : MoOk S M x) {Z : ZT} (hR : RM M Z) (hZ : okZ Z) {p : Int32} {k : Int32} : Ct l yX11_name cX11_name 6 (Option.some Jvm.ClassFile.FieldType.int) rm_X11_name G [.ref x, .int p, .int k] (mo_ S M) (fun r S' => ∃ M', r = some (.int (A_name Z p k)) ∧ S' = mo_ S M' ∧ mo_r M' = mo_r M ∧ RM M' (N_name Z p k)) := by
  cases he : bookE Z p with
  | inl e => exact c_M_name_err hx hR hZ he (bookE_neg he)
  | inr t =>
    obtain ⟨j, hj, rfl, hp, -⟩ := bookE_inr he
    exact c_M_name_ok hx hR hZ hj hp he
def A_value (Z : ZT) (p k : Int32) : Int64 := match bookE Z p with
  | .inl _ => 0
  | .inr t => if inR k (tL (zH Z t)).length then vl (tL (zH Z t)) k.toNatClampNeg else 0
def N_value (Z : ZT) (p k : Int32) : ZT := match bookE Z p with
  | .inl e => zS_ Z e
  | .inr t => if inR k (tL (zH Z t)).length then zS_ Z 0 else zS_ Z (-5)
theorem RM.stat {M : MoT} {Z : ZT} (h : RM M Z) {v : Int32} : RM (m_status_ M v) (zS_ Z v) := ⟨h.1, h.2.1, h.2.2.1, rfl, h.2.2.2.2⟩
set_option maxRecDepth 100000 in
set_option maxHeartbeats 400000 in
theorem c_M_value_err {l : Launch} {G : Gx} {S : PS} {M : MoT} {x : Nat} (hx : MoOk S M x) {Z : ZT} (hR : RM M Z) (hZ : okZ Z) {p e : Int32} (he : bookE Z p = .inl e) (hneg : e < 0) {k : Int32} : Ct l yX11_value cX11_value 3 (Option.some Jvm.ClassFile.FieldType.long) rm_X11_value G [.ref x, .int p, .int k] (mo_ S M) (fun r S' => ∃ M', r = some (.long (A_value Z p k)) ∧ S' = mo_ S M' ∧ mo_r M' = mo_r M ∧ RM M' (N_value Z p k)) := by
  obtain ⟨q_value, r_value, k_value⟩ := hx.2 12 (by decide)
  refine Ct.mk RX11 "value" hy_X11_value (Nat.le_of_ble_eq_true rfl) (fun X hX C => ?_)
  change Go X G _ 3 0 0 (mo_ S M) 0 [(0, .ref x), (1, .int p), (2, .int k)] []
  refine g_aload_n 0 0 C dX11_value_0 rfl rfl ?_
  refine g_aload_n 0 0 C dX11_value_1 rfl rfl ?_
  refine g_iload_n 1 1 C dX11_value_2 rfl rfl ?_
  refine g_callV (As := [.int p]) (rest := [.ref x]) C dX11_value_3 (c_M_book hx hR hZ) wC_X11_book wM_X11_175 wI_X11_book wS_X11_book wN_X11 (kne hx.1) (pf_11 hx.1) rfl hd_X11_book ⟨by decide, by decide, by decide, by decide⟩ (Nat.le_of_ble_eq_true rfl) (fun r_ S_ h_ => ?_)
  obtain ⟨rfl, rfl⟩ := h_
  change Go X G _ 3 _ _ (mo_ S M) 6 [(0, .ref x), (1, .int p), (2, .int k)] [.int (errI (bookE Z p)), .ref x]
  refine g_topi (show errI (bookE Z p) = e by rw [he]; rfl) ?_
  refine pp_m_status C dX11_value_6 hx.1 wF_X11_80 (Or.inl rfl) ?_
  refine g_aload_n 0 0 C dX11_value_9 rfl rfl ?_
  refine gf_m_status C dX11_value_10 hx.1 wF_X11_80 ?_
  refine g_topi ((rfl : _ = e)) ?_
  refine g_if_ne 35 C dX11_value_13 (by decide) (fun c13 => ?_) (fun c13 => ?_)
  · refine g_aload_n 0 0 C dX11_value_35 rfl rfl ?_
    refine gf_m_status C dX11_value_36 hx.1 wF_X11_80 ?_
    refine g_topi ((rfl : _ = e)) ?_
    refine g_if_ge 46 C dX11_value_39 (by decide) (fun c39 => ?_) (fun c39 => ?_)
    · exact absurd c39 (Int32.not_le.mpr hneg)
    · refine g_lconst (v := 0) C dX11_value_42 (by decide) ?_
      refine g_goto 61 C dX11_value_43 (by decide) ?_
      exact g_lret C dX11_value_61 (by decide) (by decide) (⟨_, by unfold A_value; rw [he], rfl, rfl, by unfold N_value; rw [he]; exact hR.stat⟩)
  · exact absurd (c13 ▸ hneg) (by decide)
set_option maxRecDepth 100000 in
set_option maxHeartbeats 400000 in
theorem c_M_value_ok {l : Launch} {G : Gx} {S : PS} {M : MoT} {x : Nat} (hx : MoOk S M x) {Z : ZT} (hR : RM M Z) (hZ : okZ Z) {j t : Nat} (hj : j < 10) (hp : zP Z j = t + 1) (he : bookE Z (nI j) = .inr t) {k : Int32} : Ct l yX11_value cX11_value 3 (Option.some Jvm.ClassFile.FieldType.long) rm_X11_value G [.ref x, .int (nI j), .int k] (mo_ S M) (fun r S' => ∃ M', r = some (.long (A_value Z (nI j) k)) ∧ S' = mo_ S M' ∧ mo_r M' = mo_r M ∧ RM M' (N_value Z (nI j) k)) := by
  obtain ⟨q_value, r_value, k_value⟩ := hx.2 12 (by decide)
  obtain ⟨hO, ht⟩ := hZ.th hj hp
  have hT := hR.th hj hp
  have hpl : m_place M j = nI (t + 1) := (hR.2.1 j hj).trans (by rw [hp])
  have hn1 := hT.2.1
  have hn2 := hn1.1
  refine Ct.mk RX11 "value" hy_X11_value (Nat.le_of_ble_eq_true rfl) (fun X hX C => ?_)
  change Go X G _ 3 0 0 (mo_ S M) 0 [(0, .ref x), (1, .int (nI j)), (2, .int k)] []
  refine g_aload_n 0 0 C dX11_value_0 rfl rfl ?_
  refine g_aload_n 0 0 C dX11_value_1 rfl rfl ?_
  refine g_iload_n 1 1 C dX11_value_2 rfl rfl ?_
  refine g_callV (As := [.int (nI j)]) (rest := [.ref x]) C dX11_value_3 (c_M_book hx hR hZ) wC_X11_book wM_X11_175 wI_X11_book wS_X11_book wN_X11 (kne hx.1) (pf_11 hx.1) rfl hd_X11_book ⟨by decide, by decide, by decide, by decide⟩ (Nat.le_of_ble_eq_true rfl) (fun r_ S_ h_ => ?_)
  obtain ⟨rfl, rfl⟩ := h_
  change Go X G _ 3 _ _ (mo_ S M) 6 [(0, .ref x), (1, .int (nI j)), (2, .int k)] [.int (errI (bookE Z (nI j))), .ref x]
  refine g_topi (show errI (bookE Z (nI j)) = nI 0 by rw [he]; rfl) ?_
  refine pp_m_status C dX11_value_6 hx.1 wF_X11_80 (Or.inl rfl) ?_
  refine g_aload_n 0 0 C dX11_value_9 rfl rfl ?_
  refine gf_m_status C dX11_value_10 hx.1 wF_X11_80 ?_
  refine g_topi ((rfl : _ = nI 0)) ?_
  refine g_nif_ne 35 (by decide) C dX11_value_13 (by decide) (fun c => absurd c (by decide)) (fun _ => ?_)
  refine g_aload_n 0 0 C dX11_value_16 rfl rfl ?_
  refine g_aload_n 0 0 C dX11_value_17 rfl rfl ?_
  refine g_iload_n 1 1 C dX11_value_18 rfl rfl ?_
  refine g_callV (As := [.int (nI j)]) (rest := [.ref x]) C dX11_value_19 (c_M_at (M := m_status_ M (nI 0)) hx hj hpl) wC_X11_at wM_X11_108 wI_X11_at wS_X11_at wN_X11 (kne hx.1) (pf_11 hx.1) rfl hd_X11_at ⟨by decide, by decide, by decide, by decide⟩ (Nat.le_of_ble_eq_true rfl) (fun r_ S_ h_ => ?_)
  obtain ⟨rfl, rfl⟩ := h_
  change Go X G _ 3 _ _ (mo_ S (m_status_ M (nI 0))) 22 [(0, .ref x), (1, .int (nI j)), (2, .int k)] [.int (nI t), .ref x]
  refine g_iload_n 2 2 C dX11_value_22 rfl rfl ?_
  refine g_callV (As := [.int (nI t), .int k]) (rest := []) C dX11_value_23 (c_M_isName (M := m_status_ M (nI 0)) hx (by omega) hn1) wC_X11_isName wM_X11_199 wI_X11_isName wS_X11_isName wN_X11 (kne hx.1) (pf_11 hx.1) rfl hd_X11_isName ⟨by decide, by decide, by decide, by decide⟩ (Nat.le_of_ble_eq_true rfl) (fun r_ S_ h_ => ?_)
  obtain ⟨rfl, rfl⟩ := h_
  change Go X G _ 3 _ _ (mo_ S (m_status_ M (nI 0))) 26 [(0, .ref x), (1, .int (nI j)), (2, .int k)] [.int (bI (inR k (tL (zH Z t)).length))]
  refine g_if_ne 35 C dX11_value_26 (by decide) (fun c26 => ?_) (fun c26 => ?_)
  · have ek := bI_t c26
    obtain ⟨i1, hi1, rfl⟩ := inR_spec ek (by omega)
    refine g_aload_n 0 0 C dX11_value_35 rfl rfl ?_
    refine gf_m_status C dX11_value_36 hx.1 wF_X11_80 ?_
    refine g_topi ((rfl : _ = nI 0)) ?_
    refine g_nif_ge 46 (by omega) C dX11_value_39 (by decide) ?_
    refine g_aload_n 0 0 C dX11_value_46 rfl rfl ?_
    refine gr_m_value C dX11_value_47 hx.1 wF_X11_52 r_value ?_
    refine g_bipush (v := nI 100) C dX11_value_50 (by decide) ?_
    refine g_aload_n 0 0 C dX11_value_52 rfl rfl ?_
    refine g_iload_n 1 1 C dX11_value_53 rfl rfl ?_
    refine g_callV (As := [.int (nI j)]) (rest := [.int (nI 100), .ref q_value]) C dX11_value_54 (c_M_at (M := m_status_ M (nI 0)) hx hj hpl) wC_X11_at wM_X11_108 wI_X11_at wS_X11_at wN_X11 (kne hx.1) (pf_11 hx.1) rfl hd_X11_at ⟨by decide, by decide, by decide, by decide⟩ (Nat.le_of_ble_eq_true rfl) (fun r_ S_ h_ => ?_)
    obtain ⟨rfl, rfl⟩ := h_
    change Go X G _ 3 _ _ (mo_ S (m_status_ M (nI 0))) 57 [(0, .ref x), (1, .int (nI j)), (2, .int (nI i1))] [.int (nI t), .int (nI 100), .ref q_value]
    refine g_imul C dX11_value_57 ?_
    refine g_topi (pk_mul _ _ : _ = nI (100 * t)) ?_
    refine g_iload_n 2 2 C dX11_value_58 rfl rfl ?_
    refine g_iadd C dX11_value_59 ?_
    refine g_topi (nI_add _ _ : _ = nI (100 * t + i1)) ?_
    refine ga_m_value C dX11_value_60 k_value (by omega) ?_
    refine g_topl ((hn1.2.2 i1 hi1).2.2) ?_
    exact g_lret C dX11_value_61 (by decide) (by decide) (⟨_, by unfold A_value; rw [he]; simp only []; rw [ek, nI_clamp (by omega)]; try rw [if_pos rfl], rfl, rfl, by unfold N_value; rw [he]; simp only []; rw [ek]; exact hR.stat⟩)
  · have e := bI_f c26
    refine g_aload_n 0 0 C dX11_value_29 rfl rfl ?_
    refine g_bipush (v := -5) C dX11_value_30 (by decide) ?_
    refine pp_m_status C dX11_value_32 hx.1 wF_X11_80 (Or.inl rfl) ?_
    refine g_aload_n 0 0 C dX11_value_35 rfl rfl ?_
    refine gf_m_status C dX11_value_36 hx.1 wF_X11_80 ?_
    refine g_topi ((rfl : _ = (-5 : Int32))) ?_
    refine g_if_ge 46 C dX11_value_39 (by decide) (fun c => absurd c (by decide)) (fun _ => ?_)
    refine g_lconst (v := 0) C dX11_value_42 (by decide) ?_
    refine g_goto 61 C dX11_value_43 (by decide) ?_
    exact g_lret C dX11_value_61 (by decide) (by decide) (⟨_, by unfold A_value; rw [he]; simp only []; rw [e]; try rw [if_neg (by decide)], rfl, rfl, by unfold N_value; rw [he]; simp only []; rw [e]; exact hR.stat⟩)
theorem c_M_value {l : Launch} {G : Gx} {S : PS} {M : MoT} {x : Nat} (hx : MoOk S M x) {Z : ZT} (hR : RM M Z) (hZ : okZ Z) {p k : Int32} : Ct l yX11_value cX11_value 3 (Option.some Jvm.ClassFile.FieldType.long) rm_X11_value G [.ref x, .int p, .int k] (mo_ S M) (fun r S' => ∃ M', r = some (.long (A_value Z p k)) ∧ S' = mo_ S M' ∧ mo_r M' = mo_r M ∧ RM M' (N_value Z p k)) := by
  cases he : bookE Z p with
  | inl e => exact c_M_value_err hx hR hZ he (bookE_neg he)
  | inr t =>
    obtain ⟨j, hj, rfl, hp, -⟩ := bookE_inr he
    exact c_M_value_ok hx hR hZ hj hp he
def A_same (Z : ZT) (p : Int32) : Int32 := match look Z p with
  | .inl e => if e = -3 then 0 else e
  | .inr t => nI (sumN (fun q => if zP Z q = t + 1 then 1 else 0) 10)
theorem sumN_le {f : Nat → Nat} {b : Nat} (h : ∀ i, f i ≤ b) : ∀ n, sumN f n ≤ b * n := by
  intro n
  induction n with
  | zero => exact Nat.le_refl _
  | succ n ih => have := h n; show sumN f n + f n ≤ b * (n + 1); rw [Nat.mul_succ]; omega
theorem sumN_if_le (p : Nat → Prop) [DecidablePred p] (n : Nat) : sumN (fun q => if p q then 1 else 0) n ≤ n := by
  have := sumN_le (f := fun q => if p q then 1 else 0) (b := 1) (fun i => by by_cases h : p i <;> simp [h]) n
  omega
set_option maxRecDepth 100000 in
set_option maxHeartbeats 400000 in
theorem c_M_same_out {l : Launch} {G : Gx} {S : PS} {M : MoT} {x : Nat} (hx : MoOk S M x) {Z : ZT} (hR : RM M Z) (hZ : okZ Z) {p : Int32} (hp : p < 0 ∨ nI 10 ≤ p) : Ct l yX11_same cX11_same 4 (Option.some Jvm.ClassFile.FieldType.int) rm_X11_same G [.ref x, .int p] (mo_ S M) (fun r S' => r = some (.int (A_same Z p)) ∧ S' = mo_ S M) := by
  obtain ⟨q_place, r_place, k_place⟩ := hx.2 1 (by decide)
  have e_ : A_same Z p = -2 := by unfold A_same; rw [look_out hp]; rfl
  refine Ct.mk RX11 "same" hy_X11_same (Nat.le_of_ble_eq_true rfl) (fun X hX C => ?_)
  change Go X G _ 4 0 0 (mo_ S M) 0 [(0, .ref x), (1, .int p)] []
  refine g_aload_n 0 0 C dX11_same_0 rfl rfl ?_
  refine g_iload_n 1 1 C dX11_same_1 rfl rfl ?_
  refine g_callV (As := [.int p]) (rest := []) C dX11_same_2 (c_M_isPlace_out hp) wC_X11_isPlace wM_X11_97 wI_X11_isPlace wS_X11_isPlace wN_X11 (kne hx.1) (pf_11 hx.1) rfl hd_X11_isPlace ⟨by decide, by decide, by decide, by decide⟩ (Nat.le_of_ble_eq_true rfl) (fun r_ S_ h_ => ?_)
  obtain ⟨rfl, rfl⟩ := h_
  change Go X G _ 4 _ _ (mo_ S M) 5 [(0, .ref x), (1, .int p)] [.int (nI 0)]
  refine g_nif_ne 11 (by decide) C dX11_same_5 (by decide) (fun c => absurd c (by decide)) (fun _ => ?_)
  refine g_bipush (v := -2) C dX11_same_8 (by decide) ?_
  exact g_iret C dX11_same_10 (by decide) (by decide) (⟨by rw [e_]; try rfl, rfl⟩)
set_option maxRecDepth 100000 in
set_option maxHeartbeats 400000 in
theorem c_M_same_no {l : Launch} {G : Gx} {S : PS} {M : MoT} {x : Nat} (hx : MoOk S M x) {Z : ZT} (hR : RM M Z) (hZ : okZ Z) {j : Nat} (hj : j < 10) (hp : zP Z j = 0) : Ct l yX11_same cX11_same 4 (Option.some Jvm.ClassFile.FieldType.int) rm_X11_same G [.ref x, .int (nI j)] (mo_ S M) (fun r S' => r = some (.int (A_same Z (nI j))) ∧ S' = mo_ S M) := by
  obtain ⟨q_place, r_place, k_place⟩ := hx.2 1 (by decide)
  refine Ct.mk RX11 "same" hy_X11_same (Nat.le_of_ble_eq_true rfl) (fun X hX C => ?_)
  change Go X G _ 4 0 0 (mo_ S M) 0 [(0, .ref x), (1, .int (nI j))] []
  refine g_aload_n 0 0 C dX11_same_0 rfl rfl ?_
  refine g_iload_n 1 1 C dX11_same_1 rfl rfl ?_
  refine g_callV (As := [.int (nI j)]) (rest := []) C dX11_same_2 (c_M_isPlace_in hj) wC_X11_isPlace wM_X11_97 wI_X11_isPlace wS_X11_isPlace wN_X11 (kne hx.1) (pf_11 hx.1) rfl hd_X11_isPlace ⟨by decide, by decide, by decide, by decide⟩ (Nat.le_of_ble_eq_true rfl) (fun r_ S_ h_ => ?_)
  obtain ⟨rfl, rfl⟩ := h_
  change Go X G _ 4 _ _ (mo_ S M) 5 [(0, .ref x), (1, .int (nI j))] [.int (nI 1)]
  refine g_nif_ne 11 (by decide) C dX11_same_5 (by decide) (fun _ => ?_) (fun c => absurd c (by decide))
  refine g_iconst (v := nI 0) C dX11_same_11 (by decide) ?_
  refine g_istore_n (lv' := [(2, .int (nI 0)), (0, .ref x), (1, .int (nI j))]) C dX11_same_12 rfl (by decide) rfl ?_
  refine g_iconst (v := nI 0) C dX11_same_13 (by decide) ?_
  refine g_istore_n (lv' := [(3, .int (nI 0)), (2, .int (nI 0)), (0, .ref x), (1, .int (nI j))]) C dX11_same_14 rfl (by decide) rfl ?_
  have lp : ∀ (n_ : Nat) (k : Nat), 10 - k < n_ → (k ≤ 10) → Go X G (Qe X G (fun r S' => r = some (.int (A_same Z (nI j))) ∧ S' = mo_ S M) rm_X11_same.cells rm_X11_same.slots) 4 0 0 (mo_ S M) 15 [(3, .int (nI k)), (2, .int (nI 0)), (0, .ref x), (1, .int (nI j))] [] := by
    intro n_
    induction n_ with
    | zero => intro k hm_; exact absurd hm_ (Nat.not_lt_zero _)
    | succ n_ ih_ =>
      intro k hm_ hi
      refine g_iload_n 0 3 C dX11_same_15 rfl rfl ?_
      refine g_bipush (v := nI 10) C dX11_same_16 (by decide) ?_
      refine g_ncmp_ge 59 (by omega) (by omega) C dX11_same_18 (by decide) (fun c18 => ?_) (fun c18 => ?_)
      · refine g_iload_n 1 2 C dX11_same_59 rfl rfl ?_
        exact g_iret C dX11_same_60 (by decide) (by decide) (⟨by unfold A_same; rw [look_no hj hp]; rfl, rfl⟩)
      · refine g_iload_n 1 2 C dX11_same_21 rfl rfl ?_
        refine g_aload_n 2 0 C dX11_same_22 rfl rfl ?_
        refine gr_m_place C dX11_same_23 hx.1 wF_X11_17 r_place ?_
        refine g_iload_n 3 1 C dX11_same_26 rfl rfl ?_
        refine ga_m_place C dX11_same_27 k_place (by omega) ?_
        refine g_topi (((hR.2.1 j hj).trans (by rw [hp]))) ?_
        refine g_nif_le 50 (by decide) C dX11_same_28 (by decide) (fun _ => ?_) (fun c => absurd c (by decide))
        refine g_iconst (v := nI 0) C dX11_same_50 (by decide) ?_
        refine g_iadd C dX11_same_51 ?_
        refine g_topi (nI_add _ _ : _ = nI (0 + 0)) ?_
        refine g_istore_n (lv' := [(2, .int (nI (0 + 0))), (3, .int (nI k)), (0, .ref x), (1, .int (nI j))]) C dX11_same_52 rfl (by decide) rfl ?_
        refine g_iinc (v := nI (k + 1)) (lv' := [(3, .int (nI (k + 1))), (2, .int (nI (0 + 0))), (0, .ref x), (1, .int (nI j))]) 1 C dX11_same_53 rfl (nI_add _ 1) (by decide) rfl ?_
        refine g_goto 15 C dX11_same_56 (by decide) ?_
        exact ih_ (k + 1) (by omega) (by omega)
  exact lp 11 0 (by omega) (Nat.zero_le _)
set_option maxRecDepth 100000 in
set_option maxHeartbeats 400000 in
theorem c_M_same_at {l : Launch} {G : Gx} {S : PS} {M : MoT} {x : Nat} (hx : MoOk S M x) {Z : ZT} (hR : RM M Z) (hZ : okZ Z) {j t : Nat} (hj : j < 10) (hp : zP Z j = t + 1) : Ct l yX11_same cX11_same 4 (Option.some Jvm.ClassFile.FieldType.int) rm_X11_same G [.ref x, .int (nI j)] (mo_ S M) (fun r S' => r = some (.int (A_same Z (nI j))) ∧ S' = mo_ S M) := by
  obtain ⟨q_place, r_place, k_place⟩ := hx.2 1 (by decide)
  obtain ⟨hO, ht⟩ := hZ.th hj hp
  refine Ct.mk RX11 "same" hy_X11_same (Nat.le_of_ble_eq_true rfl) (fun X hX C => ?_)
  change Go X G _ 4 0 0 (mo_ S M) 0 [(0, .ref x), (1, .int (nI j))] []
  refine g_aload_n 0 0 C dX11_same_0 rfl rfl ?_
  refine g_iload_n 1 1 C dX11_same_1 rfl rfl ?_
  refine g_callV (As := [.int (nI j)]) (rest := []) C dX11_same_2 (c_M_isPlace_in hj) wC_X11_isPlace wM_X11_97 wI_X11_isPlace wS_X11_isPlace wN_X11 (kne hx.1) (pf_11 hx.1) rfl hd_X11_isPlace ⟨by decide, by decide, by decide, by decide⟩ (Nat.le_of_ble_eq_true rfl) (fun r_ S_ h_ => ?_)
  obtain ⟨rfl, rfl⟩ := h_
  change Go X G _ 4 _ _ (mo_ S M) 5 [(0, .ref x), (1, .int (nI j))] [.int (nI 1)]
  refine g_nif_ne 11 (by decide) C dX11_same_5 (by decide) (fun _ => ?_) (fun c => absurd c (by decide))
  refine g_iconst (v := nI 0) C dX11_same_11 (by decide) ?_
  refine g_istore_n (lv' := [(2, .int (nI 0)), (0, .ref x), (1, .int (nI j))]) C dX11_same_12 rfl (by decide) rfl ?_
  refine g_iconst (v := nI 0) C dX11_same_13 (by decide) ?_
  refine g_istore_n (lv' := [(3, .int (nI 0)), (2, .int (nI 0)), (0, .ref x), (1, .int (nI j))]) C dX11_same_14 rfl (by decide) rfl ?_
  have lp : ∀ (n_ : Nat) (k : Nat), 10 - k < n_ → (k ≤ 10) → Go X G (Qe X G (fun r S' => r = some (.int (A_same Z (nI j))) ∧ S' = mo_ S M) rm_X11_same.cells rm_X11_same.slots) 4 0 0 (mo_ S M) 15 [(3, .int (nI k)), (2, .int (nI (sumN (fun q => if zP Z q = t + 1 then 1 else 0) k))), (0, .ref x), (1, .int (nI j))] [] := by
    intro n_
    induction n_ with
    | zero => intro k hm_; exact absurd hm_ (Nat.not_lt_zero _)
    | succ n_ ih_ =>
      intro k hm_ hi
      refine g_iload_n 0 3 C dX11_same_15 rfl rfl ?_
      refine g_bipush (v := nI 10) C dX11_same_16 (by decide) ?_
      refine g_ncmp_ge 59 (by omega) (by omega) C dX11_same_18 (by decide) (fun c18 => ?_) (fun c18 => ?_)
      · refine g_iload_n 1 2 C dX11_same_59 rfl rfl ?_
        exact g_iret C dX11_same_60 (by decide) (by decide) (⟨by unfold A_same; rw [look_at hj hp, show k = 10 by omega], rfl⟩)
      · have hs := sumN_if_le (fun q => zP Z q = t + 1) k
        have hz := hZ.2.1 k (by omega)
        refine g_iload_n 1 2 C dX11_same_21 rfl rfl ?_
        refine g_aload_n 2 0 C dX11_same_22 rfl rfl ?_
        refine gr_m_place C dX11_same_23 hx.1 wF_X11_17 r_place ?_
        refine g_iload_n 3 1 C dX11_same_26 rfl rfl ?_
        refine ga_m_place C dX11_same_27 k_place (by omega) ?_
        refine g_topi (((hR.2.1 j hj).trans (by rw [hp]))) ?_
        refine g_nif_le 50 (by omega) C dX11_same_28 (by decide) (fun c => absurd c (by omega)) (fun _ => ?_)
        refine g_aload_n 2 0 C dX11_same_31 rfl rfl ?_
        refine gr_m_place C dX11_same_32 hx.1 wF_X11_17 r_place ?_
        refine g_iload_n 0 3 C dX11_same_35 rfl rfl ?_
        refine ga_m_place C dX11_same_36 k_place (by omega) ?_
        refine g_topi (hR.2.1 k (by omega)) ?_
        refine g_aload_n 2 0 C dX11_same_37 rfl rfl ?_
        refine gr_m_place C dX11_same_38 hx.1 wF_X11_17 r_place ?_
        refine g_iload_n 3 1 C dX11_same_41 rfl rfl ?_
        refine ga_m_place C dX11_same_42 k_place (by omega) ?_
        refine g_topi (((hR.2.1 j hj).trans (by rw [hp]))) ?_
        refine g_ncmp_ne 50 (by omega) (by omega) C dX11_same_43 (by decide) (fun c43 => ?_) (fun c43 => ?_)
        · have e : sumN (fun q => if zP Z q = t + 1 then 1 else 0) (k + 1) = sumN (fun q => if zP Z q = t + 1 then 1 else 0) k + 0 := by show _ + (if zP Z k = t + 1 then 1 else 0) = _; rw [if_neg c43]
          refine g_iconst (v := nI 0) C dX11_same_50 (by decide) ?_
          refine g_iadd C dX11_same_51 ?_
          refine g_topi (nI_add _ _ : _ = nI (sumN (fun q => if zP Z q = t + 1 then 1 else 0) k + 0)) ?_
          refine g_istore_n (lv' := [(2, .int (nI (sumN (fun q => if zP Z q = t + 1 then 1 else 0) k + 0))), (3, .int (nI k)), (0, .ref x), (1, .int (nI j))]) C dX11_same_52 rfl (by decide) rfl ?_
          refine g_iinc (v := nI (k + 1)) (lv' := [(3, .int (nI (k + 1))), (2, .int (nI (sumN (fun q => if zP Z q = t + 1 then 1 else 0) k + 0))), (0, .ref x), (1, .int (nI j))]) 1 C dX11_same_53 rfl (nI_add _ 1) (by decide) rfl ?_
          refine g_goto 15 C dX11_same_56 (by decide) ?_
          rw [← e]; exact ih_ (k + 1) (by omega) (by omega)
        · have e : sumN (fun q => if zP Z q = t + 1 then 1 else 0) (k + 1) = sumN (fun q => if zP Z q = t + 1 then 1 else 0) k + 1 := by show _ + (if zP Z k = t + 1 then 1 else 0) = _; rw [if_pos c43]
          refine g_iconst (v := nI 1) C dX11_same_46 (by decide) ?_
          refine g_goto 51 C dX11_same_47 (by decide) ?_
          refine g_iadd C dX11_same_51 ?_
          refine g_topi (nI_add _ _ : _ = nI (sumN (fun q => if zP Z q = t + 1 then 1 else 0) k + 1)) ?_
          refine g_istore_n (lv' := [(2, .int (nI (sumN (fun q => if zP Z q = t + 1 then 1 else 0) k + 1))), (3, .int (nI k)), (0, .ref x), (1, .int (nI j))]) C dX11_same_52 rfl (by decide) rfl ?_
          refine g_iinc (v := nI (k + 1)) (lv' := [(3, .int (nI (k + 1))), (2, .int (nI (sumN (fun q => if zP Z q = t + 1 then 1 else 0) k + 1))), (0, .ref x), (1, .int (nI j))]) 1 C dX11_same_53 rfl (nI_add _ 1) (by decide) rfl ?_
          refine g_goto 15 C dX11_same_56 (by decide) ?_
          rw [← e]; exact ih_ (k + 1) (by omega) (by omega)
  exact lp 11 0 (by omega) (Nat.zero_le _)
theorem c_M_same {l : Launch} {G : Gx} {S : PS} {M : MoT} {x : Nat} (hx : MoOk S M x) {Z : ZT} (hR : RM M Z) (hZ : okZ Z) {p : Int32}  : Ct l yX11_same cX11_same 4 (Option.some Jvm.ClassFile.FieldType.int) rm_X11_same G [.ref x, .int p] (mo_ S M) (fun r S' => r = some (.int (A_same Z p)) ∧ S' = mo_ S M) := by
  rcases look_cases Z p with h | ⟨j, hj, rfl, h | ⟨t, h⟩⟩
  · exact c_M_same_out hx hR hZ h
  · exact c_M_same_no hx hR hZ hj h
  · exact c_M_same_at hx hR hZ hj h
def setP (f : Nat → Nat) (j v : Nat) : Nat → Nat := fun q => if q = j then v else f q
def N_clear (Z : ZT) (p : Int32) : ZT := if p < 0 ∨ nI 10 ≤ p then Z else zP_ Z (setP (zP Z) p.toNatClampNeg 0)
theorem usedP_set {f : Nat → Nat} {j v t : Nat} (h : usedP (setP f j v) t) : usedP f t ∨ v = t + 1 := by
  obtain ⟨p, h1, h2⟩ := h
  unfold setP at h2
  split at h2
  · exact Or.inr h2
  · exact Or.inl ⟨p, h1, h2⟩
/-- a place gets 0, or what another one has -/
theorem RM.place {M : MoT} {Z : ZT} (h : RM M Z) {j v : Nat} {x : Int32} (hx : x = nI v) (hv : v = 0 ∨ ∃ q, q < 10 ∧ v = zP Z q) : RM (m_place_ M (upd (m_place M) j x)) (zP_ Z (setP (zP Z) j v)) := by
  refine ⟨h.1, fun p hp => ?_, fun t ht => ?_, h.2.2.2⟩
  · show upd (m_place M) j x p = nI (setP (zP Z) j v p)
    unfold setP upd
    by_cases e : p = j
    · rw [if_pos e, if_pos e, hx]
    · rw [if_neg e, if_neg e]; exact h.2.1 p hp
  · rcases usedP_set ht with g | g
    · exact h.2.2.1 t g
    · rcases hv with e | ⟨q, hq, e⟩
      · omega
      · exact h.2.2.1 t ⟨q, hq, by omega⟩
def A_share (Z : ZT) (p q : Int32) : Int32 := if (p < 0 ∨ nI 10 ≤ p) ∨ (q < 0 ∨ nI 10 ≤ q) then -2 else match look Z p with
  | .inl e => e
  | .inr t => nI (tK (zH Z t))
def N_share (Z : ZT) (p q : Int32) : ZT := if (p < 0 ∨ nI 10 ≤ p) ∨ (q < 0 ∨ nI 10 ≤ q) then Z else if zP Z p.toNatClampNeg = 0 then Z else zP_ Z (setP (zP Z) q.toNatClampNeg (zP Z p.toNatClampNeg))
set_option maxRecDepth 100000 in
set_option maxHeartbeats 400000 in
theorem c_M_clear_out {l : Launch} {G : Gx} {S : PS} {M : MoT} {x : Nat} (hx : MoOk S M x) {Z : ZT} (hR : RM M Z) (hZ : okZ Z) {p : Int32} (hp : p < 0 ∨ nI 10 ≤ p) : Ct l yX11_clear cX11_clear 3 (Option.some Jvm.ClassFile.FieldType.int) rm_X11_clear G [.ref x, .int p] (mo_ S M) (fun r S' => ∃ M', r = some (.int (A_kind Z p)) ∧ S' = mo_ S M' ∧ mo_r M' = mo_r M ∧ RM M' (N_clear Z p)) := by
  obtain ⟨q_place, r_place, k_place⟩ := hx.2 1 (by decide)
  refine Ct.mk RX11 "clear" hy_X11_clear (Nat.le_of_ble_eq_true rfl) (fun X hX C => ?_)
  change Go X G _ 3 0 0 (mo_ S M) 0 [(0, .ref x), (1, .int p)] []
  refine g_aload_n 0 0 C dX11_clear_0 rfl rfl ?_
  refine g_iload_n 1 1 C dX11_clear_1 rfl rfl ?_
  refine g_callV (As := [.int p]) (rest := []) C dX11_clear_2 (c_M_isPlace_out hp) wC_X11_isPlace wM_X11_97 wI_X11_isPlace wS_X11_isPlace wN_X11 (kne hx.1) (pf_11 hx.1) rfl hd_X11_isPlace ⟨by decide, by decide, by decide, by decide⟩ (Nat.le_of_ble_eq_true rfl) (fun r_ S_ h_ => ?_)
  obtain ⟨rfl, rfl⟩ := h_
  change Go X G _ 3 _ _ (mo_ S M) 5 [(0, .ref x), (1, .int p)] [.int (nI 0)]
  refine g_nif_ne 11 (by decide) C dX11_clear_5 (by decide) (fun c => absurd c (by decide)) (fun _ => ?_)
  refine g_bipush (v := -2) C dX11_clear_8 (by decide) ?_
  exact g_iret C dX11_clear_10 (by decide) (by decide) (⟨M, by unfold A_kind; rw [look_out hp]; rfl, rfl, rfl, by unfold N_clear; rw [if_pos hp]; exact hR⟩)
set_option maxRecDepth 100000 in
set_option maxHeartbeats 400000 in
theorem c_M_clear_in {l : Launch} {G : Gx} {S : PS} {M : MoT} {x : Nat} (hx : MoOk S M x) {Z : ZT} (hR : RM M Z) (hZ : okZ Z) {j : Nat} (hj : j < 10) : Ct l yX11_clear cX11_clear 3 (Option.some Jvm.ClassFile.FieldType.int) rm_X11_clear G [.ref x, .int (nI j)] (mo_ S M) (fun r S' => ∃ M', r = some (.int (A_kind Z (nI j))) ∧ S' = mo_ S M' ∧ mo_r M' = mo_r M ∧ RM M' (N_clear Z (nI j))) := by
  obtain ⟨q_place, r_place, k_place⟩ := hx.2 1 (by decide)
  refine Ct.mk RX11 "clear" hy_X11_clear (Nat.le_of_ble_eq_true rfl) (fun X hX C => ?_)
  change Go X G _ 3 0 0 (mo_ S M) 0 [(0, .ref x), (1, .int (nI j))] []
  refine g_aload_n 0 0 C dX11_clear_0 rfl rfl ?_
  refine g_iload_n 1 1 C dX11_clear_1 rfl rfl ?_
  refine g_callV (As := [.int (nI j)]) (rest := []) C dX11_clear_2 (c_M_isPlace_in hj) wC_X11_isPlace wM_X11_97 wI_X11_isPlace wS_X11_isPlace wN_X11 (kne hx.1) (pf_11 hx.1) rfl hd_X11_isPlace ⟨by decide, by decide, by decide, by decide⟩ (Nat.le_of_ble_eq_true rfl) (fun r_ S_ h_ => ?_)
  obtain ⟨rfl, rfl⟩ := h_
  change Go X G _ 3 _ _ (mo_ S M) 5 [(0, .ref x), (1, .int (nI j))] [.int (nI 1)]
  refine g_nif_ne 11 (by decide) C dX11_clear_5 (by decide) (fun _ => ?_) (fun c => absurd c (by decide))
  refine g_aload_n 0 0 C dX11_clear_11 rfl rfl ?_
  refine g_iload_n 1 1 C dX11_clear_12 rfl rfl ?_
  refine g_callV (As := [.int (nI j)]) (rest := []) C dX11_clear_13 (c_M_kind hx hR hZ) wC_X11_kind wM_X11_105 wI_X11_kind wS_X11_kind wN_X11 (kne hx.1) (pf_11 hx.1) rfl hd_X11_kind ⟨by decide, by decide, by decide, by decide⟩ (Nat.le_of_ble_eq_true rfl) (fun r_ S_ h_ => ?_)
  obtain ⟨rfl, rfl⟩ := h_
  change Go X G _ 3 _ _ (mo_ S M) 16 [(0, .ref x), (1, .int (nI j))] [.int (A_kind Z (nI j))]
  refine g_istore_n (lv' := [(2, .int (A_kind Z (nI j))), (0, .ref x), (1, .int (nI j))]) C dX11_clear_16 rfl (by decide) rfl ?_
  refine g_aload_n 1 0 C dX11_clear_17 rfl rfl ?_
  refine gr_m_place C dX11_clear_18 hx.1 wF_X11_17 r_place ?_
  refine g_iload_n 2 1 C dX11_clear_21 rfl rfl ?_
  refine g_iconst (v := nI 0) C dX11_clear_22 (by decide) ?_
  refine gs_m_place C dX11_clear_23 k_place (by omega) ?_
  refine g_iload_n 0 2 C dX11_clear_24 rfl rfl ?_
  exact g_iret C dX11_clear_25 (by decide) (by decide) (⟨_, rfl, rfl, rfl, by unfold N_clear; rw [if_neg (nI_in10 hj), nI_clamp (by omega)]; exact hR.place rfl (Or.inl rfl)⟩)
theorem c_M_clear {l : Launch} {G : Gx} {S : PS} {M : MoT} {x : Nat} (hx : MoOk S M x) {Z : ZT} (hR : RM M Z) (hZ : okZ Z) {p : Int32} : Ct l yX11_clear cX11_clear 3 (Option.some Jvm.ClassFile.FieldType.int) rm_X11_clear G [.ref x, .int p] (mo_ S M) (fun r S' => ∃ M', r = some (.int (A_kind Z p)) ∧ S' = mo_ S M' ∧ mo_r M' = mo_r M ∧ RM M' (N_clear Z p)) := by
  rcases look_cases Z p with h | ⟨j, hj, rfl, -⟩
  · exact c_M_clear_out hx hR hZ h
  · exact c_M_clear_in hx hR hZ hj
theorem okZ.place {Z : ZT} (h : okZ Z) {j v : Nat} (hv : v = 0 ∨ ∃ q, q < 10 ∧ v = zP Z q) : okZ (zP_ Z (setP (zP Z) j v)) := by
  refine ⟨h.1, fun p hp => ?_, fun t ht => ?_, h.2.2.2⟩
  · show setP (zP Z) j v p ≤ 11
    unfold setP
    split
    · rcases hv with e | ⟨q, hq, e⟩
      · omega
      · have := h.2.1 q hq; omega
    · exact h.2.1 p hp
  · rcases usedP_set ht with g | g
    · exact h.2.2.1 t g
    · rcases hv with e | ⟨q, hq, e⟩
      · omega
      · exact h.2.2.1 t ⟨q, hq, by omega⟩
set_option maxRecDepth 100000 in
set_option maxHeartbeats 400000 in
theorem c_M_share_o1 {l : Launch} {G : Gx} {S : PS} {M : MoT} {x : Nat} (hx : MoOk S M x) {Z : ZT} (hR : RM M Z) (hZ : okZ Z) {p q : Int32} (hp : p < 0 ∨ nI 10 ≤ p) : Ct l yX11_share cX11_share 3 (Option.some Jvm.ClassFile.FieldType.int) rm_X11_share G [.ref x, .int p, .int q] (mo_ S M) (fun r S' => ∃ M', r = some (.int (A_share Z p q)) ∧ S' = mo_ S M' ∧ mo_r M' = mo_r M ∧ RM M' (N_share Z p q)) := by
  obtain ⟨q_place, r_place, k_place⟩ := hx.2 1 (by decide)
  refine Ct.mk RX11 "share" hy_X11_share (Nat.le_of_ble_eq_true rfl) (fun X hX C => ?_)
  change Go X G _ 3 0 0 (mo_ S M) 0 [(0, .ref x), (1, .int p), (2, .int q)] []
  refine g_aload_n 0 0 C dX11_share_0 rfl rfl ?_
  refine g_iload_n 1 1 C dX11_share_1 rfl rfl ?_
  refine g_callV (As := [.int p]) (rest := []) C dX11_share_2 (c_M_isPlace_out hp) wC_X11_isPlace wM_X11_97 wI_X11_isPlace wS_X11_isPlace wN_X11 (kne hx.1) (pf_11 hx.1) rfl hd_X11_isPlace ⟨by decide, by decide, by decide, by decide⟩ (Nat.le_of_ble_eq_true rfl) (fun r_ S_ h_ => ?_)
  obtain ⟨rfl, rfl⟩ := h_
  change Go X G _ 3 _ _ (mo_ S M) 5 [(0, .ref x), (1, .int p), (2, .int q)] [.int (nI 0)]
  refine g_nif_eq 16 (by decide) C dX11_share_5 (by decide) (fun _ => ?_) (fun c => absurd c (by decide))
  refine g_bipush (v := -2) C dX11_share_16 (by decide) ?_
  exact g_iret C dX11_share_18 (by decide) (by decide) (⟨M, by unfold A_share; rw [if_pos (Or.inl hp)], rfl, rfl, by unfold N_share; rw [if_pos (Or.inl hp)]; exact hR⟩)
set_option maxRecDepth 100000 in
set_option maxHeartbeats 400000 in
theorem c_M_share_o2 {l : Launch} {G : Gx} {S : PS} {M : MoT} {x : Nat} (hx : MoOk S M x) {Z : ZT} (hR : RM M Z) (hZ : okZ Z) {j : Nat} {q : Int32} (hj : j < 10) (hp : q < 0 ∨ nI 10 ≤ q) : Ct l yX11_share cX11_share 3 (Option.some Jvm.ClassFile.FieldType.int) rm_X11_share G [.ref x, .int (nI j), .int q] (mo_ S M) (fun r S' => ∃ M', r = some (.int (A_share Z (nI j) q)) ∧ S' = mo_ S M' ∧ mo_r M' = mo_r M ∧ RM M' (N_share Z (nI j) q)) := by
  obtain ⟨q_place, r_place, k_place⟩ := hx.2 1 (by decide)
  refine Ct.mk RX11 "share" hy_X11_share (Nat.le_of_ble_eq_true rfl) (fun X hX C => ?_)
  change Go X G _ 3 0 0 (mo_ S M) 0 [(0, .ref x), (1, .int (nI j)), (2, .int q)] []
  refine g_aload_n 0 0 C dX11_share_0 rfl rfl ?_
  refine g_iload_n 1 1 C dX11_share_1 rfl rfl ?_
  refine g_callV (As := [.int (nI j)]) (rest := []) C dX11_share_2 (c_M_isPlace_in hj) wC_X11_isPlace wM_X11_97 wI_X11_isPlace wS_X11_isPlace wN_X11 (kne hx.1) (pf_11 hx.1) rfl hd_X11_isPlace ⟨by decide, by decide, by decide, by decide⟩ (Nat.le_of_ble_eq_true rfl) (fun r_ S_ h_ => ?_)
  obtain ⟨rfl, rfl⟩ := h_
  change Go X G _ 3 _ _ (mo_ S M) 5 [(0, .ref x), (1, .int (nI j)), (2, .int q)] [.int (nI 1)]
  refine g_nif_eq 16 (by decide) C dX11_share_5 (by decide) (fun c => absurd c (by decide)) (fun _ => ?_)
  refine g_aload_n 0 0 C dX11_share_8 rfl rfl ?_
  refine g_iload_n 2 2 C dX11_share_9 rfl rfl ?_
  refine g_callV (As := [.int q]) (rest := []) C dX11_share_10 (c_M_isPlace_out hp) wC_X11_isPlace wM_X11_97 wI_X11_isPlace wS_X11_isPlace wN_X11 (kne hx.1) (pf_11 hx.1) rfl hd_X11_isPlace ⟨by decide, by decide, by decide, by decide⟩ (Nat.le_of_ble_eq_true rfl) (fun r_ S_ h_ => ?_)
  obtain ⟨rfl, rfl⟩ := h_
  change Go X G _ 3 _ _ (mo_ S M) 13 [(0, .ref x), (1, .int (nI j)), (2, .int q)] [.int (nI 0)]
  refine g_nif_ne 19 (by decide) C dX11_share_13 (by decide) (fun c => absurd c (by decide)) (fun _ => ?_)
  refine g_bipush (v := -2) C dX11_share_16 (by decide) ?_
  exact g_iret C dX11_share_18 (by decide) (by decide) (⟨M, by unfold A_share; rw [if_pos (Or.inr hp)], rfl, rfl, by unfold N_share; rw [if_pos (Or.inr hp)]; exact hR⟩)
set_option maxRecDepth 100000 in
set_option maxHeartbeats 400000 in
theorem c_M_share_no {l : Launch} {G : Gx} {S : PS} {M : MoT} {x : Nat} (hx : MoOk S M x) {Z : ZT} (hR : RM M Z) (hZ : okZ Z) {j i : Nat} (hj : j < 10) (hi : i < 10) (hp : zP Z j = 0) : Ct l yX11_share cX11_share 3 (Option.some Jvm.ClassFile.FieldType.int) rm_X11_share G [.ref x, .int (nI j), .int (nI i)] (mo_ S M) (fun r S' => ∃ M', r = some (.int (A_share Z (nI j) (nI i))) ∧ S' = mo_ S M' ∧ mo_r M' = mo_r M ∧ RM M' (N_share Z (nI j) (nI i))) := by
  obtain ⟨q_place, r_place, k_place⟩ := hx.2 1 (by decide)
  refine Ct.mk RX11 "share" hy_X11_share (Nat.le_of_ble_eq_true rfl) (fun X hX C => ?_)
  change Go X G _ 3 0 0 (mo_ S M) 0 [(0, .ref x), (1, .int (nI j)), (2, .int (nI i))] []
  refine g_aload_n 0 0 C dX11_share_0 rfl rfl ?_
  refine g_iload_n 1 1 C dX11_share_1 rfl rfl ?_
  refine g_callV (As := [.int (nI j)]) (rest := []) C dX11_share_2 (c_M_isPlace_in hj) wC_X11_isPlace wM_X11_97 wI_X11_isPlace wS_X11_isPlace wN_X11 (kne hx.1) (pf_11 hx.1) rfl hd_X11_isPlace ⟨by decide, by decide, by decide, by decide⟩ (Nat.le_of_ble_eq_true rfl) (fun r_ S_ h_ => ?_)
  obtain ⟨rfl, rfl⟩ := h_
  change Go X G _ 3 _ _ (mo_ S M) 5 [(0, .ref x), (1, .int (nI j)), (2, .int (nI i))] [.int (nI 1)]
  refine g_nif_eq 16 (by decide) C dX11_share_5 (by decide) (fun c => absurd c (by decide)) (fun _ => ?_)
  refine g_aload_n 0 0 C dX11_share_8 rfl rfl ?_
  refine g_iload_n 2 2 C dX11_share_9 rfl rfl ?_
  refine g_callV (As := [.int (nI i)]) (rest := []) C dX11_share_10 (c_M_isPlace_in hi) wC_X11_isPlace wM_X11_97 wI_X11_isPlace wS_X11_isPlace wN_X11 (kne hx.1) (pf_11 hx.1) rfl hd_X11_isPlace ⟨by decide, by decide, by decide, by decide⟩ (Nat.le_of_ble_eq_true rfl) (fun r_ S_ h_ => ?_)
  obtain ⟨rfl, rfl⟩ := h_
  change Go X G _ 3 _ _ (mo_ S M) 13 [(0, .ref x), (1, .int (nI j)), (2, .int (nI i))] [.int (nI 1)]
  refine g_nif_ne 19 (by decide) C dX11_share_13 (by decide) (fun _ => ?_) (fun c => absurd c (by decide))
  refine g_aload_n 0 0 C dX11_share_19 rfl rfl ?_
  refine gr_m_place C dX11_share_20 hx.1 wF_X11_17 r_place ?_
  refine g_iload_n 1 1 C dX11_share_23 rfl rfl ?_
  refine ga_m_place C dX11_share_24 k_place (by omega) ?_
  refine g_topi (((hR.2.1 j hj).trans (by rw [hp]))) ?_
  refine g_nif_ne 31 (by decide) C dX11_share_25 (by decide) (fun c => absurd c (by decide)) (fun _ => ?_)
  refine g_bipush (v := -3) C dX11_share_28 (by decide) ?_
  exact g_iret C dX11_share_30 (by decide) (by decide) (⟨M, by unfold A_share; rw [if_neg (fun z => z.elim (nI_in10 hj) (nI_in10 hi)), look_no hj hp], rfl, rfl, by unfold N_share; rw [if_neg (fun z => z.elim (nI_in10 hj) (nI_in10 hi)), nI_clamp (by omega), if_pos hp]; exact hR⟩)
set_option maxRecDepth 100000 in
set_option maxHeartbeats 400000 in
theorem c_M_share_at {l : Launch} {G : Gx} {S : PS} {M : MoT} {x : Nat} (hx : MoOk S M x) {Z : ZT} (hR : RM M Z) (hZ : okZ Z) {j i t : Nat} (hj : j < 10) (hi : i < 10) (hp : zP Z j = t + 1) : Ct l yX11_share cX11_share 3 (Option.some Jvm.ClassFile.FieldType.int) rm_X11_share G [.ref x, .int (nI j), .int (nI i)] (mo_ S M) (fun r S' => ∃ M', r = some (.int (A_share Z (nI j) (nI i))) ∧ S' = mo_ S M' ∧ mo_r M' = mo_r M ∧ RM M' (N_share Z (nI j) (nI i))) := by
  obtain ⟨q_place, r_place, k_place⟩ := hx.2 1 (by decide)
  obtain ⟨hO, ht⟩ := hZ.th hj hp
  have hR2 : RM (m_place_ M (upd (m_place M) i (nI (t + 1)))) (zP_ Z (setP (zP Z) i (t + 1))) := hR.place rfl (Or.inr ⟨j, hj, hp.symm⟩)
  have hZ2 : okZ (zP_ Z (setP (zP Z) i (t + 1))) := hZ.place (Or.inr ⟨j, hj, hp.symm⟩)
  have hj2 : setP (zP Z) i (t + 1) j = t + 1 := by unfold setP; split; rfl; exact hp
  refine Ct.mk RX11 "share" hy_X11_share (Nat.le_of_ble_eq_true rfl) (fun X hX C => ?_)
  change Go X G _ 3 0 0 (mo_ S M) 0 [(0, .ref x), (1, .int (nI j)), (2, .int (nI i))] []
  refine g_aload_n 0 0 C dX11_share_0 rfl rfl ?_
  refine g_iload_n 1 1 C dX11_share_1 rfl rfl ?_
  refine g_callV (As := [.int (nI j)]) (rest := []) C dX11_share_2 (c_M_isPlace_in hj) wC_X11_isPlace wM_X11_97 wI_X11_isPlace wS_X11_isPlace wN_X11 (kne hx.1) (pf_11 hx.1) rfl hd_X11_isPlace ⟨by decide, by decide, by decide, by decide⟩ (Nat.le_of_ble_eq_true rfl) (fun r_ S_ h_ => ?_)
  obtain ⟨rfl, rfl⟩ := h_
  change Go X G _ 3 _ _ (mo_ S M) 5 [(0, .ref x), (1, .int (nI j)), (2, .int (nI i))] [.int (nI 1)]
  refine g_nif_eq 16 (by decide) C dX11_share_5 (by decide) (fun c => absurd c (by decide)) (fun _ => ?_)
  refine g_aload_n 0 0 C dX11_share_8 rfl rfl ?_
  refine g_iload_n 2 2 C dX11_share_9 rfl rfl ?_
  refine g_callV (As := [.int (nI i)]) (rest := []) C dX11_share_10 (c_M_isPlace_in hi) wC_X11_isPlace wM_X11_97 wI_X11_isPlace wS_X11_isPlace wN_X11 (kne hx.1) (pf_11 hx.1) rfl hd_X11_isPlace ⟨by decide, by decide, by decide, by decide⟩ (Nat.le_of_ble_eq_true rfl) (fun r_ S_ h_ => ?_)
  obtain ⟨rfl, rfl⟩ := h_
  change Go X G _ 3 _ _ (mo_ S M) 13 [(0, .ref x), (1, .int (nI j)), (2, .int (nI i))] [.int (nI 1)]
  refine g_nif_ne 19 (by decide) C dX11_share_13 (by decide) (fun _ => ?_) (fun c => absurd c (by decide))
  refine g_aload_n 0 0 C dX11_share_19 rfl rfl ?_
  refine gr_m_place C dX11_share_20 hx.1 wF_X11_17 r_place ?_
  refine g_iload_n 1 1 C dX11_share_23 rfl rfl ?_
  refine ga_m_place C dX11_share_24 k_place (by omega) ?_
  refine g_topi (((hR.2.1 j hj).trans (by rw [hp]))) ?_
  refine g_nif_ne 31 (by omega) C dX11_share_25 (by decide) (fun _ => ?_) (fun c => absurd c (by omega))
  refine g_aload_n 0 0 C dX11_share_31 rfl rfl ?_
  refine gr_m_place C dX11_share_32 hx.1 wF_X11_17 r_place ?_
  refine g_iload_n 2 2 C dX11_share_35 rfl rfl ?_
  refine g_aload_n 0 0 C dX11_share_36 rfl rfl ?_
  refine gr_m_place C dX11_share_37 hx.1 wF_X11_17 r_place ?_
  refine g_iload_n 1 1 C dX11_share_40 rfl rfl ?_
  refine ga_m_place C dX11_share_41 k_place (by omega) ?_
  refine g_topi (((hR.2.1 j hj).trans (by rw [hp]))) ?_
  refine gs_m_place C dX11_share_42 k_place (by omega) ?_
  refine g_aload_n 0 0 C dX11_share_43 rfl rfl ?_
  refine g_iload_n 1 1 C dX11_share_44 rfl rfl ?_
  refine g_callV (As := [.int (nI j)]) (rest := []) C dX11_share_45 (c_M_kind (M := m_place_ M (upd (m_place M) i (nI (t + 1)))) hx hR2 hZ2) wC_X11_kind wM_X11_105 wI_X11_kind wS_X11_kind wN_X11 (kne hx.1) (pf_11 hx.1) rfl hd_X11_kind ⟨by decide, by decide, by decide, by decide⟩ (Nat.le_of_ble_eq_true rfl) (fun r_ S_ h_ => ?_)
  obtain ⟨rfl, rfl⟩ := h_
  change Go X G _ 3 _ _ (mo_ S (m_place_ M (upd (m_place M) i (nI (t + 1))))) 48 [(0, .ref x), (1, .int (nI j)), (2, .int (nI i))] [.int (A_kind (zP_ Z (setP (zP Z) i (t + 1))) (nI j))]
  exact g_iret C dX11_share_48 (by decide) (by decide) (⟨_, by unfold A_share A_kind; rw [if_neg (fun z => z.elim (nI_in10 hj) (nI_in10 hi)), look_at hj hp, look_at hj hj2], rfl, rfl, by unfold N_share; rw [if_neg (fun z => z.elim (nI_in10 hj) (nI_in10 hi)), nI_clamp (by omega), nI_clamp (by omega), if_neg (by omega), hp]; exact hR2⟩)
theorem c_M_share {l : Launch} {G : Gx} {S : PS} {M : MoT} {x : Nat} (hx : MoOk S M x) {Z : ZT} (hR : RM M Z) (hZ : okZ Z) {p q : Int32} : Ct l yX11_share cX11_share 3 (Option.some Jvm.ClassFile.FieldType.int) rm_X11_share G [.ref x, .int p, .int q] (mo_ S M) (fun r S' => ∃ M', r = some (.int (A_share Z p q)) ∧ S' = mo_ S M' ∧ mo_r M' = mo_r M ∧ RM M' (N_share Z p q)) := by
  rcases look_cases Z p with h | ⟨j, hj, rfl, h⟩
  · exact c_M_share_o1 hx hR hZ h
  · rcases look_cases Z q with g | ⟨i, hi, rfl, -⟩
    · exact c_M_share_o2 hx hR hZ hj g
    · rcases h with h | ⟨t, h⟩
      · exact c_M_share_no hx hR hZ hj hi h
      · exact c_M_share_at hx hR hZ hj hi h
