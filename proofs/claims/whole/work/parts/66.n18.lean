theorem eb_ed {l : List Ent} (hl : okL l) (h0 : 0 < l.length) {v q : Nat} (hv : v < (tr l false).length) (hq : q < dgN l v) : ebN l (fe l v + q) = edB l (fe l v + q) (ndAt l false v).2.2.1 := by
  unfold ebN edB
  rw [(ed_ok hl h0 hv hq).2.1]
theorem edN_eq {l : List Ent} {v i b q : Nat} (h1 : q ≤ dgN l v) (h2 : ∀ p, p < q → edB l (fe l v + p) i ≠ b) (h3 : q = dgN l v ∨ edB l (fe l v + q) i = b) : edN l v i b = q := by
  unfold edN
  refine fN_eq h1 (fun p hp => by simpa using h2 p hp) ?_
  rcases h3 with h | h
  · exact Or.inl h
  · exact Or.inr (by simpa using h)
def eFr (l : List Ent) (v i b : Nat) : Int32 := if edN l v i b < dgN l v then nI (fe l v + edN l v i b) else -1
theorem eb_255 {l : List Ent} (hl : okL l) (h0 : 0 < l.length) {e : Nat} (he : e + 1 < (tr l false).length) : ebN l e ≤ 255 := by
  have hok := (tr_ok hl h0 false).2.2 (e + 1) he
  unfold ebN
  rcases Nat.lt_or_ge (ndAt l false (e + 1)).2.2.2 (nm l (ndAt l false (e + 1)).1).length with z | z
  · exact ((hl.2.1 _ (by have := hok.1; have := hok.2.1; omega)).2.2 _ z).2
  · rw [List.getD_eq_getElem?_getD, List.getElem?_eq_none z]; exact Nat.zero_le _
set_option maxRecDepth 100000 in
set_option maxHeartbeats 4000000 in
theorem c_K_edgeFrom {lX : Launch} {G : Gx} {S : PS} {d : Nat → Nat} {T : Th} (hb : bookC S d T) (hk2 : tK T = 2) (hO : okL (tL T)) (h0 : 0 < (tL T).length) (hTb : tB T = bitsT (tL T) false) (hA : tA T = false) (hC : tC T = false) {v b : Nat} (hv : v < (tr (tL T) false).length) (hb255 : b ≤ 255) : Ct lX yX2_edgeFrom cX2_edgeFrom 4 (Option.some Jvm.ClassFile.FieldType.int) rm_X2_edgeFrom G [.ref ((d 0)), .int (nI v), .int (nI b)] S (fun r S' => r = some (.int (eFr (tL T) v (ndAt (tL T) false v).2.2.1 b)) ∧ S = S') := by
  obtain ⟨⟨B1, B2, B3⟩, B4, ⟨B5, B6⟩, ⟨B7, B8, B9⟩, B10, B11⟩ := id hb
  obtain ⟨R1, hrw⟩ := B11 (by omega)
  obtain ⟨E1, E2⟩ := B9 hk2
  have ebl : edgesN 2 (tL T) = (tr (tL T) false).length - 1 := rfl
  have b01 := hrw.1.2.2.2.2.2.2.1.2
  have hrw' := hrw
  rw [hTb] at hrw b01
  have hN1 := (tr_ok hO h0 false).1
  obtain ⟨w1, w2, w3, w4, -⟩ := row_at hO h0 hv
  have hbz := bz_at hO h0 b01 hv
  have hbl := hrw.1.2.2.2.2.2.2.1.1
  refine Ct.mk RX2 "edgeFrom" hy_X2_edgeFrom (Nat.le_of_ble_eq_true rfl) (fun X hX C => ?_)
  change Go X G _ 4 0 0 S 0 [(0, .ref ((d 0))), (1, .int (nI v)), (2, .int (nI b))] []
  refine g_aload_n 0 0 C dX2_edgeFrom_0 rfl rfl ?_
  refine gr_bk_row C dX2_edgeFrom_1 B1 wF_X2_15 R1 ?_
  refine g_ifnonnull 9 C dX2_edgeFrom_4 (by decide) ?_
  refine g_aload_n 0 0 C dX2_edgeFrom_9 rfl rfl ?_
  refine gr_bk_row C dX2_edgeFrom_10 B1 wF_X2_15 R1 ?_
  refine g_aload_n 0 0 C dX2_edgeFrom_13 rfl rfl ?_
  refine gr_bk_row C dX2_edgeFrom_14 B1 wF_X2_15 R1 ?_
  refine g_iload_n 1 1 C dX2_edgeFrom_17 rfl rfl ?_
  refine g_callV (As := [.int (nI v)]) (rest := [.ref ((d 4))]) C dX2_edgeFrom_18 (c_R_behind hrw (by omega) hA hC) wC_X6_behindZeros wM_X2_54 wI_X6_behindZeros wS_X6_behindZeros wN_X6 (kne hrw.1.1.1) (pf_7 hrw.1.1.1) rfl hd_X6_behindZeros ⟨by decide, by decide, by decide, by decide⟩ (Nat.le_of_ble_eq_true rfl) (fun r_ S_ h_ => ?_)
  obtain ⟨rfl, rfl⟩ := h_
  change Go X G _ 4 _ _ S 21 [(0, .ref ((d 0))), (1, .int (nI v)), (2, .int (nI b))] [.int (nI (bzN (bitsT (tL T) false) v)), .ref ((d 4))]
  rw [hbz]
  refine g_callV (As := [.int (nI (v + fe (tL T) v))]) (rest := []) C dX2_edgeFrom_21 (c_R_onesAhead hrw (by omega) hA hC) wC_X6_onesAhead wM_X2_58 wI_X6_onesAhead wS_X6_onesAhead wN_X6 (kne hrw.1.1.1) (pf_7 hrw.1.1.1) rfl hd_X6_onesAhead ⟨by decide, by decide, by decide, by decide⟩ (Nat.le_of_ble_eq_true rfl) (fun r_ S_ h_ => ?_)
  obtain ⟨rfl, rfl⟩ := h_
  change Go X G _ 4 _ _ S 24 [(0, .ref ((d 0))), (1, .int (nI v)), (2, .int (nI b))] [.int (nI (onesN (bitsT (tL T) false) (v + fe (tL T) v)))]
  rw [w1]
  refine g_istore_n (lv' := [(3, .int (nI (fe (tL T) v))), (0, .ref ((d 0))), (1, .int (nI v)), (2, .int (nI b))]) C dX2_edgeFrom_24 rfl (by decide) rfl ?_
  have lp : ∀ (n_ : Nat) (q : Nat), dgN (tL T) v - q < n_ → (q ≤ dgN (tL T) v ∧ ∀ p, p < q → edB (tL T) (fe (tL T) v + p) (ndAt (tL T) false v).2.2.1 ≠ b) → Go X G (Qe X G (fun r S' => r = some (.int (eFr (tL T) v (ndAt (tL T) false v).2.2.1 b)) ∧ S = S') rm_X2_edgeFrom.cells rm_X2_edgeFrom.slots) 4 0 0 S 25 [(3, .int (nI (fe (tL T) v + q))), (0, .ref ((d 0))), (1, .int (nI v)), (2, .int (nI b))] [] := by
    intro n_
    induction n_ with
    | zero => intro q hm_; exact absurd hm_ (Nat.not_lt_zero _)
    | succ n_ ih_ =>
      intro q hm_ hh
      obtain ⟨i1, i2⟩ := hh
      refine g_iload_n 0 3 C dX2_edgeFrom_25 rfl rfl ?_
      refine g_aload_n 1 0 C dX2_edgeFrom_26 rfl rfl ?_
      refine gr_bk_eb C dX2_edgeFrom_27 B1 wF_X2_26 B7 ?_
      refine gl_eb_a C dX2_edgeFrom_30 B8 ?_
      refine g_topi (congrArg nI (E1.trans ebl)) ?_
      refine g_ncmp_ge 79 (by omega) (by omega) C dX2_edgeFrom_31 (by decide) (fun c31 => ?_) (fun c31 => ?_)
      · have eq : q = dgN (tL T) v := by
          rcases Nat.lt_or_ge q (dgN (tL T) v) with z | z
          · have := (ed_ok hO h0 hv z).1; omega
          · omega
        have e : edN (tL T) v (ndAt (tL T) false v).2.2.1 b = dgN (tL T) v := edN_eq (Nat.le_refl _) (fun p hp => i2 p (by omega)) (Or.inl rfl)
        have e2 : eFr (tL T) v (ndAt (tL T) false v).2.2.1 b = -1 := by unfold eFr; rw [e, if_neg (by omega)]
        refine g_iconst (v := -1) C dX2_edgeFrom_79 (by decide) ?_
        exact g_iret C dX2_edgeFrom_80 (by decide) (by decide) (⟨by rw [e2], rfl⟩)
      · refine g_aload_n 1 0 C dX2_edgeFrom_34 rfl rfl ?_
        refine gr_bk_row C dX2_edgeFrom_35 B1 wF_X2_15 R1 ?_
        refine g_iload_n 0 3 C dX2_edgeFrom_38 rfl rfl ?_
        refine g_iload_n 2 1 C dX2_edgeFrom_39 rfl rfl ?_
        refine g_iadd C dX2_edgeFrom_40 ?_
        refine g_topi (nI_add _ _ : _ = nI (fe (tL T) v + q + v)) ?_
        refine g_callV (As := [.int (nI (fe (tL T) v + q + v))]) (rest := []) C dX2_edgeFrom_41 (c_R_hasBit hrw.1) wC_X6_hasBit wM_X2_61 wI_X6_hasBit wS_X6_hasBit wN_X6 (kne hrw.1.1.1) (pf_7 hrw.1.1.1) rfl hd_X6_hasBit ⟨by decide, by decide, by decide, by decide⟩ (Nat.le_of_ble_eq_true rfl) (fun r_ S_ h_ => ?_)
        obtain ⟨rfl, rfl⟩ := h_
        change Go X G _ 4 _ _ S 44 [(3, .int (nI (fe (tL T) v + q))), (0, .ref ((d 0))), (1, .int (nI v)), (2, .int (nI b))] [.int (bI (inR (nI (fe (tL T) v + q + v)) (bitsT (tL T) false).length))]
        refine g_if_eq 79 C dX2_edgeFrom_44 (by decide) (fun c44 => ?_) (fun c44 => ?_)
        · exfalso
          have := bI_f c44
          rw [inR_nI (by omega)] at this
          have := of_decide_eq_false this
          omega
        · have hin := bI_t c44
          rw [inR_nI (by omega)] at hin
          have hlt := of_decide_eq_true hin
          refine g_aload_n 1 0 C dX2_edgeFrom_47 rfl rfl ?_
          refine gr_bk_row C dX2_edgeFrom_48 B1 wF_X2_15 R1 ?_
          refine g_iload_n 0 3 C dX2_edgeFrom_51 rfl rfl ?_
          refine g_iload_n 2 1 C dX2_edgeFrom_52 rfl rfl ?_
          refine g_iadd C dX2_edgeFrom_53 ?_
          refine g_topi (nI_add _ _ : _ = nI (fe (tL T) v + q + v)) ?_
          refine g_callV (As := [.int (nI (fe (tL T) v + q + v))]) (rest := []) C dX2_edgeFrom_54 (c_R_bitAt hrw.1 hlt) wC_X6_bitAt wM_X2_65 wI_X6_bitAt wS_X6_bitAt wN_X6 (kne hrw.1.1.1) (pf_7 hrw.1.1.1) rfl hd_X6_bitAt ⟨by decide, by decide, by decide, by decide⟩ (Nat.le_of_ble_eq_true rfl) (fun r_ S_ h_ => ?_)
          obtain ⟨rfl, rfl⟩ := h_
          change Go X G _ 4 _ _ S 57 [(3, .int (nI (fe (tL T) v + q))), (0, .ref ((d 0))), (1, .int (nI v)), (2, .int (nI b))] [.int (nI ((bitsT (tL T) false).getD (fe (tL T) v + q + v) 0))]
          have hb1 := b01 (fe (tL T) v + q + v)
          refine g_iconst (v := nI 1) C dX2_edgeFrom_57 (by decide) ?_
          refine g_ncmp_ne 79 (by omega) (by omega) C dX2_edgeFrom_58 (by decide) (fun c58 => ?_) (fun c58 => ?_)
          · have eq : q = dgN (tL T) v := by
              rcases Nat.lt_or_ge q (dgN (tL T) v) with z | z
              · exact absurd (by rw [show fe (tL T) v + q + v = v + fe (tL T) v + q by omega]; exact w3 q z) c58
              · omega
            have e : edN (tL T) v (ndAt (tL T) false v).2.2.1 b = dgN (tL T) v := edN_eq (Nat.le_refl _) (fun p hp => i2 p (by omega)) (Or.inl rfl)
            have e2 : eFr (tL T) v (ndAt (tL T) false v).2.2.1 b = -1 := by unfold eFr; rw [e, if_neg (by omega)]
            refine g_iconst (v := -1) C dX2_edgeFrom_79 (by decide) ?_
            exact g_iret C dX2_edgeFrom_80 (by decide) (by decide) (⟨by rw [e2], rfl⟩)
          · have hq : q < dgN (tL T) v := by
              rcases Nat.lt_or_ge q (dgN (tL T) v) with z | z
              · exact z
              · rw [show fe (tL T) v + q + v = v + fe (tL T) v + dgN (tL T) v by omega, w4] at c58; cases c58
            have hee := (ed_ok hO h0 hv hq).1
            have hev := eb_ed hO h0 hv hq
            have heb : ebN (tL T) (fe (tL T) v + q) ≤ 255 := eb_255 hO h0 (by omega)
            refine g_aload_n 1 0 C dX2_edgeFrom_61 rfl rfl ?_
            refine gr_bk_eb C dX2_edgeFrom_62 B1 wF_X2_26 B7 ?_
            refine g_iload_n 0 3 C dX2_edgeFrom_65 rfl rfl ?_
            refine ga_eb_a C dX2_edgeFrom_66 B8 (by have h_ : ln S ((d 8)) = (tr (tL T) false).length - 1 := (E1.trans ebl); omega) (by have h_ : ln S ((d 8)) = (tr (tL T) false).length - 1 := (E1.trans ebl); omega) ?_
            refine g_topi (E2 _ (by omega)) ?_
            refine g_iload_n 3 2 C dX2_edgeFrom_67 rfl rfl ?_
            refine g_ncmp_ne 73 (by omega) (by omega) C dX2_edgeFrom_68 (by decide) (fun c68 => ?_) (fun c68 => ?_)
            · refine g_iinc (v := nI (fe (tL T) v + q + 1)) (lv' := [(3, .int (nI (fe (tL T) v + q + 1))), (0, .ref ((d 0))), (1, .int (nI v)), (2, .int (nI b))]) 0 C dX2_edgeFrom_73 rfl (nI_add _ 1) (by decide) rfl ?_
              refine g_goto 25 C dX2_edgeFrom_76 (by decide) ?_
              exact ih_ (q + 1) (by omega) ⟨by omega, fun p hp => by
                by_cases z : p = q
                · rw [z, ← hev]; exact c68
                · exact i2 p (by omega)⟩
            · refine g_iload_n 0 3 C dX2_edgeFrom_71 rfl rfl ?_
              exact g_iret C dX2_edgeFrom_72 (by decide) (by decide) (⟨by unfold eFr; rw [edN_eq i1 i2 (Or.inr (by rw [← hev]; exact c68)), if_pos hq], rfl⟩)
  exact lp (dgN (tL T) v + 1) 0 (by omega) ⟨Nat.zero_le _, fun p hp => absurd hp (Nat.not_lt_zero _)⟩
set_option maxRecDepth 100000 in
set_option maxHeartbeats 4000000 in
theorem c_W_goDown {lX : Launch} {G : Gx} {S : PS} {a n : Nat} (ka : kd S a = 9) (ra : wi_numbers S a = some n) (kn : kd S n = 16) (hln : ln S n = 75) {d : Nat → Nat} {T : Th} (hb : bookC S d T) (hk2 : tK T = 2) (hO : okL (tL T)) (h0 : 0 < (tL T).length) (hTb : tB T = bitsT (tL T) false) (hA : tA T = false) (hC : tC T = false) {m : Nat} {cur : List Nat} (hc : nameC S m cur) (oc : okN cur) : Ct lX yX9_goDown cX9_goDown 6 (Option.some Jvm.ClassFile.FieldType.int) rm_X9_goDown G [.ref a, .ref ((d 0)), .ref m] S (fun r S' => ∃ f, r = some (.int (bI (dnIs (tL T) cur))) ∧ S' = wiS S a n f (nI (dnD (tL T) cur).length) ∧ wF f (dnD (tL T) cur)) := by
  obtain ⟨g1, b_, g2, g3, g4, g5⟩ := id hc
  have ocl := oc.2.1
  refine Ct.mk RX9 "goDown" hy_X9_goDown (Nat.le_of_ble_eq_true rfl) (fun X hX C => ?_)
  change Go X G _ 6 0 0 S 0 [(0, .ref a), (1, .ref ((d 0))), (2, .ref m)] []
  refine g_aload_n 0 0 C dX9_goDown_0 rfl rfl ?_
  refine g_iconst (v := nI 0) C dX9_goDown_1 (by decide) ?_
  refine pp_wi_size C dX9_goDown_2 ka wF_X9_15 (Or.inl rfl) ?_
  refine g_iconst (v := nI 0) C dX9_goDown_5 (by decide) ?_
  refine g_istore_n (lv' := [(3, .int (nI 0)), (0, .ref a), (1, .ref ((d 0))), (2, .ref m)]) C dX9_goDown_6 rfl (by decide) rfl ?_
  refine g_iconst (v := nI 0) C dX9_goDown_7 (by decide) ?_
  refine g_istore (lv' := [(4, .int (nI 0)), (3, .int (nI 0)), (0, .ref a), (1, .ref ((d 0))), (2, .ref m)]) C dX9_goDown_8 (by decide) rfl ?_
  have lp : ∀ (n_ : Nat) (i v : Nat) (D : List Int32) (f : Nat → Int32), cur.length - i < n_ → (i ≤ cur.length ∧ dnS (tL T) cur i = (v, D, true) ∧ dnI (tL T) cur i v ∧ D.length = 3 * i ∧ wF f D) → Go X G (Qe X G (fun r S' => ∃ f, r = some (.int (bI (dnIs (tL T) cur))) ∧ S' = wiS S a n f (nI (dnD (tL T) cur).length) ∧ wF f (dnD (tL T) cur)) rm_X9_goDown.cells rm_X9_goDown.slots) 6 0 0 (wiS S a n f (nI D.length)) 10 [(4, .int (nI i)), (3, .int (nI v)), (0, .ref a), (1, .ref ((d 0))), (2, .ref m)] [] := by
    intro n_
    induction n_ with
    | zero => intro i v D f hm_; exact absurd hm_ (Nat.not_lt_zero _)
    | succ n_ ih_ =>
      intro i v D f hm_ hh
      obtain ⟨hi, hds, hdi, hdl, hwf⟩ := hh
      have hvN := hdi.1
      have hN1 := (tr_ok hO h0 false).1
      refine g_iload 0 C dX9_goDown_10 rfl ?_
      refine g_aload_n 4 2 C dX9_goDown_12 rfl rfl ?_
      refine gr_nm_bytes C dX9_goDown_13 g1 wF_X9_19 g2 ?_
      refine gl_nb_a C dX9_goDown_16 g3 ?_
      refine g_topi (congrArg nI g4) ?_
      refine g_ncmp_ge 71 (by omega) (by omega) C dX9_goDown_17 (by decide) (fun c17 => ?_) (fun c17 => ?_)
      · refine g_aload_n 3 1 C dX9_goDown_71 rfl rfl ?_
        refine gr_bk_list C dX9_goDown_72 hb.1.1 wF_X9_34 hb.1.2.2 ?_
        refine g_aload_n 3 1 C dX9_goDown_75 rfl rfl ?_
        refine gr_bk_list C dX9_goDown_76 hb.1.1 wF_X9_34 hb.1.2.2 ?_
        refine g_aload_n 4 2 C dX9_goDown_79 rfl rfl ?_
        refine g_callV (As := [.ref m]) (rest := [.ref ((d 1))]) C dX9_goDown_80 (c_L_ahead (S := (wiS S a n f (nI D.length))) hb.2.1 hc oc) wC_X4_ahead wM_X9_38 wI_X4_ahead wS_X4_ahead wN_X4 (kne hb.2.1.1.1) (pf_5 hb.2.1.1.1) rfl hd_X4_ahead ⟨by decide, by decide, by decide, by decide⟩ (Nat.le_of_ble_eq_true rfl) (fun r_ S_ h_ => ?_)
        obtain ⟨rfl, rfl⟩ := h_
        change Go X G _ 6 _ _ (wiS S a n f (nI D.length)) 83 [(4, .int (nI i)), (3, .int (nI v)), (0, .ref a), (1, .ref ((d 0))), (2, .ref m)] [.int (nI (aheadN (tL T) cur)), .ref ((d 1))]
        refine g_aload_n 4 2 C dX9_goDown_83 rfl rfl ?_
        refine g_callV (As := [.int (nI (aheadN (tL T) cur)), .ref m]) (rest := []) C dX9_goDown_84 (c_L_hasAt (S := (wiS S a n f (nI D.length))) hb.2.1 hc oc (by have := ahead_le (tL T) cur; have := hO.1; omega)) wC_X4_hasAt wM_X9_44 wI_X4_hasAt wS_X4_hasAt wN_X4 (kne hb.2.1.1.1) (pf_5 hb.2.1.1.1) rfl hd_X4_hasAt ⟨by decide, by decide, by decide, by decide⟩ (Nat.le_of_ble_eq_true rfl) (fun r_ S_ h_ => ?_)
        obtain ⟨rfl, rfl⟩ := h_
        change Go X G _ 6 _ _ (wiS S a n f (nI D.length)) 87 [(4, .int (nI i)), (3, .int (nI v)), (0, .ref a), (1, .ref ((d 0))), (2, .ref m)] [.int (bI (isAtN (tL T) (aheadN (tL T) cur) cur))]
        refine g_if_eq 94 C dX9_goDown_87 (by decide) (fun c87 => ?_) (fun c87 => ?_)
        · refine g_iconst (v := nI 0) C dX9_goDown_94 (by decide) ?_
          refine g_istore (lv' := [(4, .int (nI 0)), (3, .int (nI v)), (0, .ref a), (1, .ref ((d 0))), (2, .ref m)]) C dX9_goDown_95 (by decide) rfl ?_
          refine g_aload_n 2 0 C dX9_goDown_97 rfl rfl ?_
          refine g_iconst (v := -1) C dX9_goDown_98 (by decide) ?_
          refine g_iload_n 1 3 C dX9_goDown_99 rfl rfl ?_
          refine g_iload 0 C dX9_goDown_100 rfl ?_
          refine g_callV (As := [.int (-1), .int (nI v), .int (nI 0)]) (rest := []) C dX9_goDown_102 (c_W_add3 (w := D) (f := f) (x := -1) (y := nI v) (z := nI 0) ka ra kn hln (by omega)) wC_X9_addThree wM_X9_30 wI_X9_addThree wS_X9_addThree wN_X9 (kne ka) (pf_9 ka) rfl hd_X9_addThree ⟨by decide, by decide, by decide, by decide⟩ (Nat.le_of_ble_eq_true rfl) (fun r_ S_ h_ => ?_)
          obtain ⟨rfl, rfl⟩ := h_
          change Go X G _ 6 _ _ (wiS S a n (upd (upd (upd f D.length (-1)) (D.length + 1) (nI v)) (D.length + 2) (nI 0)) (nI (D ++ [-1, nI v, nI 0]).length)) 105 [(4, .int (nI 0)), (3, .int (nI v)), (0, .ref a), (1, .ref ((d 0))), (2, .ref m)] []
          refine g_iload 0 C dX9_goDown_105 rfl ?_
          have hend : isEndN (tL T) (ndAt (tL T) false v) = false := by
            rw [show i = cur.length by omega] at hdi
            rw [dn_end_has hO h0 hdi]; exact bI_f c87
          rw [show i = cur.length by omega] at hds
          obtain ⟨e1, e2⟩ := dn_end hds (s := false) (by rw [hend]; rfl)
          exact g_iret C dX9_goDown_107 (by decide) (by decide) ⟨_, by rw [e1]; rfl, by rw [e2]; rfl, by rw [e2]; exact hwf.add3 (-1) (nI v) (nI 0)⟩
        · refine g_iconst (v := nI 1) C dX9_goDown_90 (by decide) ?_
          refine g_goto 95 C dX9_goDown_91 (by decide) ?_
          refine g_istore (lv' := [(4, .int (nI 1)), (3, .int (nI v)), (0, .ref a), (1, .ref ((d 0))), (2, .ref m)]) C dX9_goDown_95 (by decide) rfl ?_
          refine g_aload_n 2 0 C dX9_goDown_97 rfl rfl ?_
          refine g_iconst (v := -1) C dX9_goDown_98 (by decide) ?_
          refine g_iload_n 1 3 C dX9_goDown_99 rfl rfl ?_
          refine g_iload 0 C dX9_goDown_100 rfl ?_
          refine g_callV (As := [.int (-1), .int (nI v), .int (nI 1)]) (rest := []) C dX9_goDown_102 (c_W_add3 (w := D) (f := f) (x := -1) (y := nI v) (z := nI 1) ka ra kn hln (by omega)) wC_X9_addThree wM_X9_30 wI_X9_addThree wS_X9_addThree wN_X9 (kne ka) (pf_9 ka) rfl hd_X9_addThree ⟨by decide, by decide, by decide, by decide⟩ (Nat.le_of_ble_eq_true rfl) (fun r_ S_ h_ => ?_)
          obtain ⟨rfl, rfl⟩ := h_
          change Go X G _ 6 _ _ (wiS S a n (upd (upd (upd f D.length (-1)) (D.length + 1) (nI v)) (D.length + 2) (nI 1)) (nI (D ++ [-1, nI v, nI 1]).length)) 105 [(4, .int (nI 1)), (3, .int (nI v)), (0, .ref a), (1, .ref ((d 0))), (2, .ref m)] []
          refine g_iload 0 C dX9_goDown_105 rfl ?_
          have hend : isEndN (tL T) (ndAt (tL T) false v) = true := by
            rw [show i = cur.length by omega] at hdi
            rw [dn_end_has hO h0 hdi]; exact bI_t c87
          rw [show i = cur.length by omega] at hds
          obtain ⟨e1, e2⟩ := dn_end hds (s := true) (by rw [hend]; rfl)
          exact g_iret C dX9_goDown_107 (by decide) (by decide) ⟨_, by rw [e1]; rfl, by rw [e2]; rfl, by rw [e2]; exact hwf.add3 (-1) (nI v) (nI 1)⟩
      · have hby := (oc.2.2 i (by omega)).2
        refine g_aload_n 3 1 C dX9_goDown_20 rfl rfl ?_
        refine g_iload_n 1 3 C dX9_goDown_21 rfl rfl ?_
        refine g_aload_n 4 2 C dX9_goDown_22 rfl rfl ?_
        refine gr_nm_bytes C dX9_goDown_23 g1 wF_X9_19 g2 ?_
        refine g_iload 0 C dX9_goDown_26 rfl ?_
        refine ga_nb_a C dX9_goDown_28 g3 (by have h_ : ln (wiS S a n f (nI D.length)) b_ = cur.length := g4; omega) (by have h_ : ln (wiS S a n f (nI D.length)) b_ = cur.length := g4; omega) ?_
        refine g_topi (g5 i (by omega)) ?_
        refine g_callV (As := [.int (nI v), .int (nI (cur.getD i 0))]) (rest := []) C dX9_goDown_29 (c_K_edgeFrom (S := (wiS S a n f (nI D.length))) hb hk2 hO h0 hTb hA hC hdi.1 (by omega)) wC_X2_edgeFrom wM_X9_24 wI_X2_edgeFrom wS_X2_edgeFrom wN_X2 (kne hb.1.1) (pf_3 hb.1.1) rfl hd_X2_edgeFrom ⟨by decide, by decide, by decide, by decide⟩ (Nat.le_of_ble_eq_true rfl) (fun r_ S_ h_ => ?_)
        obtain ⟨rfl, rfl⟩ := h_
        change Go X G _ 6 _ _ (wiS S a n f (nI D.length)) 32 [(4, .int (nI i)), (3, .int (nI v)), (0, .ref a), (1, .ref ((d 0))), (2, .ref m)] [.int (eFr (tL T) v (ndAt (tL T) false v).2.2.1 (cur.getD i 0))]
        rw [hdi.2.1]
        by_cases hq : edN (tL T) v i (cur.getD i 0) < dgN (tL T) v
        · have hef : eFr (tL T) v i (cur.getD i 0) = nI (fe (tL T) v + edN (tL T) v i (cur.getD i 0)) := by unfold eFr; rw [if_pos hq]
          refine g_topi hef ?_
          obtain ⟨q, eq⟩ : ∃ q, q = edN (tL T) v i (cur.getD i 0) := ⟨_, rfl⟩
          rw [← eq] at hq ⊢
          have h1 : ∀ p, p < q → edB (tL T) (fe (tL T) v + p) i ≠ cur.getD i 0 := fun p hp => by
            have := fN_all (p := fun q => edB (tL T) (fe (tL T) v + q) i != cur.getD i 0) (n := dgN (tL T) v) (j := p) (by rw [eq] at hp; exact hp)
            simpa using this
          have h2 : edB (tL T) (fe (tL T) v + q) i = cur.getD i 0 := by
            have := fN_end (p := fun q => edB (tL T) (fe (tL T) v + q) i != cur.getD i 0) (n := dgN (tL T) v) (by rw [eq] at hq; exact hq)
            rw [eq]; unfold edN; simpa using this
          have hgo := dnS_go hds hq h1 h2
          have hgi := dnI_go hO h0 hdi hq h1 h2
          have hbnd := (ed_ok hO h0 hdi.1 hq).1
          refine g_istore (lv' := [(5, .int (nI (fe (tL T) v + q))), (4, .int (nI i)), (3, .int (nI v)), (0, .ref a), (1, .ref ((d 0))), (2, .ref m)]) C dX9_goDown_32 (by decide) rfl ?_
          refine g_iload 0 C dX9_goDown_34 rfl ?_
          refine g_iconst (v := -1) C dX9_goDown_36 (by decide) ?_
          refine g_icmp_ne 43 C dX9_goDown_37 (by decide) (fun c37 => ?_) (fun c37 => ?_)
          · refine g_aload_n 3 0 C dX9_goDown_43 rfl rfl ?_
            refine g_iload 0 C dX9_goDown_44 rfl ?_
            refine g_iload_n 2 3 C dX9_goDown_46 rfl rfl ?_
            refine g_iadd C dX9_goDown_47 ?_
            refine g_topi (nI_add _ _ : _ = nI (fe (tL T) v + q + v)) ?_
            refine g_iload 0 C dX9_goDown_48 rfl ?_
            refine g_aload_n 5 2 C dX9_goDown_50 rfl rfl ?_
            refine gr_nm_bytes C dX9_goDown_51 g1 wF_X9_19 g2 ?_
            refine g_iload 1 C dX9_goDown_54 rfl ?_
            refine ga_nb_a C dX9_goDown_56 g3 (by have h_ : ln (wiS S a n f (nI D.length)) b_ = cur.length := g4; omega) (by have h_ : ln (wiS S a n f (nI D.length)) b_ = cur.length := g4; omega) ?_
            refine g_topi (g5 i (by omega)) ?_
            refine g_callV (As := [.int (nI (fe (tL T) v + q + v)), .int (nI (fe (tL T) v + q)), .int (nI (cur.getD i 0))]) (rest := []) C dX9_goDown_57 (c_W_add3 (w := D) (f := f) ka ra kn hln (by omega)) wC_X9_addThree wM_X9_30 wI_X9_addThree wS_X9_addThree wN_X9 (kne ka) (pf_9 ka) rfl hd_X9_addThree ⟨by decide, by decide, by decide, by decide⟩ (Nat.le_of_ble_eq_true rfl) (fun r_ S_ h_ => ?_)
            obtain ⟨rfl, rfl⟩ := h_
            change Go X G _ 6 _ _ (wiS S a n (upd (upd (upd f D.length (nI (fe (tL T) v + q + v))) (D.length + 1) (nI (fe (tL T) v + q))) (D.length + 2) (nI (cur.getD i 0))) (nI (D ++ [nI (fe (tL T) v + q + v), nI (fe (tL T) v + q), nI (cur.getD i 0)]).length)) 60 [(5, .int (nI (fe (tL T) v + q))), (4, .int (nI i)), (3, .int (nI v)), (0, .ref a), (1, .ref ((d 0))), (2, .ref m)] []
            refine g_iload 0 C dX9_goDown_60 rfl ?_
            refine g_iconst (v := nI 1) C dX9_goDown_62 (by decide) ?_
            refine g_iadd C dX9_goDown_63 ?_
            refine g_topi (nI_add _ _ : _ = nI (fe (tL T) v + q + 1)) ?_
            refine g_istore_n (lv' := [(3, .int (nI (fe (tL T) v + q + 1))), (5, .int (nI (fe (tL T) v + q))), (4, .int (nI i)), (0, .ref a), (1, .ref ((d 0))), (2, .ref m)]) C dX9_goDown_64 rfl (by decide) rfl ?_
            refine g_iinc (v := nI (i + 1)) (lv' := [(4, .int (nI (i + 1))), (3, .int (nI (fe (tL T) v + q + 1))), (5, .int (nI (fe (tL T) v + q))), (0, .ref a), (1, .ref ((d 0))), (2, .ref m)]) 2 C dX9_goDown_65 rfl (nI_add _ 1) (by decide) rfl ?_
            refine g_goto 10 C dX9_goDown_68 (by decide) ?_
            refine Go.pick (lv' := [(4, .int (nI (i + 1))), (3, .int (nI (fe (tL T) v + q + 1))), (0, .ref a), (1, .ref ((d 0))), (2, .ref m)]) [0, 1, 3, 4, 5] rfl ?_
            exact ih_ (i + 1) (fe (tL T) v + q + 1) (D ++ [nI (fe (tL T) v + q + v), nI (fe (tL T) v + q), nI (cur.getD i 0)]) (upd (upd (upd f D.length (nI (fe (tL T) v + q + v))) (D.length + 1) (nI (fe (tL T) v + q))) (D.length + 2) (nI (cur.getD i 0))) (by omega) ⟨by omega, hgo, hgi, by rw [List.length_append, hdl]; show 3 * i + 3 = _; omega, hwf.add3 _ _ _⟩
          · exact absurd c37 (fun z => absurd (congrArg Int32.toInt z) (by rw [nI_toInt (by omega)]; show ¬ _ = (-1 : Int); omega))
        · have hef : eFr (tL T) v i (cur.getD i 0) = -1 := by unfold eFr; rw [if_neg hq]
          refine g_topi hef ?_
          have hnn : ∀ p, p < dgN (tL T) v → edB (tL T) (fe (tL T) v + p) i ≠ cur.getD i 0 := fun p hp => by
            have hge : dgN (tL T) v ≤ fN (fun q => edB (tL T) (fe (tL T) v + q) i != cur.getD i 0) (dgN (tL T) v) := Nat.not_lt.mp hq
            have := fN_all (p := fun q => edB (tL T) (fe (tL T) v + q) i != cur.getD i 0) (n := dgN (tL T) v) (j := p) (by omega)
            simpa using this
          have hno := dnS_no hds hnn (by omega)
          have hhas := dn_has hO h0 hdi hnn (by omega)
          refine g_istore (lv' := [(5, .int (-1)), (4, .int (nI i)), (3, .int (nI v)), (0, .ref a), (1, .ref ((d 0))), (2, .ref m)]) C dX9_goDown_32 (by decide) rfl ?_
          refine g_iload 0 C dX9_goDown_34 rfl ?_
          refine g_iconst (v := -1) C dX9_goDown_36 (by decide) ?_
          refine g_icmp_ne 43 C dX9_goDown_37 (by decide) (fun c37 => ?_) (fun c37 => ?_)
          · exact absurd rfl c37
          · refine g_goto 71 C dX9_goDown_40 (by decide) ?_
            refine g_aload_n 4 1 C dX9_goDown_71 rfl rfl ?_
            refine gr_bk_list C dX9_goDown_72 hb.1.1 wF_X9_34 hb.1.2.2 ?_
            refine g_aload_n 4 1 C dX9_goDown_75 rfl rfl ?_
            refine gr_bk_list C dX9_goDown_76 hb.1.1 wF_X9_34 hb.1.2.2 ?_
            refine g_aload_n 5 2 C dX9_goDown_79 rfl rfl ?_
            refine g_callV (As := [.ref m]) (rest := [.ref ((d 1))]) C dX9_goDown_80 (c_L_ahead (S := (wiS S a n f (nI D.length))) hb.2.1 hc oc) wC_X4_ahead wM_X9_38 wI_X4_ahead wS_X4_ahead wN_X4 (kne hb.2.1.1.1) (pf_5 hb.2.1.1.1) rfl hd_X4_ahead ⟨by decide, by decide, by decide, by decide⟩ (Nat.le_of_ble_eq_true rfl) (fun r_ S_ h_ => ?_)
            obtain ⟨rfl, rfl⟩ := h_
            change Go X G _ 6 _ _ (wiS S a n f (nI D.length)) 83 [(5, .int (-1)), (4, .int (nI i)), (3, .int (nI v)), (0, .ref a), (1, .ref ((d 0))), (2, .ref m)] [.int (nI (aheadN (tL T) cur)), .ref ((d 1))]
            refine g_aload_n 5 2 C dX9_goDown_83 rfl rfl ?_
            refine g_callV (As := [.int (nI (aheadN (tL T) cur)), .ref m]) (rest := []) C dX9_goDown_84 (c_L_hasAt (S := (wiS S a n f (nI D.length))) hb.2.1 hc oc (by have := ahead_le (tL T) cur; have := hO.1; omega)) wC_X4_hasAt wM_X9_44 wI_X4_hasAt wS_X4_hasAt wN_X4 (kne hb.2.1.1.1) (pf_5 hb.2.1.1.1) rfl hd_X4_hasAt ⟨by decide, by decide, by decide, by decide⟩ (Nat.le_of_ble_eq_true rfl) (fun r_ S_ h_ => ?_)
            obtain ⟨rfl, rfl⟩ := h_
            change Go X G _ 6 _ _ (wiS S a n f (nI D.length)) 87 [(5, .int (-1)), (4, .int (nI i)), (3, .int (nI v)), (0, .ref a), (1, .ref ((d 0))), (2, .ref m)] [.int (bI (isAtN (tL T) (aheadN (tL T) cur) cur))]
            refine g_if_eq 94 C dX9_goDown_87 (by decide) (fun c87 => ?_) (fun c87 => ?_)
            · refine g_iconst (v := nI 0) C dX9_goDown_94 (by decide) ?_
              refine g_istore (lv' := [(4, .int (nI 0)), (5, .int (-1)), (3, .int (nI v)), (0, .ref a), (1, .ref ((d 0))), (2, .ref m)]) C dX9_goDown_95 (by decide) rfl ?_
              refine g_aload_n 3 0 C dX9_goDown_97 rfl rfl ?_
              refine g_iconst (v := -1) C dX9_goDown_98 (by decide) ?_
              refine g_iload_n 2 3 C dX9_goDown_99 rfl rfl ?_
              refine g_iload 0 C dX9_goDown_100 rfl ?_
              refine g_callV (As := [.int (-1), .int (nI v), .int (nI 0)]) (rest := []) C dX9_goDown_102 (c_W_add3 (w := D) (f := f) (x := -1) (y := nI v) (z := nI 0) ka ra kn hln (by omega)) wC_X9_addThree wM_X9_30 wI_X9_addThree wS_X9_addThree wN_X9 (kne ka) (pf_9 ka) rfl hd_X9_addThree ⟨by decide, by decide, by decide, by decide⟩ (Nat.le_of_ble_eq_true rfl) (fun r_ S_ h_ => ?_)
              obtain ⟨rfl, rfl⟩ := h_
              change Go X G _ 6 _ _ (wiS S a n (upd (upd (upd f D.length (-1)) (D.length + 1) (nI v)) (D.length + 2) (nI 0)) (nI (D ++ [-1, nI v, nI 0]).length)) 105 [(4, .int (nI 0)), (5, .int (-1)), (3, .int (nI v)), (0, .ref a), (1, .ref ((d 0))), (2, .ref m)] []
              refine g_iload 0 C dX9_goDown_105 rfl ?_
              obtain ⟨e1, e2⟩ := dn_end hno (s := false) rfl
              exact g_iret C dX9_goDown_107 (by decide) (by decide) ⟨_, by rw [e1]; rfl, by rw [e2]; rfl, by rw [e2]; exact hwf.add3 (-1) (nI v) (nI 0)⟩
            · refine g_iconst (v := nI 1) C dX9_goDown_90 (by decide) ?_
              refine g_goto 95 C dX9_goDown_91 (by decide) ?_
              refine g_istore (lv' := [(4, .int (nI 1)), (5, .int (-1)), (3, .int (nI v)), (0, .ref a), (1, .ref ((d 0))), (2, .ref m)]) C dX9_goDown_95 (by decide) rfl ?_
              refine g_aload_n 3 0 C dX9_goDown_97 rfl rfl ?_
              refine g_iconst (v := -1) C dX9_goDown_98 (by decide) ?_
              refine g_iload_n 2 3 C dX9_goDown_99 rfl rfl ?_
              refine g_iload 0 C dX9_goDown_100 rfl ?_
              refine g_callV (As := [.int (-1), .int (nI v), .int (nI 1)]) (rest := []) C dX9_goDown_102 (c_W_add3 (w := D) (f := f) (x := -1) (y := nI v) (z := nI 1) ka ra kn hln (by omega)) wC_X9_addThree wM_X9_30 wI_X9_addThree wS_X9_addThree wN_X9 (kne ka) (pf_9 ka) rfl hd_X9_addThree ⟨by decide, by decide, by decide, by decide⟩ (Nat.le_of_ble_eq_true rfl) (fun r_ S_ h_ => ?_)
              obtain ⟨rfl, rfl⟩ := h_
              change Go X G _ 6 _ _ (wiS S a n (upd (upd (upd f D.length (-1)) (D.length + 1) (nI v)) (D.length + 2) (nI 1)) (nI (D ++ [-1, nI v, nI 1]).length)) 105 [(4, .int (nI 1)), (5, .int (-1)), (3, .int (nI v)), (0, .ref a), (1, .ref ((d 0))), (2, .ref m)] []
              refine g_iload 0 C dX9_goDown_105 rfl ?_
              have := bI_t c87
              rw [show isAtN (tL T) (aheadN (tL T) cur) cur = false from hhas] at this; cases this
  refine g_st (S' := wiS S a n (wn_a S n) (nI ([] : List Int32).length)) (by show _ = wi_size_ (wn_a_ S (va_up (wn_a S) n (wn_a S n))) _; rw [up_id]; rfl) ?_
  exact lp (cur.length + 1) 0 0 [] _ (by omega) ⟨Nat.zero_le _, rfl, dnI_0 hO h0 cur, rfl, fun i hi => absurd hi (Nat.not_lt_zero _)⟩
