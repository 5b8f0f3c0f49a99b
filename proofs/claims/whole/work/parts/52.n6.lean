theorem sg_l {U s q : Nat} (hs : s < 64) (hq : q < 64) : ((lN U <<< ((nI s).toInt64 &&& 63)) >>> ((nI s).toInt64 &&& 63)).toBitVec.getLsbD q = if q + s < 64 then U.testBit q else U.testBit (63 - s) := by
  rw [Int64.toBitVec_shiftRight, Int64.toBitVec_shiftLeft, wb_c s hs, wb_tb s, wb_sm s hs]
  show (((lN U).toBitVec <<< (BitVec.ofNat 64 s).toNat).sshiftRight (BitVec.ofNat 64 s).toNat).getLsbD q = _
  rw [show (BitVec.ofNat 64 s).toNat = s from by rw [BitVec.toNat_ofNat]; omega, BitVec.getLsbD_sshiftRight, BitVec.msb_eq_getLsbD_last, BitVec.getLsbD_shiftLeft, BitVec.getLsbD_shiftLeft, lN_lsb, lN_lsb]
  by_cases g : q + s < 64
  · rw [if_pos (show s + q < 64 by omega), if_pos g, show s + q - s = q by omega, decide_eq_false (show ¬ 64 ≤ q by omega), decide_eq_true (show s + q < 64 by omega), decide_eq_false (show ¬ s + q < s by omega), decide_eq_true hq]
    rfl
  · rw [if_neg (show ¬ s + q < 64 by omega), if_neg g, decide_eq_false (show ¬ 64 ≤ q by omega), decide_eq_true (show 64 - 1 < 64 by omega), decide_eq_false (show ¬ 64 - 1 < s by omega), decide_eq_true (show 64 - 1 - s < 64 by omega), show 64 - 1 - s = 63 - s by omega]
    rfl
theorem num_tb {U b q : Nat} (hb : b < 256) : (U * 256 + b).testBit q = if q < 8 then b.testBit q else U.testBit (q - 8) := by
  rw [show U * 256 + b = 2 ^ 8 * U + b by omega, Nat.testBit_two_pow_mul_add _ (show b < 2 ^ 8 from hb)]
theorem sx_tb : ∀ b, b < 256 → ∀ q, q < 64 → ((nI b).toInt8.toInt32.toInt64).toBitVec.getLsbD q = if q < 8 then b.testBit q else b.testBit 7 := by decide +kernel
theorem sg_r {tp : List Nat} {i : Nat} : ∀ k, k < 8 → (∀ q, q < k + 1 → tp.getD (i + q) 0 ≤ 255) → ∀ q, q < 64 → (vlAt tp i k).toBitVec.getLsbD q = if q < 8 * (k + 1) then (numU tp i (k + 1)).testBit q else (numU tp i (k + 1)).testBit (8 * (k + 1) - 1) := by
  intro k
  induction k with
  | zero =>
    intro _ h q hq
    have h0 := h 0 (by decide)
    have e : numU tp i 1 = tp.getD i 0 := by show 0 * 256 + tp.getD (i + 0) 0 = _; rw [Nat.add_zero]; omega
    rw [show (0 + 1 : Nat) = 1 from rfl, e]
    exact sx_tb (tp.getD i 0) (by rw [Nat.add_zero] at h0; omega) q hq
  | succ k ih =>
    intro hk h q hq
    have hb := h (k + 1) (by omega)
    have hb2 : tp.getD (i + (k + 1)) 0 < 256 := by omega
    have i1 := ih (by omega) (fun q hq => h q (by omega))
    have eU : numU tp i (k + 1 + 1) = numU tp i (k + 1) * 256 + tp.getD (i + (k + 1)) 0 := rfl
    show ((vlAt tp i k <<< ((nI 8).toInt64 &&& 63)) ||| (nI (tp.getD (i + (k + 1)) 0)).toInt64).toBitVec.getLsbD q = _
    rw [Int64.toBitVec_or, BitVec.getLsbD_or, nI_64 hb2, lN_lsb, Int64.toBitVec_shiftLeft, wb_c 8 (by decide), wb_tb 8, wb_sm 8 (by decide)]
    show (((vlAt tp i k).toBitVec <<< (8 : Nat)).getLsbD q || _) = _
    rw [BitVec.getLsbD_shiftLeft, decide_eq_true hq, eU, num_tb hb2, num_tb hb2]
    by_cases g : q < 8
    · rw [decide_eq_true g, if_pos (by omega), if_pos g]; rfl
    · have hz : (tp.getD (i + (k + 1)) 0).testBit q = false := Nat.testBit_lt_two_pow (Nat.lt_of_lt_of_le hb2 (show 256 ≤ 2 ^ q from Nat.pow_le_pow_right (n := 2) (i := 8) (by decide) (by omega)))
      rw [decide_eq_false g, hz, i1 (q - 8) (by omega), if_neg g, if_neg (show ¬ 8 * (k + 1 + 1) - 1 < 8 by omega), show 8 * (k + 1 + 1) - 1 - 8 = 8 * (k + 1) - 1 by omega]
      by_cases g2 : q < 8 * (k + 1 + 1)
      · rw [if_pos g2, if_pos (by omega)]; simp
      · rw [if_neg g2, if_neg (by omega)]; simp
theorem sg_val {tp : List Nat} {i w : Nat} (hW : w = 1 ∨ w = 2 ∨ w = 4 ∨ w = 8) (h255 : ∀ q, q < w → tp.getD (i + q) 0 ≤ 255) : (lN (numU tp i w) <<< ((nI (64 - 8 * w)).toInt64 &&& 63)) >>> ((nI (64 - 8 * w)).toInt64 &&& 63) = vlAt tp i (w - 1) := by
  refine wb_inj (BitVec.eq_of_getLsbD_eq fun q hq => ?_)
  rw [sg_l (by omega) hq, sg_r (w - 1) (by omega) (fun q hq => h255 q (by omega)) q hq, show w - 1 + 1 = w by omega, show 63 - (64 - 8 * w) = 8 * w - 1 by omega]
  by_cases g : q < 8 * w
  · rw [if_pos (by omega), if_pos g]
  · rw [if_neg (by omega), if_neg g]
theorem num_or {tp : List Nat} {i k : Nat} (hk : k < 8) (h : ∀ q, q < k + 1 → tp.getD (i + q) 0 ≤ 255) : (lN (numU tp i k) <<< ((nI 8).toInt64 &&& 63)) ||| (nI (tp.getD (i + k) 0)).toInt64 = lN (numU tp i (k + 1)) := by
  have h1 := numU_lt (fun q hq => h q (by omega)) k (Nat.le_refl k)
  have h2 : 256 ^ k ≤ 256 ^ 7 := Nat.pow_le_pow_right (by decide) (by omega)
  have h3 : (256 : Nat) ^ 7 = 2 ^ 56 := rfl
  rw [sh_or (by omega) (by have := h k (by omega); omega), Nat.mod_eq_of_lt (by omega)]
  rfl
set_option maxRecDepth 100000 in
set_option maxHeartbeats 4000000 in
theorem c_T_signed {lX : Launch} {G : Gx} {S : PS} {t tb : Nat} {tp : List Nat} (hT : tapeC S t tb tp) {i w : Nat} (hW : w = 1 ∨ w = 2 ∨ w = 4 ∨ w = 8) (hi : i + w ≤ tp.length) : Ct lX yX7_signedAt cX7_signedAt 6 (Option.some Jvm.ClassFile.FieldType.long) rm_X7_signedAt G [.ref t, .int (nI i), .int (nI w)] S (fun r S' => r = some (.long (vlAt tp i (w - 1))) ∧ S = S') := by
  obtain ⟨⟨kt, rb, kb⟩, hu, hl1, hf, h255⟩ := hT
  refine Ct.mk RX7 "signedAt" hy_X7_signedAt (Nat.le_of_ble_eq_true rfl) (fun X hX C => ?_)
  change Go X G _ 6 0 0 S 0 [(0, .ref t), (1, .int (nI i)), (2, .int (nI w))] []
  refine g_lconst (v := 0) C dX7_signedAt_0 (by decide) ?_
  refine g_lstore_n (lv' := [(3, .long 0), (0, .ref t), (1, .int (nI i)), (2, .int (nI w))]) C dX7_signedAt_1 rfl (by decide) rfl ?_
  refine g_iload_n 2 1 C dX7_signedAt_2 rfl rfl ?_
  refine g_istore (lv' := [(5, .int (nI i)), (3, .long 0), (0, .ref t), (1, .int (nI i)), (2, .int (nI w))]) C dX7_signedAt_3 (by decide) rfl ?_
  have lp : ∀ (n_ : Nat) (k : Nat), w - k < n_ → (k ≤ w) → Go X G (Qe X G (fun r S' => r = some (.long (vlAt tp i (w - 1))) ∧ S = S') rm_X7_signedAt.cells rm_X7_signedAt.slots) 6 0 0 S 5 [(5, .int (nI (i + k))), (3, .long (lN (numU tp i k))), (0, .ref t), (1, .int (nI i)), (2, .int (nI w))] [] := by
    intro n_
    induction n_ with
    | zero => intro k hm_; exact absurd hm_ (Nat.not_lt_zero _)
    | succ n_ ih_ =>
      intro k hm_ hk
      refine g_iload 0 C dX7_signedAt_5 rfl ?_
      refine g_iload_n 3 1 C dX7_signedAt_7 rfl rfl ?_
      refine g_iload_n 4 2 C dX7_signedAt_8 rfl rfl ?_
      refine g_iadd C dX7_signedAt_9 ?_
      refine g_topi (nI_add _ _ : _ = nI (i + w)) ?_
      refine g_ncmp_ge 42 (by omega) (by omega) C dX7_signedAt_10 (by decide) (fun c10 => ?_) (fun c10 => ?_)
      · have ek : k = w := by omega
        refine g_bipush (v := nI 64) C dX7_signedAt_42 (by decide) ?_
        refine g_bipush (v := nI 8) C dX7_signedAt_44 (by decide) ?_
        refine g_iload_n 4 2 C dX7_signedAt_46 rfl rfl ?_
        refine g_imul C dX7_signedAt_47 ?_
        refine g_topi (pk_mul _ _ : _ = nI (8 * w)) ?_
        refine g_isub C dX7_signedAt_48 ?_
        refine g_topi (pk_sub (by omega) : _ = nI (64 - (8 * w))) ?_
        refine g_istore (lv' := [(5, .int (nI (64 - (8 * w)))), (3, .long (lN (numU tp i k))), (0, .ref t), (1, .int (nI i)), (2, .int (nI w))]) C dX7_signedAt_49 (by decide) rfl ?_
        refine g_lload_n 1 3 C dX7_signedAt_51 rfl rfl ?_
        refine g_iload 0 C dX7_signedAt_52 rfl ?_
        refine g_lshl C dX7_signedAt_54 ?_
        refine g_iload 0 C dX7_signedAt_55 rfl ?_
        refine g_lshr C dX7_signedAt_57 ?_
        exact g_lret C dX7_signedAt_58 (by decide) (by decide) ⟨by rw [ek, sg_val hW (fun q hq => h255 (i + q) (by omega))], rfl⟩
      · have hb := h255 (i + k) (by omega)
        refine g_iload 0 C dX7_signedAt_13 rfl ?_
        refine g_aload_n 2 0 C dX7_signedAt_15 rfl rfl ?_
        refine gf_tp_used C dX7_signedAt_16 kt wF_X7_15 ?_
        refine g_topi (hu) ?_
        refine g_ncmp_ge 42 (by omega) (by omega) C dX7_signedAt_19 (by decide) (fun c19 => ?_) (fun c19 => ?_)
        · omega
        · refine g_lload_n 1 3 C dX7_signedAt_22 rfl rfl ?_
          refine g_bipush (v := nI 8) C dX7_signedAt_23 (by decide) ?_
          refine g_lshl C dX7_signedAt_25 ?_
          refine g_aload_n 2 0 C dX7_signedAt_26 rfl rfl ?_
          refine gr_tp_bytes C dX7_signedAt_27 kt wF_X7_9 rb ?_
          refine g_iload 0 C dX7_signedAt_30 rfl ?_
          refine ga_tp_a C dX7_signedAt_32 kb (by omega) ?_
          refine g_topi (hf (i + k) (by omega)) ?_
          refine g_i2l C dX7_signedAt_33 ?_
          refine g_lor C dX7_signedAt_34 ?_
          refine g_topl (num_or (by omega) (fun q hq => h255 (i + q) (by omega)) : _ = lN (numU tp i (k + 1))) ?_
          refine g_lstore_n (lv' := [(3, .long (lN (numU tp i (k + 1)))), (5, .int (nI (i + k))), (0, .ref t), (1, .int (nI i)), (2, .int (nI w))]) C dX7_signedAt_35 rfl (by decide) rfl ?_
          refine g_iinc (v := nI (i + k + 1)) (lv' := [(5, .int (nI (i + k + 1))), (3, .long (lN (numU tp i (k + 1)))), (0, .ref t), (1, .int (nI i)), (2, .int (nI w))]) 1 C dX7_signedAt_36 rfl (nI_add _ 1) (by decide) rfl ?_
          refine g_goto 5 C dX7_signedAt_39 (by decide) ?_
          exact ih_ (k + 1) (by omega) (by omega)
  exact lp (w + 1) 0 (by omega) (Nat.zero_le _)
set_option maxRecDepth 100000 in
set_option maxHeartbeats 4000000 in
theorem c_T_writeImage {lX : Launch} {G : Gx} {S : PS} {t tb : Nat} (kt : kd S t = 8) (rb : tp_bytes S = some tb) (kb : kd S tb = 21) {bk a nr va room K : Nat} {l : List Ent} (hb : kd S bk = 3) (hbl : bk_list S bk = some a) (hbk : bk_kind S bk = nI K) (hK : K ≤ 5) (hl : listC S a nr va room l) (hO : okL l) (h1000 : (imgL K l).length ≤ 1000) : Ct lX yX7_writeImage cX7_writeImage 5 (Option.none : Option Jvm.ClassFile.FieldType) rm_X7_writeImage G [.ref t, .ref bk] S (fun r S' => ∃ f2, r = none ∧ S' = tpC S f2 (imgL K l) ∧ tpF f2 (imgL K l)) := by
  have hl' := hl
  obtain ⟨⟨k_a, ra_a, rb_a⟩, ⟨kn_a, ln_a⟩, ⟨kv_a, lv_a⟩, sz_a, le_a, rm_a, en_a⟩ := hl
  have hw8 := widthN_8 l
  have htot : 4 + (imK l (widthN l) l.length).length ≤ 1000 := by rw [← imgL_len K]; exact h1000
  refine Ct.mk RX7 "writeImage" hy_X7_writeImage (Nat.le_of_ble_eq_true rfl) (fun X hX C => ?_)
  change Go X G _ 5 0 0 S 0 [(0, .ref t), (1, .ref bk)] []
  refine g_aload_n 1 1 C dX7_writeImage_0 rfl rfl ?_
  refine gr_bk_list C dX7_writeImage_1 hb wF_X7_33 hbl ?_
  refine g_callV (As := []) (rest := []) C dX7_writeImage_4 (c_L_width hl') wC_X4_width wM_X7_39 wI_X4_width wS_X4_width wN_X4 (kne k_a) (pf_5 k_a) rfl hd_X4_width ⟨by decide, by decide, by decide, by decide⟩ (Nat.le_of_ble_eq_true rfl) (fun r_ S_ h_ => ?_)
  obtain ⟨rfl, rfl⟩ := h_
  change Go X G _ 5 _ _ S 7 [(0, .ref t), (1, .ref bk)] [.int (nI (widthN l))]
  refine g_istore_n (lv' := [(2, .int (nI (widthN l))), (0, .ref t), (1, .ref bk)]) C dX7_writeImage_7 rfl (by decide) rfl ?_
  refine g_aload_n 1 0 C dX7_writeImage_8 rfl rfl ?_
  refine g_iconst (v := nI 0) C dX7_writeImage_9 (by decide) ?_
  refine pp_tp_used C dX7_writeImage_10 kt wF_X7_15 (Or.inl rfl) ?_
  obtain ⟨tp0, htp0⟩ : ∃ q : List Nat, q = [] := ⟨_, rfl⟩
  obtain ⟨f0, hf0⟩ : ∃ q : Nat → Int32, q = tp_a S := ⟨_, rfl⟩
  refine g_st (S' := (tpC S f0 tp0)) (by rw [htp0, hf0]; rfl) ?_
  refine g_aload_n 1 0 C dX7_writeImage_13 rfl rfl ?_
  refine g_aload_n 2 1 C dX7_writeImage_14 rfl rfl ?_
  refine gf_bk_kindS C dX7_writeImage_15 hb wF_X7_45 ?_
  refine g_topi (hbk) ?_
  refine g_callV (As := [.int (nI K)]) (rest := []) C dX7_writeImage_18 (c_T_add (f := f0) (tp := tp0) (b := K) kt rb kb (nI_255 (by omega)) (by rw [htp0]; decide)) wC_X7_add wM_X7_19 wI_X7_add wS_X7_add wN_X7 (kne kt) (pf_8 kt) rfl hd_X7_add ⟨by decide, by decide, by decide, by decide⟩ (Nat.le_of_ble_eq_true rfl) (fun r_ S_ h_ => ?_)
  obtain ⟨rfl, rfl⟩ := h_
  change Go X G _ 5 _ _ (tpC S (upd f0 tp0.length (nI K)) (tp0 ++ [K])) 21 [(2, .int (nI (widthN l))), (0, .ref t), (1, .ref bk)] []
  obtain ⟨tp1, htp1⟩ : ∃ q : List Nat, q = tp0 ++ [K] := ⟨_, rfl⟩
  obtain ⟨f1, hf1⟩ : ∃ q : Nat → Int32, q = upd f0 tp0.length (nI K) := ⟨_, rfl⟩
  rw [← htp1, ← hf1]
  refine g_aload_n 1 0 C dX7_writeImage_21 rfl rfl ?_
  refine g_aload_n 2 1 C dX7_writeImage_22 rfl rfl ?_
  refine gr_bk_list C dX7_writeImage_23 hb wF_X7_33 hbl ?_
  refine gf_ls_size C dX7_writeImage_26 k_a wF_X7_48 ?_
  refine g_topi (sz_a) ?_
  refine g_callV (As := [.int (nI (l.length))]) (rest := []) C dX7_writeImage_29 (c_T_add (f := f1) (tp := tp1) (b := l.length) kt rb kb (nI_255 (by omega)) (by rw [htp1, htp0]; exact (by decide : 1 < 1000))) wC_X7_add wM_X7_19 wI_X7_add wS_X7_add wN_X7 (kne kt) (pf_8 kt) rfl hd_X7_add ⟨by decide, by decide, by decide, by decide⟩ (Nat.le_of_ble_eq_true rfl) (fun r_ S_ h_ => ?_)
  obtain ⟨rfl, rfl⟩ := h_
  change Go X G _ 5 _ _ (tpC S (upd f1 tp1.length (nI l.length)) (tp1 ++ [l.length])) 32 [(2, .int (nI (widthN l))), (0, .ref t), (1, .ref bk)] []
  obtain ⟨tp2, htp2⟩ : ∃ q : List Nat, q = tp1 ++ [l.length] := ⟨_, rfl⟩
  obtain ⟨f2, hf2⟩ : ∃ q : Nat → Int32, q = upd f1 tp1.length (nI l.length) := ⟨_, rfl⟩
  rw [← htp2, ← hf2]
  refine g_iconst (v := nI 0) C dX7_writeImage_32 (by decide) ?_
  refine g_istore_n (lv' := [(3, .int (nI 0)), (2, .int (nI (widthN l))), (0, .ref t), (1, .ref bk)]) C dX7_writeImage_33 rfl (by decide) rfl ?_
  have lp : ∀ (n_ : Nat) (k : Nat) (f : Nat → Int32) (tp : List Nat), l.length - k < n_ → (k ≤ l.length ∧ tp = [K, l.length] ++ imK l (widthN l) k ∧ tpF f tp) → Go X G (Qe X G (fun r S' => ∃ f2, r = none ∧ S' = tpC S f2 (imgL K l) ∧ tpF f2 (imgL K l)) rm_X7_writeImage.cells rm_X7_writeImage.slots) 5 0 0 (tpC S f tp) 34 [(3, .int (nI k)), (2, .int (nI (widthN l))), (0, .ref t), (1, .ref bk)] [] := by
    intro n_
    induction n_ with
    | zero => intro k f tp hm_; exact absurd hm_ (Nat.not_lt_zero _)
    | succ n_ ih_ =>
      intro k f tp hm_ hh
      obtain ⟨hi, hk1, hfk⟩ := hh
      have hlt : tp.length = 2 + (imK l (widthN l) k).length := by rw [hk1, List.length_append]; rfl
      refine g_iload_n 0 3 C dX7_writeImage_34 rfl rfl ?_
      refine g_aload_n 3 1 C dX7_writeImage_35 rfl rfl ?_
      refine gr_bk_list C dX7_writeImage_36 hb wF_X7_33 hbl ?_
      refine gf_ls_size C dX7_writeImage_39 k_a wF_X7_48 ?_
      refine g_topi (sz_a) ?_
      refine g_ncmp_ge 92 (by omega) (by omega) C dX7_writeImage_42 (by decide) (fun c42 => ?_) (fun c42 => ?_)
      · have ek : k = l.length := by omega
        have eB : tp ++ [widthN l] = imB K l := by rw [hk1, ek]; rfl
        have eI : imgL K l = tp ++ [widthN l] ++ [csB (tp ++ [widthN l])] := by unfold imgL; rw [eB]
        have h255 := imB_le hO (K := K) (by omega)
        rw [← eB] at h255
        have hlen9 : (tp ++ [widthN l]).length = 3 + (imK l (widthN l) l.length).length := by rw [List.length_append, hlt, ek]; show _ + 1 = _; omega
        refine g_aload_n 2 0 C dX7_writeImage_92 rfl rfl ?_
        refine g_iload_n 1 2 C dX7_writeImage_93 rfl rfl ?_
        refine g_callV (As := [.int (nI (widthN l))]) (rest := []) C dX7_writeImage_94 (c_T_add (f := f) (tp := tp) (b := widthN l) kt rb kb (nI_255 (by omega)) (by rw [hlt, ek]; omega)) wC_X7_add wM_X7_19 wI_X7_add wS_X7_add wN_X7 (kne kt) (pf_8 kt) rfl hd_X7_add ⟨by decide, by decide, by decide, by decide⟩ (Nat.le_of_ble_eq_true rfl) (fun r_ S_ h_ => ?_)
        obtain ⟨rfl, rfl⟩ := h_
        change Go X G _ 5 _ _ (tpC S (upd f tp.length (nI (widthN l))) (tp ++ [widthN l])) 97 [(3, .int (nI k)), (2, .int (nI (widthN l))), (0, .ref t), (1, .ref bk)] []
        refine g_aload_n 2 0 C dX7_writeImage_97 rfl rfl ?_
        refine g_aload_n 2 0 C dX7_writeImage_98 rfl rfl ?_
        have h255b : ∀ i, i < (tp ++ [widthN l]).length → (tp ++ [widthN l]).getD i 0 ≤ 255 := h255
        refine g_callV (As := []) (rest := [.ref t]) C dX7_writeImage_99 (c_T_sum (f := upd f tp.length (nI (widthN l))) (tp := tp ++ [widthN l]) kt rb kb (by omega) hfk.add h255) wC_X7_sum wM_X7_67 wI_X7_sum wS_X7_sum wN_X7 (kne kt) (pf_8 kt) rfl hd_X7_sum ⟨by decide, by decide, by decide, by decide⟩ (Nat.le_of_ble_eq_true rfl) (fun r_ S_ h_ => ?_)
        obtain ⟨rfl, rfl⟩ := h_
        change Go X G _ 5 _ _ (tpC S (upd f tp.length (nI (widthN l))) (tp ++ [widthN l])) 102 [(3, .int (nI k)), (2, .int (nI (widthN l))), (0, .ref t), (1, .ref bk)] [.int (nI (sumB (tp ++ [widthN l]) (tp ++ [widthN l]).length % 256)), .ref t]
        refine g_ineg C dX7_writeImage_102 ?_
        refine g_callV (As := [.int (-(nI (sumB (tp ++ [widthN l]) (tp ++ [widthN l]).length % 256)))]) (rest := []) C dX7_writeImage_103 (c_T_add (f := upd f tp.length (nI (widthN l))) (tp := (tp ++ [widthN l])) (b := csB (tp ++ [widthN l])) kt rb kb ((ng_255 _).trans (by unfold csB; rw [Nat.mod_mod])) (by omega)) wC_X7_add wM_X7_19 wI_X7_add wS_X7_add wN_X7 (kne kt) (pf_8 kt) rfl hd_X7_add ⟨by decide, by decide, by decide, by decide⟩ (Nat.le_of_ble_eq_true rfl) (fun r_ S_ h_ => ?_)
        obtain ⟨rfl, rfl⟩ := h_
        change Go X G _ 5 _ _ (tpC S (upd (upd f tp.length (nI (widthN l))) (tp ++ [widthN l]).length (nI (csB (tp ++ [widthN l])))) ((tp ++ [widthN l]) ++ [csB (tp ++ [widthN l])])) 106 [(3, .int (nI k)), (2, .int (nI (widthN l))), (0, .ref t), (1, .ref bk)] []
        exact g_vret C dX7_writeImage_106 (by decide) (by decide) ⟨upd (upd f tp.length (nI (widthN l))) (tp ++ [widthN l]).length (nI (csB (tp ++ [widthN l]))), rfl, by rw [eI], by rw [eI]; exact (hfk.add (b := widthN l)).add⟩
      · obtain ⟨m_, e1, e2, e3, e4⟩ := en_a k (by omega)
        obtain ⟨g1, b_, g2, g3, g4, g5⟩ := id e2
        have g4' : ln S b_ = (nm l k).length := g4
        have e3l : (nm l k).length ≤ 24 := e3.2.1
        have hks := imK_s l (widthN l) k
        have hkm := imK_mono l (widthN l) (k + 1) (l.length - (k + 1))
        rw [show k + 1 + (l.length - (k + 1)) = l.length by omega] at hkm
        refine g_aload_n 3 1 C dX7_writeImage_45 rfl rfl ?_
        refine gr_bk_list C dX7_writeImage_46 hb wF_X7_33 hbl ?_
        refine gr_ls_names C dX7_writeImage_49 k_a wF_X7_51 ra_a ?_
        refine g_iload_n 0 3 C dX7_writeImage_52 rfl rfl ?_
        refine gar_nr_a C dX7_writeImage_53 kn_a (by have h_ : ln (tpC S f tp) nr = room := ln_a; omega) (by have h_ : ln (tpC S f tp) nr = room := ln_a; omega) e1 ?_
        refine g_astore (lv' := [(4, .ref m_), (3, .int (nI k)), (2, .int (nI (widthN l))), (0, .ref t), (1, .ref bk)]) C dX7_writeImage_54 (by decide) rfl ?_
        refine g_aload_n 3 0 C dX7_writeImage_56 rfl rfl ?_
        refine g_aload 0 C dX7_writeImage_57 rfl ?_
        refine gr_nm_bytes C dX7_writeImage_59 g1 wF_X7_23 g2 ?_
        refine gl_nb_a C dX7_writeImage_62 g3 ?_
        refine g_topi (congrArg nI g4') ?_
        refine g_callV (As := [.int (nI ((nm l k).length))]) (rest := []) C dX7_writeImage_63 (c_T_add (f := f) (tp := tp) (b := (nm l k).length) kt rb kb (nI_255 (by omega)) (by omega)) wC_X7_add wM_X7_19 wI_X7_add wS_X7_add wN_X7 (kne kt) (pf_8 kt) rfl hd_X7_add ⟨by decide, by decide, by decide, by decide⟩ (Nat.le_of_ble_eq_true rfl) (fun r_ S_ h_ => ?_)
        obtain ⟨rfl, rfl⟩ := h_
        change Go X G _ 5 _ _ (tpC S (upd f tp.length (nI ((nm l k).length))) (tp ++ [(nm l k).length])) 66 [(4, .ref m_), (3, .int (nI k)), (2, .int (nI (widthN l))), (0, .ref t), (1, .ref bk)] []
        obtain ⟨tp3, htp3⟩ : ∃ q : List Nat, q = tp ++ [(nm l k).length] := ⟨_, rfl⟩
        obtain ⟨f3, hf3⟩ : ∃ q : Nat → Int32, q = upd f tp.length (nI ((nm l k).length)) := ⟨_, rfl⟩
        rw [← htp3, ← hf3]
        refine g_aload_n 3 0 C dX7_writeImage_66 rfl rfl ?_
        refine g_aload 0 C dX7_writeImage_67 rfl ?_
        refine g_callV (As := [.ref m_]) (rest := []) C dX7_writeImage_69 (c_T_addName (f := f3) (tp := tp3) (bs := nm l k) kt rb kb e2 (fun i hi => (e3.2.2 i hi).2) (by rw [htp3, List.length_append]; show _ + 1 + _ ≤ _; omega) (by rw [htp3, hf3]; exact hfk.add)) wC_X7_addName wM_X7_55 wI_X7_addName wS_X7_addName wN_X7 (kne kt) (pf_8 kt) rfl hd_X7_addName ⟨by decide, by decide, by decide, by decide⟩ (Nat.le_of_ble_eq_true rfl) (fun r_ S_ h_ => ?_)
        obtain ⟨f4, rfl, rfl, hf4⟩ := h_
        change Go X G _ 5 _ _ (tpC S f4 (tp3 ++ nm l k)) 72 [(4, .ref m_), (3, .int (nI k)), (2, .int (nI (widthN l))), (0, .ref t), (1, .ref bk)] []
        refine g_aload_n 3 0 C dX7_writeImage_72 rfl rfl ?_
        refine g_aload_n 4 1 C dX7_writeImage_73 rfl rfl ?_
        refine gr_bk_list C dX7_writeImage_74 hb wF_X7_33 hbl ?_
        refine gr_ls_values C dX7_writeImage_77 k_a wF_X7_59 rb_a ?_
        refine g_iload_n 1 3 C dX7_writeImage_80 rfl rfl ?_
        refine ga_vl_a C dX7_writeImage_81 kv_a (by have h_ : ln (tpC S f4 (tp3 ++ nm l k)) va = room := lv_a; omega) (by have h_ : ln (tpC S f4 (tp3 ++ nm l k)) va = room := lv_a; omega) ?_
        refine g_topl (e4) ?_
        refine g_iload_n 2 2 C dX7_writeImage_82 rfl rfl ?_
        refine g_callV (As := [.long (vl l k), .int (nI (widthN l))]) (rest := []) C dX7_writeImage_83 (c_T_addNumber (f := f4) (tp := tp3 ++ nm l k) (x := vl l k) kt rb kb (by omega) (by rw [List.length_append, htp3, List.length_append]; show _ + 1 + _ + _ ≤ _; omega) hf4) wC_X7_addNumber wM_X7_63 wI_X7_addNumber wS_X7_addNumber wN_X7 (kne kt) (pf_8 kt) rfl hd_X7_addNumber ⟨by decide, by decide, by decide, by decide⟩ (Nat.le_of_ble_eq_true rfl) (fun r_ S_ h_ => ?_)
        obtain ⟨f5, rfl, rfl, hf5⟩ := h_
        change Go X G _ 5 _ _ (tpC S f5 (tp3 ++ nm l k ++ bytesL (vl l k) (widthN l))) 86 [(4, .ref m_), (3, .int (nI k)), (2, .int (nI (widthN l))), (0, .ref t), (1, .ref bk)] []
        refine g_iinc (v := nI (k + 1)) (lv' := [(3, .int (nI (k + 1))), (4, .ref m_), (2, .int (nI (widthN l))), (0, .ref t), (1, .ref bk)]) 1 C dX7_writeImage_86 rfl (nI_add _ 1) (by decide) rfl ?_
        refine g_goto 34 C dX7_writeImage_89 (by decide) ?_
        refine Go.pick (lv' := [(3, .int (nI (k + 1))), (2, .int (nI (widthN l))), (0, .ref t), (1, .ref bk)]) [0, 2, 3, 4] rfl ?_
        exact ih_ (k + 1) _ _ (by omega) ⟨by omega, by rw [htp3, hk1]; show _ = _ ++ (imK _ _ k ++ _ ++ _ ++ _); simp only [List.append_assoc], hf5⟩
  exact lp (l.length + 1) 0 _ _ (by omega) ⟨Nat.zero_le _, by rw [htp2, htp1, htp0]; rfl, by rw [htp2, hf2]; exact tpF.add (by rw [htp1, hf1]; exact tpF.add (fun i hi => by rw [htp0] at hi; exact absurd hi (Nat.not_lt_zero _)))⟩
noncomputable def rdN (tp : List Nat) : Option (List Ent) :=
  if 7 ≤ tp.length ∧ tp.getD 1 0 ≤ 100 ∧ sumB tp tp.length % 256 = 0 ∧ (tp.getD (tp.length - 2) 0 = 1 ∨ tp.getD (tp.length - 2) 0 = 2 ∨ tp.getD (tp.length - 2) 0 = 4 ∨ tp.getD (tp.length - 2) 0 = 8) then
    match ldS tp (tp.getD (tp.length - 2) 0) (tp.length - 2) (tp.getD 1 0) with
    | some (i, l) => if i = tp.length - 2 ∧ widthN l = tp.getD (tp.length - 2) 0 then some l else none
    | none => none
  else none
theorem rd_no {tp : List Nat} {w k : Nat} (hw : w = tp.getD (tp.length - 2) 0) (hk : k ≤ tp.getD 1 0) (h : ldS tp w (tp.length - 2) k = none) : rdN tp = none := by
  unfold rdN
  rw [hw] at h
  have h2 := ld_none h (tp.getD 1 0 - k)
  rw [show k + (tp.getD 1 0 - k) = tp.getD 1 0 by omega] at h2
  rw [h2]
  split <;> rfl
theorem rd_end {tp : List Nat} {w i : Nat} {l : List Ent} (hw : w = tp.getD (tp.length - 2) 0) (hW : w = 1 ∨ w = 2 ∨ w = 4 ∨ w = 8) (h7 : 7 ≤ tp.length ∧ tp.getD 1 0 ≤ 100 ∧ sumB tp tp.length % 256 = 0) (h : ldS tp w (tp.length - 2) (tp.getD 1 0) = some (i, l)) : rdN tp = if i = tp.length - 2 ∧ widthN l = w then some l else none := by
  unfold rdN
  rw [← hw, if_pos ⟨h7.1, h7.2.1, h7.2.2, hW⟩, h]
theorem ldOk.nm {tp : List Nat} {e w i : Nat} {l : List Ent} (h : ldOk tp e w i l) (he : e ≤ tp.length) : nmOk tp (i + 1) (tp.getD i 0) := ⟨h.2.1, h.2.2.1, by have := h.2.2.2.1; omega, h.2.2.2.2.1⟩
