abbrev tpC (S : PS) (f : Nat → Int32) (tp : List Nat) : PS := tp_used_ (tp_a_ S f) (nI tp.length)
def tapeC (S : PS) (t tb : Nat) (tp : List Nat) : Prop := (kd S t = 8 ∧ tp_bytes S = some tb ∧ kd S tb = 21) ∧ tp_used S = nI tp.length ∧ tp.length ≤ 1000 ∧ tpF (tp_a S) tp ∧ ∀ i, i < tp.length → tp.getD i 0 ≤ 255
theorem and_255 (n : Nat) : (lN n).toInt32 &&& 255 = nI (n % 256) := by
  refine Int32.toBitVec_inj.mp (BitVec.eq_of_toNat_eq ?_)
  rw [Int32.toBitVec_and, BitVec.toNat_and, lN_32]
  show (BitVec.setWidth 32 (BitVec.ofNat 64 n)).toNat &&& 255 = (BitVec.ofNat 32 _).toNat
  rw [BitVec.toNat_setWidth, BitVec.toNat_ofNat, BitVec.toNat_ofNat, show (255 : Nat) = 2 ^ 8 - 1 from rfl, Nat.and_two_pow_sub_one_eq_mod]
  omega
theorem by_ush {x : Int64} {k : Nat} (hk : k < 8) : (x.toUInt64 >>> ((nI (8 * k)).toInt64.toUInt64 &&& Int64.toUInt64 63)).toInt64.toInt32 &&& 255 = nI (byteN x k) := by
  obtain ⟨n, hn, rfl⟩ := wb_of x
  rw [wb_shr hn (by omega), and_255]
  unfold byteN
  rw [wb_tn hn]
theorem nI_and255 (s : Nat) : nI s &&& 255 = nI (s % 256) := by
  rw [i255_mod]
  show nI ((BitVec.ofNat 32 s).toNat % 256) = _
  rw [BitVec.toNat_ofNat]
  congr 1
  omega
set_option maxRecDepth 100000 in
set_option maxHeartbeats 2000000 in
theorem c_T_add {lX : Launch} {G : Gx} {S : PS} {t tb : Nat} (kt : kd S t = 8) (rb : tp_bytes S = some tb) (kb : kd S tb = 21) {tp : List Nat} {b : Nat} {v : Int32} {f : Nat → Int32} (hv : v &&& 255 = nI b) (hn : tp.length < 1000) : Ct lX yX7_add cX7_add 2 (Option.none : Option Jvm.ClassFile.FieldType) rm_X7_add G [.ref t, .int v] (tpC S f tp) (fun r S' => r = none ∧ S' = tpC S (upd f tp.length (nI b)) (tp ++ [b])) := by
  refine Ct.mk RX7 "add" hy_X7_add (Nat.le_of_ble_eq_true rfl) (fun X hX C => ?_)
  change Go X G _ 2 0 0 (tpC S f tp) 0 [(0, .ref t), (1, .int v)] []
  refine g_aload_n 0 0 C dX7_add_0 rfl rfl ?_
  refine gf_tp_used C dX7_add_1 kt wF_X7_15 ?_
  refine g_topi (rfl) ?_
  refine g_sipush (v := nI 1000) C dX7_add_4 (by decide) ?_
  refine g_ncmp_ge 34 (by omega) (by omega) C dX7_add_7 (by decide) (fun c7 => ?_) (fun c7 => ?_)
  · omega
  · refine g_aload_n 0 0 C dX7_add_10 rfl rfl ?_
    refine gr_tp_bytes C dX7_add_11 kt wF_X7_9 rb ?_
    refine g_aload_n 0 0 C dX7_add_14 rfl rfl ?_
    refine gf_tp_used C dX7_add_15 kt wF_X7_15 ?_
    refine g_topi (rfl) ?_
    refine g_iload_n 1 1 C dX7_add_18 rfl rfl ?_
    refine g_sipush (v := nI 255) C dX7_add_19 (by decide) ?_
    refine g_iand C dX7_add_22 ?_
    refine gs_tp_a C dX7_add_23 kb (by omega) ?_
    refine g_aload_n 0 0 C dX7_add_24 rfl rfl ?_
    refine g_dup C dX7_add_25 rfl ?_
    refine gf_tp_used C dX7_add_26 kt wF_X7_15 ?_
    refine g_topi (rfl) ?_
    refine g_iconst (v := nI 1) C dX7_add_29 (by decide) ?_
    refine g_iadd C dX7_add_30 ?_
    refine g_topi (nI_add _ _ : _ = nI (tp.length + 1)) ?_
    refine pp_tp_used C dX7_add_31 kt wF_X7_15 (Or.inl rfl) ?_
    exact g_vret C dX7_add_34 (by decide) (by decide) (⟨rfl, by rw [show v &&& nI 255 = nI b from hv]; show _ = tp_used_ (tp_a_ S _) (nI (tp ++ [b]).length); rw [List.length_append]; rfl⟩)
set_option maxRecDepth 100000 in
set_option maxHeartbeats 2000000 in
theorem c_T_addNumber {lX : Launch} {G : Gx} {S : PS} {t tb : Nat} (kt : kd S t = 8) (rb : tp_bytes S = some tb) (kb : kd S tb = 21) {tp : List Nat} {x : Int64} {n : Nat} {f : Nat → Int32} (hn8 : n ≤ 8) (hn : tp.length + n ≤ 1000) (hf : tpF f tp) : Ct lX yX7_addNumber cX7_addNumber 5 (Option.none : Option Jvm.ClassFile.FieldType) rm_X7_addNumber G [.ref t, .long x, .int (nI n)] (tpC S f tp) (fun r S' => ∃ f2, r = none ∧ S' = tpC S f2 (tp ++ bytesL x n) ∧ tpF f2 (tp ++ bytesL x n)) := by
  refine Ct.mk RX7 "addNumber" hy_X7_addNumber (Nat.le_of_ble_eq_true rfl) (fun X hX C => ?_)
  change Go X G _ 5 0 0 (tpC S f tp) 0 [(0, .ref t), (1, .long x), (3, .int (nI n))] []
  refine g_iload_n 2 3 C dX7_addNumber_0 rfl rfl ?_
  refine g_iconst (v := nI 1) C dX7_addNumber_1 (by decide) ?_
  refine g_isub C dX7_addNumber_2 ?_
  refine g_istore (lv' := [(4, .int (nI n - nI 1)), (0, .ref t), (1, .long x), (3, .int (nI n))]) C dX7_addNumber_3 (by decide) rfl ?_
  have lp : ∀ (n_ : Nat) (r : Nat) (f2 : Nat → Int32) (tp2 : List Nat), r < n_ → (r ≤ n ∧ tp2 = tp ++ (bytesL x n).take (n - r) ∧ tpF f2 tp2) → Go X G (Qe X G (fun r S' => ∃ f2, r = none ∧ S' = tpC S f2 (tp ++ bytesL x n) ∧ tpF f2 (tp ++ bytesL x n)) rm_X7_addNumber.cells rm_X7_addNumber.slots) 5 0 0 (tpC S f2 tp2) 5 [(4, .int (nI r - nI 1)), (0, .ref t), (1, .long x), (3, .int (nI n))] [] := by
    intro n_
    induction n_ with
    | zero => intro r f2 tp2 hm_; exact absurd hm_ (Nat.not_lt_zero _)
    | succ n_ ih_ =>
      intro r f2 tp2 hm_ hh
      have hl2 : tp2.length + r = tp.length + n := by
        rw [hh.2.1, List.length_append, List.length_take, bytesL_len]
        have := hh.1
        omega
      refine g_iload 0 C dX7_addNumber_5 rfl ?_
      rcases Nat.eq_zero_or_pos r with rfl | hr
      · refine g_topi (show nI 0 - nI 1 = -1 by decide) ?_
        refine g_if_lt 28 C dX7_addNumber_7 (by decide) (fun _ => ?_) (fun c => absurd c (by decide))
        exact g_vret C dX7_addNumber_28 (by decide) (by decide) (⟨f2, rfl, by rw [hh.2.1, Nat.sub_zero, List.take_of_length_le (by rw [bytesL_len]; omega)], by have := hh.2.2; rw [hh.2.1, Nat.sub_zero, List.take_of_length_le (by rw [bytesL_len]; omega)] at this; exact this⟩)
      · rw [show nI r - nI 1 = nI (r - 1) from pk_sub (by omega)]
        refine g_nif_lt 28 (by omega) C dX7_addNumber_7 (by decide) ?_
        refine g_aload_n 1 0 C dX7_addNumber_10 rfl rfl ?_
        refine g_lload_n 2 1 C dX7_addNumber_11 rfl rfl ?_
        refine g_bipush (v := nI 8) C dX7_addNumber_12 (by decide) ?_
        refine g_iload 0 C dX7_addNumber_14 rfl ?_
        refine g_imul C dX7_addNumber_16 ?_
        refine g_topi (pk_mul _ _ : _ = nI (8 * (r - 1))) ?_
        refine g_lushr C dX7_addNumber_17 ?_
        refine g_l2i C dX7_addNumber_18 ?_
        refine g_callV (As := [.int (((x.toUInt64 >>> ((nI (8 * (r - 1))).toInt64.toUInt64 &&& Int64.toUInt64 63)).toInt64).toInt32)]) (rest := []) C dX7_addNumber_19 (c_T_add (f := f2) (tp := tp2) (b := byteN x (r - 1)) kt rb kb (by_ush (by omega)) (by omega)) wC_X7_add wM_X7_19 wI_X7_add wS_X7_add wN_X7 (kne kt) (pf_8 kt) rfl hd_X7_add ⟨by decide, by decide, by decide, by decide⟩ (Nat.le_of_ble_eq_true rfl) (fun r_ S_ h_ => ?_)
        obtain ⟨rfl, rfl⟩ := h_
        change Go X G _ 5 _ _ (tpC S (upd f2 tp2.length (nI (byteN x (r - 1)))) (tp2 ++ [byteN x (r - 1)])) 22 [(4, .int (nI (r - 1))), (0, .ref t), (1, .long x), (3, .int (nI n))] []
        refine g_iinc (v := nI (r - 1) - nI 1) (lv' := [(4, .int (nI (r - 1) - nI 1)), (0, .ref t), (1, .long x), (3, .int (nI n))]) 0 C dX7_addNumber_22 rfl (m1_sub _) (by decide) rfl ?_
        refine g_goto 5 C dX7_addNumber_25 (by decide) ?_
        exact ih_ (r - 1) _ _ (by omega) ⟨by omega, by rw [hh.2.1, show n - (r - 1) = n - r + 1 by omega, take_s (by rw [bytesL_len]; omega), bytesL_get _ (by omega), show n - 1 - (n - r) = r - 1 by omega, List.append_assoc _ _ [_]], hh.2.2.add⟩
  exact lp (n + 1) n f tp (by omega) ⟨Nat.le_refl _, by rw [Nat.sub_self, List.take_zero, List.append_nil], hf⟩
set_option maxRecDepth 100000 in
set_option maxHeartbeats 2000000 in
theorem c_T_addName {lX : Launch} {G : Gx} {S : PS} {t tb : Nat} (kt : kd S t = 8) (rb : tp_bytes S = some tb) (kb : kd S tb = 21) {tp : List Nat} {n1 : Nat} {bs : List Nat} {f : Nat → Int32} (h1 : nameC S n1 bs) (hb255 : ∀ i, i < bs.length → bs.getD i 0 ≤ 255) (hn : tp.length + bs.length ≤ 1000) (hf : tpF f tp) : Ct lX yX7_addName cX7_addName 3 (Option.none : Option Jvm.ClassFile.FieldType) rm_X7_addName G [.ref t, .ref n1] (tpC S f tp) (fun r S' => ∃ f2, r = none ∧ S' = tpC S f2 (tp ++ bs) ∧ tpF f2 (tp ++ bs)) := by
  obtain ⟨k_n1, b_n1, r_n1, kb_n1, l_n1, v_n1⟩ := h1
  refine Ct.mk RX7 "addName" hy_X7_addName (Nat.le_of_ble_eq_true rfl) (fun X hX C => ?_)
  change Go X G _ 3 0 0 (tpC S f tp) 0 [(0, .ref t), (1, .ref n1)] []
  refine g_iconst (v := nI 0) C dX7_addName_0 (by decide) ?_
  refine g_istore_n (lv' := [(2, .int (nI 0)), (0, .ref t), (1, .ref n1)]) C dX7_addName_1 rfl (by decide) rfl ?_
  have lp : ∀ (n_ : Nat) (i : Nat) (f2 : Nat → Int32) (tp2 : List Nat), bs.length - i < n_ → (i ≤ bs.length ∧ tp2 = tp ++ bs.take i ∧ tpF f2 tp2) → Go X G (Qe X G (fun r S' => ∃ f2, r = none ∧ S' = tpC S f2 (tp ++ bs) ∧ tpF f2 (tp ++ bs)) rm_X7_addName.cells rm_X7_addName.slots) 3 0 0 (tpC S f2 tp2) 2 [(2, .int (nI i)), (0, .ref t), (1, .ref n1)] [] := by
    intro n_
    induction n_ with
    | zero => intro i f2 tp2 hm_; exact absurd hm_ (Nat.not_lt_zero _)
    | succ n_ ih_ =>
      intro i f2 tp2 hm_ hh
      have hh1 := hh.1
      have hl2 : tp2.length = tp.length + i := by
        rw [hh.2.1, List.length_append, List.length_take]
        omega
      refine g_iload_n 0 2 C dX7_addName_2 rfl rfl ?_
      refine g_aload_n 2 1 C dX7_addName_3 rfl rfl ?_
      refine gr_nm_bytes C dX7_addName_4 k_n1 wF_X7_23 r_n1 ?_
      refine gl_nb_a C dX7_addName_7 kb_n1 ?_
      refine g_topi (congrArg nI l_n1) ?_
      refine g_ncmp_ge 27 (by omega) (by omega) C dX7_addName_8 (by decide) (fun c8 => ?_) (fun c8 => ?_)
      · exact g_vret C dX7_addName_27 (by decide) (by decide) (⟨f2, rfl, by rw [hh.2.1, show i = bs.length by omega, List.take_length], by have := hh.2.2; rw [hh.2.1, show i = bs.length by omega, List.take_length] at this; exact this⟩)
      · have hb := hb255 i (by omega)
        refine g_aload_n 1 0 C dX7_addName_11 rfl rfl ?_
        refine g_aload_n 2 1 C dX7_addName_12 rfl rfl ?_
        refine gr_nm_bytes C dX7_addName_13 k_n1 wF_X7_23 r_n1 ?_
        refine g_iload_n 0 2 C dX7_addName_16 rfl rfl ?_
        refine ga_nb_a C dX7_addName_17 kb_n1 (by have h_ : ln (tpC S f2 tp2) b_n1 = bs.length := l_n1; omega) (by have h_ : ln (tpC S f2 tp2) b_n1 = bs.length := l_n1; omega) ?_
        refine g_topi (v_n1 _ (by omega)) ?_
        refine g_callV (As := [.int (nI (bs.getD i 0))]) (rest := []) C dX7_addName_18 (c_T_add (f := f2) (tp := tp2) (b := bs.getD i 0) kt rb kb (nI_255 (by omega)) (by omega)) wC_X7_add wM_X7_19 wI_X7_add wS_X7_add wN_X7 (kne kt) (pf_8 kt) rfl hd_X7_add ⟨by decide, by decide, by decide, by decide⟩ (Nat.le_of_ble_eq_true rfl) (fun r_ S_ h_ => ?_)
        obtain ⟨rfl, rfl⟩ := h_
        change Go X G _ 3 _ _ (tpC S (upd f2 tp2.length (nI (bs.getD i 0))) (tp2 ++ [bs.getD i 0])) 21 [(2, .int (nI i)), (0, .ref t), (1, .ref n1)] []
        refine g_iinc (v := nI (i + 1)) (lv' := [(2, .int (nI (i + 1))), (0, .ref t), (1, .ref n1)]) 0 C dX7_addName_21 rfl (nI_add _ 1) (by decide) rfl ?_
        refine g_goto 2 C dX7_addName_24 (by decide) ?_
        exact ih_ (i + 1) _ _ (by omega) ⟨by omega, by rw [hh.2.1, take_s (by omega), List.append_assoc _ _ [_]], hh.2.2.add⟩
  exact lp (bs.length + 1) 0 f tp (by omega) ⟨Nat.zero_le _, by rw [List.take_zero, List.append_nil], hf⟩
set_option maxRecDepth 100000 in
set_option maxHeartbeats 2000000 in
theorem c_T_sum {lX : Launch} {G : Gx} {S : PS} {t tb : Nat} (kt : kd S t = 8) (rb : tp_bytes S = some tb) (kb : kd S tb = 21) {tp : List Nat} {f : Nat → Int32} (hl : tp.length ≤ 1000) (hf : tpF f tp) (h255 : ∀ i, i < tp.length → tp.getD i 0 ≤ 255) : Ct lX yX7_sum cX7_sum 3 (Option.some Jvm.ClassFile.FieldType.int) rm_X7_sum G [.ref t] (tpC S f tp) (fun r S' => r = some (.int (nI (sumB tp tp.length % 256))) ∧ S' = tpC S f tp) := by
  refine Ct.mk RX7 "sum" hy_X7_sum (Nat.le_of_ble_eq_true rfl) (fun X hX C => ?_)
  change Go X G _ 3 0 0 (tpC S f tp) 0 [(0, .ref t)] []
  refine g_iconst (v := nI 0) C dX7_sum_0 (by decide) ?_
  refine g_istore_n (lv' := [(1, .int (nI 0)), (0, .ref t)]) C dX7_sum_1 rfl (by decide) rfl ?_
  refine g_iconst (v := nI 0) C dX7_sum_2 (by decide) ?_
  refine g_istore_n (lv' := [(2, .int (nI 0)), (1, .int (nI 0)), (0, .ref t)]) C dX7_sum_3 rfl (by decide) rfl ?_
  have lp : ∀ (n_ : Nat) (k : Nat), tp.length - k < n_ → (k ≤ tp.length) → Go X G (Qe X G (fun r S' => r = some (.int (nI (sumB tp tp.length % 256))) ∧ S' = tpC S f tp) rm_X7_sum.cells rm_X7_sum.slots) 3 0 0 (tpC S f tp) 4 [(2, .int (nI k)), (1, .int (nI (sumB tp k))), (0, .ref t)] [] := by
    intro n_
    induction n_ with
    | zero => intro k hm_; exact absurd hm_ (Nat.not_lt_zero _)
    | succ n_ ih_ =>
      intro k hm_ hi
      have hs := sumB_le h255 k hi
      refine g_iload_n 0 2 C dX7_sum_4 rfl rfl ?_
      refine g_aload_n 2 0 C dX7_sum_5 rfl rfl ?_
      refine gf_tp_used C dX7_sum_6 kt wF_X7_15 ?_
      refine g_topi (rfl) ?_
      refine g_ncmp_ge 27 (by omega) (by omega) C dX7_sum_9 (by decide) (fun c9 => ?_) (fun c9 => ?_)
      · have ek : k = tp.length := by omega
        refine g_iload_n 1 1 C dX7_sum_27 rfl rfl ?_
        refine g_sipush (v := nI 255) C dX7_sum_28 (by decide) ?_
        refine g_iand C dX7_sum_31 ?_
        refine g_topi (nI_and255 _) ?_
        exact g_iret C dX7_sum_32 (by decide) (by decide) ⟨by rw [ek], rfl⟩
      · have hb := h255 k (by omega)
        refine g_iload_n 1 1 C dX7_sum_12 rfl rfl ?_
        refine g_aload_n 2 0 C dX7_sum_13 rfl rfl ?_
        refine gr_tp_bytes C dX7_sum_14 kt wF_X7_9 rb ?_
        refine g_iload_n 0 2 C dX7_sum_17 rfl rfl ?_
        refine ga_tp_a C dX7_sum_18 kb (by omega) ?_
        refine g_topi (hf k (by omega)) ?_
        refine g_iadd C dX7_sum_19 ?_
        refine g_topi (nI_add _ _ : _ = nI (sumB tp k + (tp.getD k 0))) ?_
        refine g_istore_n (lv' := [(1, .int (nI (sumB tp k + (tp.getD k 0)))), (2, .int (nI k)), (0, .ref t)]) C dX7_sum_20 rfl (by decide) rfl ?_
        refine g_iinc (v := nI (k + 1)) (lv' := [(2, .int (nI (k + 1))), (1, .int (nI (sumB tp k + (tp.getD k 0)))), (0, .ref t)]) 1 C dX7_sum_21 rfl (nI_add _ 1) (by decide) rfl ?_
        refine g_goto 4 C dX7_sum_24 (by decide) ?_
        exact ih_ (k + 1) (by omega) (by omega)
  exact lp (tp.length + 1) 0 (by omega) (Nat.zero_le _)
theorem Fr.nbn {S : PS} {q n : Nat} {f : Nat → Int32} (h0 : kd S q = 0) : Fr S (nb_a_ (na_nb_a S q n) (va_up (nb_a S) q f)) No := by
  have := ((Fr.refl S No).a_nb_a (n := n) h0).u_nb_a (v := f) (Or.inl h0)
  rwa [show va_up (nb_a (na_nb_a S q n)) q f = va_up (nb_a S) q f from va_up_up _ _ _ _] at this
def nmOk (tp : List Nat) (i n : Nat) : Prop := 1 ≤ n ∧ n ≤ 24 ∧ i + n ≤ tp.length ∧ ∀ q, q < n → tp.getD (i + q) 0 ≠ 0
theorem tapeC.fr {S S' : PS} {A : Nat → Prop} {t tb : Nat} {tp : List Nat} (h : tapeC S t tb tp) (hf : Fr S S' A) (hm : mu S' = mu S) : tapeC S' t tb tp := by
  obtain ⟨⟨h1, h2, h3⟩, h4, h5, h6, h7⟩ := h
  refine ⟨⟨hf.kd_ h1, (fe_tp_bytes hf.2.2).trans h2, hf.kd_ h3⟩, (congrArg (fun q => q.2.1) hm).trans h4, h5, ?_, h7⟩
  rw [show tp_a S' = tp_a S from congrArg (fun q => q.2.2.2) hm]; exact h6
set_option maxRecDepth 100000 in
set_option maxHeartbeats 2000000 in
theorem c_T_nameAt {lX : Launch} {G : Gx} {S : PS} {t tb : Nat} {tp : List Nat} (hT : tapeC S t tb tp) {i n : Nat} (hi : i ≤ 2000) (hn : n ≤ 1000) : Ct lX yX7_nameAt cX7_nameAt 5 (Option.some (Jvm.ClassFile.FieldType.object "BitAlmanac$Name")) rm_X7_nameAt G [.ref t, .int (nI i), .int (nI n)] S (fun r S' => (nmOk tp i n ∧ ∃ m, r = some (.ref m) ∧ Fr S S' No ∧ mu S' = mu S ∧ nameC S' m (nmAt tp i n) ∧ kd S m = 0) ∨ (¬ nmOk tp i n ∧ r = some .null ∧ Fr S S' No ∧ mu S' = mu S)) := by
  obtain ⟨⟨kt, rb, kb⟩, hu, hl1, hf, h255⟩ := hT
  refine Ct.mk RX7 "nameAt" hy_X7_nameAt (Nat.le_of_ble_eq_true rfl) (fun X hX C => ?_)
  change Go X G _ 5 0 0 S 0 [(0, .ref t), (1, .int (nI i)), (2, .int (nI n))] []
  refine g_iload_n 2 2 C dX7_nameAt_0 rfl rfl ?_
  refine g_iconst (v := nI 1) C dX7_nameAt_1 (by decide) ?_
  refine g_ncmp_lt 25 (by omega) (by omega) C dX7_nameAt_2 (by decide) (fun c2 => ?_) (fun c2 => ?_)
  · have hno : ¬ nmOk tp i n := fun z => by have := z.1; have := z.2.1; have := z.2.2.1; omega
    refine g_null C dX7_nameAt_25 ?_
    exact g_aret (r := none) C dX7_nameAt_26 (Or.inl ⟨_, rfl⟩) (by decide) (by decide) (Or.inr ⟨hno, rfl, Fr.refl S _, rfl⟩)
  · refine g_iload_n 2 2 C dX7_nameAt_5 rfl rfl ?_
    refine g_bipush (v := nI 24) C dX7_nameAt_6 (by decide) ?_
    refine g_ncmp_gt 25 (by omega) (by omega) C dX7_nameAt_8 (by decide) (fun c8 => ?_) (fun c8 => ?_)
    · have hno : ¬ nmOk tp i n := fun z => by have := z.1; have := z.2.1; have := z.2.2.1; omega
      refine g_null C dX7_nameAt_25 ?_
      exact g_aret (r := none) C dX7_nameAt_26 (Or.inl ⟨_, rfl⟩) (by decide) (by decide) (Or.inr ⟨hno, rfl, Fr.refl S _, rfl⟩)
    · refine g_iload_n 1 1 C dX7_nameAt_11 rfl rfl ?_
      refine g_nif_lt 25 (by omega) C dX7_nameAt_12 (by decide) ?_
      refine g_iload_n 1 1 C dX7_nameAt_15 rfl rfl ?_
      refine g_iload_n 2 2 C dX7_nameAt_16 rfl rfl ?_
      refine g_iadd C dX7_nameAt_17 ?_
      refine g_topi (nI_add _ _ : _ = nI (i + n)) ?_
      refine g_aload_n 0 0 C dX7_nameAt_18 rfl rfl ?_
      refine gf_tp_used C dX7_nameAt_19 kt wF_X7_15 ?_
      refine g_topi (hu) ?_
      refine g_ncmp_le 27 (by omega) (by omega) C dX7_nameAt_22 (by decide) (fun c22 => ?_) (fun c22 => ?_)
      · refine g_iload_n 2 2 C dX7_nameAt_27 rfl rfl ?_
        refine gy_nb_a C dX7_nameAt_28 (by omega) ⟨by decide, by show (_ : Nat) ≤ 25; omega⟩ (fun q1 h0_q1 => ?_)
        refine Go.wide (k2 := 1) (n2 := 24) (by first | decide | omega) (by first | decide | omega) ?_
        refine g_st (S' := (nb_a_ (na_nb_a S q1 n) (va_up (nb_a S) q1 (fun _ => 0)))) ?_ ?_
        · show na_nb_a S q1 n = nb_a_ (na_nb_a S q1 n) (va_up (nb_a S) q1 (fun _ => 0))
          rfl
        refine g_astore_n (lv' := [(3, .ref q1), (0, .ref t), (1, .int (nI i)), (2, .int (nI n))]) C dX7_nameAt_30 rfl (by decide) rfl ?_
        refine g_iconst (v := nI 0) C dX7_nameAt_31 (by decide) ?_
        refine g_istore (lv' := [(4, .int (nI 0)), (3, .ref q1), (0, .ref t), (1, .int (nI i)), (2, .int (nI n))]) C dX7_nameAt_32 (by decide) rfl ?_
        have lp : ∀ (n_ : Nat) (k : Nat) (f : Nat → Int32), n - k < n_ → (k ≤ n ∧ ∀ q, q < k → f q = nI (tp.getD (i + q) 0) ∧ tp.getD (i + q) 0 ≠ 0) → Go X G (Qe X G (fun r S' => (nmOk tp i n ∧ ∃ m, r = some (.ref m) ∧ Fr S S' No ∧ mu S' = mu S ∧ nameC S' m (nmAt tp i n) ∧ kd S m = 0) ∨ (¬ nmOk tp i n ∧ r = some .null ∧ Fr S S' No ∧ mu S' = mu S)) rm_X7_nameAt.cells rm_X7_nameAt.slots) 5 1 24 (nb_a_ (na_nb_a S q1 n) (va_up (nb_a S) q1 f)) 34 [(4, .int (nI k)), (3, .ref q1), (0, .ref t), (1, .int (nI i)), (2, .int (nI n))] [] := by
          intro n_
          induction n_ with
          | zero => intro k f hm_; exact absurd hm_ (Nat.not_lt_zero _)
          | succ n_ ih_ =>
            intro k f hm_ hh
            have hh1 := hh.1
            refine g_iload 0 C dX7_nameAt_34 rfl ?_
            refine g_iload_n 4 2 C dX7_nameAt_36 rfl rfl ?_
            refine g_ncmp_ge 68 (by omega) (by omega) C dX7_nameAt_37 (by decide) (fun c37 => ?_) (fun c37 => ?_)
            · refine gw_Name C dX7_nameAt_68 wK_X7_24 ⟨by decide, by decide⟩ (fun q2 h0_q2 => ?_)
              refine g_dup C dX7_nameAt_71 rfl ?_
              refine g_aload_n 1 3 C dX7_nameAt_72 rfl rfl ?_
              refine g_callI (As := [.ref q1]) (rest := [.ref q2]) C dX7_nameAt_73 (c_N_init (S := nw_Name (nb_a_ (na_nb_a S q1 n) (va_up (nb_a S) q1 f)) q2) (va_up_self _ _ _)) wC_X5_init wM_X7_30 wI_X5_init wN_X5 rfl hd_X5_init.2 ⟨by decide, by decide, by decide, by decide⟩ (Nat.le_of_ble_eq_true rfl) (fun r_ S_ h_ => ?_)
              obtain ⟨rfl, rfl⟩ := h_
              change Go X G _ 5 _ _ (nm_bytes_ (nw_Name (nb_a_ (na_nb_a S q1 n) (va_up (nb_a S) q1 f)) q2) (va_up (nm_bytes (nw_Name (nb_a_ (na_nb_a S q1 n) (va_up (nb_a S) q1 f)) q2)) q2 (some q1))) 76 [(4, .int (nI k)), (3, .ref q1), (0, .ref t), (1, .int (nI i)), (2, .int (nI n))] [.ref q2]
              have ff : Fr S (nb_a_ (na_nb_a S q1 n) (va_up (nb_a S) q1 f)) No := Fr.nbn h0_q1
              have h02 : kd S q2 = 0 := ff.new h0_q2
              have hne : q1 ≠ q2 := fun e => by rw [← e] at h0_q2; exact absurd ((va_up_self (kd S) q1 12).symm.trans h0_q2) (by decide)
              exact g_aret (r := some q2) C dX7_nameAt_76 (Or.inl ⟨_, rfl⟩) (by decide) (by decide) (Or.inl ⟨⟨by omega, by omega, by omega, fun q hq => (hh.2 q (by omega)).2⟩, q2, rfl, (ff.n_Name h0_q2).u_nm_bytes (Or.inl h02), rfl, ⟨va_up_self _ _ _, q1, va_up_self _ _ _, kup h0_q2 (va_up_self _ _ _), by rw [nmAt_len]; exact va_up_self _ _ _, fun q hq => by
                rw [nmAt_len] at hq
                rw [nmAt_get hq]
                exact (congrFun (va_up_self (nb_a S) q1 f) q).trans (hh.2 q (by omega)).1⟩, h02⟩)
            · have hb := h255 (i + k) (by omega)
              refine g_aload_n 1 3 C dX7_nameAt_40 rfl rfl ?_
              refine g_iload 0 C dX7_nameAt_41 rfl ?_
              refine g_aload_n 2 0 C dX7_nameAt_43 rfl rfl ?_
              refine gr_tp_bytes C dX7_nameAt_44 (kup h0_q1 kt) wF_X7_9 rb ?_
              refine g_iload_n 3 1 C dX7_nameAt_47 rfl rfl ?_
              refine g_iload 0 C dX7_nameAt_48 rfl ?_
              refine g_iadd C dX7_nameAt_50 ?_
              refine g_topi (nI_add _ _ : _ = nI (i + k)) ?_
              refine ga_tp_a C dX7_nameAt_51 (kup h0_q1 kb) (by omega) ?_
              refine g_topi (hf (i + k) (by omega)) ?_
              refine gs_nb_a C dX7_nameAt_52 (va_up_self _ _ _) (by have h_ : ln (nb_a_ (na_nb_a S q1 n) (va_up (nb_a S) q1 f)) q1 = n := (va_up_self _ _ _); omega) (by have h_ : ln (nb_a_ (na_nb_a S q1 n) (va_up (nb_a S) q1 f)) q1 = n := (va_up_self _ _ _); omega) ?_
              refine g_st (S' := (nb_a_ (na_nb_a S q1 n) (va_up (nb_a S) q1 (upd f k (nI (tp.getD (i + k) 0)))))) (by show nb_a_ (na_nb_a S q1 n) (va_up (va_up (nb_a S) q1 f) q1 (upd (va_up (nb_a S) q1 f q1) k (nI (tp.getD (i + k) 0)))) = _; rw [va_up_up, va_up_self]) ?_
              refine g_aload_n 1 3 C dX7_nameAt_53 rfl rfl ?_
              refine g_iload 0 C dX7_nameAt_54 rfl ?_
              refine ga_nb_a C dX7_nameAt_56 (va_up_self _ _ _) (by have h_ : ln (nb_a_ (na_nb_a S q1 n) (va_up (nb_a S) q1 (upd f k (nI (tp.getD (i + k) 0))))) q1 = n := (va_up_self _ _ _); omega) (by have h_ : ln (nb_a_ (na_nb_a S q1 n) (va_up (nb_a S) q1 (upd f k (nI (tp.getD (i + k) 0))))) q1 = n := (va_up_self _ _ _); omega) ?_
              refine g_topi ((congrFun (va_up_self _ _ _) _).trans pk_us) ?_
              refine g_nif_ne 62 (by omega) C dX7_nameAt_57 (by decide) (fun c57 => ?_) (fun c57 => ?_)
              · refine g_iinc (v := nI (k + 1)) (lv' := [(4, .int (nI (k + 1))), (3, .ref q1), (0, .ref t), (1, .int (nI i)), (2, .int (nI n))]) 0 C dX7_nameAt_62 rfl (nI_add _ 1) (by decide) rfl ?_
                refine g_goto 34 C dX7_nameAt_65 (by decide) ?_
                exact ih_ (k + 1) _ (by omega) ⟨by omega, fun q hq => by
                  by_cases e : q = k
                  · rw [e]; exact ⟨pk_us, c57⟩
                  · exact ⟨(pk_un e).trans (hh.2 q (by omega)).1, (hh.2 q (by omega)).2⟩⟩
              · refine g_null C dX7_nameAt_60 ?_
                exact g_aret (r := none) C dX7_nameAt_61 (Or.inl ⟨_, rfl⟩) (by decide) (by decide) (Or.inr ⟨fun z => z.2.2.2 k (by omega) c57, rfl, Fr.nbn h0_q1, rfl⟩)
        exact lp (n + 1) 0 _ (by omega) ⟨Nat.zero_le _, fun q hq => absurd hq (Nat.not_lt_zero _)⟩
      · have hno : ¬ nmOk tp i n := fun z => by have := z.1; have := z.2.1; have := z.2.2.1; omega
        refine g_null C dX7_nameAt_25 ?_
        exact g_aret (r := none) C dX7_nameAt_26 (Or.inl ⟨_, rfl⟩) (by decide) (by decide) (Or.inr ⟨hno, rfl, Fr.refl S _, rfl⟩)
theorem nameB_iff {tp : List Nat} : nameB tp = true ↔ nmOk tp 0 tp.length := by
  unfold nameB nmOk
  simp only [Bool.and_eq_true, decide_eq_true_eq]
  constructor
  · rintro ⟨⟨h3, h4⟩, h5⟩
    refine ⟨h3, h4, by omega, fun q hq => ?_⟩
    have := fN_all (p := fun i => tp.getD i 0 != 0) (n := tp.length) (j := q) (by omega)
    rw [Nat.zero_add]; simpa using this
  · rintro ⟨h1, h2, h3, h4⟩
    refine ⟨⟨h1, h2⟩, fN_eq (Nat.le_refl _) (fun q hq => ?_) (Or.inl rfl)⟩
    have := h4 q hq
    rw [Nat.zero_add] at this
    simpa using this
theorem nmAt_all (tp : List Nat) : nmAt tp 0 tp.length = tp := list_ext0 (nmAt_len _ _ _) (fun j hj => by rw [nmAt_len] at hj; rw [nmAt_get hj, Nat.zero_add])
/-- the tape is empty, and nothing else has changed -/
def muT (S S' : PS) : Prop := ba_refusal S' = ba_refusal S ∧ pl_a S' = pl_a S ∧ tp_a S' = tp_a S ∧ tp_used S' = nI 0
theorem tapeC.empty {S S' : PS} {A : Nat → Prop} {t tb : Nat} {tp : List Nat} (h : tapeC S t tb tp) (hf : Fr S S' A) (hm : muT S S') : tapeC S' t tb [] := ⟨⟨hf.kd_ h.1.1, (fe_tp_bytes hf.2.2).trans h.1.2.1, hf.kd_ h.1.2.2⟩, hm.2.2.2, Nat.zero_le _, fun i hi => absurd hi (Nat.not_lt_zero _), fun i hi => absurd hi (Nat.not_lt_zero _)⟩
theorem muT.of {S S2 : PS} (h : mu S2 = mu S) : muT S (tp_used_ S2 (nI 0)) := ⟨congrArg (fun q => q.1) h, congrArg (fun q => q.2.2.1) h, congrArg (fun q => q.2.2.2) h, rfl⟩
set_option maxRecDepth 100000 in
set_option maxHeartbeats 2000000 in
theorem c_T_takeName {lX : Launch} {G : Gx} {S : PS} {t tb : Nat} {tp : List Nat} (hT : tapeC S t tb tp) : Ct lX yX7_takeName cX7_takeName 2 (Option.some (Jvm.ClassFile.FieldType.object "BitAlmanac$Name")) rm_X7_takeName G [.ref t] S (fun r S' => (nameB tp = true ∧ ∃ m, r = some (.ref m) ∧ Fr S S' No ∧ muT S S' ∧ nameC S' m tp ∧ kd S m = 0) ∨ (nameB tp = false ∧ r = some .null ∧ Fr S S' No ∧ muT S S')) := by
  have hT' := hT
  obtain ⟨⟨kt, rb, kb⟩, hu, hl1, hf, h255⟩ := hT
  refine Ct.mk RX7 "takeName" hy_X7_takeName (Nat.le_of_ble_eq_true rfl) (fun X hX C => ?_)
  change Go X G _ 2 0 0 S 0 [(0, .ref t)] []
  refine g_aload_n 0 0 C dX7_takeName_0 rfl rfl ?_
  refine g_iconst (v := nI 0) C dX7_takeName_1 (by decide) ?_
  refine g_aload_n 0 0 C dX7_takeName_2 rfl rfl ?_
  refine gf_tp_used C dX7_takeName_3 kt wF_X7_15 ?_
  refine g_topi (hu) ?_
  refine g_callV (As := [.int (nI 0), .int (nI (tp.length))]) (rest := []) C dX7_takeName_6 (c_T_nameAt hT' (by omega) (by omega)) wC_X7_nameAt wM_X7_26 wI_X7_nameAt wS_X7_nameAt wN_X7 (kne kt) (pf_8 kt) rfl hd_X7_nameAt ⟨by decide, by decide, by decide, by decide⟩ (Nat.le_of_ble_eq_true rfl) (fun r_ Sa h_ => ?_)
  rcases h_ with ⟨hok, m, rfl, f2, hmu, hnm, hm0⟩ | ⟨hok, rfl, f2, hmu⟩
  · change Go X G _ 2 _ _ Sa 9 [(0, .ref t)] [.ref m]
    refine g_astore_n (lv' := [(1, .ref m), (0, .ref t)]) C dX7_takeName_9 rfl (by decide) rfl ?_
    refine g_aload_n 1 0 C dX7_takeName_10 rfl rfl ?_
    refine g_iconst (v := nI 0) C dX7_takeName_11 (by decide) ?_
    refine pp_tp_used C dX7_takeName_12 (f2.kd_ kt) wF_X7_15 (Or.inl rfl) ?_
    refine g_aload_n 0 1 C dX7_takeName_15 rfl rfl ?_
    exact g_aret (r := some m) C dX7_takeName_16 (Or.inl ⟨_, rfl⟩) (by decide) (by decide) (Or.inl ⟨nameB_iff.mpr hok, m, rfl, f2.s_tp_used, muT.of hmu, by rw [nmAt_all] at hnm; exact hnm, hm0⟩)
  · change Go X G _ 2 _ _ Sa 9 [(0, .ref t)] [.null]
    refine g_astore_nN (lv' := [(1, .null), (0, .ref t)]) C dX7_takeName_9 rfl (by decide) rfl ?_
    refine g_aload_n 1 0 C dX7_takeName_10 rfl rfl ?_
    refine g_iconst (v := nI 0) C dX7_takeName_11 (by decide) ?_
    refine pp_tp_used C dX7_takeName_12 (f2.kd_ kt) wF_X7_15 (Or.inl rfl) ?_
    refine g_aload_nN 0 1 C dX7_takeName_15 rfl rfl ?_
    exact g_aret (r := none) C dX7_takeName_16 (Or.inl ⟨_, rfl⟩) (by decide) (by decide) (Or.inr ⟨Bool.eq_false_iff.mpr (fun h => hok (nameB_iff.mp h)), rfl, f2.s_tp_used, muT.of hmu⟩)
def numU (tp : List Nat) (i : Nat) : Nat → Nat
  | 0 => 0
  | k + 1 => numU tp i k * 256 + tp.getD (i + k) 0
theorem numU_lt {tp : List Nat} {i n : Nat} (h : ∀ q, q < n → tp.getD (i + q) 0 ≤ 255) : ∀ k, k ≤ n → numU tp i k < 256 ^ k := by
  intro k
  induction k with
  | zero => intro _; exact Nat.one_pos
  | succ k ih =>
    intro hk
    have h1 := ih (by omega)
    have h2 := h k (by omega)
    show numU tp i k * 256 + tp.getD (i + k) 0 < 256 ^ (k + 1)
    rw [Nat.pow_succ]
    omega
theorem or_256 {c b : Nat} (hb : b < 256) : c * 256 ||| b = c * 256 + b := by
  refine Nat.eq_of_testBit_eq fun q => ?_
  have h0 : (0 : Nat) < 2 ^ 8 := by decide
  rw [Nat.testBit_or, show c * 256 + b = 2 ^ 8 * c + b by omega, Nat.testBit_two_pow_mul_add c (show b < 2 ^ 8 from hb), show c * 256 = 2 ^ 8 * c + 0 by omega, Nat.testBit_two_pow_mul_add c h0]
  by_cases g : q < 8
  · rw [if_pos g, if_pos g, Nat.zero_testBit, Bool.false_or]
  · rw [if_neg g, if_neg g, Nat.testBit_lt_two_pow (Nat.lt_of_lt_of_le hb (show 256 ≤ 2 ^ q from Nat.pow_le_pow_right (n := 2) (i := 8) (by decide) (by omega))), Bool.or_false]
theorem nI_64 {b : Nat} (h : b < 256) : (nI b).toInt64 = lN b := by
  have : ∀ b, b < 256 → (nI b).toInt64 = lN b := by decide +kernel
  exact this b h
theorem sh_or {n b : Nat} (hn : n < 2 ^ 64) (hb : b < 256) : (lN n <<< ((nI 8).toInt64 &&& 63)) ||| (nI b).toInt64 = lN (n % 2 ^ 56 * 256 + b) := by
  rw [wb_shl n (by decide), nI_64 hb, wb_mod (n * 2 ^ 8), show n * 2 ^ 8 % 2 ^ 64 = n % 2 ^ 56 * 256 by omega, wb_or (by omega) (by omega), or_256 hb]
theorem sx8 : ∀ b, b < 256 → (nI b).toInt8.toInt32.toInt64 = lN (if b < 128 then b else 2 ^ 64 - 256 + b) := by decide +kernel
theorem vl_st {tp : List Nat} {i k n : Nat} (h : vlAt tp i k = lN n) (hn : n < 2 ^ 64) (hb : tp.getD (i + (k + 1)) 0 ≤ 255) : vlAt tp i (k + 1) = lN (n % 2 ^ 56 * 256 + tp.getD (i + (k + 1)) 0) := by
  show (vlAt tp i k <<< ((nI 8).toInt64 &&& 63)) ||| (nI (tp.getD (i + (k + 1)) 0)).toInt64 = _
  rw [h, sh_or hn (by omega)]
theorem sg_bv (U s V : Nat) (hU : U * 2 ^ s < 2 ^ 64) (hs : s < 64) (hV : V < 2 ^ 64) (h : ((if 2 * (U * 2 ^ s) < 2 ^ 64 then (U * 2 ^ s : Int) else (U * 2 ^ s : Int) - 2 ^ 64) / 2 ^ s) = (if 2 * V < 2 ^ 64 then (V : Int) else (V : Int) - 2 ^ 64)) : (lN U <<< ((nI s).toInt64 &&& 63)) >>> ((nI s).toInt64 &&& 63) = lN V := by
  rw [wb_shl U hs]
  refine Int64.toInt_inj.mp ?_
  show ((lN (U * 2 ^ s)) >>> ((nI s).toInt64 &&& 63)).toBitVec.toInt = (BitVec.ofNat 64 V).toInt
  rw [Int64.toBitVec_shiftRight, wb_c s hs, wb_tb, wb_tb, wb_sm s hs]
  show ((BitVec.ofNat 64 (U * 2 ^ s)).sshiftRight (BitVec.ofNat 64 s).toNat).toInt = _
  rw [show (BitVec.ofNat 64 s).toNat = s from by rw [BitVec.toNat_ofNat]; omega, BitVec.toInt_sshiftRight, BitVec.toInt_eq_toNat_cond, BitVec.toInt_eq_toNat_cond, BitVec.toNat_ofNat, BitVec.toNat_ofNat, Nat.mod_eq_of_lt hU, Nat.mod_eq_of_lt hV, Int.shiftRight_eq_div_pow]
  have e : (((2 ^ s : Nat)) : Int) = (2 : Int) ^ s := by rw [Int.natCast_pow]; rfl
  rw [e]
  simp only [Int.natCast_mul, Int.natCast_pow] at *
  exact h
