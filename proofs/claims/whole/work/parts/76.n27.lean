theorem numU_div {bs : List Nat} (h : ∀ q, bs.getD q 0 ≤ 255) : ∀ k, numU bs 0 (k + 1) / 256 ^ k = bs.getD 0 0 := by
  intro k
  induction k with
  | zero => show (0 * 256 + bs.getD (0 + 0) 0) / 256 ^ 0 = _; rw [Nat.pow_zero, Nat.div_one, Nat.zero_mul, Nat.zero_add]
  | succ k ih =>
    show (numU bs 0 (k + 1) * 256 + bs.getD (0 + (k + 1)) 0) / 256 ^ (k + 1) = _
    have := h (0 + (k + 1))
    rw [Nat.pow_succ, Nat.mul_comm (256 ^ k) 256, ← Nat.div_div_eq_div_mul, show (numU bs 0 (k + 1) * 256 + bs.getD (0 + (k + 1)) 0) / 256 = numU bs 0 (k + 1) by omega]
    exact ih
theorem hp_val {bs : List Nat} (h : ∀ q, bs.getD q 0 ≤ 255) {hb : Nat} (h8 : hb ≤ 8) : numU bs 0 8 / 2 ^ (64 - hb) = bs.getD 0 0 / 2 ^ (8 - hb) := by
  rw [show 64 - hb = 56 + (8 - hb) by omega, Nat.pow_add, ← Nat.div_div_eq_div_mul, show (2 : Nat) ^ 56 = 256 ^ 7 from rfl, numU_div h 7]
theorem lN_i32 (n : Nat) : (lN n).toInt32 = nI n := by
  refine Int32.toBitVec_inj.mp (BitVec.eq_of_toNat_eq ?_)
  rw [lN_32]
  show (BitVec.setWidth 32 (BitVec.ofNat 64 n)).toNat = (BitVec.ofNat 32 n).toNat
  rw [BitVec.toNat_setWidth, BitVec.toNat_ofNat, BitVec.toNat_ofNat]
  omega
theorem okN_255 {bs : List Nat} (h : okN bs) : ∀ q, bs.getD q 0 ≤ 255 := by
  intro q
  rcases Nat.lt_or_ge q bs.length with z | z
  · exact (h.2.2 q z).2
  · rw [List.getD_eq_getElem?_getD, List.getElem?_eq_none z]; exact Nat.zero_le _
theorem nU_st {bs : List Nat} (h : ∀ q, bs.getD q 0 ≤ 255) {i : Nat} (hi : i < 8) : (lN (numU bs 0 i) <<< ((nI 8).toInt64 &&& 63)) ||| (nI (bs.getD i 0)).toInt64 = lN (numU bs 0 (i + 1)) := by
  have h1 := numU_lt (tp := bs) (i := 0) (n := 7) (fun q _ => h (0 + q)) i (by omega)
  have h2 : (256 : Nat) ^ i ≤ 256 ^ 7 := Nat.pow_le_pow_right (by decide) (by omega)
  have h3 : (256 : Nat) ^ 7 = 2 ^ 56 := rfl
  have h4 := h i
  rw [sh_or (by omega) (by omega), Nat.mod_eq_of_lt (by omega)]
  show _ = lN (numU bs 0 i * 256 + bs.getD (0 + i) 0)
  rw [Nat.zero_add]
set_option maxRecDepth 100000 in
set_option maxHeartbeats 400000 in
theorem c_N_high {lX : Launch} {G : Gx} {S : PS} {n1 : Nat} {bs : List Nat} (h1 : nameC S n1 bs) (oc : okN bs) (h8 : bs.length = 8) {hb : Nat} (hb1 : 1 ≤ hb) (hb8 : hb ≤ 8) : Ct lX yX5_highPart cX5_highPart 5 (Option.some Jvm.ClassFile.FieldType.int) rm_X5_highPart G [.ref n1, .int (nI hb)] S (fun r S' => r = some (.int (nI (bs.getD 0 0 / 2 ^ (8 - hb)))) ∧ S = S') := by
  obtain ⟨k_n1, b_n1, r_n1, kb_n1, l_n1, v_n1⟩ := h1
  have h255 := okN_255 oc
  have hU : numU bs 0 8 < 2 ^ 64 := numU_lt (tp := bs) (i := 0) (n := 8) (fun q _ => h255 (0 + q)) 8 (by omega)
  refine Ct.mk RX5 "highPart" hy_X5_highPart (Nat.le_of_ble_eq_true rfl) (fun X hX C => ?_)
  change Go X G _ 5 0 0 S 0 [(0, .ref n1), (1, .int (nI hb))] []
  refine g_lconst (v := 0) C dX5_highPart_0 (by decide) ?_
  refine g_lstore_n (lv' := [(2, .long 0), (0, .ref n1), (1, .int (nI hb))]) C dX5_highPart_1 rfl (by decide) rfl ?_
  refine g_iconst (v := nI 0) C dX5_highPart_2 (by decide) ?_
  refine g_istore (lv' := [(4, .int (nI 0)), (2, .long 0), (0, .ref n1), (1, .int (nI hb))]) C dX5_highPart_3 (by decide) rfl ?_
  have lp : ∀ (n_ : Nat) (i : Nat), 8 - i < n_ → (i ≤ 8) → Go X G (Qe X G (fun r S' => r = some (.int (nI (bs.getD 0 0 / 2 ^ (8 - hb)))) ∧ S = S') rm_X5_highPart.cells rm_X5_highPart.slots) 5 0 0 S 5 [(4, .int (nI i)), (2, .long (lN (numU bs 0 i))), (0, .ref n1), (1, .int (nI hb))] [] := by
    intro n_
    induction n_ with
    | zero => intro i hm_; exact absurd hm_ (Nat.not_lt_zero _)
    | succ n_ ih_ =>
      intro i hm_ hi
      refine g_iload 0 C dX5_highPart_5 rfl ?_
      refine g_bipush (v := nI 8) C dX5_highPart_7 (by decide) ?_
      refine g_ncmp_ge 42 (by omega) (by omega) C dX5_highPart_9 (by decide) (fun c9 => ?_) (fun c9 => ?_)
      · obtain rfl : i = 8 := by omega
        refine g_lload_n 1 2 C dX5_highPart_42 rfl rfl ?_
        refine g_bipush (v := nI 64) C dX5_highPart_43 (by decide) ?_
        refine g_iload_n 3 1 C dX5_highPart_45 rfl rfl ?_
        refine g_isub C dX5_highPart_46 ?_
        refine g_topi (pk_sub (by omega) : _ = nI (64 - hb)) ?_
        refine g_lushr C dX5_highPart_47 ?_
        refine g_topl (wb_shr hU (by omega) : _ = lN (numU bs 0 8 / 2 ^ (64 - hb))) ?_
        refine g_l2i C dX5_highPart_48 ?_
        exact g_iret C dX5_highPart_49 (by decide) (by decide) ⟨by rw [lN_i32, hp_val h255 (by omega)], rfl⟩
      · have hb255 := h255 i
        refine g_iload 0 C dX5_highPart_12 rfl ?_
        refine g_aload_n 2 0 C dX5_highPart_14 rfl rfl ?_
        refine gr_nm_bytes C dX5_highPart_15 k_n1 wF_X5_9 r_n1 ?_
        refine gl_nb_a C dX5_highPart_18 kb_n1 ?_
        refine g_topi (congrArg nI l_n1) ?_
        refine g_ncmp_ge 42 (by omega) (by omega) C dX5_highPart_19 (by decide) (fun c19 => ?_) (fun c19 => ?_)
        · omega
        · refine g_lload_n 1 2 C dX5_highPart_22 rfl rfl ?_
          refine g_bipush (v := nI 8) C dX5_highPart_23 (by decide) ?_
          refine g_lshl C dX5_highPart_25 ?_
          refine g_aload_n 2 0 C dX5_highPart_26 rfl rfl ?_
          refine gr_nm_bytes C dX5_highPart_27 k_n1 wF_X5_9 r_n1 ?_
          refine g_iload 0 C dX5_highPart_30 rfl ?_
          refine ga_nb_a C dX5_highPart_32 kb_n1 (by omega) (by omega) ?_
          refine g_topi (v_n1 _ (by omega)) ?_
          refine g_i2l C dX5_highPart_33 ?_
          refine g_lor C dX5_highPart_34 ?_
          refine g_topl (nU_st h255 (by omega) : _ = lN (numU bs 0 (i + 1))) ?_
          refine g_lstore_n (lv' := [(2, .long (lN (numU bs 0 (i + 1)))), (4, .int (nI i)), (0, .ref n1), (1, .int (nI hb))]) C dX5_highPart_35 rfl (by decide) rfl ?_
          refine g_iinc (v := nI (i + 1)) (lv' := [(4, .int (nI (i + 1))), (2, .long (lN (numU bs 0 (i + 1)))), (0, .ref n1), (1, .int (nI hb))]) 1 C dX5_highPart_36 rfl (nI_add _ 1) (by decide) rfl ?_
          refine g_goto 5 C dX5_highPart_39 (by decide) ?_
          exact ih_ (i + 1) (by omega) (by omega)
  exact lp 9 0 (by omega) (Nat.zero_le _)
theorem cnt_iff (p : Nat → Prop) [DecidablePred p] : ∀ n, (∀ i j, i < j → j < n → p j → p i) → (sumN (fun k => if p k then 1 else 0) n ≤ n) ∧ ∀ k, k < n → (p k ↔ k < sumN (fun k => if p k then 1 else 0) n) := by
  intro n
  induction n with
  | zero => intro _; exact ⟨Nat.le_refl _, fun k hk => absurd hk (Nat.not_lt_zero _)⟩
  | succ n ih =>
    intro h
    obtain ⟨h1, h2⟩ := ih (fun i j a b => h i j a (by omega))
    show sumN _ n + (if p n then 1 else 0) ≤ n + 1 ∧ ∀ k, k < n + 1 → (p k ↔ k < sumN _ n + (if p n then 1 else 0))
    by_cases g : p n
    · rw [if_pos g]
      have hall : ∀ k, k < n → k < sumN (fun k => if p k then 1 else 0) n := fun k hk => (h2 k hk).mp (h k n hk (by omega) g)
      have : n ≤ sumN (fun k => if p k then 1 else 0) n := by
        rcases Nat.eq_zero_or_pos n with z | z
        · omega
        · have := hall (n - 1) (by omega); omega
      refine ⟨by omega, fun k hk => ⟨fun _ => by omega, fun _ => ?_⟩⟩
      rcases Nat.lt_or_ge k n with z | z
      · exact h k n z (by omega) g
      · rw [show k = n by omega]; exact g
    · rw [if_neg g]
      refine ⟨by omega, fun k hk => ?_⟩
      rcases Nat.lt_or_ge k n with z | z
      · exact h2 k z
      · rw [show k = n by omega]
        exact ⟨fun z => absurd z g, fun z => by omega⟩
theorem less_first {a b : List Nat} (h : less a b = true) (ha : 1 ≤ a.length) : a.getD 0 0 ≤ b.getD 0 0 := by
  unfold less at h
  rcases Nat.eq_zero_or_pos (lcp a b) with z | z
  · rw [z] at h
    split at h
    · rw [if_pos (by omega)] at h
      have := of_decide_eq_true h
      omega
    · cases h
  · have := fN_all (p := fun i => a.getD i 0 == b.getD i 0) (n := min a.length b.length) (j := 0) z
    have : a.getD 0 0 = b.getD 0 0 := by simpa using this
    omega
theorem hi_mono {l : List Ent} (hl : okL l) {i j : Nat} (h : i ≤ j) (hj : j < l.length) : hiPart l i ≤ hiPart l j := by
  unfold hiPart
  rcases Nat.eq_or_lt_of_le h with e | e
  · rw [e]; exact Nat.le_refl _
  · exact Nat.div_le_div_right (less_first (hl.2.2 i j e hj) (hl.2.1 i (by omega)).1)
theorem hi_lt {l : List Ent} (hl : okL l) {k : Nat} (hk : k < l.length) : hiPart l k < 2 ^ hbN l.length := by
  have h1 := okN_255 (hl.2.1 k hk) 0
  have h2 := hbN_le hl.1
  unfold hiPart
  refine Nat.div_lt_of_lt_mul ?_
  rw [← Nat.pow_add, show 8 - hbN l.length + hbN l.length = 8 by omega]
  show _ < 256
  omega
/-- the row of SPLIT up to name k -/
def gP (l : List Ent) : Nat → List Nat
  | 0 => []
  | k + 1 => padB (gP l k) (hiPart l k + k) ++ [1]
theorem gP_len {l : List Ent} (hl : okL l) : ∀ k, k < l.length → (gP l k).length ≤ hiPart l k + k := by
  intro k
  induction k with
  | zero => intro _; exact Nat.zero_le _
  | succ k ih =>
    intro hk
    show (padB (gP l k) (hiPart l k + k) ++ [1]).length ≤ _
    have h1 := hi_mono hl (show k ≤ k + 1 by omega) hk
    rw [List.length_append, padB_len (ih (by omega))]
    show _ + 1 ≤ _
    omega
theorem gP_01 (l : List Ent) : ∀ k, bit01 (gP l k) := by
  intro k
  induction k with
  | zero => intro i; exact Nat.zero_le _
  | succ k ih => exact bit01_app (bit01_pad ih) (bit01_rep 1 1 (Nat.le_refl _))
theorem gP_set {l : List Ent} (hl : okL l) {k n : Nat} (hk : k < l.length) (hn : hiPart l k + k < n) : (padB (gP l k) n).set (hiPart l k + k) 1 = padB (gP l (k + 1)) n := by
  have h1 := gP_len hl k hk
  have h2 := padB_len h1
  have := padB_set (p := padB (gP l k) (hiPart l k + k)) (n := n) (by omega)
  rw [h2, padB_pad h1 (by omega)] at this
  exact this
abbrev cumS (l : List Ent) (v : Nat) : Nat := sumN (fun k => if hiPart l k < v then 1 else 0) l.length
theorem gP_spB {l : List Ent} (hl : okL l) : ∀ v, (gP l (cumS l v)).length ≤ cumS l v + v ∧ padB (gP l (cumS l v)) (cumS l v + v) = spB l v := by
  intro v
  induction v with
  | zero =>
    have : cumS l 0 = 0 := by have := spB_len l 0; rw [show spB l 0 = [] from rfl] at this; have h2 : 0 = 0 + cumS l 0 := this; omega
    rw [this]
    exact ⟨Nat.le_refl _, rfl⟩
  | succ v ih =>
    have l1 := spB_len l v
    have l2 := spB_len l (v + 1)
    have c1 := cnt_iff (fun k => hiPart l k < v) l.length (fun i j a b h => Nat.lt_of_le_of_lt (hi_mono hl (by omega) b) h)
    have c2 := cnt_iff (fun k => hiPart l k < v + 1) l.length (fun i j a b h => Nat.lt_of_le_of_lt (hi_mono hl (by omega) b) h)
    rw [spB_succ, List.length_append, List.length_append, List.length_replicate] at l2
    generalize hc : sumN (fun k => if hiPart l k = v then 1 else 0) l.length = cv at l2
    have l2' : (spB l v).length + (cv + 1) = v + 1 + cumS l (v + 1) := l2
    have l1' : (spB l v).length = v + cumS l v := l1
    have c2a : cumS l (v + 1) ≤ l.length := c2.1
    have sub : ∀ e, e ≤ cv → (gP l (cumS l v + e)).length ≤ cumS l v + e + v ∧ padB (gP l (cumS l v + e)) (cumS l v + e + v) = spB l v ++ List.replicate e 1 := by
      intro e
      induction e with
      | zero => intro _; exact ⟨ih.1, by rw [show spB l v ++ List.replicate 0 1 = spB l v from List.append_nil _]; exact ih.2⟩
      | succ e ih2 =>
        intro he
        obtain ⟨a1, a2⟩ := ih2 (by omega)
        have hk : cumS l v + e < l.length := by omega
        have g1 : ¬ hiPart l (cumS l v + e) < v := fun z => by have := (c1.2 _ hk).mp z; have h3 : cumS l v + e < cumS l v := this; omega
        have g2 : hiPart l (cumS l v + e) < v + 1 := (c2.2 _ hk).mpr (show cumS l v + e < cumS l (v + 1) by omega)
        have g3 : hiPart l (cumS l v + e) = v := by omega
        have g4 : gP l (cumS l v + (e + 1)) = (spB l v ++ List.replicate e 1) ++ [1] := by
          show padB (gP l (cumS l v + e)) (hiPart l (cumS l v + e) + (cumS l v + e)) ++ [1] = _
          rw [g3, show v + (cumS l v + e) = cumS l v + e + v by omega, a2]
        have g5 : (gP l (cumS l v + (e + 1))).length = cumS l v + (e + 1) + v := by
          rw [g4, List.length_append, List.length_append, List.length_replicate, l1']
          show _ + _ + 1 = _
          omega
        refine ⟨by omega, ?_⟩
        rw [← g5, padB_full, g4, rep_succ]
    obtain ⟨s1, s2⟩ := sub cv (Nat.le_refl _)
    have ec : cumS l (v + 1) = cumS l v + cv := by omega
    rw [ec]
    refine ⟨by omega, ?_⟩
    rw [← padB_pad s1 (show cumS l v + cv + v ≤ cumS l v + cv + (v + 1) by omega), s2, spB_succ, hc, ← padB_zero (by rw [List.length_append, List.length_replicate]; omega), ← List.append_assoc]
    have : cumS l v + cv + (v + 1) = ((spB l v ++ List.replicate cv 1) ++ [0]).length := by
      rw [List.length_append, List.length_append, List.length_replicate, l1']
      show _ = _ + _ + 1
      omega
    rw [this, padB_full]
theorem gP_end {l : List Ent} (hl : okL l) : padB (gP l l.length) (l.length + 2 ^ hbN l.length) = bitsS l := by
  have h := (gP_spB hl (2 ^ hbN l.length)).2
  have c1 := cnt_iff (fun k => hiPart l k < 2 ^ hbN l.length) l.length (fun i j a b h => Nat.lt_of_le_of_lt (hi_mono hl (by omega) b) h)
  have : cumS l (2 ^ hbN l.length) = l.length := by
    have h1 : cumS l (2 ^ hbN l.length) ≤ l.length := c1.1
    rcases Nat.eq_zero_or_pos l.length with z | z
    · omega
    · have : l.length - 1 < cumS l (2 ^ hbN l.length) := (c1.2 (l.length - 1) (by omega)).mp (hi_lt hl (by omega))
      omega
  rw [this] at h
  exact h
set_option maxRecDepth 100000 in
set_option maxHeartbeats 400000 in
theorem c_B_splitRow {lX : Launch} {G : Gx} {S : PS} {x : Nat} {c : Nat → Nat} (hC : CoC S x c) {a nr va room : Nat} {l : List Ent} (hL : listC S a nr va room l) (hl : okL l) (h0 : 0 < l.length) (h8 : ∀ k, k < l.length → (nm l k).length = 8) : Ct lX yX1_splitRow cX1_splitRow 5 (Option.some (Jvm.ClassFile.FieldType.object "BitAlmanac$Row")) rm_X1_splitRow G [.ref ((c 7)), .ref a] S (fun r S' => ∃ q wd ta tb, r = some (.ref q) ∧ Fr S S' No ∧ mu S' = mu S ∧ scr S' = scr S ∧ rowC S' q wd ta tb (bitsS l) false false ∧ kd S q = 0 ∧ kd S wd = 0 ∧ kd S ta = 0 ∧ kd S tb = 0) := by
  have hL' := hL
  obtain ⟨⟨k_a, ra_a, rb_a⟩, ⟨kn_a, ln_a⟩, ⟨kv_a, lv_a⟩, sz_a, le_a, rm_a, en_a⟩ := hL
  have hl1 := hl.1
  have hb7 := hbN_le hl1
  have hb1 : 1 ≤ hbN l.length := fN_ge (p := fun h => decide (2 ^ h ≤ l.length)) (by decide) (fun j hj => decide_eq_true (by rw [show j = 0 by omega]; show 1 ≤ l.length; omega))
  have hp7 : 2 ^ hbN l.length ≤ 2 ^ 7 := Nat.pow_le_pow_right (by decide) hb7
  have hp8 : (2 : Nat) ^ 7 = 128 := rfl
  refine Ct.mk RX1 "splitRow" hy_X1_splitRow (Nat.le_of_ble_eq_true rfl) (fun X hX C => ?_)
  change Go X G _ 5 0 0 S 0 [(0, .ref ((c 7))), (1, .ref a)] []
  refine g_aload_n 1 1 C dX1_splitRow_0 rfl rfl ?_
  refine g_callV (As := []) (rest := []) C dX1_splitRow_1 (c_L_highBits hL') wC_X4_highBits wM_X1_76 wI_X4_highBits wS_X4_highBits wN_X4 (kne k_a) (pf_5 k_a) rfl hd_X4_highBits ⟨by decide, by decide, by decide, by decide⟩ (Nat.le_of_ble_eq_true rfl) (fun r_ S_ h_ => ?_)
  obtain ⟨rfl, rfl⟩ := h_
  change Go X G _ 5 _ _ S 4 [(0, .ref ((c 7))), (1, .ref a)] [.int (nI ((hbN l.length)))]
  refine g_istore_n (lv' := [(2, .int (nI ((hbN l.length)))), (0, .ref ((c 7))), (1, .ref a)]) C dX1_splitRow_4 rfl (by decide) rfl ?_
  refine gw_Row C dX1_splitRow_5 wK_X1_79 ⟨by decide, by decide⟩ (fun q1 h0_q1 => ?_)
  refine g_dup C dX1_splitRow_8 rfl ?_
  refine g_aload_n 2 1 C dX1_splitRow_9 rfl rfl ?_
  refine gf_ls_size C dX1_splitRow_10 (kup h0_q1 k_a) wF_X1_35 ?_
  refine g_topi (sz_a) ?_
  refine g_iconst (v := nI 1) C dX1_splitRow_13 (by decide) ?_
  refine g_iload_n 0 2 C dX1_splitRow_14 rfl rfl ?_
  refine g_ishl C dX1_splitRow_15 ?_
  refine g_topi (shl1 _ (by omega) : _ = nI (2 ^ (hbN l.length))) ?_
  refine g_iadd C dX1_splitRow_16 ?_
  refine g_topi (nI_add _ _ : _ = nI (l.length + (2 ^ (hbN l.length)))) ?_
  refine g_callI (As := [.int (nI (l.length + (2 ^ (hbN l.length))))]) (rest := [.ref q1]) C dX1_splitRow_17 (c_R_init2 (S := nw_Row S q1) (n := (l.length + 2 ^ hbN l.length)) (va_up_self _ _ _) (by omega)) wC_X6_init wM_X1_81 wI_X6_init wN_X6 rfl hd_X6_init.2 ⟨by decide, by decide, by decide, by decide⟩ (Nat.le_of_ble_eq_true rfl) (fun r_ Sl h_ => ?_)
  obtain ⟨wd, ta, tb, rfl, fl, hml, hscl, hll, hn0, hv0, hz0⟩ := h_
  change Go X G _ 5 _ _ Sl 20 [(2, .int (nI ((hbN l.length)))), (0, .ref ((c 7))), (1, .ref a)] [.ref q1]
  have f1 : Fr S (nw_Row S q1) No := (Fr.refl S No).n_Row h0_q1
  have f2 : Fr S Sl No := f1.trans fl (fun b hb e => absurd h0_q1 (e ▸ hb))
  have hw0 : kd S wd = 0 := f1.new hn0
  have ht0 : kd S ta = 0 := f1.new hv0
  have hu0 : kd S tb = 0 := f1.new hz0
  refine Go.wide (k2 := 4) (n2 := 169) (by decide) (by decide) ?_
  refine g_astore_n (lv' := [(3, .ref q1), (2, .int (nI ((hbN l.length)))), (0, .ref ((c 7))), (1, .ref a)]) C dX1_splitRow_20 rfl (by decide) rfl ?_
  refine g_iconst (v := nI 0) C dX1_splitRow_21 (by decide) ?_
  refine g_istore (lv' := [(4, .int (nI 0)), (3, .ref q1), (2, .int (nI ((hbN l.length)))), (0, .ref ((c 7))), (1, .ref a)]) C dX1_splitRow_22 (by decide) rfl ?_
  have lp : ∀ (n_ : Nat) (k : Nat) (S2 : PS), l.length - k < n_ → (k ≤ l.length ∧ rowP S2 q1 wd ta tb (padB (gP l k) (l.length + 2 ^ hbN l.length)) false false ∧ Fr S S2 No ∧ mu S2 = mu S ∧ scr S2 = scr S) → Go X G (Qe X G (fun r S' => ∃ q wd ta tb, r = some (.ref q) ∧ Fr S S' No ∧ mu S' = mu S ∧ scr S' = scr S ∧ rowC S' q wd ta tb (bitsS l) false false ∧ kd S q = 0 ∧ kd S wd = 0 ∧ kd S ta = 0 ∧ kd S tb = 0) rm_X1_splitRow.cells rm_X1_splitRow.slots) 5 4 169 S2 24 [(4, .int (nI k)), (3, .ref q1), (0, .ref ((c 7))), (1, .ref a), (2, .int (nI ((hbN l.length))))] [] := by
    intro n_
    induction n_ with
    | zero => intro k S2 hm_; exact absurd hm_ (Nat.not_lt_zero _)
    | succ n_ ih_ =>
      intro k S2 hm_ hh
      obtain ⟨j0, hP, fs, hms, hss⟩ := hh
      have hLs := hL'.fr fs (fun z => z) (fun z => z) (fun z => z)
      obtain ⟨⟨k_k, ra_k, rb_k⟩, ⟨kn_k, ln_k⟩, ⟨kv_k, lv_k⟩, sz_k, le_k, rm_k, en_k⟩ := hLs
      refine g_iload 0 C dX1_splitRow_24 rfl ?_
      refine g_aload_n 3 1 C dX1_splitRow_26 rfl rfl ?_
      refine gf_ls_size C dX1_splitRow_27 k_k wF_X1_35 ?_
      refine g_topi (sz_k) ?_
      refine g_ncmp_ge 58 (by omega) (by omega) C dX1_splitRow_30 (by decide) (fun c30 => ?_) (fun c30 => ?_)
      · have ek : k = l.length := by omega
        rw [ek, gP_end hl] at hP
        refine g_aload_n 1 3 C dX1_splitRow_58 rfl rfl ?_
        refine g_callV (As := []) (rest := []) C dX1_splitRow_59 (c_R_fill hP) wC_X6_fillTables wM_X1_98 wI_X6_fillTables wS_X6_fillTables wN_X6 (kne hP.1.1) (pf_7 hP.1.1) rfl hd_X6_fillTables ⟨by decide, by decide, by decide, by decide⟩ (Nat.le_of_ble_eq_true rfl) (fun r_ S_ h_ => ?_)
        obtain ⟨fa, fb, rfl, rfl, hfa, hfb⟩ := h_
        change Go X G _ 5 _ _ (flS S2 ta tb fa fb) 62 [(4, .int (nI k)), (3, .ref q1), (0, .ref ((c 7))), (1, .ref a), (2, .int (nI ((hbN l.length))))] []
        refine g_aload_n 1 3 C dX1_splitRow_62 rfl rfl ?_
        exact g_aret (r := some q1) C dX1_splitRow_63 (Or.inl ⟨_, rfl⟩) (by decide) (by decide) ⟨q1, wd, ta, tb, rfl, fs.fl (Or.inl ht0) (Or.inl hu0), hms, hss, hP.fl hfa hfb, h0_q1, hw0, ht0, hu0⟩
      · have hkl : k < l.length := by omega
        have hlt := hi_lt hl hkl
        obtain ⟨m1, e1, e2, e3, e4⟩ := en_k k hkl
        have oc := hl.2.1 k hkl
        refine g_aload_n 1 3 C dX1_splitRow_33 rfl rfl ?_
        refine g_aload_n 3 1 C dX1_splitRow_34 rfl rfl ?_
        refine gr_ls_names C dX1_splitRow_35 k_k wF_X1_84 ra_k ?_
        refine g_iload 0 C dX1_splitRow_38 rfl ?_
        refine gar_nr_a C dX1_splitRow_40 kn_k (by have h_ : ln S2 nr = room := ln_k; omega) (by have h_ : ln S2 nr = room := ln_k; omega) e1 ?_
        refine g_iload_n 4 2 C dX1_splitRow_41 rfl rfl ?_
        refine g_callV (As := [.int (nI ((hbN l.length)))]) (rest := [.ref q1]) C dX1_splitRow_42 (c_N_high (bs := nm l k) (hb := (hbN l.length)) e2 oc (h8 k hkl) (by omega) (by omega)) wC_X5_highPart wM_X1_88 wI_X5_highPart wS_X5_highPart wN_X5 (kne e2.1) (pf_6 e2.1) rfl hd_X5_highPart ⟨by decide, by decide, by decide, by decide⟩ (Nat.le_of_ble_eq_true rfl) (fun r_ S_ h_ => ?_)
        obtain ⟨rfl, rfl⟩ := h_
        change Go X G _ 5 _ _ S2 45 [(4, .int (nI k)), (3, .ref q1), (0, .ref ((c 7))), (1, .ref a), (2, .int (nI ((hbN l.length))))] [.int (nI ((nm l k).getD 0 0 / 2 ^ (8 - hbN l.length))), .ref q1]
        refine g_iload 0 C dX1_splitRow_45 rfl ?_
        refine g_iadd C dX1_splitRow_47 ?_
        refine g_topi (nI_add _ _ : _ = nI ((nm l k).getD 0 0 / 2 ^ (8 - hbN l.length) + k)) ?_
        refine g_iconst (v := nI 1) C dX1_splitRow_48 (by decide) ?_
        rw [show (nm l k).getD 0 0 / 2 ^ (8 - hbN l.length) + k = hiPart l k + k from rfl]
        refine g_callV (As := [.int (nI ((hiPart l k) + k)), .int (nI 1)]) (rest := []) C dX1_splitRow_49 (c_R_write (i := (hiPart l k) + k) (o := true) hP (by rw [padB_len (by have := gP_len hl k hkl; omega)]; omega)) wC_X6_write wM_X1_94 wI_X6_write wS_X6_write wN_X6 (kne hP.1.1) (pf_7 hP.1.1) rfl hd_X6_write ⟨by decide, by decide, by decide, by decide⟩ (Nat.le_of_ble_eq_true rfl) (fun r_ S_ h_ => ?_)
        obtain ⟨f_, v_, rfl, rfl, hf_, hv_⟩ := h_
        change Go X G _ 5 _ _ (wrS S2 q1 wd f_ v_) 52 [(4, .int (nI k)), (3, .ref q1), (0, .ref ((c 7))), (1, .ref a), (2, .int (nI ((hbN l.length))))] []
        have hg := gP_len hl k hkl
        have hg2 := gP_set hl hkl (n := (l.length + 2 ^ hbN l.length)) (by omega)
        have hlen' : (gP l (k + 1)).length = hiPart l k + k + 1 := by show (padB (gP l k) (hiPart l k + k) ++ [1]).length = _; rw [List.length_append, padB_len hg]; rfl
        have hW := hP.wr (b' := padB (gP l (k + 1)) (l.length + 2 ^ hbN l.length)) (f := f_) (v := v_) (by rw [padB_len (by omega), padB_len (by omega)]) (bit01_pad (gP_01 l (k + 1))) (by rw [← hg2]; exact hf_) (by rw [← hg2]; exact hv_)
        have fW := fs.wr (a := q1) (wd := wd) (f := f_) (v := v_) (Or.inl h0_q1) (Or.inl hw0)
        refine g_iinc (v := nI (k + 1)) (lv' := [(4, .int (nI (k + 1))), (3, .ref q1), (0, .ref ((c 7))), (1, .ref a), (2, .int (nI ((hbN l.length))))]) 0 C dX1_splitRow_52 rfl (nI_add _ 1) (by decide) rfl ?_
        refine g_goto 24 C dX1_splitRow_55 (by decide) ?_
        exact ih_ (k + 1) _ (by omega) ⟨by omega, hW, fW, hms, hss⟩
  refine Go.pick (lv' := [(4, .int (nI 0)), (3, .ref q1), (0, .ref ((c 7))), (1, .ref a), (2, .int (nI ((hbN l.length))))]) [0, 1, 3, 4, 2] rfl ?_
  exact lp (l.length + 1) 0 Sl (by omega) ⟨Nat.zero_le _, hll.1, f2, hml, hscl⟩
