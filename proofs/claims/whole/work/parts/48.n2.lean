theorem and_127 (n : Nat) : (lN n).toInt32 &&& nI 127 = nI (n % 128) := by
  refine Int32.toBitVec_inj.mp (BitVec.eq_of_toNat_eq ?_)
  rw [Int32.toBitVec_and, BitVec.toNat_and, lN_32]
  show (BitVec.setWidth 32 (BitVec.ofNat 64 n)).toNat &&& 127 = (BitVec.ofNat 32 _).toNat
  rw [BitVec.toNat_setWidth, BitVec.toNat_ofNat, BitVec.toNat_ofNat, show (127 : Nat) = 2 ^ 7 - 1 from rfl, Nat.and_two_pow_sub_one_eq_mod]
  omega
theorem lN_sb {a b : Nat} (ha : a < 2 ^ 64) (h : b ≤ a) : lN a - lN b = lN (a - b) := by
  refine wb_inj (BitVec.eq_of_toNat_eq ?_)
  rw [Int64.toBitVec_sub, BitVec.toNat_sub]
  show (2 ^ 64 - (BitVec.ofNat 64 b).toNat + (BitVec.ofNat 64 a).toNat) % 2 ^ 64 = (BitVec.ofNat 64 (a - b)).toNat
  rw [BitVec.toNat_ofNat, BitVec.toNat_ofNat, BitVec.toNat_ofNat]
  omega
theorem lN_ad (a b : Nat) : lN a + lN b = lN (a + b) := by
  refine wb_inj (BitVec.eq_of_toNat_eq ?_)
  rw [Int64.toBitVec_add, BitVec.toNat_add]
  show ((BitVec.ofNat 64 a).toNat + (BitVec.ofNat 64 b).toNat) % 2 ^ 64 = (BitVec.ofNat 64 (a + b)).toNat
  rw [BitVec.toNat_ofNat, BitVec.toNat_ofNat, BitVec.toNat_ofNat]
  omega
theorem bc_1 {n : Nat} (hn : n < 2 ^ 64) : lN n - (((lN n).toUInt64 >>> ((nI 1).toInt64.toUInt64 &&& Int64.toUInt64 63)).toInt64 &&& 6148914691236517205) = lN (bF1 8 n) := by
  have h1 : (n / 2 &&& repB 85 8) ≤ n / 2 := Nat.and_le_left
  rw [wb_shr hn (by decide), show (6148914691236517205 : Int64) = lN (repB 85 8) by decide +kernel, wb_and (by omega) (by decide +kernel), show n / 2 ^ 1 = n / 2 from rfl, lN_sb hn (by omega)]
  rfl
theorem bc_2 {n : Nat} (hn : n < 2 ^ 64) : (lN n &&& 3689348814741910323) + (((lN n).toUInt64 >>> ((nI 2).toInt64.toUInt64 &&& Int64.toUInt64 63)).toInt64 &&& 3689348814741910323) = lN (bF2 8 n) := by
  rw [wb_shr hn (by decide), show (3689348814741910323 : Int64) = lN (repB 51 8) by decide +kernel, wb_and hn (by decide +kernel), wb_and (by omega) (by decide +kernel), lN_ad]
  rfl
theorem bc_3 {n : Nat} (hn : n < 2 ^ 63) : (lN n + ((lN n).toUInt64 >>> ((nI 4).toInt64.toUInt64 &&& Int64.toUInt64 63)).toInt64) &&& 1085102592571150095 = lN (bF3 8 n) := by
  rw [wb_shr (by omega) (by decide), show (1085102592571150095 : Int64) = lN (repB 15 8) by decide +kernel, lN_ad, wb_and (by omega) (by decide +kernel)]
  rfl
theorem bc_4 {n k : Nat} (hn : n < 2 ^ 64) (hk : k < 64) : lN n + ((lN n).toUInt64 >>> ((nI k).toInt64.toUInt64 &&& Int64.toUInt64 63)).toInt64 = lN (n + n / 2 ^ k) := by
  rw [wb_shr hn hk, lN_ad]
theorem bF2_lt (n : Nat) : bF2 8 n < 2 ^ 63 := by
  have h1 : (n &&& repB 51 8) ≤ repB 51 8 := Nat.and_le_right
  have h2 : (n / 4 &&& repB 51 8) ≤ repB 51 8 := Nat.and_le_right
  have h3 : repB 51 8 = 3689348814741910323 := by decide +kernel
  unfold bF2
  omega
set_option maxRecDepth 100000 in
set_option maxHeartbeats 2000000 in
theorem c_J_bitCount {lX : Launch} {G : Gx} {S : PS} {n : Nat} (hn : n < 2 ^ 64) : Ct lX yJ13_bitCount_95d88 cJ13_bitCount_95d88 2 (Option.some Jvm.ClassFile.FieldType.int) rm_J13_bitCount_95d88 G [.long (lN n)] S (fun r S' => r = some (.int (nI (popW 64 n))) ∧ S = S') := by
  have h1 : bF1 8 n < 2 ^ 64 := by unfold bF1; omega
  have h9 := b_end n
  refine Ct.mk RJ13 "bitCount" hy_J13_bitCount_95d88 (Nat.le_of_ble_eq_true rfl) (fun X hX C => ?_)
  change Go X G _ 2 0 0 S 0 [(0, .long (lN n))] []
  refine g_lload_n 0 0 C dJ13_bitCount_95d88_0 rfl rfl ?_
  refine g_lload_n 0 0 C dJ13_bitCount_95d88_1 rfl rfl ?_
  refine g_iconst (v := nI 1) C dJ13_bitCount_95d88_2 (by decide) ?_
  refine g_lushr C dJ13_bitCount_95d88_3 ?_
  refine g_ldc2 (v := 6148914691236517205) C dJ13_bitCount_95d88_4 wG_J13_314 ?_
  refine g_land C dJ13_bitCount_95d88_7 ?_
  refine g_lsub C dJ13_bitCount_95d88_8 ?_
  refine g_topl (bc_1 hn : _ = lN (bF1 8 n)) ?_
  refine g_lstore_n (lv' := [(0, .long (lN (bF1 8 n)))]) C dJ13_bitCount_95d88_9 rfl (by decide) rfl ?_
  refine g_lload_n 0 0 C dJ13_bitCount_95d88_10 rfl rfl ?_
  refine g_ldc2 (v := 3689348814741910323) C dJ13_bitCount_95d88_11 wG_J13_316 ?_
  refine g_land C dJ13_bitCount_95d88_14 ?_
  refine g_lload_n 0 0 C dJ13_bitCount_95d88_15 rfl rfl ?_
  refine g_iconst (v := nI 2) C dJ13_bitCount_95d88_16 (by decide) ?_
  refine g_lushr C dJ13_bitCount_95d88_17 ?_
  refine g_ldc2 (v := 3689348814741910323) C dJ13_bitCount_95d88_18 wG_J13_316 ?_
  refine g_land C dJ13_bitCount_95d88_21 ?_
  refine g_ladd C dJ13_bitCount_95d88_22 ?_
  refine g_topl (bc_2 h1 : _ = lN (bF2 8 (bF1 8 n))) ?_
  refine g_lstore_n (lv' := [(0, .long (lN (bF2 8 (bF1 8 n))))]) C dJ13_bitCount_95d88_23 rfl (by decide) rfl ?_
  refine g_lload_n 0 0 C dJ13_bitCount_95d88_24 rfl rfl ?_
  refine g_lload_n 0 0 C dJ13_bitCount_95d88_25 rfl rfl ?_
  refine g_iconst (v := nI 4) C dJ13_bitCount_95d88_26 (by decide) ?_
  refine g_lushr C dJ13_bitCount_95d88_27 ?_
  refine g_ladd C dJ13_bitCount_95d88_28 ?_
  refine g_ldc2 (v := 1085102592571150095) C dJ13_bitCount_95d88_29 wG_J13_318 ?_
  refine g_land C dJ13_bitCount_95d88_32 ?_
  refine g_topl ((bc_3 (bF2_lt _)).trans (congrArg lN (b_all 8 n)) : _ = lN (b8 8 n)) ?_
  refine g_lstore_n (lv' := [(0, .long (lN (b8 8 n)))]) C dJ13_bitCount_95d88_33 rfl (by decide) rfl ?_
  refine g_lload_n 0 0 C dJ13_bitCount_95d88_34 rfl rfl ?_
  refine g_lload_n 0 0 C dJ13_bitCount_95d88_35 rfl rfl ?_
  refine g_bipush (v := nI 8) C dJ13_bitCount_95d88_36 (by decide) ?_
  refine g_lushr C dJ13_bitCount_95d88_38 ?_
  refine g_ladd C dJ13_bitCount_95d88_39 ?_
  obtain ⟨b, eb⟩ : ∃ b, b = b8 8 n + b8 8 n / 2 ^ 8 := ⟨_, rfl⟩
  refine g_topl ((bc_4 (by omega) (by decide)).trans (by rw [eb]) : _ = lN b) ?_
  refine g_lstore_n (lv' := [(0, .long (lN b))]) C dJ13_bitCount_95d88_40 rfl (by decide) rfl ?_
  refine g_lload_n 0 0 C dJ13_bitCount_95d88_41 rfl rfl ?_
  refine g_lload_n 0 0 C dJ13_bitCount_95d88_42 rfl rfl ?_
  refine g_bipush (v := nI 16) C dJ13_bitCount_95d88_43 (by decide) ?_
  refine g_lushr C dJ13_bitCount_95d88_45 ?_
  refine g_ladd C dJ13_bitCount_95d88_46 ?_
  obtain ⟨c, ec⟩ : ∃ c, c = b + b / 2 ^ 16 := ⟨_, rfl⟩
  refine g_topl ((bc_4 (by omega) (by decide)).trans (by rw [ec]) : _ = lN c) ?_
  refine g_lstore_n (lv' := [(0, .long (lN c))]) C dJ13_bitCount_95d88_47 rfl (by decide) rfl ?_
  refine g_lload_n 0 0 C dJ13_bitCount_95d88_48 rfl rfl ?_
  refine g_lload_n 0 0 C dJ13_bitCount_95d88_49 rfl rfl ?_
  refine g_bipush (v := nI 32) C dJ13_bitCount_95d88_50 (by decide) ?_
  refine g_lushr C dJ13_bitCount_95d88_52 ?_
  refine g_ladd C dJ13_bitCount_95d88_53 ?_
  obtain ⟨d, ed⟩ : ∃ d, d = c + c / 2 ^ 32 := ⟨_, rfl⟩
  refine g_topl ((bc_4 (by omega) (by decide)).trans (by rw [ed]) : _ = lN d) ?_
  refine g_lstore_n (lv' := [(0, .long (lN d))]) C dJ13_bitCount_95d88_54 rfl (by decide) rfl ?_
  refine g_lload_n 0 0 C dJ13_bitCount_95d88_55 rfl rfl ?_
  refine g_l2i C dJ13_bitCount_95d88_56 ?_
  refine g_bipush (v := nI 127) C dJ13_bitCount_95d88_57 (by decide) ?_
  refine g_iand C dJ13_bitCount_95d88_59 ?_
  refine g_topi (and_127 _) ?_
  have h10 := h9.2 b c d eb ec ed
  exact g_iret C dJ13_bitCount_95d88_60 (by decide) (by decide) ⟨by rw [h10.1], rfl⟩
def rowP (S : PS) (a wd ta tb : Nat) (b : List Nat) (la lb : Bool) : Prop := (kd S a = 7 ∧ rw_bits S a = nI b.length ∧ rw_words S a = some wd ∧ rw_ta S a = some ta ∧ rw_tb S a = some tb) ∧ (kd S wd = 17 ∧ ln S wd = b.length / 64 + 1) ∧ (kd S ta = 13 ∧ ln S ta = b.length / 512 + 1) ∧ (kd S tb = 14 ∧ ln S tb = b.length / 64 + 1) ∧ (rw_la S a = bI la ∧ rw_lb S a = bI lb) ∧ rw_ones S a = nI (onesN b b.length) ∧ (b.length ≤ 4802 ∧ bit01 b) ∧ ∀ j, j ≤ b.length / 64 → wd_a S wd j = lN (bitsV b (64 * j) 64)
def tabA (f : Nat → Int32) (b : List Nat) : Prop := ∀ j, j ≤ b.length / 512 → f j = nI (onesN b (512 * j))
def tabB (f : Nat → Int32) (b : List Nat) : Prop := ∀ j, j ≤ b.length / 64 → f j = nI (onesN b (64 * j) - onesN b (512 * (j / 8)))
def rowC (S : PS) (a wd ta tb : Nat) (b : List Nat) (la lb : Bool) : Prop := rowP S a wd ta tb b la lb ∧ (la = false → tabA (ta_a S ta) b) ∧ (lb = false → tabB (tb_a S tb) b)
theorem rowP.fr {S S' : PS} {A : Nat → Prop} {a wd ta tb : Nat} {b : List Nat} {la lb : Bool} (h : Fr S S' A) (hr : rowP S a wd ta tb b la lb) (h1 : ¬ A a) (h2 : ¬ A wd) : rowP S' a wd ta tb b la lb := by
  obtain ⟨⟨a1, a2, a3, a4, a5⟩, ⟨b1, b2⟩, ⟨d1, d2⟩, ⟨e1, e2⟩, ⟨f1, f2⟩, g1, g2, g3⟩ := hr
  have c1 := h.2.1 a (by rw [a1]; decide) (Or.inl h1)
  have c2 := h.2.1 wd (by rw [b1]; decide) (Or.inl h2)
  exact ⟨⟨(ce_kd c1).trans a1, (ce_rw_bits c1).trans a2, (ce_rw_words c1).trans a3, (ce_rw_ta c1).trans a4, (ce_rw_tb c1).trans a5⟩, ⟨(ce_kd c2).trans b1, (ce_ln c2).trans b2⟩, ⟨h.kd_ d1, h.ln_ d1 d2⟩, ⟨h.kd_ e1, h.ln_ e1 e2⟩, ⟨(ce_rw_la c1).trans f1, (ce_rw_lb c1).trans f2⟩, (ce_rw_ones c1).trans g1, g2, fun j hj => by rw [ce_wd_a c2]; exact g3 j hj⟩
theorem rowC.fr {S S' : PS} {A : Nat → Prop} {a wd ta tb : Nat} {b : List Nat} {la lb : Bool} (h : Fr S S' A) (hr : rowC S a wd ta tb b la lb) (h1 : ¬ A a) (h2 : ¬ A wd) (h3 : ¬ A ta) (h4 : ¬ A tb) : rowC S' a wd ta tb b la lb := by
  obtain ⟨hp, ht, hu⟩ := hr
  have c3 := h.2.1 ta (by rw [hp.2.2.1.1]; decide) (Or.inl h3)
  have c4 := h.2.1 tb (by rw [hp.2.2.2.1.1]; decide) (Or.inl h4)
  exact ⟨hp.fr h h1 h2, fun e => by rw [ce_ta_a c3]; exact ht e, fun e => by rw [ce_tb_a c4]; exact hu e⟩
theorem ones_s (b : List Nat) (i : Nat) : onesN b (i + 1) = onesN b i + b.getD i 0 := rfl
theorem ones_add (b : List Nat) (i k : Nat) : onesN b (i + k) = onesN b i + sumN (fun q => b.getD (i + q) 0) k := sumN_add _ i k
theorem ones_mono (b : List Nat) {i k : Nat} (h : i ≤ k) : onesN b i ≤ onesN b k := by
  obtain ⟨d, rfl⟩ : ∃ d, k = i + d := ⟨k - i, by omega⟩
  rw [ones_add]; omega
theorem ones_ge {b : List Nat} {i : Nat} (h : i < b.length) : b.getD i 0 ≤ onesN b b.length := by
  have := ones_mono b (show i + 1 ≤ b.length by omega)
  rw [ones_s] at this; omega
theorem ones_lt {b : List Nat} (h : bit01 b) (i : Nat) : onesN b i ≤ i := onesN_le (fun i _ => h i) i
theorem ones_set {b : List Nat} {i v : Nat} : ∀ n, n ≤ b.length → onesN (b.set i v) n + (if i < n then b.getD i 0 else 0) = onesN b n + (if i < n then v else 0) := by
  intro n
  induction n with
  | zero => intro _; rw [if_neg (by omega), if_neg (by omega)]; rfl
  | succ n ih =>
    intro hn
    have := ih (by omega)
    rw [ones_s, ones_s, getD_set]
    by_cases e : i = n
    · subst e
      rw [if_neg (by omega), if_neg (by omega)] at this
      rw [if_pos ⟨rfl, by omega⟩, if_pos (by omega), if_pos (by omega)]
      omega
    · rw [if_neg (fun z => e z.1)]
      by_cases g : i < n
      · rw [if_pos g, if_pos g] at this
        rw [if_pos (by omega), if_pos (by omega)]
        omega
      · rw [if_neg g, if_neg g] at this
        rw [if_neg (by omega), if_neg (by omega)]
        omega
theorem pop_word {b : List Nat} (h : bit01 b) {o k : Nat} (hk : k ≤ 64) : popW 64 (bitsV b o k) = onesN b (o + k) - onesN b o := by
  rw [bitsV_pop h o k 64 hk, ones_add]; omega
abbrev wrS (S : PS) (a wd : Nat) (f : Nat → Int64) (v : Int32) : PS := rw_ones_ (wd_a_ S (va_up (wd_a S) wd f)) (va_up (rw_ones S) a v)
theorem wrS_up (S : PS) (a wd : Nat) (f g : Nat → Int64) (v w : Int32) : wrS (wrS S a wd f v) a wd g w = wrS S a wd g w := by
  show rw_ones_ (wd_a_ S (va_up (va_up (wd_a S) wd f) wd g)) (va_up (va_up (rw_ones S) a v) a w) = _
  rw [va_up_up, va_up_up]
theorem Fr.wr {S0 S : PS} {A : Nat → Prop} {a wd : Nat} {f : Nat → Int64} {v : Int32} (h : Fr S0 S A) (h1 : Fb S0 A a) (h2 : Fb S0 A wd) : Fr S0 (wrS S a wd f v) A := (h.u_wd_a h2).u_rw_ones h1
def wordF (f : Nat → Int64) (b : List Nat) : Prop := ∀ j, j ≤ b.length / 64 → f j = lN (bitsV b (64 * j) 64)
theorem rowP.wr {S : PS} {a wd ta tb : Nat} {b b' : List Nat} {la lb : Bool} {f : Nat → Int64} {v : Int32} (h : rowP S a wd ta tb b la lb) (hl : b'.length = b.length) (h01 : bit01 b') (hf : wordF f b') (hv : v = nI (onesN b' b'.length)) : rowP (wrS S a wd f v) a wd ta tb b' la lb := by
  obtain ⟨⟨a1, a2, a3, a4, a5⟩, ⟨b1, b2⟩, ⟨d1, d2⟩, ⟨e1, e2⟩, ⟨f1, f2⟩, g1, g2, g3⟩ := h
  exact ⟨⟨a1, by rw [hl]; exact a2, a3, a4, a5⟩, ⟨b1, by rw [hl]; exact b2⟩, ⟨d1, by rw [hl]; exact d2⟩, ⟨e1, by rw [hl]; exact e2⟩, ⟨f1, f2⟩, (va_up_self _ _ _).trans hv, ⟨by rw [hl]; exact g2.1, h01⟩, fun j hj => (congrFun (va_up_self (wd_a S) wd f) j).trans (hf j hj)⟩
abbrev flS (S : PS) (ta tb : Nat) (fa fb : Nat → Int32) : PS := tb_a_ (ta_a_ S (va_up (ta_a S) ta fa)) (va_up (tb_a S) tb fb)
theorem flS_a {S : PS} {ta tb k : Nat} {fa fb : Nat → Int32} {v : Int32} : ta_a_ (flS S ta tb fa fb) (va_up (ta_a (flS S ta tb fa fb)) ta (upd (ta_a (flS S ta tb fa fb) ta) k v)) = flS S ta tb (upd fa k v) fb := by
  show tb_a_ (ta_a_ S (va_up (va_up (ta_a S) ta fa) ta (upd (va_up (ta_a S) ta fa ta) k v))) (va_up (tb_a S) tb fb) = _
  rw [va_up_up, va_up_self]
theorem flS_b {S : PS} {ta tb k : Nat} {fa fb : Nat → Int32} {v : Int32} : tb_a_ (flS S ta tb fa fb) (va_up (tb_a (flS S ta tb fa fb)) tb (upd (tb_a (flS S ta tb fa fb) tb) k v)) = flS S ta tb fa (upd fb k v) := by
  show tb_a_ (ta_a_ S (va_up (ta_a S) ta fa)) (va_up (va_up (tb_a S) tb fb) tb (upd (va_up (tb_a S) tb fb tb) k v)) = _
  rw [va_up_up, va_up_self]
theorem flS_0 (S : PS) (ta tb : Nat) : flS S ta tb (ta_a S ta) (tb_a S tb) = S := by
  have e1 : va_up (ta_a S) ta (ta_a S ta) = ta_a S := by funext j; unfold va_up; split <;> simp_all
  have e2 : va_up (tb_a S) tb (tb_a S tb) = tb_a S := by funext j; unfold va_up; split <;> simp_all
  show tb_a_ (ta_a_ S (va_up (ta_a S) ta (ta_a S ta))) (va_up (tb_a S) tb (tb_a S tb)) = _
  rw [e1, e2]
theorem Fr.fl {S0 S : PS} {A : Nat → Prop} {ta tb : Nat} {fa fb : Nat → Int32} (h : Fr S0 S A) (h1 : Fb S0 A ta) (h2 : Fb S0 A tb) : Fr S0 (flS S ta tb fa fb) A := (h.u_ta_a h1).u_tb_a h2
theorem rowP.fl {S : PS} {a wd ta tb : Nat} {b : List Nat} {la lb : Bool} {fa fb : Nat → Int32} (h : rowP S a wd ta tb b la lb) (h1 : la = false → tabA fa b) (h2 : lb = false → tabB fb b) : rowC (flS S ta tb fa fb) a wd ta tb b la lb := ⟨h, fun e => by show tabA (va_up (ta_a S) ta fa ta) b; rw [va_up_self]; exact h1 e, fun e => by show tabB (va_up (tb_a S) tb fb tb) b; rw [va_up_self]; exact h2 e⟩
set_option maxRecDepth 100000 in
set_option maxHeartbeats 2000000 in
theorem c_R_hasBit {lX : Launch} {G : Gx} {S : PS} {a wd ta tb : Nat} {b : List Nat} {la lb : Bool} (hr : rowP S a wd ta tb b la lb) {k : Int32} : Ct lX yX6_hasBit cX6_hasBit 2 (Option.some Jvm.ClassFile.FieldType.boolean) rm_X6_hasBit G [.ref a, .int k] S (fun r S' => r = some (.int (bI (inR k b.length))) ∧ S = S') := by
  obtain ⟨⟨k_a, rb_a, rw_a, rt_a, ru_a⟩, ⟨k_w, l_w⟩, ⟨k_t, l_t⟩, ⟨k_u, l_u⟩, ⟨la_a, lb_a⟩, on_a, ⟨bl_a, b01⟩, wd_⟩ := hr
  refine Ct.mk RX6 "hasBit" hy_X6_hasBit (Nat.le_of_ble_eq_true rfl) (fun X hX C => ?_)
  change Go X G _ 2 0 0 S 0 [(0, .ref a), (1, .int k)] []
  refine g_iload_n 1 1 C dX6_hasBit_0 rfl rfl ?_
  refine g_if_lt 16 C dX6_hasBit_1 (by decide) (fun c1 => ?_) (fun c1 => ?_)
  · have e := inR_neg (n := b.length) c1
    refine g_iconst (v := nI 0) C dX6_hasBit_16 (by decide) ?_
    exact g_zret C dX6_hasBit_17 (by decide) (by decide) (Or.inl rfl) (⟨by rw [e] <;> rfl, rfl⟩)
  · refine g_iload_n 1 1 C dX6_hasBit_4 rfl rfl ?_
    refine g_aload_n 0 0 C dX6_hasBit_5 rfl rfl ?_
    refine gf_rw_bits C dX6_hasBit_6 k_a wF_X6_22 ?_
    refine g_topi (rb_a) ?_
    refine g_icmp_ge 16 C dX6_hasBit_9 (by decide) (fun c9 => ?_) (fun c9 => ?_)
    · have e := inR_big (n := b.length) (by omega) c9
      refine g_iconst (v := nI 0) C dX6_hasBit_16 (by decide) ?_
      exact g_zret C dX6_hasBit_17 (by decide) (by decide) (Or.inl rfl) (⟨by rw [e] <;> rfl, rfl⟩)
    · have e := inR_in (n := b.length) (by omega) c1 c9
      refine g_iconst (v := nI 1) C dX6_hasBit_12 (by decide) ?_
      refine g_goto 17 C dX6_hasBit_13 (by decide) ?_
      exact g_zret C dX6_hasBit_17 (by decide) (by decide) (Or.inr rfl) (⟨by rw [e] <;> rfl, rfl⟩)
set_option maxRecDepth 100000 in
set_option maxHeartbeats 2000000 in
theorem c_R_bitAt {lX : Launch} {G : Gx} {S : PS} {a wd ta tb : Nat} {b : List Nat} {la lb : Bool} (hr : rowP S a wd ta tb b la lb) {i : Nat} (hi : i < b.length) : Ct lX yX6_bitAt cX6_bitAt 2 (Option.some Jvm.ClassFile.FieldType.int) rm_X6_bitAt G [.ref a, .int (nI i)] S (fun r S' => r = some (.int (nI (b.getD i 0))) ∧ S = S') := by
  obtain ⟨⟨k_a, rb_a, rw_a, rt_a, ru_a⟩, ⟨k_w, l_w⟩, ⟨k_t, l_t⟩, ⟨k_u, l_u⟩, ⟨la_a, lb_a⟩, on_a, ⟨bl_a, b01⟩, wd_⟩ := hr
  refine Ct.mk RX6 "bitAt" hy_X6_bitAt (Nat.le_of_ble_eq_true rfl) (fun X hX C => ?_)
  change Go X G _ 2 0 0 S 0 [(0, .ref a), (1, .int (nI i))] []
  refine g_aload_n 0 0 C dX6_bitAt_0 rfl rfl ?_
  refine gr_rw_words C dX6_bitAt_1 k_a wF_X6_25 rw_a ?_
  refine g_iload_n 1 1 C dX6_bitAt_4 rfl rfl ?_
  refine g_bipush (v := nI 64) C dX6_bitAt_5 (by decide) ?_
  refine g_idiv C dX6_bitAt_7 (by decide) ?_
  refine g_topi (pk_div (by omega) (by omega) (by omega) : _ = nI (i / 64)) ?_
  refine ga_wd_a C dX6_bitAt_8 k_w (by omega) (by omega) ?_
  refine g_topl (wd_ _ (by omega)) ?_
  refine g_iload_n 1 1 C dX6_bitAt_9 rfl rfl ?_
  refine g_bipush (v := nI 64) C dX6_bitAt_10 (by decide) ?_
  refine g_irem C dX6_bitAt_12 (by decide) ?_
  refine g_topi (pk_rem (by omega) (by omega) (by omega) : _ = nI (i % 64)) ?_
  refine g_lushr C dX6_bitAt_13 ?_
  refine g_l2i C dX6_bitAt_14 ?_
  refine g_iconst (v := nI 1) C dX6_bitAt_15 (by decide) ?_
  refine g_iand C dX6_bitAt_16 ?_
  refine g_topi (w_get b01 (by omega) : _ = nI (b.getD (64 * (i / 64) + i % 64) 0)) ?_
  exact g_iret C dX6_bitAt_17 (by decide) (by decide) ⟨by rw [show 64 * (i / 64) + i % 64 = i by omega], rfl⟩
set_option maxRecDepth 100000 in
set_option maxHeartbeats 2000000 in
theorem c_R_lacks {lX : Launch} {G : Gx} {S : PS} {a wd ta tb : Nat} {b : List Nat} {la lb : Bool} (hr : rowP S a wd ta tb b la lb) : Ct lX yX6_lacksTable cX6_lacksTable 1 (Option.some Jvm.ClassFile.FieldType.boolean) rm_X6_lacksTable G [.ref a] S (fun r S' => r = some (.int (bI (la || lb))) ∧ S = S') := by
  obtain ⟨⟨k_a, rb_a, rw_a, rt_a, ru_a⟩, ⟨k_w, l_w⟩, ⟨k_t, l_t⟩, ⟨k_u, l_u⟩, ⟨la_a, lb_a⟩, on_a, ⟨bl_a, b01⟩, wd_⟩ := hr
  refine Ct.mk RX6 "lacksTable" hy_X6_lacksTable (Nat.le_of_ble_eq_true rfl) (fun X hX C => ?_)
  change Go X G _ 1 0 0 S 0 [(0, .ref a)] []
  refine g_aload_n 0 0 C dX6_lacksTable_0 rfl rfl ?_
  refine gf_rw_la C dX6_lacksTable_1 k_a wF_X6_9 ?_
  refine g_topi (la_a) ?_
  refine g_if_ne 14 C dX6_lacksTable_4 (by decide) (fun c4 => ?_) (fun c4 => ?_)
  · have e : (la || lb) = true := by rw [bI_t c4]; rfl
    refine g_iconst (v := nI 1) C dX6_lacksTable_14 (by decide) ?_
    refine g_goto 19 C dX6_lacksTable_15 (by decide) ?_
    exact g_zret C dX6_lacksTable_19 (by decide) (by decide) (Or.inr rfl) (⟨by rw [e] <;> rfl, rfl⟩)
  · refine g_aload_n 0 0 C dX6_lacksTable_7 rfl rfl ?_
    refine gf_rw_lb C dX6_lacksTable_8 k_a wF_X6_15 ?_
    refine g_topi (lb_a) ?_
    refine g_if_eq 18 C dX6_lacksTable_11 (by decide) (fun c11 => ?_) (fun c11 => ?_)
    · have e : (la || lb) = false := by rw [bI_f c4, bI_f c11]; rfl
      refine g_iconst (v := nI 0) C dX6_lacksTable_18 (by decide) ?_
      exact g_zret C dX6_lacksTable_19 (by decide) (by decide) (Or.inl rfl) (⟨by rw [e] <;> rfl, rfl⟩)
    · have e : (la || lb) = true := by rw [bI_t c11]; exact Bool.or_true _
      refine g_iconst (v := nI 1) C dX6_lacksTable_14 (by decide) ?_
      refine g_goto 19 C dX6_lacksTable_15 (by decide) ?_
      exact g_zret C dX6_lacksTable_19 (by decide) (by decide) (Or.inr rfl) (⟨by rw [e] <;> rfl, rfl⟩)
set_option maxRecDepth 100000 in
set_option maxHeartbeats 2000000 in
theorem c_R_tableN {lX : Launch} {G : Gx} {S : PS} {a wd ta tb : Nat} {b : List Nat} {la lb : Bool} (hr : rowP S a wd ta tb b la lb) : Ct lX yX6_tableNumbers cX6_tableNumbers 1 (Option.some Jvm.ClassFile.FieldType.int) rm_X6_tableNumbers G [.ref a] S (fun r S' => r = some (.int (nI ((if la = true then 0 else b.length / 512 + 1) + (if lb = true then 0 else b.length / 64 + 1)))) ∧ S = S') := by
  obtain ⟨⟨k_a, rb_a, rw_a, rt_a, ru_a⟩, ⟨k_w, l_w⟩, ⟨k_t, l_t⟩, ⟨k_u, l_u⟩, ⟨la_a, lb_a⟩, on_a, ⟨bl_a, b01⟩, wd_⟩ := hr
  refine Ct.mk RX6 "tableNumbers" hy_X6_tableNumbers (Nat.le_of_ble_eq_true rfl) (fun X hX C => ?_)
  change Go X G _ 1 0 0 S 0 [(0, .ref a)] []
  refine g_aload_n 0 0 C dX6_tableNumbers_0 rfl rfl ?_
  refine gf_rw_la C dX6_tableNumbers_1 k_a wF_X6_9 ?_
  refine g_topi (la_a) ?_
  refine g_if_eq 11 C dX6_tableNumbers_4 (by decide) (fun c4 => ?_) (fun c4 => ?_)
  · have e1 := bI_f c4
    refine g_aload_n 0 0 C dX6_tableNumbers_11 rfl rfl ?_
    refine gr_rw_ta C dX6_tableNumbers_12 k_a wF_X6_29 rt_a ?_
    refine gl_ta_a C dX6_tableNumbers_15 k_t ?_
    refine g_topi (congrArg nI l_t) ?_
    refine g_aload_n 0 0 C dX6_tableNumbers_16 rfl rfl ?_
    refine gf_rw_lb C dX6_tableNumbers_17 k_a wF_X6_15 ?_
    refine g_topi (lb_a) ?_
    refine g_if_eq 27 C dX6_tableNumbers_20 (by decide) (fun c20 => ?_) (fun c20 => ?_)
    · have e2 := bI_f c20
      refine g_aload_n 0 0 C dX6_tableNumbers_27 rfl rfl ?_
      refine gr_rw_tb C dX6_tableNumbers_28 k_a wF_X6_33 ru_a ?_
      refine gl_tb_a C dX6_tableNumbers_31 k_u ?_
      refine g_topi (congrArg nI l_u) ?_
      refine g_iadd C dX6_tableNumbers_32 ?_
      refine g_topi (nI_add _ _ : _ = nI (b.length / 512 + 1 + (b.length / 64 + 1))) ?_
      exact g_iret C dX6_tableNumbers_33 (by decide) (by decide) (⟨by rw [e1, e2]; rfl, rfl⟩)
    · have e2 := bI_t c20
      refine g_iconst (v := nI 0) C dX6_tableNumbers_23 (by decide) ?_
      refine g_goto 32 C dX6_tableNumbers_24 (by decide) ?_
      refine g_iadd C dX6_tableNumbers_32 ?_
      refine g_topi (nI_add _ _ : _ = nI (b.length / 512 + 1 + 0)) ?_
      exact g_iret C dX6_tableNumbers_33 (by decide) (by decide) (⟨by rw [e1, e2]; rfl, rfl⟩)
  · have e1 := bI_t c4
    refine g_iconst (v := nI 0) C dX6_tableNumbers_7 (by decide) ?_
    refine g_goto 16 C dX6_tableNumbers_8 (by decide) ?_
    refine g_aload_n 0 0 C dX6_tableNumbers_16 rfl rfl ?_
    refine gf_rw_lb C dX6_tableNumbers_17 k_a wF_X6_15 ?_
    refine g_topi (lb_a) ?_
    refine g_if_eq 27 C dX6_tableNumbers_20 (by decide) (fun c20 => ?_) (fun c20 => ?_)
    · have e2 := bI_f c20
      refine g_aload_n 0 0 C dX6_tableNumbers_27 rfl rfl ?_
      refine gr_rw_tb C dX6_tableNumbers_28 k_a wF_X6_33 ru_a ?_
      refine gl_tb_a C dX6_tableNumbers_31 k_u ?_
      refine g_topi (congrArg nI l_u) ?_
      refine g_iadd C dX6_tableNumbers_32 ?_
      refine g_topi (nI_add _ _ : _ = nI (0 + (b.length / 64 + 1))) ?_
      exact g_iret C dX6_tableNumbers_33 (by decide) (by decide) (⟨by rw [e1, e2]; rfl, rfl⟩)
    · have e2 := bI_t c20
      refine g_iconst (v := nI 0) C dX6_tableNumbers_23 (by decide) ?_
      refine g_goto 32 C dX6_tableNumbers_24 (by decide) ?_
      refine g_iadd C dX6_tableNumbers_32 ?_
      refine g_topi (nI_add _ _ : _ = nI (0 + 0)) ?_
      exact g_iret C dX6_tableNumbers_33 (by decide) (by decide) (⟨by rw [e1, e2]; rfl, rfl⟩)
theorem wr_ok0 {f : Nat → Int64} {b : List Nat} (hf : ∀ j, j ≤ b.length / 64 → f j = lN (bitsV b (64 * j) 64)) {i v : Nat} (hi : i < b.length) (hv : v = 0) : wordF (vp_updL f (i / 64) (lN (bitsV (b.set i 0) (64 * (i / 64)) 64))) (b.set i v) := by
  intro j hj
  rw [List.length_set] at hj
  subst hv
  by_cases e : j = i / 64
  · rw [e]; exact pk_uLs
  · rw [pk_uLn e, hf j hj, bitsV_other (fun z => e z.symm) 64 (by decide)]
theorem wr_ok1 {f : Nat → Int64} {b : List Nat} (hf : ∀ j, j ≤ b.length / 64 → f j = lN (bitsV b (64 * j) 64)) {i v : Nat} (hi : i < b.length) (hv : v = 1) : wordF (vp_updL (vp_updL f (i / 64) (lN (bitsV (b.set i 0) (64 * (i / 64)) 64))) (i / 64) (lN (bitsV (b.set i 1) (64 * (i / 64)) 64))) (b.set i v) := by
  intro j hj
  rw [List.length_set] at hj
  subst hv
  by_cases e : j = i / 64
  · rw [e]; exact pk_uLs
  · rw [pk_uLn e, pk_uLn e, hf j hj, bitsV_other (fun z => e z.symm) 64 (by decide)]
theorem wr_on1 {b : List Nat} {i v : Nat} (hi : i < b.length) : onesN (b.set i v) (b.set i v).length = onesN b b.length - b.getD i 0 + v := by
  have := ones_set (b := b) (i := i) (v := v) b.length (Nat.le_refl _)
  have := ones_ge hi
  rw [List.length_set]
  rw [if_pos hi, if_pos hi] at *
  omega
set_option maxRecDepth 100000 in
set_option maxHeartbeats 2000000 in
theorem c_R_write {lX : Launch} {G : Gx} {S : PS} {a wd ta tb : Nat} {b : List Nat} {la lb : Bool} (hr : rowP S a wd ta tb b la lb) {i : Nat} (hi : i < b.length) {o : Bool} : Ct lX yX6_write cX6_write 3 (Option.none : Option Jvm.ClassFile.FieldType) rm_X6_write G [.ref a, .int (nI i), .int (bI o)] S (fun r S' => ∃ (f : Nat → Int64) (v : Int32), r = none ∧ S' = wrS S a wd f v ∧ wordF f (b.set i (if o = true then 1 else 0)) ∧ v = nI (onesN (b.set i (if o = true then 1 else 0)) (b.set i (if o = true then 1 else 0)).length)) := by
  obtain ⟨⟨k_a, rb_a, rw_a, rt_a, ru_a⟩, ⟨k_w, l_w⟩, ⟨k_t, l_t⟩, ⟨k_u, l_u⟩, ⟨la_a, lb_a⟩, on_a, ⟨bl_a, b01⟩, wd_⟩ := hr
  have hge := ones_ge hi
  have hlt := ones_lt b01 b.length
  have hr' : rowP S a wd ta tb b la lb := ⟨⟨k_a, rb_a, rw_a, rt_a, ru_a⟩, ⟨k_w, l_w⟩, ⟨k_t, l_t⟩, ⟨k_u, l_u⟩, ⟨la_a, lb_a⟩, on_a, ⟨bl_a, b01⟩, wd_⟩
  refine Ct.mk RX6 "write" hy_X6_write (Nat.le_of_ble_eq_true rfl) (fun X hX C => ?_)
  change Go X G _ 3 0 0 S 0 [(0, .ref a), (1, .int (nI i)), (2, .int (bI o))] []
  refine g_aload_n 0 0 C dX6_write_0 rfl rfl ?_
  refine g_iload_n 1 1 C dX6_write_1 rfl rfl ?_
  refine g_callV (As := [.int (nI i)]) (rest := []) C dX6_write_2 (c_R_hasBit hr') wC_X6_hasBit wM_X6_36 wI_X6_hasBit wS_X6_hasBit wN_X6 (kne k_a) (pf_7 k_a) rfl hd_X6_hasBit ⟨by decide, by decide, by decide, by decide⟩ (Nat.le_of_ble_eq_true rfl) (fun r_ S_ h_ => ?_)
  obtain ⟨rfl, rfl⟩ := h_
  change Go X G _ 3 _ _ S 5 [(0, .ref a), (1, .int (nI i)), (2, .int (bI o))] [.int (bI (inR (nI i) b.length))]
  refine g_topi (show bI (inR (nI i) b.length) = nI 1 by rw [inR_nI (by omega), decide_eq_true hi]; rfl) ?_
  refine g_nif_ne 9 (by decide) C dX6_write_5 (by decide) (fun _ => ?_) (fun c => absurd c (by decide))
  refine g_aload_n 0 0 C dX6_write_9 rfl rfl ?_
  refine g_dup C dX6_write_10 rfl ?_
  refine gf_rw_ones C dX6_write_11 k_a wF_X6_18 ?_
  refine g_topi (on_a) ?_
  refine g_aload_n 0 0 C dX6_write_14 rfl rfl ?_
  refine g_iload_n 1 1 C dX6_write_15 rfl rfl ?_
  refine g_callV (As := [.int (nI i)]) (rest := [.int (nI (onesN b b.length)), .ref a]) C dX6_write_16 (c_R_bitAt hr' hi) wC_X6_bitAt wM_X6_40 wI_X6_bitAt wS_X6_bitAt wN_X6 (kne k_a) (pf_7 k_a) rfl hd_X6_bitAt ⟨by decide, by decide, by decide, by decide⟩ (Nat.le_of_ble_eq_true rfl) (fun r_ S_ h_ => ?_)
  obtain ⟨rfl, rfl⟩ := h_
  change Go X G _ 3 _ _ S 19 [(0, .ref a), (1, .int (nI i)), (2, .int (bI o))] [.int (nI (b.getD i 0)), .int (nI (onesN b b.length)), .ref a]
  refine g_isub C dX6_write_19 ?_
  refine g_topi (pk_sub (by omega) : _ = nI (onesN b b.length - (b.getD i 0))) ?_
  refine pp_rw_ones C dX6_write_20 k_a wF_X6_18 (Or.inl rfl) ?_
  refine g_aload_n 0 0 C dX6_write_23 rfl rfl ?_
  refine gr_rw_words C dX6_write_24 k_a wF_X6_25 rw_a ?_
  refine g_iload_n 1 1 C dX6_write_27 rfl rfl ?_
  refine g_bipush (v := nI 64) C dX6_write_28 (by decide) ?_
  refine g_idiv C dX6_write_30 (by decide) ?_
  refine g_topi (pk_div (by omega) (by omega) (by omega) : _ = nI (i / 64)) ?_
  refine g_dup2_11 C dX6_write_31 rfl rfl ?_
  refine ga_wd_a C dX6_write_32 k_w (by have h_ : ln (rw_ones_ S (va_up (rw_ones S) a (nI (onesN b b.length - (b.getD i 0))))) wd = b.length / 64 + 1 := l_w; omega) (by have h_ : ln (rw_ones_ S (va_up (rw_ones S) a (nI (onesN b b.length - (b.getD i 0))))) wd = b.length / 64 + 1 := l_w; omega) ?_
  refine g_topl (wd_ _ (by omega)) ?_
  refine g_lconst (v := 1) C dX6_write_33 (by decide) ?_
  refine g_iload_n 1 1 C dX6_write_34 rfl rfl ?_
  refine g_bipush (v := nI 64) C dX6_write_35 (by decide) ?_
  refine g_irem C dX6_write_37 (by decide) ?_
  refine g_topi (pk_rem (by omega) (by omega) (by omega) : _ = nI (i % 64)) ?_
  refine g_lshl C dX6_write_38 ?_
  refine g_ldc2 (v := -1) C dX6_write_39 wG_X6_44 ?_
  refine g_lxor C dX6_write_42 ?_
  refine g_land C dX6_write_43 ?_
  refine g_topl (w_clr b01 (by omega) (by omega) : _ = lN (bitsV (b.set (64 * (i / 64) + i % 64) 0) (64 * (i / 64)) 64)) ?_
  rw [show (64 * (i / 64) + i % 64) = i by omega]
  refine gs_wd_a C dX6_write_44 k_w (by have h_ : ln (rw_ones_ S (va_up (rw_ones S) a (nI (onesN b b.length - (b.getD i 0))))) wd = b.length / 64 + 1 := l_w; omega) (by have h_ : ln (rw_ones_ S (va_up (rw_ones S) a (nI (onesN b b.length - (b.getD i 0))))) wd = b.length / 64 + 1 := l_w; omega) ?_
  refine g_st (S' := wrS S a wd (vp_updL (wd_a S wd) (i / 64) (lN (bitsV (b.set i 0) (64 * (i / 64)) 64))) (nI (onesN b b.length - b.getD i 0))) rfl ?_
  refine g_iload_n 2 2 C dX6_write_45 rfl rfl ?_
  refine g_if_eq 77 C dX6_write_46 (by decide) (fun c46 => ?_) (fun c46 => ?_)
  · have ho := bI_f c46
    exact g_vret C dX6_write_77 (by decide) (by decide) ⟨(vp_updL (wd_a S wd) (i / 64) (lN (bitsV (b.set i 0) (64 * (i / 64)) 64))), nI (onesN b b.length - b.getD i 0), rfl, rfl, wr_ok0 wd_ hi (by rw [ho]; rfl), by rw [ho, if_neg (by decide), wr_on1 (v := 0) hi]; rfl⟩
  · have ho := bI_t c46
    refine g_aload_n 0 0 C dX6_write_49 rfl rfl ?_
    refine gr_rw_words C dX6_write_50 k_a wF_X6_25 rw_a ?_
    refine g_iload_n 1 1 C dX6_write_53 rfl rfl ?_
    refine g_bipush (v := nI 64) C dX6_write_54 (by decide) ?_
    refine g_idiv C dX6_write_56 (by decide) ?_
    refine g_topi (pk_div (by omega) (by omega) (by omega) : _ = nI (i / 64)) ?_
    refine g_dup2_11 C dX6_write_57 rfl rfl ?_
    refine ga_wd_a C dX6_write_58 k_w (by have h_ : ln (wrS S a wd (vp_updL (wd_a S wd) (i / 64) (lN (bitsV (b.set i 0) (64 * (i / 64)) 64))) (nI (onesN b b.length - b.getD i 0))) wd = b.length / 64 + 1 := l_w; omega) (by have h_ : ln (wrS S a wd (vp_updL (wd_a S wd) (i / 64) (lN (bitsV (b.set i 0) (64 * (i / 64)) 64))) (nI (onesN b b.length - b.getD i 0))) wd = b.length / 64 + 1 := l_w; omega) ?_
    refine g_topl ((congrFun (va_up_self _ _ _) _).trans pk_uLs) ?_
    refine g_lconst (v := 1) C dX6_write_59 (by decide) ?_
    refine g_iload_n 1 1 C dX6_write_60 rfl rfl ?_
    refine g_bipush (v := nI 64) C dX6_write_61 (by decide) ?_
    refine g_irem C dX6_write_63 (by decide) ?_
    refine g_topi (pk_rem (by omega) (by omega) (by omega) : _ = nI (i % 64)) ?_
    refine g_lshl C dX6_write_64 ?_
    refine g_lor C dX6_write_65 ?_
    refine g_topl (w_set (b := (b.set i 0)) (bit01_set b01 _ 0 (by decide)) (by omega) (by rw [List.length_set]; omega) : _ = lN (bitsV ((b.set i 0).set (64 * (i / 64) + i % 64) 1) (64 * (i / 64)) 64)) ?_
    rw [show (64 * (i / 64) + i % 64) = i by omega, List.set_set]
    refine gs_wd_a C dX6_write_66 k_w (by have h_ : ln (wrS S a wd (vp_updL (wd_a S wd) (i / 64) (lN (bitsV (b.set i 0) (64 * (i / 64)) 64))) (nI (onesN b b.length - b.getD i 0))) wd = b.length / 64 + 1 := l_w; omega) (by have h_ : ln (wrS S a wd (vp_updL (wd_a S wd) (i / 64) (lN (bitsV (b.set i 0) (64 * (i / 64)) 64))) (nI (onesN b b.length - b.getD i 0))) wd = b.length / 64 + 1 := l_w; omega) ?_
    refine g_st (S' := wrS S a wd (vp_updL (vp_updL (wd_a S wd) (i / 64) (lN (bitsV (b.set i 0) (64 * (i / 64)) 64))) (i / 64) (lN (bitsV (b.set i 1) (64 * (i / 64)) 64))) (nI (onesN b b.length - b.getD i 0))) (by show rw_ones_ (wd_a_ S (va_up (va_up (wd_a S) wd (vp_updL (wd_a S wd) (i / 64) (lN (bitsV (b.set i 0) (64 * (i / 64)) 64)))) wd (vp_updL (va_up (wd_a S) wd (vp_updL (wd_a S wd) (i / 64) (lN (bitsV (b.set i 0) (64 * (i / 64)) 64))) wd) (i / 64) (lN (bitsV (b.set i 1) (64 * (i / 64)) 64))))) (va_up (rw_ones S) a (nI (onesN b b.length - b.getD i 0))) = _; rw [va_up_up, va_up_self]) ?_
    refine g_aload_n 0 0 C dX6_write_67 rfl rfl ?_
    refine g_dup C dX6_write_68 rfl ?_
    refine gf_rw_ones C dX6_write_69 k_a wF_X6_18 ?_
    refine g_topi (va_up_self _ _ _) ?_
    refine g_iconst (v := nI 1) C dX6_write_72 (by decide) ?_
    refine g_iadd C dX6_write_73 ?_
    refine g_topi (nI_add _ _ : _ = nI (onesN b b.length - b.getD i 0 + 1)) ?_
    refine pp_rw_ones C dX6_write_74 k_a wF_X6_18 (Or.inl rfl) ?_
    exact g_vret C dX6_write_77 (by decide) (by decide) ⟨(vp_updL (vp_updL (wd_a S wd) (i / 64) (lN (bitsV (b.set i 0) (64 * (i / 64)) 64))) (i / 64) (lN (bitsV (b.set i 1) (64 * (i / 64)) 64))), nI (onesN b b.length - b.getD i 0 + 1), rfl, by show rw_ones_ (wd_a_ S (va_up (wd_a S) wd (vp_updL (vp_updL (wd_a S wd) (i / 64) (lN (bitsV (b.set i 0) (64 * (i / 64)) 64))) (i / 64) (lN (bitsV (b.set i 1) (64 * (i / 64)) 64))))) (va_up (va_up (rw_ones S) a (nI (onesN b b.length - b.getD i 0))) a (nI (onesN b b.length - b.getD i 0 + 1))) = _; rw [va_up_up], wr_ok1 wd_ hi (by rw [ho]; rfl), by rw [ho, if_pos rfl, wr_on1 (v := 1) hi]⟩
set_option maxRecDepth 100000 in
set_option maxHeartbeats 2000000 in
theorem c_R_fill {lX : Launch} {G : Gx} {S : PS} {a wd ta tb : Nat} {b : List Nat} {la lb : Bool} (hr : rowP S a wd ta tb b la lb) : Ct lX yX6_fillTables cX6_fillTables 5 (Option.none : Option Jvm.ClassFile.FieldType) rm_X6_fillTables G [.ref a] S (fun r S' => ∃ (fa fb : Nat → Int32), r = none ∧ S' = flS S ta tb fa fb ∧ (la = false → tabA fa b) ∧ (lb = false → tabB fb b)) := by
  obtain ⟨⟨k_a, rb_a, rw_a, rt_a, ru_a⟩, ⟨k_w, l_w⟩, ⟨k_t, l_t⟩, ⟨k_u, l_u⟩, ⟨la_a, lb_a⟩, on_a, ⟨bl_a, b01⟩, wd_⟩ := hr
  refine Ct.mk RX6 "fillTables" hy_X6_fillTables (Nat.le_of_ble_eq_true rfl) (fun X hX C => ?_)
  change Go X G _ 5 0 0 S 0 [(0, .ref a)] []
  refine g_iconst (v := nI 0) C dX6_fillTables_0 (by decide) ?_
  refine g_istore_n (lv' := [(1, .int (nI 0)), (0, .ref a)]) C dX6_fillTables_1 rfl (by decide) rfl ?_
  refine g_iconst (v := nI 0) C dX6_fillTables_2 (by decide) ?_
  refine g_istore_n (lv' := [(2, .int (nI 0)), (1, .int (nI 0)), (0, .ref a)]) C dX6_fillTables_3 rfl (by decide) rfl ?_
  refine g_iconst (v := nI 0) C dX6_fillTables_4 (by decide) ?_
  refine g_istore_n (lv' := [(3, .int (nI 0)), (2, .int (nI 0)), (1, .int (nI 0)), (0, .ref a)]) C dX6_fillTables_5 rfl (by decide) rfl ?_
  have lp : ∀ (n_ : Nat) (j ib : Nat) (fa fb : Nat → Int32), b.length / 64 + 1 - j < n_ → (j ≤ b.length / 64 + 1 ∧ ib ≤ 64 * j ∧ (j % 8 ≠ 0 → ib = onesN b (64 * j) - onesN b (512 * (j / 8))) ∧ (la = false → ∀ q, 8 * q < j → fa q = nI (onesN b (512 * q))) ∧ (lb = false → ∀ q, q < j → fb q = nI (onesN b (64 * q) - onesN b (512 * (q / 8))))) → Go X G (Qe X G (fun r S' => ∃ (fa fb : Nat → Int32), r = none ∧ S' = flS S ta tb fa fb ∧ (la = false → tabA fa b) ∧ (lb = false → tabB fb b)) rm_X6_fillTables.cells rm_X6_fillTables.slots) 5 0 0 (flS S ta tb fa fb) 6 [(3, .int (nI j)), (2, .int (nI ib)), (1, .int (nI (onesN b (64 * j)))), (0, .ref a)] [] := by
    intro n_
    induction n_ with
    | zero => intro j ib fa fb hm_; exact absurd hm_ (Nat.not_lt_zero _)
    | succ n_ ih_ =>
      intro j ib fa fb hm_ hh
      obtain ⟨i1, i2, i3, iA, iB⟩ := hh
      have hb0 := ones_lt b01 (64 * j)
      refine g_iload_n 0 3 C dX6_fillTables_6 rfl rfl ?_
      refine g_aload_n 3 0 C dX6_fillTables_7 rfl rfl ?_
      refine gr_rw_words C dX6_fillTables_8 k_a wF_X6_25 rw_a ?_
      refine gl_wd_a C dX6_fillTables_11 k_w ?_
      refine g_topi (congrArg nI l_w) ?_
      refine g_ncmp_ge 82 (by omega) (by omega) C dX6_fillTables_12 (by decide) (fun c12 => ?_) (fun c12 => ?_)
      · have ej : j = b.length / 64 + 1 := by omega
        exact g_vret C dX6_fillTables_82 (by decide) (by decide) (⟨fa, fb, rfl, rfl, fun e q hq => iA e q (by omega), fun e q hq => iB e q (by omega)⟩)
      · refine g_iload_n 0 3 C dX6_fillTables_15 rfl rfl ?_
        refine g_bipush (v := nI 8) C dX6_fillTables_16 (by decide) ?_
        refine g_irem C dX6_fillTables_18 (by decide) ?_
        refine g_topi (pk_rem (by omega) (by omega) (by omega) : _ = nI (j % 8)) ?_
        refine g_nif_ne 41 (by omega) C dX6_fillTables_19 (by decide) (fun c19 => ?_) (fun c19 => ?_)
        · have hib := i3 c19
          refine g_aload_n 3 0 C dX6_fillTables_41 rfl rfl ?_
          refine gf_rw_lb C dX6_fillTables_42 k_a wF_X6_15 ?_
          refine g_topi (lb_a) ?_
          refine g_if_ne 55 C dX6_fillTables_45 (by decide) (fun c45 => ?_) (fun c45 => ?_)
          · refine g_aload_n 3 0 C dX6_fillTables_55 rfl rfl ?_
            refine gr_rw_words C dX6_fillTables_56 k_a wF_X6_25 rw_a ?_
            refine g_iload_n 0 3 C dX6_fillTables_59 rfl rfl ?_
            refine ga_wd_a C dX6_fillTables_60 k_w (by have h_ : ln (flS S ta tb fa fb) wd = b.length / 64 + 1 := l_w; omega) (by have h_ : ln (flS S ta tb fa fb) wd = b.length / 64 + 1 := l_w; omega) ?_
            refine g_topl (wd_ _ (by omega)) ?_
            have hpop := pop_word b01 (o := 64 * j) (k := 64) (by decide)
            have hmo := ones_mono b (show 64 * j ≤ 64 * j + 64 by omega)
            have hb1 := ones_lt b01 (64 * j + 64)
            have hsk : onesN b (64 * (j + 1)) = onesN b (64 * j + 64) := rfl
            refine g_callS (As := [.long (lN (bitsV b (64 * j) 64))]) (rest := []) C dX6_fillTables_61 (c_J_bitCount (bitsV_lt b01 _ 64)) wC_J13_bitCount_95d88 wM_X6_46 wZ_J13_bitCount_95d88 wN_J13 hd_J13_bitCount_95d88.2 ⟨by decide, by decide, by decide, by decide⟩ (Nat.le_of_ble_eq_true rfl) (fun r_ S_ h_ => ?_)
            obtain ⟨rfl, rfl⟩ := h_
            change Go X G _ 5 _ _ (flS S ta tb fa fb) 64 [(3, .int (nI j)), (2, .int (nI ib)), (1, .int (nI (onesN b (64 * j)))), (0, .ref a)] [.int (nI (popW 64 (bitsV b (64 * j) 64)))]
            rw [hpop]
            refine g_istore (lv' := [(4, .int (nI (onesN b (64 * j + 64) - onesN b (64 * j)))), (3, .int (nI j)), (2, .int (nI ib)), (1, .int (nI (onesN b (64 * j)))), (0, .ref a)]) C dX6_fillTables_64 (by decide) rfl ?_
            refine g_iload_n 3 1 C dX6_fillTables_66 rfl rfl ?_
            refine g_iload 0 C dX6_fillTables_67 rfl ?_
            refine g_iadd C dX6_fillTables_69 ?_
            refine g_topi (nI_add _ _ : _ = nI (onesN b (64 * j) + (onesN b (64 * j + 64) - onesN b (64 * j)))) ?_
            refine g_istore_n (lv' := [(1, .int (nI (onesN b (64 * j) + (onesN b (64 * j + 64) - onesN b (64 * j))))), (4, .int (nI (onesN b (64 * j + 64) - onesN b (64 * j)))), (3, .int (nI j)), (2, .int (nI ib)), (0, .ref a)]) C dX6_fillTables_70 rfl (by decide) rfl ?_
            refine g_iload_n 3 2 C dX6_fillTables_71 rfl rfl ?_
            refine g_iload 1 C dX6_fillTables_72 rfl ?_
            refine g_iadd C dX6_fillTables_74 ?_
            refine g_topi (nI_add _ _ : _ = nI (ib + (onesN b (64 * j + 64) - onesN b (64 * j)))) ?_
            refine g_istore_n (lv' := [(2, .int (nI (ib + (onesN b (64 * j + 64) - onesN b (64 * j))))), (1, .int (nI (onesN b (64 * j) + (onesN b (64 * j + 64) - onesN b (64 * j))))), (4, .int (nI (onesN b (64 * j + 64) - onesN b (64 * j)))), (3, .int (nI j)), (0, .ref a)]) C dX6_fillTables_75 rfl (by decide) rfl ?_
            have hall : onesN b (64 * j) + (onesN b (64 * j + 64) - onesN b (64 * j)) = onesN b (64 * (j + 1)) := by omega
            refine g_iinc (v := nI (j + 1)) (lv' := [(3, .int (nI (j + 1))), (2, .int (nI (ib + (onesN b (64 * j + 64) - onesN b (64 * j))))), (1, .int (nI (onesN b (64 * j) + (onesN b (64 * j + 64) - onesN b (64 * j))))), (4, .int (nI (onesN b (64 * j + 64) - onesN b (64 * j)))), (0, .ref a)]) 3 C dX6_fillTables_76 rfl (nI_add _ 1) (by decide) rfl ?_
            refine g_goto 6 C dX6_fillTables_79 (by decide) ?_
            refine Go.pick (lv' := [(3, .int (nI (j + 1))), (2, .int (nI (ib + (onesN b (64 * j + 64) - onesN b (64 * j))))), (1, .int (nI (onesN b (64 * j) + (onesN b (64 * j + 64) - onesN b (64 * j))))), (0, .ref a)]) [0, 1, 2, 4] rfl ?_
            rw [hall]
            exact ih_ (j + 1) _ _ _ (by omega) ⟨by omega, by omega, fun h8 => by rw [show (j + 1) / 8 = j / 8 by omega, hsk]; have hm8 := ones_mono b (show 512 * (j / 8) ≤ 64 * j by omega); omega, fun e q hq => iA e q (by omega), fun e q hq => by rw [e] at c45; exact absurd rfl c45⟩
          · refine g_aload_n 3 0 C dX6_fillTables_48 rfl rfl ?_
            refine gr_rw_tb C dX6_fillTables_49 k_a wF_X6_33 ru_a ?_
            refine g_iload_n 0 3 C dX6_fillTables_52 rfl rfl ?_
            refine g_iload_n 1 2 C dX6_fillTables_53 rfl rfl ?_
            refine gs_tb_a C dX6_fillTables_54 k_u (by have h_ : ln (flS S ta tb fa fb) tb = b.length / 64 + 1 := l_u; omega) (by have h_ : ln (flS S ta tb fa fb) tb = b.length / 64 + 1 := l_u; omega) ?_
            refine g_st flS_b ?_
            refine g_aload_n 3 0 C dX6_fillTables_55 rfl rfl ?_
            refine gr_rw_words C dX6_fillTables_56 k_a wF_X6_25 rw_a ?_
            refine g_iload_n 0 3 C dX6_fillTables_59 rfl rfl ?_
            refine ga_wd_a C dX6_fillTables_60 k_w (by have h_ : ln (flS S ta tb fa (upd fb j (nI ib))) wd = b.length / 64 + 1 := l_w; omega) (by have h_ : ln (flS S ta tb fa (upd fb j (nI ib))) wd = b.length / 64 + 1 := l_w; omega) ?_
            refine g_topl (wd_ _ (by omega)) ?_
            have hpop := pop_word b01 (o := 64 * j) (k := 64) (by decide)
            have hmo := ones_mono b (show 64 * j ≤ 64 * j + 64 by omega)
            have hb1 := ones_lt b01 (64 * j + 64)
            have hsk : onesN b (64 * (j + 1)) = onesN b (64 * j + 64) := rfl
            refine g_callS (As := [.long (lN (bitsV b (64 * j) 64))]) (rest := []) C dX6_fillTables_61 (c_J_bitCount (bitsV_lt b01 _ 64)) wC_J13_bitCount_95d88 wM_X6_46 wZ_J13_bitCount_95d88 wN_J13 hd_J13_bitCount_95d88.2 ⟨by decide, by decide, by decide, by decide⟩ (Nat.le_of_ble_eq_true rfl) (fun r_ S_ h_ => ?_)
            obtain ⟨rfl, rfl⟩ := h_
            change Go X G _ 5 _ _ (flS S ta tb fa (upd fb j (nI ib))) 64 [(3, .int (nI j)), (2, .int (nI ib)), (1, .int (nI (onesN b (64 * j)))), (0, .ref a)] [.int (nI (popW 64 (bitsV b (64 * j) 64)))]
            rw [hpop]
            refine g_istore (lv' := [(4, .int (nI (onesN b (64 * j + 64) - onesN b (64 * j)))), (3, .int (nI j)), (2, .int (nI ib)), (1, .int (nI (onesN b (64 * j)))), (0, .ref a)]) C dX6_fillTables_64 (by decide) rfl ?_
            refine g_iload_n 3 1 C dX6_fillTables_66 rfl rfl ?_
            refine g_iload 0 C dX6_fillTables_67 rfl ?_
            refine g_iadd C dX6_fillTables_69 ?_
            refine g_topi (nI_add _ _ : _ = nI (onesN b (64 * j) + (onesN b (64 * j + 64) - onesN b (64 * j)))) ?_
            refine g_istore_n (lv' := [(1, .int (nI (onesN b (64 * j) + (onesN b (64 * j + 64) - onesN b (64 * j))))), (4, .int (nI (onesN b (64 * j + 64) - onesN b (64 * j)))), (3, .int (nI j)), (2, .int (nI ib)), (0, .ref a)]) C dX6_fillTables_70 rfl (by decide) rfl ?_
            refine g_iload_n 3 2 C dX6_fillTables_71 rfl rfl ?_
            refine g_iload 1 C dX6_fillTables_72 rfl ?_
            refine g_iadd C dX6_fillTables_74 ?_
            refine g_topi (nI_add _ _ : _ = nI (ib + (onesN b (64 * j + 64) - onesN b (64 * j)))) ?_
            refine g_istore_n (lv' := [(2, .int (nI (ib + (onesN b (64 * j + 64) - onesN b (64 * j))))), (1, .int (nI (onesN b (64 * j) + (onesN b (64 * j + 64) - onesN b (64 * j))))), (4, .int (nI (onesN b (64 * j + 64) - onesN b (64 * j)))), (3, .int (nI j)), (0, .ref a)]) C dX6_fillTables_75 rfl (by decide) rfl ?_
            have hall : onesN b (64 * j) + (onesN b (64 * j + 64) - onesN b (64 * j)) = onesN b (64 * (j + 1)) := by omega
            refine g_iinc (v := nI (j + 1)) (lv' := [(3, .int (nI (j + 1))), (2, .int (nI (ib + (onesN b (64 * j + 64) - onesN b (64 * j))))), (1, .int (nI (onesN b (64 * j) + (onesN b (64 * j + 64) - onesN b (64 * j))))), (4, .int (nI (onesN b (64 * j + 64) - onesN b (64 * j)))), (0, .ref a)]) 3 C dX6_fillTables_76 rfl (nI_add _ 1) (by decide) rfl ?_
            refine g_goto 6 C dX6_fillTables_79 (by decide) ?_
            refine Go.pick (lv' := [(3, .int (nI (j + 1))), (2, .int (nI (ib + (onesN b (64 * j + 64) - onesN b (64 * j))))), (1, .int (nI (onesN b (64 * j) + (onesN b (64 * j + 64) - onesN b (64 * j))))), (0, .ref a)]) [0, 1, 2, 4] rfl ?_
            rw [hall]
            exact ih_ (j + 1) _ _ _ (by omega) ⟨by omega, by omega, fun h8 => by rw [show (j + 1) / 8 = j / 8 by omega, hsk]; have hm8 := ones_mono b (show 512 * (j / 8) ≤ 64 * j by omega); omega, fun e q hq => iA e q (by omega), fun e q hq => by
              by_cases e2 : q = j
              · rw [e2, pk_us]; rw [hib]
              · rw [pk_un e2]; exact iB e q (by omega)⟩
        · refine g_iconst (v := nI 0) C dX6_fillTables_22 (by decide) ?_
          refine g_istore_n (lv' := [(2, .int (nI 0)), (3, .int (nI j)), (1, .int (nI (onesN b (64 * j)))), (0, .ref a)]) C dX6_fillTables_23 rfl (by decide) rfl ?_
          refine g_aload_n 3 0 C dX6_fillTables_24 rfl rfl ?_
          refine gf_rw_la C dX6_fillTables_25 k_a wF_X6_9 ?_
          refine g_topi (la_a) ?_
          refine g_if_ne 41 C dX6_fillTables_28 (by decide) (fun c28 => ?_) (fun c28 => ?_)
          · refine g_aload_n 3 0 C dX6_fillTables_41 rfl rfl ?_
            refine gf_rw_lb C dX6_fillTables_42 k_a wF_X6_15 ?_
            refine g_topi (lb_a) ?_
            refine g_if_ne 55 C dX6_fillTables_45 (by decide) (fun c45 => ?_) (fun c45 => ?_)
            · refine g_aload_n 3 0 C dX6_fillTables_55 rfl rfl ?_
              refine gr_rw_words C dX6_fillTables_56 k_a wF_X6_25 rw_a ?_
              refine g_iload_n 1 3 C dX6_fillTables_59 rfl rfl ?_
              refine ga_wd_a C dX6_fillTables_60 k_w (by have h_ : ln (flS S ta tb fa fb) wd = b.length / 64 + 1 := l_w; omega) (by have h_ : ln (flS S ta tb fa fb) wd = b.length / 64 + 1 := l_w; omega) ?_
              refine g_topl (wd_ _ (by omega)) ?_
              have hpop := pop_word b01 (o := 64 * j) (k := 64) (by decide)
              have hmo := ones_mono b (show 64 * j ≤ 64 * j + 64 by omega)
              have hb1 := ones_lt b01 (64 * j + 64)
              have hsk : onesN b (64 * (j + 1)) = onesN b (64 * j + 64) := rfl
              refine g_callS (As := [.long (lN (bitsV b (64 * j) 64))]) (rest := []) C dX6_fillTables_61 (c_J_bitCount (bitsV_lt b01 _ 64)) wC_J13_bitCount_95d88 wM_X6_46 wZ_J13_bitCount_95d88 wN_J13 hd_J13_bitCount_95d88.2 ⟨by decide, by decide, by decide, by decide⟩ (Nat.le_of_ble_eq_true rfl) (fun r_ S_ h_ => ?_)
              obtain ⟨rfl, rfl⟩ := h_
              change Go X G _ 5 _ _ (flS S ta tb fa fb) 64 [(2, .int (nI 0)), (3, .int (nI j)), (1, .int (nI (onesN b (64 * j)))), (0, .ref a)] [.int (nI (popW 64 (bitsV b (64 * j) 64)))]
              rw [hpop]
              refine g_istore (lv' := [(4, .int (nI (onesN b (64 * j + 64) - onesN b (64 * j)))), (2, .int (nI 0)), (3, .int (nI j)), (1, .int (nI (onesN b (64 * j)))), (0, .ref a)]) C dX6_fillTables_64 (by decide) rfl ?_
              refine g_iload_n 3 1 C dX6_fillTables_66 rfl rfl ?_
              refine g_iload 0 C dX6_fillTables_67 rfl ?_
              refine g_iadd C dX6_fillTables_69 ?_
              refine g_topi (nI_add _ _ : _ = nI (onesN b (64 * j) + (onesN b (64 * j + 64) - onesN b (64 * j)))) ?_
              refine g_istore_n (lv' := [(1, .int (nI (onesN b (64 * j) + (onesN b (64 * j + 64) - onesN b (64 * j))))), (4, .int (nI (onesN b (64 * j + 64) - onesN b (64 * j)))), (2, .int (nI 0)), (3, .int (nI j)), (0, .ref a)]) C dX6_fillTables_70 rfl (by decide) rfl ?_
              refine g_iload_n 2 2 C dX6_fillTables_71 rfl rfl ?_
              refine g_iload 1 C dX6_fillTables_72 rfl ?_
              refine g_iadd C dX6_fillTables_74 ?_
              refine g_topi (nI_add _ _ : _ = nI (0 + (onesN b (64 * j + 64) - onesN b (64 * j)))) ?_
              refine g_istore_n (lv' := [(2, .int (nI (0 + (onesN b (64 * j + 64) - onesN b (64 * j))))), (1, .int (nI (onesN b (64 * j) + (onesN b (64 * j + 64) - onesN b (64 * j))))), (4, .int (nI (onesN b (64 * j + 64) - onesN b (64 * j)))), (3, .int (nI j)), (0, .ref a)]) C dX6_fillTables_75 rfl (by decide) rfl ?_
              have hall : onesN b (64 * j) + (onesN b (64 * j + 64) - onesN b (64 * j)) = onesN b (64 * (j + 1)) := by omega
              refine g_iinc (v := nI (j + 1)) (lv' := [(3, .int (nI (j + 1))), (2, .int (nI (0 + (onesN b (64 * j + 64) - onesN b (64 * j))))), (1, .int (nI (onesN b (64 * j) + (onesN b (64 * j + 64) - onesN b (64 * j))))), (4, .int (nI (onesN b (64 * j + 64) - onesN b (64 * j)))), (0, .ref a)]) 3 C dX6_fillTables_76 rfl (nI_add _ 1) (by decide) rfl ?_
              refine g_goto 6 C dX6_fillTables_79 (by decide) ?_
              refine Go.pick (lv' := [(3, .int (nI (j + 1))), (2, .int (nI (0 + (onesN b (64 * j + 64) - onesN b (64 * j))))), (1, .int (nI (onesN b (64 * j) + (onesN b (64 * j + 64) - onesN b (64 * j))))), (0, .ref a)]) [0, 1, 2, 4] rfl ?_
              rw [hall]
              exact ih_ (j + 1) _ _ _ (by omega) ⟨by omega, by omega, fun h8 => by rw [show (j + 1) / 8 = j / 8 by omega, hsk]; have hm8 := ones_mono b (show 512 * (j / 8) ≤ 64 * j by omega); rw [show 512 * (j / 8) = 64 * j by omega]; omega, fun e q hq => by rw [e] at c28; exact absurd rfl c28, fun e q hq => by rw [e] at c45; exact absurd rfl c45⟩
            · refine g_aload_n 3 0 C dX6_fillTables_48 rfl rfl ?_
              refine gr_rw_tb C dX6_fillTables_49 k_a wF_X6_33 ru_a ?_
              refine g_iload_n 1 3 C dX6_fillTables_52 rfl rfl ?_
              refine g_iload_n 0 2 C dX6_fillTables_53 rfl rfl ?_
              refine gs_tb_a C dX6_fillTables_54 k_u (by have h_ : ln (flS S ta tb fa fb) tb = b.length / 64 + 1 := l_u; omega) (by have h_ : ln (flS S ta tb fa fb) tb = b.length / 64 + 1 := l_u; omega) ?_
              refine g_st flS_b ?_
              refine g_aload_n 3 0 C dX6_fillTables_55 rfl rfl ?_
              refine gr_rw_words C dX6_fillTables_56 k_a wF_X6_25 rw_a ?_
              refine g_iload_n 1 3 C dX6_fillTables_59 rfl rfl ?_
              refine ga_wd_a C dX6_fillTables_60 k_w (by have h_ : ln (flS S ta tb fa (upd fb j (nI 0))) wd = b.length / 64 + 1 := l_w; omega) (by have h_ : ln (flS S ta tb fa (upd fb j (nI 0))) wd = b.length / 64 + 1 := l_w; omega) ?_
              refine g_topl (wd_ _ (by omega)) ?_
              have hpop := pop_word b01 (o := 64 * j) (k := 64) (by decide)
              have hmo := ones_mono b (show 64 * j ≤ 64 * j + 64 by omega)
              have hb1 := ones_lt b01 (64 * j + 64)
              have hsk : onesN b (64 * (j + 1)) = onesN b (64 * j + 64) := rfl
              refine g_callS (As := [.long (lN (bitsV b (64 * j) 64))]) (rest := []) C dX6_fillTables_61 (c_J_bitCount (bitsV_lt b01 _ 64)) wC_J13_bitCount_95d88 wM_X6_46 wZ_J13_bitCount_95d88 wN_J13 hd_J13_bitCount_95d88.2 ⟨by decide, by decide, by decide, by decide⟩ (Nat.le_of_ble_eq_true rfl) (fun r_ S_ h_ => ?_)
              obtain ⟨rfl, rfl⟩ := h_
              change Go X G _ 5 _ _ (flS S ta tb fa (upd fb j (nI 0))) 64 [(2, .int (nI 0)), (3, .int (nI j)), (1, .int (nI (onesN b (64 * j)))), (0, .ref a)] [.int (nI (popW 64 (bitsV b (64 * j) 64)))]
              rw [hpop]
              refine g_istore (lv' := [(4, .int (nI (onesN b (64 * j + 64) - onesN b (64 * j)))), (2, .int (nI 0)), (3, .int (nI j)), (1, .int (nI (onesN b (64 * j)))), (0, .ref a)]) C dX6_fillTables_64 (by decide) rfl ?_
              refine g_iload_n 3 1 C dX6_fillTables_66 rfl rfl ?_
              refine g_iload 0 C dX6_fillTables_67 rfl ?_
              refine g_iadd C dX6_fillTables_69 ?_
              refine g_topi (nI_add _ _ : _ = nI (onesN b (64 * j) + (onesN b (64 * j + 64) - onesN b (64 * j)))) ?_
              refine g_istore_n (lv' := [(1, .int (nI (onesN b (64 * j) + (onesN b (64 * j + 64) - onesN b (64 * j))))), (4, .int (nI (onesN b (64 * j + 64) - onesN b (64 * j)))), (2, .int (nI 0)), (3, .int (nI j)), (0, .ref a)]) C dX6_fillTables_70 rfl (by decide) rfl ?_
              refine g_iload_n 2 2 C dX6_fillTables_71 rfl rfl ?_
              refine g_iload 1 C dX6_fillTables_72 rfl ?_
              refine g_iadd C dX6_fillTables_74 ?_
              refine g_topi (nI_add _ _ : _ = nI (0 + (onesN b (64 * j + 64) - onesN b (64 * j)))) ?_
              refine g_istore_n (lv' := [(2, .int (nI (0 + (onesN b (64 * j + 64) - onesN b (64 * j))))), (1, .int (nI (onesN b (64 * j) + (onesN b (64 * j + 64) - onesN b (64 * j))))), (4, .int (nI (onesN b (64 * j + 64) - onesN b (64 * j)))), (3, .int (nI j)), (0, .ref a)]) C dX6_fillTables_75 rfl (by decide) rfl ?_
              have hall : onesN b (64 * j) + (onesN b (64 * j + 64) - onesN b (64 * j)) = onesN b (64 * (j + 1)) := by omega
              refine g_iinc (v := nI (j + 1)) (lv' := [(3, .int (nI (j + 1))), (2, .int (nI (0 + (onesN b (64 * j + 64) - onesN b (64 * j))))), (1, .int (nI (onesN b (64 * j) + (onesN b (64 * j + 64) - onesN b (64 * j))))), (4, .int (nI (onesN b (64 * j + 64) - onesN b (64 * j)))), (0, .ref a)]) 3 C dX6_fillTables_76 rfl (nI_add _ 1) (by decide) rfl ?_
              refine g_goto 6 C dX6_fillTables_79 (by decide) ?_
              refine Go.pick (lv' := [(3, .int (nI (j + 1))), (2, .int (nI (0 + (onesN b (64 * j + 64) - onesN b (64 * j))))), (1, .int (nI (onesN b (64 * j) + (onesN b (64 * j + 64) - onesN b (64 * j))))), (0, .ref a)]) [0, 1, 2, 4] rfl ?_
              rw [hall]
              exact ih_ (j + 1) _ _ _ (by omega) ⟨by omega, by omega, fun h8 => by rw [show (j + 1) / 8 = j / 8 by omega, hsk]; have hm8 := ones_mono b (show 512 * (j / 8) ≤ 64 * j by omega); rw [show 512 * (j / 8) = 64 * j by omega]; omega, fun e q hq => by rw [e] at c28; exact absurd rfl c28, fun e q hq => by
                by_cases e2 : q = j
                · rw [e2, pk_us]; rw [show 512 * (j / 8) = 64 * j by omega, Nat.sub_self]
                · rw [pk_un e2]; exact iB e q (by omega)⟩
          · refine g_aload_n 3 0 C dX6_fillTables_31 rfl rfl ?_
            refine gr_rw_ta C dX6_fillTables_32 k_a wF_X6_29 rt_a ?_
            refine g_iload_n 1 3 C dX6_fillTables_35 rfl rfl ?_
            refine g_bipush (v := nI 8) C dX6_fillTables_36 (by decide) ?_
            refine g_idiv C dX6_fillTables_38 (by decide) ?_
            refine g_topi (pk_div (by omega) (by omega) (by omega) : _ = nI (j / 8)) ?_
            refine g_iload_n 2 1 C dX6_fillTables_39 rfl rfl ?_
            refine gs_ta_a C dX6_fillTables_40 k_t (by have h_ : ln (flS S ta tb fa fb) ta = b.length / 512 + 1 := l_t; omega) (by have h_ : ln (flS S ta tb fa fb) ta = b.length / 512 + 1 := l_t; omega) ?_
            refine g_st flS_a ?_
            refine g_aload_n 3 0 C dX6_fillTables_41 rfl rfl ?_
            refine gf_rw_lb C dX6_fillTables_42 k_a wF_X6_15 ?_
            refine g_topi (lb_a) ?_
            refine g_if_ne 55 C dX6_fillTables_45 (by decide) (fun c45 => ?_) (fun c45 => ?_)
            · refine g_aload_n 3 0 C dX6_fillTables_55 rfl rfl ?_
              refine gr_rw_words C dX6_fillTables_56 k_a wF_X6_25 rw_a ?_
              refine g_iload_n 1 3 C dX6_fillTables_59 rfl rfl ?_
              refine ga_wd_a C dX6_fillTables_60 k_w (by have h_ : ln (flS S ta tb (upd fa (j / 8) (nI (onesN b (64 * j)))) fb) wd = b.length / 64 + 1 := l_w; omega) (by have h_ : ln (flS S ta tb (upd fa (j / 8) (nI (onesN b (64 * j)))) fb) wd = b.length / 64 + 1 := l_w; omega) ?_
              refine g_topl (wd_ _ (by omega)) ?_
              have hpop := pop_word b01 (o := 64 * j) (k := 64) (by decide)
              have hmo := ones_mono b (show 64 * j ≤ 64 * j + 64 by omega)
              have hb1 := ones_lt b01 (64 * j + 64)
              have hsk : onesN b (64 * (j + 1)) = onesN b (64 * j + 64) := rfl
              refine g_callS (As := [.long (lN (bitsV b (64 * j) 64))]) (rest := []) C dX6_fillTables_61 (c_J_bitCount (bitsV_lt b01 _ 64)) wC_J13_bitCount_95d88 wM_X6_46 wZ_J13_bitCount_95d88 wN_J13 hd_J13_bitCount_95d88.2 ⟨by decide, by decide, by decide, by decide⟩ (Nat.le_of_ble_eq_true rfl) (fun r_ S_ h_ => ?_)
              obtain ⟨rfl, rfl⟩ := h_
              change Go X G _ 5 _ _ (flS S ta tb (upd fa (j / 8) (nI (onesN b (64 * j)))) fb) 64 [(2, .int (nI 0)), (3, .int (nI j)), (1, .int (nI (onesN b (64 * j)))), (0, .ref a)] [.int (nI (popW 64 (bitsV b (64 * j) 64)))]
              rw [hpop]
              refine g_istore (lv' := [(4, .int (nI (onesN b (64 * j + 64) - onesN b (64 * j)))), (2, .int (nI 0)), (3, .int (nI j)), (1, .int (nI (onesN b (64 * j)))), (0, .ref a)]) C dX6_fillTables_64 (by decide) rfl ?_
              refine g_iload_n 3 1 C dX6_fillTables_66 rfl rfl ?_
              refine g_iload 0 C dX6_fillTables_67 rfl ?_
              refine g_iadd C dX6_fillTables_69 ?_
              refine g_topi (nI_add _ _ : _ = nI (onesN b (64 * j) + (onesN b (64 * j + 64) - onesN b (64 * j)))) ?_
              refine g_istore_n (lv' := [(1, .int (nI (onesN b (64 * j) + (onesN b (64 * j + 64) - onesN b (64 * j))))), (4, .int (nI (onesN b (64 * j + 64) - onesN b (64 * j)))), (2, .int (nI 0)), (3, .int (nI j)), (0, .ref a)]) C dX6_fillTables_70 rfl (by decide) rfl ?_
              refine g_iload_n 2 2 C dX6_fillTables_71 rfl rfl ?_
              refine g_iload 1 C dX6_fillTables_72 rfl ?_
              refine g_iadd C dX6_fillTables_74 ?_
              refine g_topi (nI_add _ _ : _ = nI (0 + (onesN b (64 * j + 64) - onesN b (64 * j)))) ?_
              refine g_istore_n (lv' := [(2, .int (nI (0 + (onesN b (64 * j + 64) - onesN b (64 * j))))), (1, .int (nI (onesN b (64 * j) + (onesN b (64 * j + 64) - onesN b (64 * j))))), (4, .int (nI (onesN b (64 * j + 64) - onesN b (64 * j)))), (3, .int (nI j)), (0, .ref a)]) C dX6_fillTables_75 rfl (by decide) rfl ?_
              have hall : onesN b (64 * j) + (onesN b (64 * j + 64) - onesN b (64 * j)) = onesN b (64 * (j + 1)) := by omega
              refine g_iinc (v := nI (j + 1)) (lv' := [(3, .int (nI (j + 1))), (2, .int (nI (0 + (onesN b (64 * j + 64) - onesN b (64 * j))))), (1, .int (nI (onesN b (64 * j) + (onesN b (64 * j + 64) - onesN b (64 * j))))), (4, .int (nI (onesN b (64 * j + 64) - onesN b (64 * j)))), (0, .ref a)]) 3 C dX6_fillTables_76 rfl (nI_add _ 1) (by decide) rfl ?_
              refine g_goto 6 C dX6_fillTables_79 (by decide) ?_
              refine Go.pick (lv' := [(3, .int (nI (j + 1))), (2, .int (nI (0 + (onesN b (64 * j + 64) - onesN b (64 * j))))), (1, .int (nI (onesN b (64 * j) + (onesN b (64 * j + 64) - onesN b (64 * j))))), (0, .ref a)]) [0, 1, 2, 4] rfl ?_
              rw [hall]
              exact ih_ (j + 1) _ _ _ (by omega) ⟨by omega, by omega, fun h8 => by rw [show (j + 1) / 8 = j / 8 by omega, hsk]; have hm8 := ones_mono b (show 512 * (j / 8) ≤ 64 * j by omega); rw [show 512 * (j / 8) = 64 * j by omega]; omega, fun e q hq => by
                by_cases e2 : q = j / 8
                · rw [e2, pk_us, show 512 * (j / 8) = 64 * j by omega]
                · rw [pk_un e2]; exact iA e q (by omega), fun e q hq => by rw [e] at c45; exact absurd rfl c45⟩
            · refine g_aload_n 3 0 C dX6_fillTables_48 rfl rfl ?_
              refine gr_rw_tb C dX6_fillTables_49 k_a wF_X6_33 ru_a ?_
              refine g_iload_n 1 3 C dX6_fillTables_52 rfl rfl ?_
              refine g_iload_n 0 2 C dX6_fillTables_53 rfl rfl ?_
              refine gs_tb_a C dX6_fillTables_54 k_u (by have h_ : ln (flS S ta tb (upd fa (j / 8) (nI (onesN b (64 * j)))) fb) tb = b.length / 64 + 1 := l_u; omega) (by have h_ : ln (flS S ta tb (upd fa (j / 8) (nI (onesN b (64 * j)))) fb) tb = b.length / 64 + 1 := l_u; omega) ?_
              refine g_st flS_b ?_
              refine g_aload_n 3 0 C dX6_fillTables_55 rfl rfl ?_
              refine gr_rw_words C dX6_fillTables_56 k_a wF_X6_25 rw_a ?_
              refine g_iload_n 1 3 C dX6_fillTables_59 rfl rfl ?_
              refine ga_wd_a C dX6_fillTables_60 k_w (by have h_ : ln (flS S ta tb (upd fa (j / 8) (nI (onesN b (64 * j)))) (upd fb j (nI 0))) wd = b.length / 64 + 1 := l_w; omega) (by have h_ : ln (flS S ta tb (upd fa (j / 8) (nI (onesN b (64 * j)))) (upd fb j (nI 0))) wd = b.length / 64 + 1 := l_w; omega) ?_
              refine g_topl (wd_ _ (by omega)) ?_
              have hpop := pop_word b01 (o := 64 * j) (k := 64) (by decide)
              have hmo := ones_mono b (show 64 * j ≤ 64 * j + 64 by omega)
              have hb1 := ones_lt b01 (64 * j + 64)
              have hsk : onesN b (64 * (j + 1)) = onesN b (64 * j + 64) := rfl
              refine g_callS (As := [.long (lN (bitsV b (64 * j) 64))]) (rest := []) C dX6_fillTables_61 (c_J_bitCount (bitsV_lt b01 _ 64)) wC_J13_bitCount_95d88 wM_X6_46 wZ_J13_bitCount_95d88 wN_J13 hd_J13_bitCount_95d88.2 ⟨by decide, by decide, by decide, by decide⟩ (Nat.le_of_ble_eq_true rfl) (fun r_ S_ h_ => ?_)
              obtain ⟨rfl, rfl⟩ := h_
              change Go X G _ 5 _ _ (flS S ta tb (upd fa (j / 8) (nI (onesN b (64 * j)))) (upd fb j (nI 0))) 64 [(2, .int (nI 0)), (3, .int (nI j)), (1, .int (nI (onesN b (64 * j)))), (0, .ref a)] [.int (nI (popW 64 (bitsV b (64 * j) 64)))]
              rw [hpop]
              refine g_istore (lv' := [(4, .int (nI (onesN b (64 * j + 64) - onesN b (64 * j)))), (2, .int (nI 0)), (3, .int (nI j)), (1, .int (nI (onesN b (64 * j)))), (0, .ref a)]) C dX6_fillTables_64 (by decide) rfl ?_
              refine g_iload_n 3 1 C dX6_fillTables_66 rfl rfl ?_
              refine g_iload 0 C dX6_fillTables_67 rfl ?_
              refine g_iadd C dX6_fillTables_69 ?_
              refine g_topi (nI_add _ _ : _ = nI (onesN b (64 * j) + (onesN b (64 * j + 64) - onesN b (64 * j)))) ?_
              refine g_istore_n (lv' := [(1, .int (nI (onesN b (64 * j) + (onesN b (64 * j + 64) - onesN b (64 * j))))), (4, .int (nI (onesN b (64 * j + 64) - onesN b (64 * j)))), (2, .int (nI 0)), (3, .int (nI j)), (0, .ref a)]) C dX6_fillTables_70 rfl (by decide) rfl ?_
              refine g_iload_n 2 2 C dX6_fillTables_71 rfl rfl ?_
              refine g_iload 1 C dX6_fillTables_72 rfl ?_
              refine g_iadd C dX6_fillTables_74 ?_
              refine g_topi (nI_add _ _ : _ = nI (0 + (onesN b (64 * j + 64) - onesN b (64 * j)))) ?_
              refine g_istore_n (lv' := [(2, .int (nI (0 + (onesN b (64 * j + 64) - onesN b (64 * j))))), (1, .int (nI (onesN b (64 * j) + (onesN b (64 * j + 64) - onesN b (64 * j))))), (4, .int (nI (onesN b (64 * j + 64) - onesN b (64 * j)))), (3, .int (nI j)), (0, .ref a)]) C dX6_fillTables_75 rfl (by decide) rfl ?_
              have hall : onesN b (64 * j) + (onesN b (64 * j + 64) - onesN b (64 * j)) = onesN b (64 * (j + 1)) := by omega
              refine g_iinc (v := nI (j + 1)) (lv' := [(3, .int (nI (j + 1))), (2, .int (nI (0 + (onesN b (64 * j + 64) - onesN b (64 * j))))), (1, .int (nI (onesN b (64 * j) + (onesN b (64 * j + 64) - onesN b (64 * j))))), (4, .int (nI (onesN b (64 * j + 64) - onesN b (64 * j)))), (0, .ref a)]) 3 C dX6_fillTables_76 rfl (nI_add _ 1) (by decide) rfl ?_
              refine g_goto 6 C dX6_fillTables_79 (by decide) ?_
              refine Go.pick (lv' := [(3, .int (nI (j + 1))), (2, .int (nI (0 + (onesN b (64 * j + 64) - onesN b (64 * j))))), (1, .int (nI (onesN b (64 * j) + (onesN b (64 * j + 64) - onesN b (64 * j))))), (0, .ref a)]) [0, 1, 2, 4] rfl ?_
              rw [hall]
              exact ih_ (j + 1) _ _ _ (by omega) ⟨by omega, by omega, fun h8 => by rw [show (j + 1) / 8 = j / 8 by omega, hsk]; have hm8 := ones_mono b (show 512 * (j / 8) ≤ 64 * j by omega); rw [show 512 * (j / 8) = 64 * j by omega]; omega, fun e q hq => by
                by_cases e2 : q = j / 8
                · rw [e2, pk_us, show 512 * (j / 8) = 64 * j by omega]
                · rw [pk_un e2]; exact iA e q (by omega), fun e q hq => by
                by_cases e2 : q = j
                · rw [e2, pk_us]; rw [show 512 * (j / 8) = 64 * j by omega, Nat.sub_self]
                · rw [pk_un e2]; exact iB e q (by omega)⟩
  refine g_st (flS_0 S ta tb).symm ?_
  exact lp (b.length / 64 + 2) 0 0 _ _ (by omega) ⟨Nat.zero_le _, Nat.zero_le _, fun h => absurd rfl h, fun e q hq => absurd hq (Nat.not_lt_zero _), fun e q hq => absurd hq (Nat.not_lt_zero _)⟩
set_option maxRecDepth 100000 in
set_option maxHeartbeats 2000000 in
theorem c_R_onesAhead {lX : Launch} {G : Gx} {S : PS} {a wd ta tb : Nat} {b : List Nat} {la lb : Bool} (hc : rowC S a wd ta tb b la lb) {i : Nat} (hi : i ≤ b.length) (hA : la = false) (hB : lb = false) : Ct lX yX6_onesAhead cX6_onesAhead 4 (Option.some Jvm.ClassFile.FieldType.int) rm_X6_onesAhead G [.ref a, .int (nI i)] S (fun r S' => r = some (.int (nI (onesN b i))) ∧ S = S') := by
  have hr := hc.1
  obtain ⟨⟨k_a, rb_a, rw_a, rt_a, ru_a⟩, ⟨k_w, l_w⟩, ⟨k_t, l_t⟩, ⟨k_u, l_u⟩, ⟨la_a, lb_a⟩, on_a, ⟨bl_a, b01⟩, wd_⟩ := hr
  have tA := hc.2.1 hA
  have tB := hc.2.2 hB
  refine Ct.mk RX6 "onesAhead" hy_X6_onesAhead (Nat.le_of_ble_eq_true rfl) (fun X hX C => ?_)
  change Go X G _ 4 0 0 S 0 [(0, .ref a), (1, .int (nI i))] []
  refine g_aload_n 0 0 C dX6_onesAhead_0 rfl rfl ?_
  refine gr_rw_words C dX6_onesAhead_1 k_a wF_X6_25 rw_a ?_
  refine g_iload_n 1 1 C dX6_onesAhead_4 rfl rfl ?_
  refine g_bipush (v := nI 64) C dX6_onesAhead_5 (by decide) ?_
  refine g_idiv C dX6_onesAhead_7 (by decide) ?_
  refine g_topi (pk_div (by omega) (by omega) (by omega) : _ = nI (i / 64)) ?_
  refine ga_wd_a C dX6_onesAhead_8 k_w (by omega) (by omega) ?_
  refine g_topl (wd_ _ (by omega)) ?_
  refine g_lconst (v := 1) C dX6_onesAhead_9 (by decide) ?_
  refine g_iload_n 1 1 C dX6_onesAhead_10 rfl rfl ?_
  refine g_bipush (v := nI 64) C dX6_onesAhead_11 (by decide) ?_
  refine g_irem C dX6_onesAhead_13 (by decide) ?_
  refine g_topi (pk_rem (by omega) (by omega) (by omega) : _ = nI (i % 64)) ?_
  refine g_lshl C dX6_onesAhead_14 ?_
  refine g_lconst (v := 1) C dX6_onesAhead_15 (by decide) ?_
  refine g_lsub C dX6_onesAhead_16 ?_
  refine g_land C dX6_onesAhead_17 ?_
  refine g_topl (w_low b01 (by omega) : _ = lN (bitsV b (64 * (i / 64)) (i % 64))) ?_
  refine g_lstore_n (lv' := [(2, .long (lN (bitsV b (64 * (i / 64)) (i % 64)))), (0, .ref a), (1, .int (nI i))]) C dX6_onesAhead_18 rfl (by decide) rfl ?_
  refine g_aload_n 1 0 C dX6_onesAhead_19 rfl rfl ?_
  refine gr_rw_ta C dX6_onesAhead_20 k_a wF_X6_29 rt_a ?_
  refine g_iload_n 2 1 C dX6_onesAhead_23 rfl rfl ?_
  refine g_sipush (v := nI 512) C dX6_onesAhead_24 (by decide) ?_
  refine g_idiv C dX6_onesAhead_27 (by decide) ?_
  refine g_topi (pk_div (by omega) (by omega) (by omega) : _ = nI (i / 512)) ?_
  refine ga_ta_a C dX6_onesAhead_28 k_t (by omega) (by omega) ?_
  refine g_topi (tA _ (by omega)) ?_
  refine g_aload_n 1 0 C dX6_onesAhead_29 rfl rfl ?_
  refine gr_rw_tb C dX6_onesAhead_30 k_a wF_X6_33 ru_a ?_
  refine g_iload_n 2 1 C dX6_onesAhead_33 rfl rfl ?_
  refine g_bipush (v := nI 64) C dX6_onesAhead_34 (by decide) ?_
  refine g_idiv C dX6_onesAhead_36 (by decide) ?_
  refine g_topi (pk_div (by omega) (by omega) (by omega) : _ = nI (i / 64)) ?_
  refine ga_tb_a C dX6_onesAhead_37 k_u (by omega) (by omega) ?_
  refine g_topi (tB _ (by omega)) ?_
  refine g_iadd C dX6_onesAhead_38 ?_
  refine g_topi (nI_add _ _ : _ = nI (onesN b (512 * (i / 512)) + (onesN b (64 * (i / 64)) - onesN b (512 * (i / 64 / 8))))) ?_
  refine g_lload_n 0 2 C dX6_onesAhead_39 rfl rfl ?_
  have hpop := pop_word b01 (o := 64 * (i / 64)) (k := i % 64) (by omega)
  rw [show 64 * (i / 64) + i % 64 = i by omega] at hpop
  have hm1 := ones_mono b (show 64 * (i / 64) ≤ i by omega)
  have hm2 := ones_mono b (show 512 * (i / 512) ≤ 64 * (i / 64) by omega)
  have hb1 := ones_lt b01 i
  refine g_callS (As := [.long (lN (bitsV b (64 * (i / 64)) (i % 64)))]) (rest := [.int (nI (onesN b (512 * (i / 512)) + (onesN b (64 * (i / 64)) - onesN b (512 * (i / 64 / 8)))))]) C dX6_onesAhead_40 (c_J_bitCount (Nat.lt_of_lt_of_le (bitsV_lt b01 _ _) (Nat.pow_le_pow_right (by decide) (by omega)))) wC_J13_bitCount_95d88 wM_X6_46 wZ_J13_bitCount_95d88 wN_J13 hd_J13_bitCount_95d88.2 ⟨by decide, by decide, by decide, by decide⟩ (Nat.le_of_ble_eq_true rfl) (fun r_ S_ h_ => ?_)
  obtain ⟨rfl, rfl⟩ := h_
  change Go X G _ 4 _ _ S 43 [(2, .long (lN (bitsV b (64 * (i / 64)) (i % 64)))), (0, .ref a), (1, .int (nI i))] [.int (nI (popW 64 (bitsV b (64 * (i / 64)) (i % 64)))), .int (nI (onesN b (512 * (i / 512)) + (onesN b (64 * (i / 64)) - onesN b (512 * (i / 64 / 8)))))]
  rw [hpop]
  refine g_iadd C dX6_onesAhead_43 ?_
  refine g_topi (nI_add _ _ : _ = nI (onesN b (512 * (i / 512)) + (onesN b (64 * (i / 64)) - onesN b (512 * (i / 64 / 8))) + (onesN b i - onesN b (64 * (i / 64))))) ?_
  exact g_iret C dX6_onesAhead_44 (by decide) (by decide) (⟨by rw [show i / 64 / 8 = i / 512 by omega, show onesN b (512 * (i / 512)) + (onesN b (64 * (i / 64)) - onesN b (512 * (i / 512))) + (onesN b i - onesN b (64 * (i / 64))) = onesN b i by omega], rfl⟩)
theorem sub_ge {a c : Nat} (ha : a < 2 ^ 30) (hc : c < 2 ^ 30) : 0 ≤ nI a - nI c ↔ c ≤ a := by
  rw [Int32.le_iff_toInt_le, pk_sub_toInt ha hc, Int32.toInt_zero]; omega
set_option maxRecDepth 100000 in
set_option maxHeartbeats 2000000 in
theorem c_R_place {lX : Launch} {G : Gx} {S : PS} {a wd ta tb : Nat} {b : List Nat} {la lb : Bool} (hc : rowC S a wd ta tb b la lb) {k : Nat} (hk : k < onesN b b.length) (hA : la = false) (hB : lb = false) : Ct lX yX6_placeOfOne cX6_placeOfOne 6 (Option.some Jvm.ClassFile.FieldType.int) rm_X6_placeOfOne G [.ref a, .int (nI k)] S (fun r S' => r = some (.int (nI (selN b k))) ∧ S = S') := by
  have hr := hc.1
  have hr' := hc.1
  obtain ⟨⟨k_a, rb_a, rw_a, rt_a, ru_a⟩, ⟨k_w, l_w⟩, ⟨k_t, l_t⟩, ⟨k_u, l_u⟩, ⟨la_a, lb_a⟩, on_a, ⟨bl_a, b01⟩, wd_⟩ := hr
  have tA := hc.2.1 hA
  have tB := hc.2.2 hB
  have hbl := ones_lt b01 b.length
  refine Ct.mk RX6 "placeOfOne" hy_X6_placeOfOne (Nat.le_of_ble_eq_true rfl) (fun X hX C => ?_)
  change Go X G _ 6 0 0 S 0 [(0, .ref a), (1, .int (nI k))] []
  refine g_iconst (v := nI 0) C dX6_placeOfOne_0 (by decide) ?_
  refine g_istore_n (lv' := [(2, .int (nI 0)), (0, .ref a), (1, .int (nI k))]) C dX6_placeOfOne_1 rfl (by decide) rfl ?_
  have lp1 : ∀ (n_ : Nat) (bk : Nat), b.length / 512 + 1 - bk < n_ → (bk ≤ b.length / 512 ∧ onesN b (512 * bk) ≤ k) → Go X G (Qe X G (fun r S' => r = some (.int (nI (selN b k))) ∧ S = S') rm_X6_placeOfOne.cells rm_X6_placeOfOne.slots) 6 0 0 S 2 [(2, .int (nI bk)), (0, .ref a), (1, .int (nI k))] [] := by
    intro n_
    induction n_ with
    | zero => intro bk hm_; exact absurd hm_ (Nat.not_lt_zero _)
    | succ n_ ih_ =>
      intro bk hm_ h1
      have h11 := h1.1
      have h12 := h1.2
      refine g_iload_n 0 2 C dX6_placeOfOne_2 rfl rfl ?_
      refine g_iconst (v := nI 1) C dX6_placeOfOne_3 (by decide) ?_
      refine g_iadd C dX6_placeOfOne_4 ?_
      refine g_topi (nI_add _ _ : _ = nI (bk + 1)) ?_
      refine g_aload_n 1 0 C dX6_placeOfOne_5 rfl rfl ?_
      refine gr_rw_ta C dX6_placeOfOne_6 k_a wF_X6_29 rt_a ?_
      refine gl_ta_a C dX6_placeOfOne_9 k_t ?_
      refine g_topi (congrArg nI l_t) ?_
      refine g_ncmp_ge 31 (by omega) (by omega) C dX6_placeOfOne_10 (by decide) (fun c10 => ?_) (fun c10 => ?_)
      · have hb7 := ones_lt b01 (512 * bk)
        refine g_iload_n 2 1 C dX6_placeOfOne_31 rfl rfl ?_
        refine g_aload_n 1 0 C dX6_placeOfOne_32 rfl rfl ?_
        refine gr_rw_ta C dX6_placeOfOne_33 k_a wF_X6_29 rt_a ?_
        refine g_iload_n 0 2 C dX6_placeOfOne_36 rfl rfl ?_
        refine ga_ta_a C dX6_placeOfOne_37 k_t (by omega) (by omega) ?_
        refine g_topi (tA _ (by omega)) ?_
        refine g_isub C dX6_placeOfOne_38 ?_
        refine g_topi (pk_sub (by omega) : _ = nI (k - (onesN b (512 * bk)))) ?_
        refine g_istore_n (lv' := [(3, .int (nI (k - (onesN b (512 * bk))))), (2, .int (nI bk)), (0, .ref a), (1, .int (nI k))]) C dX6_placeOfOne_39 rfl (by decide) rfl ?_
        refine g_iload_n 1 2 C dX6_placeOfOne_40 rfl rfl ?_
        refine g_bipush (v := nI 8) C dX6_placeOfOne_41 (by decide) ?_
        refine g_imul C dX6_placeOfOne_43 ?_
        refine g_topi (pk_mul _ _ : _ = nI (bk * 8)) ?_
        refine g_istore (lv' := [(4, .int (nI (bk * 8))), (3, .int (nI (k - (onesN b (512 * bk))))), (2, .int (nI bk)), (0, .ref a), (1, .int (nI k))]) C dX6_placeOfOne_44 (by decide) rfl ?_
        have lp2 : ∀ (n_ : Nat) (wo : Nat), b.length / 64 + 1 - wo < n_ → (bk * 8 ≤ wo ∧ wo < bk * 8 + 8 ∧ wo ≤ b.length / 64 ∧ onesN b (64 * wo) ≤ k) → Go X G (Qe X G (fun r S' => r = some (.int (nI (selN b k))) ∧ S = S') rm_X6_placeOfOne.cells rm_X6_placeOfOne.slots) 6 0 0 S 46 [(4, .int (nI wo)), (3, .int (nI (k - onesN b (512 * bk)))), (2, .int (nI bk)), (0, .ref a), (1, .int (nI k))] [] := by
          intro n_
          induction n_ with
          | zero => intro wo hm_; exact absurd hm_ (Nat.not_lt_zero _)
          | succ n_ ih_ =>
            intro wo hm_ h2
            obtain ⟨hw1, hw2, hw3, hwo⟩ := h2
            have hw8 : wo / 8 = bk := by omega
            refine g_iload 0 C dX6_placeOfOne_46 rfl ?_
            refine g_iconst (v := nI 1) C dX6_placeOfOne_48 (by decide) ?_
            refine g_iadd C dX6_placeOfOne_49 ?_
            refine g_topi (nI_add _ _ : _ = nI (wo + 1)) ?_
            refine g_aload_n 3 0 C dX6_placeOfOne_50 rfl rfl ?_
            refine gr_rw_tb C dX6_placeOfOne_51 k_a wF_X6_33 ru_a ?_
            refine gl_tb_a C dX6_placeOfOne_54 k_u ?_
            refine g_topi (congrArg nI l_u) ?_
            refine g_ncmp_ge 91 (by omega) (by omega) C dX6_placeOfOne_55 (by decide) (fun c55 => ?_) (fun c55 => ?_)
            · have hw7 : onesN b (512 * (wo / 8)) = onesN b (512 * bk) := by rw [hw8]
              have hmw2 := ones_mono b (show 512 * (wo / 8) ≤ 64 * wo by omega)
              have hb8 := ones_lt b01 (64 * wo)
              refine g_iload_n 1 3 C dX6_placeOfOne_91 rfl rfl ?_
              refine g_aload_n 3 0 C dX6_placeOfOne_92 rfl rfl ?_
              refine gr_rw_tb C dX6_placeOfOne_93 k_a wF_X6_33 ru_a ?_
              refine g_iload 0 C dX6_placeOfOne_96 rfl ?_
              refine ga_tb_a C dX6_placeOfOne_98 k_u (by omega) (by omega) ?_
              refine g_topi (tB _ (by omega)) ?_
              refine g_isub C dX6_placeOfOne_99 ?_
              refine g_topi (pk_sub (by omega) : _ = nI (k - onesN b (512 * bk) - (onesN b (64 * wo) - onesN b (512 * (wo / 8))))) ?_
              refine g_istore_n (lv' := [(3, .int (nI (k - onesN b (512 * bk) - (onesN b (64 * wo) - onesN b (512 * (wo / 8)))))), (4, .int (nI wo)), (2, .int (nI bk)), (0, .ref a), (1, .int (nI k))]) C dX6_placeOfOne_100 rfl (by decide) rfl ?_
              refine g_iload 1 C dX6_placeOfOne_101 rfl ?_
              refine g_bipush (v := nI 64) C dX6_placeOfOne_103 (by decide) ?_
              refine g_imul C dX6_placeOfOne_105 ?_
              refine g_topi (pk_mul _ _ : _ = nI (wo * 64)) ?_
              refine g_istore (lv' := [(5, .int (nI (wo * 64))), (3, .int (nI (k - onesN b (512 * bk) - (onesN b (64 * wo) - onesN b (512 * (wo / 8)))))), (4, .int (nI wo)), (2, .int (nI bk)), (0, .ref a), (1, .int (nI k))]) C dX6_placeOfOne_106 (by decide) rfl ?_
              have lp3 : ∀ (n_ : Nat) (i : Nat), b.length - i < n_ → (i ≤ b.length ∧ onesN b i ≤ k) → Go X G (Qe X G (fun r S' => r = some (.int (nI (selN b k))) ∧ S = S') rm_X6_placeOfOne.cells rm_X6_placeOfOne.slots) 6 0 0 S 108 [(5, .int (nI i)), (3, .int (nI (k - onesN b i))), (4, .int (nI wo)), (2, .int (nI bk)), (0, .ref a), (1, .int (nI k))] [] := by
                intro n_
                induction n_ with
                | zero => intro i hm_; exact absurd hm_ (Nat.not_lt_zero _)
                | succ n_ ih_ =>
                  intro i hm_ h3
                  have hi3 := h3.1
                  have hi4 := h3.2
                  refine g_iload 0 C dX6_placeOfOne_108 rfl ?_
                  refine g_aload_n 4 0 C dX6_placeOfOne_110 rfl rfl ?_
                  refine gf_rw_bits C dX6_placeOfOne_111 k_a wF_X6_22 ?_
                  refine g_topi (rb_a) ?_
                  refine g_ncmp_ge 139 (by omega) (by omega) C dX6_placeOfOne_114 (by decide) (fun c114 => ?_) (fun c114 => ?_)
                  · exfalso
                    have := ones_mono b (show b.length ≤ i by omega)
                    omega
                  · refine g_iload_n 1 3 C dX6_placeOfOne_117 rfl rfl ?_
                    refine g_aload_n 4 0 C dX6_placeOfOne_118 rfl rfl ?_
                    refine g_iload 0 C dX6_placeOfOne_119 rfl ?_
                    refine g_callV (As := [.int (nI i)]) (rest := [.int (nI (k - onesN b i))]) C dX6_placeOfOne_121 (c_R_bitAt hr' (by omega)) wC_X6_bitAt wM_X6_40 wI_X6_bitAt wS_X6_bitAt wN_X6 (kne k_a) (pf_7 k_a) rfl hd_X6_bitAt ⟨by decide, by decide, by decide, by decide⟩ (Nat.le_of_ble_eq_true rfl) (fun r_ S_ h_ => ?_)
                    obtain ⟨rfl, rfl⟩ := h_
                    change Go X G _ 6 _ _ S 124 [(5, .int (nI i)), (3, .int (nI (k - onesN b i))), (4, .int (nI wo)), (2, .int (nI bk)), (0, .ref a), (1, .int (nI k))] [.int (nI (b.getD i 0)), .int (nI (k - onesN b i))]
                    have hbi := b01 i
                    refine g_isub C dX6_placeOfOne_124 ?_
                    refine g_istore_n (lv' := [(3, .int (nI (k - onesN b i) - nI (b.getD i 0))), (5, .int (nI i)), (4, .int (nI wo)), (2, .int (nI bk)), (0, .ref a), (1, .int (nI k))]) C dX6_placeOfOne_125 rfl (by decide) rfl ?_
                    refine g_iload_n 0 3 C dX6_placeOfOne_126 rfl rfl ?_
                    refine g_if_ge 133 C dX6_placeOfOne_127 (by decide) (fun c127 => ?_) (fun c127 => ?_)
                    · have hge : b.getD i 0 ≤ k - onesN b i := (sub_ge (by omega) (by omega)).mp c127
                      rw [show nI (k - onesN b i) - nI (b.getD i 0) = nI (k - onesN b (i + 1)) from by rw [pk_sub hge, ones_s]; congr 1; omega]
                      refine g_iinc (v := nI (i + 1)) (lv' := [(5, .int (nI (i + 1))), (3, .int (nI (k - onesN b (i + 1)))), (4, .int (nI wo)), (2, .int (nI bk)), (0, .ref a), (1, .int (nI k))]) 1 C dX6_placeOfOne_133 rfl (nI_add _ 1) (by decide) rfl ?_
                      refine g_goto 108 C dX6_placeOfOne_136 (by decide) ?_
                      exact ih_ (i + 1) (by omega) ⟨by omega, by rw [ones_s]; omega⟩
                    · have hlt9 : ¬ b.getD i 0 ≤ k - onesN b i := fun z => c127 ((sub_ge (by omega) (by omega)).mpr z)
                      have e : selN b k = i := selN_eq (by omega) (by omega) (by omega) (fun q hq z => by have := ones_mono b (show q + 1 ≤ i by omega); rw [ones_s] at this; omega)
                      refine g_iload 1 C dX6_placeOfOne_130 rfl ?_
                      exact g_iret C dX6_placeOfOne_132 (by decide) (by decide) (⟨by rw [e], rfl⟩)
              rw [show k - onesN b (512 * bk) - (onesN b (64 * wo) - onesN b (512 * (wo / 8))) = k - onesN b (wo * 64) from by rw [hw8, Nat.mul_comm wo 64]; omega]
              exact lp3 (b.length + 1) (wo * 64) (by omega) ⟨by omega, by rw [Nat.mul_comm wo 64]; exact hwo⟩
            · refine g_iload 0 C dX6_placeOfOne_58 rfl ?_
              refine g_iconst (v := nI 1) C dX6_placeOfOne_60 (by decide) ?_
              refine g_iadd C dX6_placeOfOne_61 ?_
              refine g_topi (nI_add _ _ : _ = nI (wo + 1)) ?_
              refine g_iload_n 2 2 C dX6_placeOfOne_62 rfl rfl ?_
              refine g_bipush (v := nI 8) C dX6_placeOfOne_63 (by decide) ?_
              refine g_imul C dX6_placeOfOne_65 ?_
              refine g_topi (pk_mul _ _ : _ = nI (bk * 8)) ?_
              refine g_bipush (v := nI 8) C dX6_placeOfOne_66 (by decide) ?_
              refine g_iadd C dX6_placeOfOne_68 ?_
              refine g_topi (nI_add _ _ : _ = nI (bk * 8 + 8)) ?_
              refine g_ncmp_ge 91 (by omega) (by omega) C dX6_placeOfOne_69 (by decide) (fun c69 => ?_) (fun c69 => ?_)
              · have hw7 : onesN b (512 * (wo / 8)) = onesN b (512 * bk) := by rw [hw8]
                have hmw2 := ones_mono b (show 512 * (wo / 8) ≤ 64 * wo by omega)
                have hb8 := ones_lt b01 (64 * wo)
                refine g_iload_n 1 3 C dX6_placeOfOne_91 rfl rfl ?_
                refine g_aload_n 3 0 C dX6_placeOfOne_92 rfl rfl ?_
                refine gr_rw_tb C dX6_placeOfOne_93 k_a wF_X6_33 ru_a ?_
                refine g_iload 0 C dX6_placeOfOne_96 rfl ?_
                refine ga_tb_a C dX6_placeOfOne_98 k_u (by omega) (by omega) ?_
                refine g_topi (tB _ (by omega)) ?_
                refine g_isub C dX6_placeOfOne_99 ?_
                refine g_topi (pk_sub (by omega) : _ = nI (k - onesN b (512 * bk) - (onesN b (64 * wo) - onesN b (512 * (wo / 8))))) ?_
                refine g_istore_n (lv' := [(3, .int (nI (k - onesN b (512 * bk) - (onesN b (64 * wo) - onesN b (512 * (wo / 8)))))), (4, .int (nI wo)), (2, .int (nI bk)), (0, .ref a), (1, .int (nI k))]) C dX6_placeOfOne_100 rfl (by decide) rfl ?_
                refine g_iload 1 C dX6_placeOfOne_101 rfl ?_
                refine g_bipush (v := nI 64) C dX6_placeOfOne_103 (by decide) ?_
                refine g_imul C dX6_placeOfOne_105 ?_
                refine g_topi (pk_mul _ _ : _ = nI (wo * 64)) ?_
                refine g_istore (lv' := [(5, .int (nI (wo * 64))), (3, .int (nI (k - onesN b (512 * bk) - (onesN b (64 * wo) - onesN b (512 * (wo / 8)))))), (4, .int (nI wo)), (2, .int (nI bk)), (0, .ref a), (1, .int (nI k))]) C dX6_placeOfOne_106 (by decide) rfl ?_
                have lp3 : ∀ (n_ : Nat) (i : Nat), b.length - i < n_ → (i ≤ b.length ∧ onesN b i ≤ k) → Go X G (Qe X G (fun r S' => r = some (.int (nI (selN b k))) ∧ S = S') rm_X6_placeOfOne.cells rm_X6_placeOfOne.slots) 6 0 0 S 108 [(5, .int (nI i)), (3, .int (nI (k - onesN b i))), (4, .int (nI wo)), (2, .int (nI bk)), (0, .ref a), (1, .int (nI k))] [] := by
                  intro n_
                  induction n_ with
                  | zero => intro i hm_; exact absurd hm_ (Nat.not_lt_zero _)
                  | succ n_ ih_ =>
                    intro i hm_ h3
                    have hi3 := h3.1
                    have hi4 := h3.2
                    refine g_iload 0 C dX6_placeOfOne_108 rfl ?_
                    refine g_aload_n 4 0 C dX6_placeOfOne_110 rfl rfl ?_
                    refine gf_rw_bits C dX6_placeOfOne_111 k_a wF_X6_22 ?_
                    refine g_topi (rb_a) ?_
                    refine g_ncmp_ge 139 (by omega) (by omega) C dX6_placeOfOne_114 (by decide) (fun c114 => ?_) (fun c114 => ?_)
                    · exfalso
                      have := ones_mono b (show b.length ≤ i by omega)
                      omega
                    · refine g_iload_n 1 3 C dX6_placeOfOne_117 rfl rfl ?_
                      refine g_aload_n 4 0 C dX6_placeOfOne_118 rfl rfl ?_
                      refine g_iload 0 C dX6_placeOfOne_119 rfl ?_
                      refine g_callV (As := [.int (nI i)]) (rest := [.int (nI (k - onesN b i))]) C dX6_placeOfOne_121 (c_R_bitAt hr' (by omega)) wC_X6_bitAt wM_X6_40 wI_X6_bitAt wS_X6_bitAt wN_X6 (kne k_a) (pf_7 k_a) rfl hd_X6_bitAt ⟨by decide, by decide, by decide, by decide⟩ (Nat.le_of_ble_eq_true rfl) (fun r_ S_ h_ => ?_)
                      obtain ⟨rfl, rfl⟩ := h_
                      change Go X G _ 6 _ _ S 124 [(5, .int (nI i)), (3, .int (nI (k - onesN b i))), (4, .int (nI wo)), (2, .int (nI bk)), (0, .ref a), (1, .int (nI k))] [.int (nI (b.getD i 0)), .int (nI (k - onesN b i))]
                      have hbi := b01 i
                      refine g_isub C dX6_placeOfOne_124 ?_
                      refine g_istore_n (lv' := [(3, .int (nI (k - onesN b i) - nI (b.getD i 0))), (5, .int (nI i)), (4, .int (nI wo)), (2, .int (nI bk)), (0, .ref a), (1, .int (nI k))]) C dX6_placeOfOne_125 rfl (by decide) rfl ?_
                      refine g_iload_n 0 3 C dX6_placeOfOne_126 rfl rfl ?_
                      refine g_if_ge 133 C dX6_placeOfOne_127 (by decide) (fun c127 => ?_) (fun c127 => ?_)
                      · have hge : b.getD i 0 ≤ k - onesN b i := (sub_ge (by omega) (by omega)).mp c127
                        rw [show nI (k - onesN b i) - nI (b.getD i 0) = nI (k - onesN b (i + 1)) from by rw [pk_sub hge, ones_s]; congr 1; omega]
                        refine g_iinc (v := nI (i + 1)) (lv' := [(5, .int (nI (i + 1))), (3, .int (nI (k - onesN b (i + 1)))), (4, .int (nI wo)), (2, .int (nI bk)), (0, .ref a), (1, .int (nI k))]) 1 C dX6_placeOfOne_133 rfl (nI_add _ 1) (by decide) rfl ?_
                        refine g_goto 108 C dX6_placeOfOne_136 (by decide) ?_
                        exact ih_ (i + 1) (by omega) ⟨by omega, by rw [ones_s]; omega⟩
                      · have hlt9 : ¬ b.getD i 0 ≤ k - onesN b i := fun z => c127 ((sub_ge (by omega) (by omega)).mpr z)
                        have e : selN b k = i := selN_eq (by omega) (by omega) (by omega) (fun q hq z => by have := ones_mono b (show q + 1 ≤ i by omega); rw [ones_s] at this; omega)
                        refine g_iload 1 C dX6_placeOfOne_130 rfl ?_
                        exact g_iret C dX6_placeOfOne_132 (by decide) (by decide) (⟨by rw [e], rfl⟩)
                rw [show k - onesN b (512 * bk) - (onesN b (64 * wo) - onesN b (512 * (wo / 8))) = k - onesN b (wo * 64) from by rw [hw8, Nat.mul_comm wo 64]; omega]
                exact lp3 (b.length + 1) (wo * 64) (by omega) ⟨by omega, by rw [Nat.mul_comm wo 64]; exact hwo⟩
              · have hw9 : (wo + 1) / 8 = bk := by omega
                have hb9 := ones_lt b01 (64 * (wo + 1))
                refine g_aload_n 3 0 C dX6_placeOfOne_72 rfl rfl ?_
                refine gr_rw_tb C dX6_placeOfOne_73 k_a wF_X6_33 ru_a ?_
                refine g_iload 0 C dX6_placeOfOne_76 rfl ?_
                refine g_iconst (v := nI 1) C dX6_placeOfOne_78 (by decide) ?_
                refine g_iadd C dX6_placeOfOne_79 ?_
                refine g_topi (nI_add _ _ : _ = nI (wo + 1)) ?_
                refine ga_tb_a C dX6_placeOfOne_80 k_u (by omega) (by omega) ?_
                refine g_topi (tB _ (by omega)) ?_
                refine g_iload_n 1 3 C dX6_placeOfOne_81 rfl rfl ?_
                refine g_ncmp_gt 91 (by omega) (by omega) C dX6_placeOfOne_82 (by decide) (fun c82 => ?_) (fun c82 => ?_)
                · have hw7 : onesN b (512 * (wo / 8)) = onesN b (512 * bk) := by rw [hw8]
                  have hmw2 := ones_mono b (show 512 * (wo / 8) ≤ 64 * wo by omega)
                  have hb8 := ones_lt b01 (64 * wo)
                  refine g_iload_n 1 3 C dX6_placeOfOne_91 rfl rfl ?_
                  refine g_aload_n 3 0 C dX6_placeOfOne_92 rfl rfl ?_
                  refine gr_rw_tb C dX6_placeOfOne_93 k_a wF_X6_33 ru_a ?_
                  refine g_iload 0 C dX6_placeOfOne_96 rfl ?_
                  refine ga_tb_a C dX6_placeOfOne_98 k_u (by omega) (by omega) ?_
                  refine g_topi (tB _ (by omega)) ?_
                  refine g_isub C dX6_placeOfOne_99 ?_
                  refine g_topi (pk_sub (by omega) : _ = nI (k - onesN b (512 * bk) - (onesN b (64 * wo) - onesN b (512 * (wo / 8))))) ?_
                  refine g_istore_n (lv' := [(3, .int (nI (k - onesN b (512 * bk) - (onesN b (64 * wo) - onesN b (512 * (wo / 8)))))), (4, .int (nI wo)), (2, .int (nI bk)), (0, .ref a), (1, .int (nI k))]) C dX6_placeOfOne_100 rfl (by decide) rfl ?_
                  refine g_iload 1 C dX6_placeOfOne_101 rfl ?_
                  refine g_bipush (v := nI 64) C dX6_placeOfOne_103 (by decide) ?_
                  refine g_imul C dX6_placeOfOne_105 ?_
                  refine g_topi (pk_mul _ _ : _ = nI (wo * 64)) ?_
                  refine g_istore (lv' := [(5, .int (nI (wo * 64))), (3, .int (nI (k - onesN b (512 * bk) - (onesN b (64 * wo) - onesN b (512 * (wo / 8)))))), (4, .int (nI wo)), (2, .int (nI bk)), (0, .ref a), (1, .int (nI k))]) C dX6_placeOfOne_106 (by decide) rfl ?_
                  have lp3 : ∀ (n_ : Nat) (i : Nat), b.length - i < n_ → (i ≤ b.length ∧ onesN b i ≤ k) → Go X G (Qe X G (fun r S' => r = some (.int (nI (selN b k))) ∧ S = S') rm_X6_placeOfOne.cells rm_X6_placeOfOne.slots) 6 0 0 S 108 [(5, .int (nI i)), (3, .int (nI (k - onesN b i))), (4, .int (nI wo)), (2, .int (nI bk)), (0, .ref a), (1, .int (nI k))] [] := by
                    intro n_
                    induction n_ with
                    | zero => intro i hm_; exact absurd hm_ (Nat.not_lt_zero _)
                    | succ n_ ih_ =>
                      intro i hm_ h3
                      have hi3 := h3.1
                      have hi4 := h3.2
                      refine g_iload 0 C dX6_placeOfOne_108 rfl ?_
                      refine g_aload_n 4 0 C dX6_placeOfOne_110 rfl rfl ?_
                      refine gf_rw_bits C dX6_placeOfOne_111 k_a wF_X6_22 ?_
                      refine g_topi (rb_a) ?_
                      refine g_ncmp_ge 139 (by omega) (by omega) C dX6_placeOfOne_114 (by decide) (fun c114 => ?_) (fun c114 => ?_)
                      · exfalso
                        have := ones_mono b (show b.length ≤ i by omega)
                        omega
                      · refine g_iload_n 1 3 C dX6_placeOfOne_117 rfl rfl ?_
                        refine g_aload_n 4 0 C dX6_placeOfOne_118 rfl rfl ?_
                        refine g_iload 0 C dX6_placeOfOne_119 rfl ?_
                        refine g_callV (As := [.int (nI i)]) (rest := [.int (nI (k - onesN b i))]) C dX6_placeOfOne_121 (c_R_bitAt hr' (by omega)) wC_X6_bitAt wM_X6_40 wI_X6_bitAt wS_X6_bitAt wN_X6 (kne k_a) (pf_7 k_a) rfl hd_X6_bitAt ⟨by decide, by decide, by decide, by decide⟩ (Nat.le_of_ble_eq_true rfl) (fun r_ S_ h_ => ?_)
                        obtain ⟨rfl, rfl⟩ := h_
                        change Go X G _ 6 _ _ S 124 [(5, .int (nI i)), (3, .int (nI (k - onesN b i))), (4, .int (nI wo)), (2, .int (nI bk)), (0, .ref a), (1, .int (nI k))] [.int (nI (b.getD i 0)), .int (nI (k - onesN b i))]
                        have hbi := b01 i
                        refine g_isub C dX6_placeOfOne_124 ?_
                        refine g_istore_n (lv' := [(3, .int (nI (k - onesN b i) - nI (b.getD i 0))), (5, .int (nI i)), (4, .int (nI wo)), (2, .int (nI bk)), (0, .ref a), (1, .int (nI k))]) C dX6_placeOfOne_125 rfl (by decide) rfl ?_
                        refine g_iload_n 0 3 C dX6_placeOfOne_126 rfl rfl ?_
                        refine g_if_ge 133 C dX6_placeOfOne_127 (by decide) (fun c127 => ?_) (fun c127 => ?_)
                        · have hge : b.getD i 0 ≤ k - onesN b i := (sub_ge (by omega) (by omega)).mp c127
                          rw [show nI (k - onesN b i) - nI (b.getD i 0) = nI (k - onesN b (i + 1)) from by rw [pk_sub hge, ones_s]; congr 1; omega]
                          refine g_iinc (v := nI (i + 1)) (lv' := [(5, .int (nI (i + 1))), (3, .int (nI (k - onesN b (i + 1)))), (4, .int (nI wo)), (2, .int (nI bk)), (0, .ref a), (1, .int (nI k))]) 1 C dX6_placeOfOne_133 rfl (nI_add _ 1) (by decide) rfl ?_
                          refine g_goto 108 C dX6_placeOfOne_136 (by decide) ?_
                          exact ih_ (i + 1) (by omega) ⟨by omega, by rw [ones_s]; omega⟩
                        · have hlt9 : ¬ b.getD i 0 ≤ k - onesN b i := fun z => c127 ((sub_ge (by omega) (by omega)).mpr z)
                          have e : selN b k = i := selN_eq (by omega) (by omega) (by omega) (fun q hq z => by have := ones_mono b (show q + 1 ≤ i by omega); rw [ones_s] at this; omega)
                          refine g_iload 1 C dX6_placeOfOne_130 rfl ?_
                          exact g_iret C dX6_placeOfOne_132 (by decide) (by decide) (⟨by rw [e], rfl⟩)
                  rw [show k - onesN b (512 * bk) - (onesN b (64 * wo) - onesN b (512 * (wo / 8))) = k - onesN b (wo * 64) from by rw [hw8, Nat.mul_comm wo 64]; omega]
                  exact lp3 (b.length + 1) (wo * 64) (by omega) ⟨by omega, by rw [Nat.mul_comm wo 64]; exact hwo⟩
                · rw [hw9] at c82
                  have hmw := ones_mono b (show 512 * bk ≤ 64 * (wo + 1) by omega)
                  refine g_iinc (v := nI (wo + 1)) (lv' := [(4, .int (nI (wo + 1))), (3, .int (nI (k - onesN b (512 * bk)))), (2, .int (nI bk)), (0, .ref a), (1, .int (nI k))]) 0 C dX6_placeOfOne_85 rfl (nI_add _ 1) (by decide) rfl ?_
                  refine g_goto 46 C dX6_placeOfOne_88 (by decide) ?_
                  exact ih_ (wo + 1) (by omega) ⟨by omega, by omega, by omega, by omega⟩
        exact lp2 (b.length / 64 + 2) (bk * 8) (by omega) ⟨Nat.le_refl _, by omega, by omega, by rw [show 64 * (bk * 8) = 512 * bk by omega]; exact h1.2⟩
      · have hb9 := ones_lt b01 (512 * (bk + 1))
        refine g_aload_n 1 0 C dX6_placeOfOne_13 rfl rfl ?_
        refine gr_rw_ta C dX6_placeOfOne_14 k_a wF_X6_29 rt_a ?_
        refine g_iload_n 0 2 C dX6_placeOfOne_17 rfl rfl ?_
        refine g_iconst (v := nI 1) C dX6_placeOfOne_18 (by decide) ?_
        refine g_iadd C dX6_placeOfOne_19 ?_
        refine g_topi (nI_add _ _ : _ = nI (bk + 1)) ?_
        refine ga_ta_a C dX6_placeOfOne_20 k_t (by omega) (by omega) ?_
        refine g_topi (tA _ (by omega)) ?_
        refine g_iload_n 2 1 C dX6_placeOfOne_21 rfl rfl ?_
        refine g_ncmp_gt 31 (by omega) (by omega) C dX6_placeOfOne_22 (by decide) (fun c22 => ?_) (fun c22 => ?_)
        · have hb7 := ones_lt b01 (512 * bk)
          refine g_iload_n 2 1 C dX6_placeOfOne_31 rfl rfl ?_
          refine g_aload_n 1 0 C dX6_placeOfOne_32 rfl rfl ?_
          refine gr_rw_ta C dX6_placeOfOne_33 k_a wF_X6_29 rt_a ?_
          refine g_iload_n 0 2 C dX6_placeOfOne_36 rfl rfl ?_
          refine ga_ta_a C dX6_placeOfOne_37 k_t (by omega) (by omega) ?_
          refine g_topi (tA _ (by omega)) ?_
          refine g_isub C dX6_placeOfOne_38 ?_
          refine g_topi (pk_sub (by omega) : _ = nI (k - (onesN b (512 * bk)))) ?_
          refine g_istore_n (lv' := [(3, .int (nI (k - (onesN b (512 * bk))))), (2, .int (nI bk)), (0, .ref a), (1, .int (nI k))]) C dX6_placeOfOne_39 rfl (by decide) rfl ?_
          refine g_iload_n 1 2 C dX6_placeOfOne_40 rfl rfl ?_
          refine g_bipush (v := nI 8) C dX6_placeOfOne_41 (by decide) ?_
          refine g_imul C dX6_placeOfOne_43 ?_
          refine g_topi (pk_mul _ _ : _ = nI (bk * 8)) ?_
          refine g_istore (lv' := [(4, .int (nI (bk * 8))), (3, .int (nI (k - (onesN b (512 * bk))))), (2, .int (nI bk)), (0, .ref a), (1, .int (nI k))]) C dX6_placeOfOne_44 (by decide) rfl ?_
          have lp2 : ∀ (n_ : Nat) (wo : Nat), b.length / 64 + 1 - wo < n_ → (bk * 8 ≤ wo ∧ wo < bk * 8 + 8 ∧ wo ≤ b.length / 64 ∧ onesN b (64 * wo) ≤ k) → Go X G (Qe X G (fun r S' => r = some (.int (nI (selN b k))) ∧ S = S') rm_X6_placeOfOne.cells rm_X6_placeOfOne.slots) 6 0 0 S 46 [(4, .int (nI wo)), (3, .int (nI (k - onesN b (512 * bk)))), (2, .int (nI bk)), (0, .ref a), (1, .int (nI k))] [] := by
            intro n_
            induction n_ with
            | zero => intro wo hm_; exact absurd hm_ (Nat.not_lt_zero _)
            | succ n_ ih_ =>
              intro wo hm_ h2
              obtain ⟨hw1, hw2, hw3, hwo⟩ := h2
              have hw8 : wo / 8 = bk := by omega
              refine g_iload 0 C dX6_placeOfOne_46 rfl ?_
              refine g_iconst (v := nI 1) C dX6_placeOfOne_48 (by decide) ?_
              refine g_iadd C dX6_placeOfOne_49 ?_
              refine g_topi (nI_add _ _ : _ = nI (wo + 1)) ?_
              refine g_aload_n 3 0 C dX6_placeOfOne_50 rfl rfl ?_
              refine gr_rw_tb C dX6_placeOfOne_51 k_a wF_X6_33 ru_a ?_
              refine gl_tb_a C dX6_placeOfOne_54 k_u ?_
              refine g_topi (congrArg nI l_u) ?_
              refine g_ncmp_ge 91 (by omega) (by omega) C dX6_placeOfOne_55 (by decide) (fun c55 => ?_) (fun c55 => ?_)
              · have hw7 : onesN b (512 * (wo / 8)) = onesN b (512 * bk) := by rw [hw8]
                have hmw2 := ones_mono b (show 512 * (wo / 8) ≤ 64 * wo by omega)
                have hb8 := ones_lt b01 (64 * wo)
                refine g_iload_n 1 3 C dX6_placeOfOne_91 rfl rfl ?_
                refine g_aload_n 3 0 C dX6_placeOfOne_92 rfl rfl ?_
                refine gr_rw_tb C dX6_placeOfOne_93 k_a wF_X6_33 ru_a ?_
                refine g_iload 0 C dX6_placeOfOne_96 rfl ?_
                refine ga_tb_a C dX6_placeOfOne_98 k_u (by omega) (by omega) ?_
                refine g_topi (tB _ (by omega)) ?_
                refine g_isub C dX6_placeOfOne_99 ?_
                refine g_topi (pk_sub (by omega) : _ = nI (k - onesN b (512 * bk) - (onesN b (64 * wo) - onesN b (512 * (wo / 8))))) ?_
                refine g_istore_n (lv' := [(3, .int (nI (k - onesN b (512 * bk) - (onesN b (64 * wo) - onesN b (512 * (wo / 8)))))), (4, .int (nI wo)), (2, .int (nI bk)), (0, .ref a), (1, .int (nI k))]) C dX6_placeOfOne_100 rfl (by decide) rfl ?_
                refine g_iload 1 C dX6_placeOfOne_101 rfl ?_
                refine g_bipush (v := nI 64) C dX6_placeOfOne_103 (by decide) ?_
                refine g_imul C dX6_placeOfOne_105 ?_
                refine g_topi (pk_mul _ _ : _ = nI (wo * 64)) ?_
                refine g_istore (lv' := [(5, .int (nI (wo * 64))), (3, .int (nI (k - onesN b (512 * bk) - (onesN b (64 * wo) - onesN b (512 * (wo / 8)))))), (4, .int (nI wo)), (2, .int (nI bk)), (0, .ref a), (1, .int (nI k))]) C dX6_placeOfOne_106 (by decide) rfl ?_
                have lp3 : ∀ (n_ : Nat) (i : Nat), b.length - i < n_ → (i ≤ b.length ∧ onesN b i ≤ k) → Go X G (Qe X G (fun r S' => r = some (.int (nI (selN b k))) ∧ S = S') rm_X6_placeOfOne.cells rm_X6_placeOfOne.slots) 6 0 0 S 108 [(5, .int (nI i)), (3, .int (nI (k - onesN b i))), (4, .int (nI wo)), (2, .int (nI bk)), (0, .ref a), (1, .int (nI k))] [] := by
                  intro n_
                  induction n_ with
                  | zero => intro i hm_; exact absurd hm_ (Nat.not_lt_zero _)
                  | succ n_ ih_ =>
                    intro i hm_ h3
                    have hi3 := h3.1
                    have hi4 := h3.2
                    refine g_iload 0 C dX6_placeOfOne_108 rfl ?_
                    refine g_aload_n 4 0 C dX6_placeOfOne_110 rfl rfl ?_
                    refine gf_rw_bits C dX6_placeOfOne_111 k_a wF_X6_22 ?_
                    refine g_topi (rb_a) ?_
                    refine g_ncmp_ge 139 (by omega) (by omega) C dX6_placeOfOne_114 (by decide) (fun c114 => ?_) (fun c114 => ?_)
                    · exfalso
                      have := ones_mono b (show b.length ≤ i by omega)
                      omega
                    · refine g_iload_n 1 3 C dX6_placeOfOne_117 rfl rfl ?_
                      refine g_aload_n 4 0 C dX6_placeOfOne_118 rfl rfl ?_
                      refine g_iload 0 C dX6_placeOfOne_119 rfl ?_
                      refine g_callV (As := [.int (nI i)]) (rest := [.int (nI (k - onesN b i))]) C dX6_placeOfOne_121 (c_R_bitAt hr' (by omega)) wC_X6_bitAt wM_X6_40 wI_X6_bitAt wS_X6_bitAt wN_X6 (kne k_a) (pf_7 k_a) rfl hd_X6_bitAt ⟨by decide, by decide, by decide, by decide⟩ (Nat.le_of_ble_eq_true rfl) (fun r_ S_ h_ => ?_)
                      obtain ⟨rfl, rfl⟩ := h_
                      change Go X G _ 6 _ _ S 124 [(5, .int (nI i)), (3, .int (nI (k - onesN b i))), (4, .int (nI wo)), (2, .int (nI bk)), (0, .ref a), (1, .int (nI k))] [.int (nI (b.getD i 0)), .int (nI (k - onesN b i))]
                      have hbi := b01 i
                      refine g_isub C dX6_placeOfOne_124 ?_
                      refine g_istore_n (lv' := [(3, .int (nI (k - onesN b i) - nI (b.getD i 0))), (5, .int (nI i)), (4, .int (nI wo)), (2, .int (nI bk)), (0, .ref a), (1, .int (nI k))]) C dX6_placeOfOne_125 rfl (by decide) rfl ?_
                      refine g_iload_n 0 3 C dX6_placeOfOne_126 rfl rfl ?_
                      refine g_if_ge 133 C dX6_placeOfOne_127 (by decide) (fun c127 => ?_) (fun c127 => ?_)
                      · have hge : b.getD i 0 ≤ k - onesN b i := (sub_ge (by omega) (by omega)).mp c127
                        rw [show nI (k - onesN b i) - nI (b.getD i 0) = nI (k - onesN b (i + 1)) from by rw [pk_sub hge, ones_s]; congr 1; omega]
                        refine g_iinc (v := nI (i + 1)) (lv' := [(5, .int (nI (i + 1))), (3, .int (nI (k - onesN b (i + 1)))), (4, .int (nI wo)), (2, .int (nI bk)), (0, .ref a), (1, .int (nI k))]) 1 C dX6_placeOfOne_133 rfl (nI_add _ 1) (by decide) rfl ?_
                        refine g_goto 108 C dX6_placeOfOne_136 (by decide) ?_
                        exact ih_ (i + 1) (by omega) ⟨by omega, by rw [ones_s]; omega⟩
                      · have hlt9 : ¬ b.getD i 0 ≤ k - onesN b i := fun z => c127 ((sub_ge (by omega) (by omega)).mpr z)
                        have e : selN b k = i := selN_eq (by omega) (by omega) (by omega) (fun q hq z => by have := ones_mono b (show q + 1 ≤ i by omega); rw [ones_s] at this; omega)
                        refine g_iload 1 C dX6_placeOfOne_130 rfl ?_
                        exact g_iret C dX6_placeOfOne_132 (by decide) (by decide) (⟨by rw [e], rfl⟩)
                rw [show k - onesN b (512 * bk) - (onesN b (64 * wo) - onesN b (512 * (wo / 8))) = k - onesN b (wo * 64) from by rw [hw8, Nat.mul_comm wo 64]; omega]
                exact lp3 (b.length + 1) (wo * 64) (by omega) ⟨by omega, by rw [Nat.mul_comm wo 64]; exact hwo⟩
              · refine g_iload 0 C dX6_placeOfOne_58 rfl ?_
                refine g_iconst (v := nI 1) C dX6_placeOfOne_60 (by decide) ?_
                refine g_iadd C dX6_placeOfOne_61 ?_
                refine g_topi (nI_add _ _ : _ = nI (wo + 1)) ?_
                refine g_iload_n 2 2 C dX6_placeOfOne_62 rfl rfl ?_
                refine g_bipush (v := nI 8) C dX6_placeOfOne_63 (by decide) ?_
                refine g_imul C dX6_placeOfOne_65 ?_
                refine g_topi (pk_mul _ _ : _ = nI (bk * 8)) ?_
                refine g_bipush (v := nI 8) C dX6_placeOfOne_66 (by decide) ?_
                refine g_iadd C dX6_placeOfOne_68 ?_
                refine g_topi (nI_add _ _ : _ = nI (bk * 8 + 8)) ?_
                refine g_ncmp_ge 91 (by omega) (by omega) C dX6_placeOfOne_69 (by decide) (fun c69 => ?_) (fun c69 => ?_)
                · have hw7 : onesN b (512 * (wo / 8)) = onesN b (512 * bk) := by rw [hw8]
                  have hmw2 := ones_mono b (show 512 * (wo / 8) ≤ 64 * wo by omega)
                  have hb8 := ones_lt b01 (64 * wo)
                  refine g_iload_n 1 3 C dX6_placeOfOne_91 rfl rfl ?_
                  refine g_aload_n 3 0 C dX6_placeOfOne_92 rfl rfl ?_
                  refine gr_rw_tb C dX6_placeOfOne_93 k_a wF_X6_33 ru_a ?_
                  refine g_iload 0 C dX6_placeOfOne_96 rfl ?_
                  refine ga_tb_a C dX6_placeOfOne_98 k_u (by omega) (by omega) ?_
                  refine g_topi (tB _ (by omega)) ?_
                  refine g_isub C dX6_placeOfOne_99 ?_
                  refine g_topi (pk_sub (by omega) : _ = nI (k - onesN b (512 * bk) - (onesN b (64 * wo) - onesN b (512 * (wo / 8))))) ?_
                  refine g_istore_n (lv' := [(3, .int (nI (k - onesN b (512 * bk) - (onesN b (64 * wo) - onesN b (512 * (wo / 8)))))), (4, .int (nI wo)), (2, .int (nI bk)), (0, .ref a), (1, .int (nI k))]) C dX6_placeOfOne_100 rfl (by decide) rfl ?_
                  refine g_iload 1 C dX6_placeOfOne_101 rfl ?_
                  refine g_bipush (v := nI 64) C dX6_placeOfOne_103 (by decide) ?_
                  refine g_imul C dX6_placeOfOne_105 ?_
                  refine g_topi (pk_mul _ _ : _ = nI (wo * 64)) ?_
                  refine g_istore (lv' := [(5, .int (nI (wo * 64))), (3, .int (nI (k - onesN b (512 * bk) - (onesN b (64 * wo) - onesN b (512 * (wo / 8)))))), (4, .int (nI wo)), (2, .int (nI bk)), (0, .ref a), (1, .int (nI k))]) C dX6_placeOfOne_106 (by decide) rfl ?_
                  have lp3 : ∀ (n_ : Nat) (i : Nat), b.length - i < n_ → (i ≤ b.length ∧ onesN b i ≤ k) → Go X G (Qe X G (fun r S' => r = some (.int (nI (selN b k))) ∧ S = S') rm_X6_placeOfOne.cells rm_X6_placeOfOne.slots) 6 0 0 S 108 [(5, .int (nI i)), (3, .int (nI (k - onesN b i))), (4, .int (nI wo)), (2, .int (nI bk)), (0, .ref a), (1, .int (nI k))] [] := by
                    intro n_
                    induction n_ with
                    | zero => intro i hm_; exact absurd hm_ (Nat.not_lt_zero _)
                    | succ n_ ih_ =>
                      intro i hm_ h3
                      have hi3 := h3.1
                      have hi4 := h3.2
                      refine g_iload 0 C dX6_placeOfOne_108 rfl ?_
                      refine g_aload_n 4 0 C dX6_placeOfOne_110 rfl rfl ?_
                      refine gf_rw_bits C dX6_placeOfOne_111 k_a wF_X6_22 ?_
                      refine g_topi (rb_a) ?_
                      refine g_ncmp_ge 139 (by omega) (by omega) C dX6_placeOfOne_114 (by decide) (fun c114 => ?_) (fun c114 => ?_)
                      · exfalso
                        have := ones_mono b (show b.length ≤ i by omega)
                        omega
                      · refine g_iload_n 1 3 C dX6_placeOfOne_117 rfl rfl ?_
                        refine g_aload_n 4 0 C dX6_placeOfOne_118 rfl rfl ?_
                        refine g_iload 0 C dX6_placeOfOne_119 rfl ?_
                        refine g_callV (As := [.int (nI i)]) (rest := [.int (nI (k - onesN b i))]) C dX6_placeOfOne_121 (c_R_bitAt hr' (by omega)) wC_X6_bitAt wM_X6_40 wI_X6_bitAt wS_X6_bitAt wN_X6 (kne k_a) (pf_7 k_a) rfl hd_X6_bitAt ⟨by decide, by decide, by decide, by decide⟩ (Nat.le_of_ble_eq_true rfl) (fun r_ S_ h_ => ?_)
                        obtain ⟨rfl, rfl⟩ := h_
                        change Go X G _ 6 _ _ S 124 [(5, .int (nI i)), (3, .int (nI (k - onesN b i))), (4, .int (nI wo)), (2, .int (nI bk)), (0, .ref a), (1, .int (nI k))] [.int (nI (b.getD i 0)), .int (nI (k - onesN b i))]
                        have hbi := b01 i
                        refine g_isub C dX6_placeOfOne_124 ?_
                        refine g_istore_n (lv' := [(3, .int (nI (k - onesN b i) - nI (b.getD i 0))), (5, .int (nI i)), (4, .int (nI wo)), (2, .int (nI bk)), (0, .ref a), (1, .int (nI k))]) C dX6_placeOfOne_125 rfl (by decide) rfl ?_
                        refine g_iload_n 0 3 C dX6_placeOfOne_126 rfl rfl ?_
                        refine g_if_ge 133 C dX6_placeOfOne_127 (by decide) (fun c127 => ?_) (fun c127 => ?_)
                        · have hge : b.getD i 0 ≤ k - onesN b i := (sub_ge (by omega) (by omega)).mp c127
                          rw [show nI (k - onesN b i) - nI (b.getD i 0) = nI (k - onesN b (i + 1)) from by rw [pk_sub hge, ones_s]; congr 1; omega]
                          refine g_iinc (v := nI (i + 1)) (lv' := [(5, .int (nI (i + 1))), (3, .int (nI (k - onesN b (i + 1)))), (4, .int (nI wo)), (2, .int (nI bk)), (0, .ref a), (1, .int (nI k))]) 1 C dX6_placeOfOne_133 rfl (nI_add _ 1) (by decide) rfl ?_
                          refine g_goto 108 C dX6_placeOfOne_136 (by decide) ?_
                          exact ih_ (i + 1) (by omega) ⟨by omega, by rw [ones_s]; omega⟩
                        · have hlt9 : ¬ b.getD i 0 ≤ k - onesN b i := fun z => c127 ((sub_ge (by omega) (by omega)).mpr z)
                          have e : selN b k = i := selN_eq (by omega) (by omega) (by omega) (fun q hq z => by have := ones_mono b (show q + 1 ≤ i by omega); rw [ones_s] at this; omega)
                          refine g_iload 1 C dX6_placeOfOne_130 rfl ?_
                          exact g_iret C dX6_placeOfOne_132 (by decide) (by decide) (⟨by rw [e], rfl⟩)
                  rw [show k - onesN b (512 * bk) - (onesN b (64 * wo) - onesN b (512 * (wo / 8))) = k - onesN b (wo * 64) from by rw [hw8, Nat.mul_comm wo 64]; omega]
                  exact lp3 (b.length + 1) (wo * 64) (by omega) ⟨by omega, by rw [Nat.mul_comm wo 64]; exact hwo⟩
                · have hw9 : (wo + 1) / 8 = bk := by omega
                  have hb9 := ones_lt b01 (64 * (wo + 1))
                  refine g_aload_n 3 0 C dX6_placeOfOne_72 rfl rfl ?_
                  refine gr_rw_tb C dX6_placeOfOne_73 k_a wF_X6_33 ru_a ?_
                  refine g_iload 0 C dX6_placeOfOne_76 rfl ?_
                  refine g_iconst (v := nI 1) C dX6_placeOfOne_78 (by decide) ?_
                  refine g_iadd C dX6_placeOfOne_79 ?_
                  refine g_topi (nI_add _ _ : _ = nI (wo + 1)) ?_
                  refine ga_tb_a C dX6_placeOfOne_80 k_u (by omega) (by omega) ?_
                  refine g_topi (tB _ (by omega)) ?_
                  refine g_iload_n 1 3 C dX6_placeOfOne_81 rfl rfl ?_
                  refine g_ncmp_gt 91 (by omega) (by omega) C dX6_placeOfOne_82 (by decide) (fun c82 => ?_) (fun c82 => ?_)
                  · have hw7 : onesN b (512 * (wo / 8)) = onesN b (512 * bk) := by rw [hw8]
                    have hmw2 := ones_mono b (show 512 * (wo / 8) ≤ 64 * wo by omega)
                    have hb8 := ones_lt b01 (64 * wo)
                    refine g_iload_n 1 3 C dX6_placeOfOne_91 rfl rfl ?_
                    refine g_aload_n 3 0 C dX6_placeOfOne_92 rfl rfl ?_
                    refine gr_rw_tb C dX6_placeOfOne_93 k_a wF_X6_33 ru_a ?_
                    refine g_iload 0 C dX6_placeOfOne_96 rfl ?_
                    refine ga_tb_a C dX6_placeOfOne_98 k_u (by omega) (by omega) ?_
                    refine g_topi (tB _ (by omega)) ?_
                    refine g_isub C dX6_placeOfOne_99 ?_
                    refine g_topi (pk_sub (by omega) : _ = nI (k - onesN b (512 * bk) - (onesN b (64 * wo) - onesN b (512 * (wo / 8))))) ?_
                    refine g_istore_n (lv' := [(3, .int (nI (k - onesN b (512 * bk) - (onesN b (64 * wo) - onesN b (512 * (wo / 8)))))), (4, .int (nI wo)), (2, .int (nI bk)), (0, .ref a), (1, .int (nI k))]) C dX6_placeOfOne_100 rfl (by decide) rfl ?_
                    refine g_iload 1 C dX6_placeOfOne_101 rfl ?_
                    refine g_bipush (v := nI 64) C dX6_placeOfOne_103 (by decide) ?_
                    refine g_imul C dX6_placeOfOne_105 ?_
                    refine g_topi (pk_mul _ _ : _ = nI (wo * 64)) ?_
                    refine g_istore (lv' := [(5, .int (nI (wo * 64))), (3, .int (nI (k - onesN b (512 * bk) - (onesN b (64 * wo) - onesN b (512 * (wo / 8)))))), (4, .int (nI wo)), (2, .int (nI bk)), (0, .ref a), (1, .int (nI k))]) C dX6_placeOfOne_106 (by decide) rfl ?_
                    have lp3 : ∀ (n_ : Nat) (i : Nat), b.length - i < n_ → (i ≤ b.length ∧ onesN b i ≤ k) → Go X G (Qe X G (fun r S' => r = some (.int (nI (selN b k))) ∧ S = S') rm_X6_placeOfOne.cells rm_X6_placeOfOne.slots) 6 0 0 S 108 [(5, .int (nI i)), (3, .int (nI (k - onesN b i))), (4, .int (nI wo)), (2, .int (nI bk)), (0, .ref a), (1, .int (nI k))] [] := by
                      intro n_
                      induction n_ with
                      | zero => intro i hm_; exact absurd hm_ (Nat.not_lt_zero _)
                      | succ n_ ih_ =>
                        intro i hm_ h3
                        have hi3 := h3.1
                        have hi4 := h3.2
                        refine g_iload 0 C dX6_placeOfOne_108 rfl ?_
                        refine g_aload_n 4 0 C dX6_placeOfOne_110 rfl rfl ?_
                        refine gf_rw_bits C dX6_placeOfOne_111 k_a wF_X6_22 ?_
                        refine g_topi (rb_a) ?_
                        refine g_ncmp_ge 139 (by omega) (by omega) C dX6_placeOfOne_114 (by decide) (fun c114 => ?_) (fun c114 => ?_)
                        · exfalso
                          have := ones_mono b (show b.length ≤ i by omega)
                          omega
                        · refine g_iload_n 1 3 C dX6_placeOfOne_117 rfl rfl ?_
                          refine g_aload_n 4 0 C dX6_placeOfOne_118 rfl rfl ?_
                          refine g_iload 0 C dX6_placeOfOne_119 rfl ?_
                          refine g_callV (As := [.int (nI i)]) (rest := [.int (nI (k - onesN b i))]) C dX6_placeOfOne_121 (c_R_bitAt hr' (by omega)) wC_X6_bitAt wM_X6_40 wI_X6_bitAt wS_X6_bitAt wN_X6 (kne k_a) (pf_7 k_a) rfl hd_X6_bitAt ⟨by decide, by decide, by decide, by decide⟩ (Nat.le_of_ble_eq_true rfl) (fun r_ S_ h_ => ?_)
                          obtain ⟨rfl, rfl⟩ := h_
                          change Go X G _ 6 _ _ S 124 [(5, .int (nI i)), (3, .int (nI (k - onesN b i))), (4, .int (nI wo)), (2, .int (nI bk)), (0, .ref a), (1, .int (nI k))] [.int (nI (b.getD i 0)), .int (nI (k - onesN b i))]
                          have hbi := b01 i
                          refine g_isub C dX6_placeOfOne_124 ?_
                          refine g_istore_n (lv' := [(3, .int (nI (k - onesN b i) - nI (b.getD i 0))), (5, .int (nI i)), (4, .int (nI wo)), (2, .int (nI bk)), (0, .ref a), (1, .int (nI k))]) C dX6_placeOfOne_125 rfl (by decide) rfl ?_
                          refine g_iload_n 0 3 C dX6_placeOfOne_126 rfl rfl ?_
                          refine g_if_ge 133 C dX6_placeOfOne_127 (by decide) (fun c127 => ?_) (fun c127 => ?_)
                          · have hge : b.getD i 0 ≤ k - onesN b i := (sub_ge (by omega) (by omega)).mp c127
                            rw [show nI (k - onesN b i) - nI (b.getD i 0) = nI (k - onesN b (i + 1)) from by rw [pk_sub hge, ones_s]; congr 1; omega]
                            refine g_iinc (v := nI (i + 1)) (lv' := [(5, .int (nI (i + 1))), (3, .int (nI (k - onesN b (i + 1)))), (4, .int (nI wo)), (2, .int (nI bk)), (0, .ref a), (1, .int (nI k))]) 1 C dX6_placeOfOne_133 rfl (nI_add _ 1) (by decide) rfl ?_
                            refine g_goto 108 C dX6_placeOfOne_136 (by decide) ?_
                            exact ih_ (i + 1) (by omega) ⟨by omega, by rw [ones_s]; omega⟩
                          · have hlt9 : ¬ b.getD i 0 ≤ k - onesN b i := fun z => c127 ((sub_ge (by omega) (by omega)).mpr z)
                            have e : selN b k = i := selN_eq (by omega) (by omega) (by omega) (fun q hq z => by have := ones_mono b (show q + 1 ≤ i by omega); rw [ones_s] at this; omega)
                            refine g_iload 1 C dX6_placeOfOne_130 rfl ?_
                            exact g_iret C dX6_placeOfOne_132 (by decide) (by decide) (⟨by rw [e], rfl⟩)
                    rw [show k - onesN b (512 * bk) - (onesN b (64 * wo) - onesN b (512 * (wo / 8))) = k - onesN b (wo * 64) from by rw [hw8, Nat.mul_comm wo 64]; omega]
                    exact lp3 (b.length + 1) (wo * 64) (by omega) ⟨by omega, by rw [Nat.mul_comm wo 64]; exact hwo⟩
                  · rw [hw9] at c82
                    have hmw := ones_mono b (show 512 * bk ≤ 64 * (wo + 1) by omega)
                    refine g_iinc (v := nI (wo + 1)) (lv' := [(4, .int (nI (wo + 1))), (3, .int (nI (k - onesN b (512 * bk)))), (2, .int (nI bk)), (0, .ref a), (1, .int (nI k))]) 0 C dX6_placeOfOne_85 rfl (nI_add _ 1) (by decide) rfl ?_
                    refine g_goto 46 C dX6_placeOfOne_88 (by decide) ?_
                    exact ih_ (wo + 1) (by omega) ⟨by omega, by omega, by omega, by omega⟩
          exact lp2 (b.length / 64 + 2) (bk * 8) (by omega) ⟨Nat.le_refl _, by omega, by omega, by rw [show 64 * (bk * 8) = 512 * bk by omega]; exact h1.2⟩
        · refine g_iinc (v := nI (bk + 1)) (lv' := [(2, .int (nI (bk + 1))), (0, .ref a), (1, .int (nI k))]) 0 C dX6_placeOfOne_25 rfl (nI_add _ 1) (by decide) rfl ?_
          refine g_goto 2 C dX6_placeOfOne_28 (by decide) ?_
          exact ih_ (bk + 1) (by omega) ⟨by omega, c22⟩
  exact lp1 (b.length / 512 + 2) 0 (by omega) ⟨Nat.zero_le _, Nat.zero_le _⟩
def bzN (b : List Nat) (z : Nat) : Nat := fN (fun m => decide (m - onesN b m < z)) b.length
theorem zeros_mono {b : List Nat} (h : bit01 b) {i k : Nat} (hik : i ≤ k) : i - onesN b i ≤ k - onesN b k := by
  obtain ⟨d, rfl⟩ : ∃ d, k = i + d := ⟨k - i, by omega⟩
  have h1 : sumN (fun q => b.getD (i + q) 0) d ≤ 1 * d := sumN_le (fun q => h (i + q)) d
  have h2 := ones_lt h i
  rw [ones_add]; omega
theorem half_le {a c s : Nat} (h : 2 * a ≤ c) (h2 : c * 2 ^ s ≤ 8191) : a * 2 ^ (s + 1) ≤ 8191 := by
  rw [Nat.pow_succ, ← Nat.mul_assoc, Nat.mul_comm (a * 2 ^ s) 2, ← Nat.mul_assoc]
  exact Nat.le_trans (Nat.mul_le_mul_right _ h) h2
set_option maxRecDepth 100000 in
set_option maxHeartbeats 2000000 in
theorem c_R_behind {lX : Launch} {G : Gx} {S : PS} {a wd ta tb : Nat} {b : List Nat} {la lb : Bool} (hc : rowC S a wd ta tb b la lb) {z : Nat} (hz : z ≤ 4900) (hA : la = false) (hB : lb = false) : Ct lX yX6_behindZeros cX6_behindZeros 6 (Option.some Jvm.ClassFile.FieldType.int) rm_X6_behindZeros G [.ref a, .int (nI z)] S (fun r S' => r = some (.int (nI (bzN b z))) ∧ S = S') := by
  have hr := hc.1
  obtain ⟨⟨k_a, rb_a, rw_a, rt_a, ru_a⟩, ⟨k_w, l_w⟩, ⟨k_t, l_t⟩, ⟨k_u, l_u⟩, ⟨la_a, lb_a⟩, on_a, ⟨bl_a, b01⟩, wd_⟩ := hr
  refine Ct.mk RX6 "behindZeros" hy_X6_behindZeros (Nat.le_of_ble_eq_true rfl) (fun X hX C => ?_)
  change Go X G _ 6 0 0 S 0 [(0, .ref a), (1, .int (nI z))] []
  refine g_iconst (v := nI 0) C dX6_behindZeros_0 (by decide) ?_
  refine g_istore_n (lv' := [(2, .int (nI 0)), (0, .ref a), (1, .int (nI z))]) C dX6_behindZeros_1 rfl (by decide) rfl ?_
  refine g_aload_n 1 0 C dX6_behindZeros_2 rfl rfl ?_
  refine gf_rw_bits C dX6_behindZeros_3 k_a wF_X6_22 ?_
  refine g_topi (rb_a) ?_
  refine g_istore_n (lv' := [(3, .int (nI (b.length))), (2, .int (nI 0)), (0, .ref a), (1, .int (nI z))]) C dX6_behindZeros_6 rfl (by decide) rfl ?_
  refine g_iconst (v := nI 0) C dX6_behindZeros_7 (by decide) ?_
  refine g_istore (lv' := [(4, .int (nI 0)), (3, .int (nI (b.length))), (2, .int (nI 0)), (0, .ref a), (1, .int (nI z))]) C dX6_behindZeros_8 (by decide) rfl ?_
  have lp : ∀ (n_ : Nat) (s lo hi : Nat), 32 - s < n_ → (s ≤ 32 ∧ lo ≤ hi ∧ hi ≤ b.length ∧ (hi - lo) * 2 ^ s ≤ 8191 ∧ (∀ m, m < lo → decide (m - onesN b m < z) = true) ∧ (hi = b.length ∨ decide (hi - onesN b hi < z) = false)) → Go X G (Qe X G (fun r S' => r = some (.int (nI (bzN b z))) ∧ S = S') rm_X6_behindZeros.cells rm_X6_behindZeros.slots) 6 0 0 S 10 [(4, .int (nI s)), (3, .int (nI hi)), (2, .int (nI lo)), (0, .ref a), (1, .int (nI z))] [] := by
    intro n_
    induction n_ with
    | zero => intro s lo hi hm_; exact absurd hm_ (Nat.not_lt_zero _)
    | succ n_ ih_ =>
      intro s lo hi hm_ hh
      obtain ⟨i1, i2, i3, i4, i5, i6⟩ := hh
      refine g_iload 0 C dX6_behindZeros_10 rfl ?_
      refine g_bipush (v := nI 32) C dX6_behindZeros_12 (by decide) ?_
      refine g_ncmp_ge 59 (by omega) (by omega) C dX6_behindZeros_14 (by decide) (fun c14 => ?_) (fun c14 => ?_)
      · have h0 : hi - lo = 0 := by
          have e32 : s = 32 := by omega
          rw [e32] at i4
          omega
        have e : bzN b z = lo := fN_eq (by omega) i5 (by rw [show lo = hi by omega]; exact i6)
        refine g_iload_n 2 2 C dX6_behindZeros_59 rfl rfl ?_
        exact g_iret C dX6_behindZeros_60 (by decide) (by decide) (⟨by rw [e], rfl⟩)
      · refine g_iload_n 2 2 C dX6_behindZeros_17 rfl rfl ?_
        refine g_iload_n 1 3 C dX6_behindZeros_18 rfl rfl ?_
        refine g_ncmp_ge 59 (by omega) (by omega) C dX6_behindZeros_19 (by decide) (fun c19 => ?_) (fun c19 => ?_)
        · have e : bzN b z = lo := fN_eq (by omega) i5 (by rw [show lo = hi by omega]; exact i6)
          refine g_iload_n 2 2 C dX6_behindZeros_59 rfl rfl ?_
          exact g_iret C dX6_behindZeros_60 (by decide) (by decide) (⟨by rw [e], rfl⟩)
        · refine g_iload_n 2 2 C dX6_behindZeros_22 rfl rfl ?_
          refine g_iload_n 1 3 C dX6_behindZeros_23 rfl rfl ?_
          refine g_iadd C dX6_behindZeros_24 ?_
          refine g_topi (nI_add _ _ : _ = nI (lo + hi)) ?_
          refine g_iconst (v := nI 2) C dX6_behindZeros_25 (by decide) ?_
          refine g_idiv C dX6_behindZeros_26 (by decide) ?_
          refine g_topi (pk_div (by omega) (by omega) (by omega) : _ = nI ((lo + hi) / 2)) ?_
          refine g_istore (lv' := [(5, .int (nI ((lo + hi) / 2))), (4, .int (nI s)), (3, .int (nI hi)), (2, .int (nI lo)), (0, .ref a), (1, .int (nI z))]) C dX6_behindZeros_27 (by decide) rfl ?_
          refine g_iload 0 C dX6_behindZeros_29 rfl ?_
          refine g_aload_n 4 0 C dX6_behindZeros_31 rfl rfl ?_
          refine g_iload 0 C dX6_behindZeros_32 rfl ?_
          obtain ⟨md, hmd⟩ : ∃ md, md = (lo + hi) / 2 := ⟨_, rfl⟩
          have hb1 := ones_lt b01 md
          rw [← hmd]
          refine g_callV (As := [.int (nI md)]) (rest := [.int (nI md)]) C dX6_behindZeros_34 (c_R_onesAhead hc (by omega) hA hB) wC_X6_onesAhead wM_X6_52 wI_X6_onesAhead wS_X6_onesAhead wN_X6 (kne k_a) (pf_7 k_a) rfl hd_X6_onesAhead ⟨by decide, by decide, by decide, by decide⟩ (Nat.le_of_ble_eq_true rfl) (fun r_ S_ h_ => ?_)
          obtain ⟨rfl, rfl⟩ := h_
          change Go X G _ 6 _ _ S 37 [(5, .int (nI md)), (4, .int (nI s)), (3, .int (nI hi)), (2, .int (nI lo)), (0, .ref a), (1, .int (nI z))] [.int (nI (onesN b md)), .int (nI md)]
          refine g_isub C dX6_behindZeros_37 ?_
          refine g_topi (pk_sub (by omega) : _ = nI (md - (onesN b md))) ?_
          refine g_iload_n 5 1 C dX6_behindZeros_38 rfl rfl ?_
          refine g_ncmp_lt 48 (by omega) (by omega) C dX6_behindZeros_39 (by decide) (fun c39 => ?_) (fun c39 => ?_)
          · refine g_iload 0 C dX6_behindZeros_48 rfl ?_
            refine g_iconst (v := nI 1) C dX6_behindZeros_50 (by decide) ?_
            refine g_iadd C dX6_behindZeros_51 ?_
            refine g_topi (nI_add _ _ : _ = nI (md + 1)) ?_
            refine g_istore_n (lv' := [(2, .int (nI (md + 1))), (5, .int (nI md)), (4, .int (nI s)), (3, .int (nI hi)), (0, .ref a), (1, .int (nI z))]) C dX6_behindZeros_52 rfl (by decide) rfl ?_
            refine g_iinc (v := nI (s + 1)) (lv' := [(4, .int (nI (s + 1))), (2, .int (nI (md + 1))), (5, .int (nI md)), (3, .int (nI hi)), (0, .ref a), (1, .int (nI z))]) 2 C dX6_behindZeros_53 rfl (nI_add _ 1) (by decide) rfl ?_
            refine g_goto 10 C dX6_behindZeros_56 (by decide) ?_
            refine Go.pick (lv' := [(4, .int (nI (s + 1))), (3, .int (nI hi)), (2, .int (nI (md + 1))), (0, .ref a), (1, .int (nI z))]) [0, 3, 1, 4, 5] rfl ?_
            exact ih_ (s + 1) (md + 1) hi (by omega) ⟨by omega, by omega, by omega, half_le (by omega) i4, fun m hm => decide_eq_true (by have := zeros_mono b01 (show m ≤ md by omega); omega), i6⟩
          · refine g_iload 0 C dX6_behindZeros_42 rfl ?_
            refine g_istore_n (lv' := [(3, .int (nI md)), (5, .int (nI md)), (4, .int (nI s)), (2, .int (nI lo)), (0, .ref a), (1, .int (nI z))]) C dX6_behindZeros_44 rfl (by decide) rfl ?_
            refine g_goto 53 C dX6_behindZeros_45 (by decide) ?_
            refine g_iinc (v := nI (s + 1)) (lv' := [(4, .int (nI (s + 1))), (3, .int (nI md)), (5, .int (nI md)), (2, .int (nI lo)), (0, .ref a), (1, .int (nI z))]) 2 C dX6_behindZeros_53 rfl (nI_add _ 1) (by decide) rfl ?_
            refine g_goto 10 C dX6_behindZeros_56 (by decide) ?_
            refine Go.pick (lv' := [(4, .int (nI (s + 1))), (3, .int (nI md)), (2, .int (nI lo)), (0, .ref a), (1, .int (nI z))]) [0, 1, 3, 4, 5] rfl ?_
            exact ih_ (s + 1) lo md (by omega) ⟨by omega, by omega, by omega, half_le (by omega) i4, i5, Or.inr (decide_eq_false (by omega))⟩
  exact lp 33 0 0 b.length (by omega) ⟨by decide, Nat.zero_le _, Nat.le_refl _, by omega, fun m hm => absurd hm (Nat.not_lt_zero _), Or.inl rfl⟩
