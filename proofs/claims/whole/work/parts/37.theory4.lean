/-! bytes of a long; how wide a value is -/
def byteN (v : Int64) (k : Nat) : Nat := v.toBitVec.toNat / 2 ^ (8 * k) % 256
theorem byteN_le (v : Int64) (k : Nat) : byteN v k ≤ 255 := by unfold byteN; omega
theorem byteN_bit (v : Int64) (k i : Nat) : (nI (byteN v k)).toBitVec.getLsbD i = (decide (i < 8) && v.toBitVec.getLsbD (8 * k + i)) := by
  show (BitVec.ofNat 32 (byteN v k)).getLsbD i = _
  rw [BitVec.getLsbD_ofNat]
  unfold byteN
  rw [show (256 : Nat) = 2 ^ 8 from rfl, Nat.testBit_mod_two_pow, Nat.testBit_div_two_pow]
  rw [show i + 8 * k = 8 * k + i by omega]
  by_cases h : i < 8
  · simp [h, BitVec.getLsbD, show i < 32 by omega]
  · simp [h]
theorem sshr_bit (v : Int64) {s i : Nat} (hs : s < 64) (hi : s + i < 64) : (v >>> ((nI s).toInt64 &&& 63)).toBitVec.getLsbD i = v.toBitVec.getLsbD (s + i) := by
  rw [wb_c s hs, Int64.toBitVec_shiftRight, wb_tb, wb_sm s hs]
  rw [BitVec.sshiftRight_eq', BitVec.toNat_ofNat, Nat.mod_eq_of_lt (by omega), BitVec.getLsbD_sshiftRight]
  simp [hi, show i < 64 by omega]
theorem ushr_bit (v : Int64) {s i : Nat} (hs : s < 64) : (v.toUInt64 >>> ((nI s).toInt64.toUInt64 &&& Int64.toUInt64 63)).toInt64.toBitVec.getLsbD i = v.toBitVec.getLsbD (s + i) := by
  rw [wb_cu s hs]
  show (v.toUInt64 >>> UInt64.ofNat s).toBitVec.getLsbD i = v.toUInt64.toBitVec.getLsbD (s + i)
  rw [UInt64.toBitVec_shiftRight]
  show (v.toUInt64.toBitVec >>> ((BitVec.ofNat 64 s) % 64).toNat).getLsbD i = _
  rw [BitVec.toNat_umod, BitVec.toNat_ofNat, Nat.mod_eq_of_lt (show s < 2 ^ 64 by omega)]
  rw [show (64 : BitVec 64).toNat = 64 from rfl, Nat.mod_eq_of_lt hs, BitVec.getLsbD_ushiftRight]
theorem l255_bit (i : Nat) : (255 : Int64).toBitVec.getLsbD i = decide (i < 8) := by
  rcases Nat.lt_or_ge i 64 with h | h
  · exact (by decide +kernel : ∀ i, i < 64 → (255 : Int64).toBitVec.getLsbD i = decide (i < 8)) i h
  · rw [BitVec.getLsbD_of_ge _ _ h, decide_eq_false (by omega)]
theorem i255_bit (i : Nat) : (255 : Int32).toBitVec.getLsbD i = decide (i < 8) := by
  rcases Nat.lt_or_ge i 32 with h | h
  · exact (by decide +kernel : ∀ i, i < 32 → (255 : Int32).toBitVec.getLsbD i = decide (i < 8)) i h
  · rw [BitVec.getLsbD_of_ge _ _ h, decide_eq_false (by omega)]
theorem l2i_bit (v : Int64) {i : Nat} (hi : i < 32) : v.toInt32.toBitVec.getLsbD i = v.toBitVec.getLsbD i := by
  rw [Int64.toBitVec_toInt32, BitVec.getLsbD_signExtend]
  simp [hi, show i < 64 by omega]
theorem by_feed (v : Int64) {k : Nat} (hk : k < 8) : (v >>> ((nI (8 * k)).toInt64 &&& 63) &&& 255).toInt32 = nI (byteN v k) := by
  refine Int32.toBitVec_inj.mp (BitVec.eq_of_getLsbD_eq fun i hi => ?_)
  rw [byteN_bit, l2i_bit _ hi, Int64.toBitVec_and, BitVec.getLsbD_and, l255_bit]
  by_cases h : i < 8
  · rw [sshr_bit v (by omega) (by omega), decide_eq_true h, Bool.and_true, Bool.true_and]
  · rw [decide_eq_false h, Bool.and_false, Bool.false_and]
theorem by_lay (v : Int64) {k : Nat} (hk : k < 8) : (v >>> ((nI (8 * k)).toInt64 &&& 63)).toInt32 &&& 255 = nI (byteN v k) := by
  refine Int32.toBitVec_inj.mp (BitVec.eq_of_getLsbD_eq fun i hi => ?_)
  rw [byteN_bit, Int32.toBitVec_and, BitVec.getLsbD_and, l2i_bit _ hi, i255_bit]
  by_cases h : i < 8
  · rw [sshr_bit v (by omega) (by omega), decide_eq_true h, Bool.and_true, Bool.true_and]
  · rw [decide_eq_false h, Bool.and_false, Bool.false_and]
theorem by_add (v : Int64) {k : Nat} (hk : k < 8) : (v.toUInt64 >>> ((nI (8 * k)).toInt64.toUInt64 &&& Int64.toUInt64 63)).toInt64.toInt32 &&& 255 = nI (byteN v k) := by
  refine Int32.toBitVec_inj.mp (BitVec.eq_of_getLsbD_eq fun i hi => ?_)
  rw [byteN_bit, Int32.toBitVec_and, BitVec.getLsbD_and, l2i_bit _ hi, i255_bit, ushr_bit v (by omega)]
  by_cases h : i < 8
  · rw [decide_eq_true h, Bool.and_true, Bool.true_and]
  · rw [decide_eq_false h, Bool.and_false, Bool.false_and]
theorem nI_255 {a : Nat} (h : a ≤ 255) : nI a &&& 255 = nI a := by
  refine Int32.toBitVec_inj.mp (BitVec.eq_of_getLsbD_eq fun i hi => ?_)
  rw [Int32.toBitVec_and, BitVec.getLsbD_and, i255_bit]
  by_cases g : i < 8
  · rw [decide_eq_true g, Bool.and_true]
  · rw [decide_eq_false g, Bool.and_false]
    show false = (BitVec.ofNat 32 a).getLsbD i
    rw [BitVec.getLsbD_ofNat, Nat.testBit_lt_two_pow (Nat.lt_of_lt_of_le (show a < 2 ^ 8 by omega) (Nat.pow_le_pow_right (by decide) (by omega))), Bool.and_false]
/-- how wide -/
def fitW (v : Int64) (w : Nat) : Bool := decide (-(2 ^ (8 * w - 1) : Int) ≤ v.toInt ∧ v.toInt < 2 ^ (8 * w - 1))
def isW (w : Nat) : Prop := w = 1 ∨ w = 2 ∨ w = 4 ∨ w = 8
def wUp (v : Int64) : Nat → Nat → Nat
  | 0, w => w
  | f + 1, w => if w < 8 ∧ fitW v w = false then wUp v f (w * 2) else w
def wK (l : List Ent) : Nat → Nat
  | 0 => 1
  | k + 1 => wUp (vl l k) 4 (wK l k)
def widthN (l : List Ent) : Nat := wK l l.length
theorem wUp_w {v : Int64} : ∀ f w, isW w → isW (wUp v f w) := by
  intro f
  induction f with
  | zero => intro w h; exact h
  | succ f ih =>
    intro w h
    unfold wUp
    by_cases g : w < 8 ∧ fitW v w = false
    · rw [if_pos g]
      refine ih _ ?_
      unfold isW at h ⊢
      omega
    · rw [if_neg g]; exact h
theorem wK_w (l : List Ent) : ∀ k, isW (wK l k) := by
  intro k
  induction k with
  | zero => exact Or.inl rfl
  | succ k ih => exact wUp_w _ _ ih
theorem wUp_stop {v : Int64} {f w : Nat} (h : ¬ (w < 8 ∧ fitW v w = false)) : wUp v f w = w := by
  cases f with
  | zero => rfl
  | succ f => unfold wUp; rw [if_neg h]
theorem wLo {v : Int64} {w : Nat} (hw : isW w) (h8 : w < 8) : lg_cmp v (-(1 <<< ((nI (8 * w - 1)).toInt64 &&& 63))) < 0 ↔ ¬ -(2 ^ (8 * w - 1) : Int) ≤ v.toInt := by
  rw [lg_cmp_lt, Int64.lt_iff_toInt_lt]
  rcases hw with rfl | rfl | rfl | rfl
  · rw [show (-((1 : Int64) <<< ((nI (8 * 1 - 1)).toInt64 &&& 63))).toInt = -(2 ^ (8 * 1 - 1) : Int) by decide +kernel]; omega
  · rw [show (-((1 : Int64) <<< ((nI (8 * 2 - 1)).toInt64 &&& 63))).toInt = -(2 ^ (8 * 2 - 1) : Int) by decide +kernel]; omega
  · rw [show (-((1 : Int64) <<< ((nI (8 * 4 - 1)).toInt64 &&& 63))).toInt = -(2 ^ (8 * 4 - 1) : Int) by decide +kernel]; omega
  · omega
theorem wHi {v : Int64} {w : Nat} (hw : isW w) (h8 : w < 8) : lg_cmp v (1 <<< ((nI (8 * w - 1)).toInt64 &&& 63)) < 0 ↔ v.toInt < (2 ^ (8 * w - 1) : Int) := by
  rw [lg_cmp_lt, Int64.lt_iff_toInt_lt]
  rcases hw with rfl | rfl | rfl | rfl
  · rw [show ((1 : Int64) <<< ((nI (8 * 1 - 1)).toInt64 &&& 63)).toInt = (2 ^ (8 * 1 - 1) : Int) by decide +kernel]
  · rw [show ((1 : Int64) <<< ((nI (8 * 2 - 1)).toInt64 &&& 63)).toInt = (2 ^ (8 * 2 - 1) : Int) by decide +kernel]
  · rw [show ((1 : Int64) <<< ((nI (8 * 4 - 1)).toInt64 &&& 63)).toInt = (2 ^ (8 * 4 - 1) : Int) by decide +kernel]
  · omega
theorem m1_sub (a : Nat) : nI a + Int32.ofInt (-1) = nI a - nI 1 := by rw [Int32.sub_eq_add_neg]; rfl
