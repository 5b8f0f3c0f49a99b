def popW : Nat → Nat → Nat
  | 0, _ => 0
  | k + 1, n => n % 2 + popW k (n / 2)
theorem popW_add (a : Nat) : ∀ (b n : Nat), popW (a + b) n = popW a n + popW b (n / 2 ^ a) := by
  induction a with
  | zero => intro b n; rw [Nat.zero_add, Nat.pow_zero, Nat.div_one]; show _ = 0 + _; rw [Nat.zero_add]
  | succ a ih =>
    intro b n
    rw [show a + 1 + b = a + b + 1 by omega]
    show n % 2 + popW (a + b) (n / 2) = n % 2 + popW a (n / 2) + _
    rw [ih, Nat.div_div_eq_div_mul, show 2 * 2 ^ a = 2 ^ (a + 1) by rw [Nat.pow_succ, Nat.mul_comm]]
    omega
theorem popW_mod (a : Nat) : ∀ (n c : Nat), popW a (n + 2 ^ a * c) = popW a n := by
  induction a with
  | zero => intro n c; rfl
  | succ a ih =>
    intro n c
    show (n + 2 ^ (a + 1) * c) % 2 + popW a ((n + 2 ^ (a + 1) * c) / 2) = n % 2 + popW a (n / 2)
    have e : 2 ^ (a + 1) * c = 2 * (2 ^ a * c) := by rw [Nat.pow_succ, Nat.mul_comm (2 ^ a) 2, Nat.mul_assoc]
    rw [e, show (n + 2 * (2 ^ a * c)) / 2 = n / 2 + 2 ^ a * c by omega, ih, show (n + 2 * (2 ^ a * c)) % 2 = n % 2 by omega]
def repB (m : Nat) : Nat → Nat
  | 0 => 0
  | k + 1 => m + 256 * repB m k
theorem and_split {c m r s : Nat} (hc : c < 256) (hm : m < 256) : (c + 256 * r) &&& (m + 256 * s) = (c &&& m) + 256 * (r &&& s) := by
  refine Nat.eq_of_testBit_eq fun i => ?_
  have h1 : c &&& m < 2 ^ 8 := Nat.and_lt_two_pow _ hm
  rw [Nat.testBit_and, show c + 256 * r = 2 ^ 8 * r + c by omega, show m + 256 * s = 2 ^ 8 * s + m by omega, show (c &&& m) + 256 * (r &&& s) = 2 ^ 8 * (r &&& s) + (c &&& m) by omega, Nat.testBit_two_pow_mul_add _ (show c < 2 ^ 8 from hc), Nat.testBit_two_pow_mul_add _ (show m < 2 ^ 8 from hm), Nat.testBit_two_pow_mul_add _ h1]
  split
  · rw [Nat.testBit_and]
  · rw [Nat.testBit_and]
def bF1 (k n : Nat) : Nat := n - ((n / 2) &&& repB 85 k)
def bF2 (k n : Nat) : Nat := (n &&& repB 51 k) + ((n / 4) &&& repB 51 k)
def bF3 (k n : Nat) : Nat := (n + n / 16) &&& repB 15 k
def bG1 (c : Nat) : Nat := c - ((c / 2) &&& 85)
def bG2 (c : Nat) : Nat := (c &&& 51) + ((c / 4) &&& 51)
theorem b_k1 : ∀ c, c < 256 → ∀ e, e < 2 → ((c / 2 + 128 * e) &&& 85) = ((c / 2) &&& 85) := by decide +kernel
theorem b_k2 : ∀ c, c < 256 → ∀ e, e < 4 → ((c / 4 + 64 * e) &&& 51) = ((c / 4) &&& 51) := by decide +kernel
theorem b_k3 : ∀ c, c < 256 → ∀ e, e < 5 → ((bG2 (bG1 c) + bG2 (bG1 c) / 16 + 16 * e) &&& 15) = popW 8 c ∧ bG2 (bG1 c) + bG2 (bG1 c) / 16 + 16 * e < 256 := by decide +kernel
theorem b_k4 : ∀ c, c < 256 → bG2 (bG1 c) < 256 ∧ bG2 (bG1 c) % 16 < 5 ∧ bG1 c < 256 := by decide +kernel
theorem bF1_s {k c r : Nat} (hc : c < 256) : bF1 (k + 1) (c + 256 * r) = bG1 c + 256 * bF1 k r := by
  unfold bF1 bG1
  show c + 256 * r - ((c + 256 * r) / 2 &&& (85 + 256 * repB 85 k)) = _
  rw [show (c + 256 * r) / 2 = (c / 2 + 128 * (r % 2)) + 256 * (r / 2) by omega, and_split (by omega) (by decide), b_k1 c hc _ (by omega)]
  have h1 : (c / 2 &&& 85) ≤ c / 2 := Nat.and_le_left
  have h2 : (r / 2 &&& repB 85 k) ≤ r / 2 := Nat.and_le_left
  omega
theorem bF2_s {k c r : Nat} (hc : c < 256) : bF2 (k + 1) (c + 256 * r) = bG2 c + 256 * bF2 k r := by
  unfold bF2 bG2
  show (c + 256 * r &&& (51 + 256 * repB 51 k)) + ((c + 256 * r) / 4 &&& (51 + 256 * repB 51 k)) = _
  rw [show (c + 256 * r) / 4 = (c / 4 + 64 * (r % 4)) + 256 * (r / 4) by omega, and_split hc (by decide), and_split (by omega) (by decide), b_k2 c hc _ (by omega)]
  omega
def b8 : Nat → Nat → Nat
  | 0, _ => 0
  | k + 1, n => popW 8 (n % 256) + 256 * b8 k (n / 256)
theorem b_low (k r : Nat) : bF2 k (bF1 k r) % 16 < 5 := by
  cases k with
  | zero => unfold bF2; show ((_ &&& 0) + (_ &&& 0)) % 16 < 5; rw [Nat.and_zero, Nat.and_zero]; decide
  | succ k =>
    have hc : r % 256 < 256 := Nat.mod_lt _ (by decide)
    have := b_k4 _ hc
    rw [show r = r % 256 + 256 * (r / 256) by omega, bF1_s hc, bF2_s this.2.2]
    omega
theorem b_all (k : Nat) : ∀ n, bF3 k (bF2 k (bF1 k n)) = b8 k n := by
  induction k with
  | zero => intro n; unfold bF3; show (_ &&& 0) = 0; exact Nat.and_zero _
  | succ k ih =>
    intro n
    have hc : n % 256 < 256 := Nat.mod_lt _ (by decide)
    have h4 := b_k4 _ hc
    have e : bF2 (k + 1) (bF1 (k + 1) n) = bG2 (bG1 (n % 256)) + 256 * bF2 k (bF1 k (n / 256)) := by
      conv => lhs; rw [show n = n % 256 + 256 * (n / 256) by omega]
      rw [bF1_s hc, bF2_s h4.2.2]
    rw [e]
    have h5 := b_low k (n / 256)
    have h3 := b_k3 _ hc _ h5
    generalize hy : bG2 (bG1 (n % 256)) = y at h3
    generalize hx : bF2 k (bF1 k (n / 256)) = x at h3 h5
    unfold bF3
    show (y + 256 * x + (y + 256 * x) / 16 &&& (15 + 256 * repB 15 k)) = popW 8 (n % 256) + 256 * b8 k (n / 256)
    rw [show y + 256 * x + (y + 256 * x) / 16 = (y + y / 16 + 16 * (x % 16)) + 256 * (x + x / 16) by omega, and_split h3.2 (by decide), h3.1, ← ih (n / 256)]
    unfold bF3
    rw [hx]
theorem popW_8 {k n : Nat} : popW (8 + k) n = popW 8 (n % 256) + popW k (n / 256) := by
  rw [popW_add]
  conv => lhs; rw [show popW 8 n = popW 8 (n % 256 + 2 ^ 8 * (n / 256)) from by rw [show n % 256 + 2 ^ 8 * (n / 256) = n by omega]]
  rw [popW_mod]
theorem pop8_le : ∀ c, c < 256 → popW 8 c ≤ 8 := by decide +kernel
theorem st1 {q r : Nat} (h : q ≤ 8) : (q + 256 * r) / 256 = r := by omega
theorem st2 {s0 s1 p : Nat} (h0 : s0 ≤ 16) (h1 : s1 ≤ 16) : (s0 + 256 * (s1 + 256 * p)) / 65536 = p := by omega
theorem st3 {t0 t1 t2 t3 p : Nat} (h0 : t0 ≤ 32) (h1 : t1 ≤ 32) (h2 : t2 ≤ 32) (h3 : t3 ≤ 32) : (t0 + 256 * (t1 + 256 * (t2 + 256 * (t3 + 256 * p)))) / 4294967296 = p := by omega
theorem st4 {a k : Nat} (h : a ≤ 64) : (a + 256 * k) % 128 = a := by omega
theorem b_sum {q0 q1 q2 q3 q4 q5 q6 q7 b c d : Nat} (p0 : q0 ≤ 8) (p1 : q1 ≤ 8) (p2 : q2 ≤ 8) (p3 : q3 ≤ 8) (p4 : q4 ≤ 8) (p5 : q5 ≤ 8) (p6 : q6 ≤ 8) (p7 : q7 ≤ 8)
    (hb : b = (q0 + 256 * (q1 + 256 * (q2 + 256 * (q3 + 256 * (q4 + 256 * (q5 + 256 * (q6 + 256 * q7))))))) + (q0 + 256 * (q1 + 256 * (q2 + 256 * (q3 + 256 * (q4 + 256 * (q5 + 256 * (q6 + 256 * q7))))))) / 256) (hc : c = b + b / 65536) (hd : d = c + c / 4294967296) : d % 128 = q0 + (q1 + (q2 + (q3 + (q4 + (q5 + (q6 + q7)))))) ∧ d < 2 ^ 62 := by
  rw [st1 p0] at hb
  have hb2 : b = (q0 + q1) + 256 * ((q1 + q2) + 256 * ((q2 + q3) + 256 * ((q3 + q4) + 256 * ((q4 + q5) + 256 * ((q5 + q6) + 256 * ((q6 + q7) + 256 * q7)))))) := by
    rw [hb]; clear hb hc hd; omega
  clear hb
  rw [hb2, st2 (by omega) (by omega)] at hc
  clear hb2
  have hc2 : c = (q0 + q1 + q2 + q3) + 256 * ((q1 + q2 + q3 + q4) + 256 * ((q2 + q3 + q4 + q5) + 256 * ((q3 + q4 + q5 + q6) + 256 * ((q4 + q5 + q6 + q7) + 256 * ((q5 + q6 + q7) + 256 * ((q6 + q7) + 256 * q7)))))) := by
    rw [hc]; clear hc hd; omega
  clear hc
  rw [hc2, st3 (by omega) (by omega) (by omega) (by omega)] at hd
  clear hc2
  have hd2 : d = (q0 + (q1 + (q2 + (q3 + (q4 + (q5 + (q6 + q7))))))) + 256 * (((q1 + q2 + q3 + q4) + 256 * ((q2 + q3 + q4 + q5) + 256 * ((q3 + q4 + q5 + q6) + 256 * ((q4 + q5 + q6 + q7) + 256 * ((q5 + q6 + q7) + 256 * ((q6 + q7) + 256 * q7)))))) + ((q5 + q6 + q7) + 256 * ((q6 + q7) + 256 * q7))) := by
    rw [hd]; clear hd; omega
  clear hd
  refine ⟨by rw [hd2]; exact st4 (by omega), ?_⟩
  rw [hd2]
  clear hd2
  omega
theorem b_8 (n : Nat) : ∃ q0 q1 q2 q3 q4 q5 q6 q7, (q0 ≤ 8 ∧ q1 ≤ 8 ∧ q2 ≤ 8 ∧ q3 ≤ 8 ∧ q4 ≤ 8 ∧ q5 ≤ 8 ∧ q6 ≤ 8 ∧ q7 ≤ 8) ∧ b8 8 n = q0 + 256 * (q1 + 256 * (q2 + 256 * (q3 + 256 * (q4 + 256 * (q5 + 256 * (q6 + 256 * q7)))))) ∧ popW 64 n = q0 + (q1 + (q2 + (q3 + (q4 + (q5 + (q6 + q7)))))) := by
  have key : ∀ m : Nat, popW 8 (m % 256) ≤ 8 := fun m => pop8_le _ (Nat.mod_lt _ (by decide))
  have b0 : ∀ m, b8 1 m = popW 8 (m % 256) := fun m => by show popW 8 (m % 256) + 256 * 0 = _; omega
  have w0 : ∀ m, popW 8 m = popW 8 (m % 256) := fun m => by
    conv => lhs; rw [show m = m % 256 + 2 ^ 8 * (m / 256) by omega]
    rw [popW_mod]
  have bs : ∀ k m, b8 (k + 1) m = popW 8 (m % 256) + 256 * b8 k (m / 256) := fun k m => rfl
  refine ⟨popW 8 (n % 256), popW 8 (n / 256 % 256), popW 8 (n / 256 / 256 % 256), popW 8 (n / 256 / 256 / 256 % 256), popW 8 (n / 256 / 256 / 256 / 256 % 256), popW 8 (n / 256 / 256 / 256 / 256 / 256 % 256), popW 8 (n / 256 / 256 / 256 / 256 / 256 / 256 % 256), popW 8 (n / 256 / 256 / 256 / 256 / 256 / 256 / 256 % 256), ⟨key _, key _, key _, key _, key _, key _, key _, key _⟩, ?_, ?_⟩
  · rw [bs 7, bs 6, bs 5, bs 4, bs 3, bs 2, bs 1, b0]
  · rw [show (64 : Nat) = 8 + 56 from rfl, popW_8, show (56 : Nat) = 8 + 48 from rfl, popW_8, show (48 : Nat) = 8 + 40 from rfl, popW_8, show (40 : Nat) = 8 + 32 from rfl, popW_8, show (32 : Nat) = 8 + 24 from rfl, popW_8, show (24 : Nat) = 8 + 16 from rfl, popW_8, show (16 : Nat) = 8 + 8 from rfl, popW_8, w0 (n / 256 / 256 / 256 / 256 / 256 / 256 / 256)]
theorem b_end (n : Nat) : (b8 8 n < 2 ^ 60) ∧ ∀ b c d, b = b8 8 n + b8 8 n / 256 → c = b + b / 65536 → d = c + c / 4294967296 → d % 128 = popW 64 n ∧ d < 2 ^ 62 := by
  obtain ⟨q0, q1, q2, q3, q4, q5, q6, q7, ⟨p0, p1, p2, p3, p4, p5, p6, p7⟩, e1, e2⟩ := b_8 n
  rw [e1, e2]
  exact ⟨by clear e1 e2; omega, fun b c d hb hc hd => b_sum p0 p1 p2 p3 p4 p5 p6 p7 hb hc hd⟩
/-- bits in a row of numbers, as one number -/
def bitsV (b : List Nat) (o : Nat) : Nat → Nat
  | 0 => 0
  | k + 1 => bitsV b o k + b.getD (o + k) 0 * 2 ^ k
def bit01 (b : List Nat) : Prop := ∀ i, b.getD i 0 ≤ 1
theorem bit01_of {b : List Nat} (h : ∀ i, i < b.length → b.getD i 0 ≤ 1) : bit01 b := fun i => by
  rcases Nat.lt_or_ge i b.length with g | g
  · exact h i g
  · rw [List.getD_eq_getElem?_getD, List.getElem?_eq_none g]; exact Nat.zero_le _
theorem bitsV_lt {b : List Nat} (h : bit01 b) (o : Nat) : ∀ k, bitsV b o k < 2 ^ k := by
  intro k
  induction k with
  | zero => exact Nat.one_pos
  | succ k ih =>
    show bitsV b o k + b.getD (o + k) 0 * 2 ^ k < 2 ^ (k + 1)
    have := h (o + k)
    have h2 : b.getD (o + k) 0 * 2 ^ k ≤ 1 * 2 ^ k := Nat.mul_le_mul_right _ this
    rw [Nat.pow_succ]
    omega
theorem bitsV_tb {b : List Nat} (h : bit01 b) (o : Nat) : ∀ k q, (bitsV b o k).testBit q = (decide (q < k) && decide (b.getD (o + q) 0 = 1)) := by
  intro k
  induction k with
  | zero => intro q; show Nat.testBit 0 q = _; rw [Nat.zero_testBit]; rfl
  | succ k ih =>
    intro q
    show (bitsV b o k + b.getD (o + k) 0 * 2 ^ k).testBit q = _
    rw [show bitsV b o k + b.getD (o + k) 0 * 2 ^ k = 2 ^ k * b.getD (o + k) 0 + bitsV b o k by rw [Nat.mul_comm]; omega, Nat.testBit_two_pow_mul_add _ (bitsV_lt h o k), ih]
    by_cases g : q < k
    · rw [if_pos g, decide_eq_true g, decide_eq_true (show q < k + 1 by omega)]
    · rw [if_neg g]
      by_cases e : q = k
      · subst e
        rw [Nat.sub_self, decide_eq_true (show q < q + 1 by omega), Bool.true_and]
        have := h (o + q)
        generalize b.getD (o + q) 0 = v at this
        have : v = 0 ∨ v = 1 := by omega
        rcases this with rfl | rfl <;> rfl
      · rw [decide_eq_false (show ¬ q < k + 1 by omega), Bool.false_and]
        have := h (o + k)
        refine Nat.testBit_lt_two_pow (Nat.lt_of_le_of_lt this ?_)
        exact Nat.one_lt_two_pow (by omega)
theorem bitsV_mod {b : List Nat} (h : bit01 b) (o : Nat) {k n : Nat} (hk : k ≤ n) : bitsV b o n % 2 ^ k = bitsV b o k := by
  refine Nat.eq_of_testBit_eq fun q => ?_
  rw [Nat.testBit_mod_two_pow, bitsV_tb h, bitsV_tb h]
  by_cases g : q < k
  · rw [decide_eq_true g, decide_eq_true (show q < n by omega), Bool.true_and]
  · rw [decide_eq_false g, Bool.false_and, Bool.false_and]
theorem bitsV_bit {b : List Nat} (h : bit01 b) (o : Nat) {k n : Nat} (hk : k < n) : bitsV b o n / 2 ^ k % 2 = b.getD (o + k) 0 := by
  have h1 := bitsV_tb h o n k
  rw [Nat.testBit_eq_decide_div_mod_eq, decide_eq_true hk, Bool.true_and] at h1
  have h2 := h (o + k)
  have h3 : bitsV b o n / 2 ^ k % 2 < 2 := Nat.mod_lt _ (by decide)
  have h4 : bitsV b o n / 2 ^ k % 2 = 1 ↔ b.getD (o + k) 0 = 1 := by rw [decide_eq_decide] at h1; exact h1
  omega
theorem bitsV_pop {b : List Nat} (h : bit01 b) (o : Nat) : ∀ n m, n ≤ m → popW m (bitsV b o n) = sumN (fun k => b.getD (o + k) 0) n := by
  have key : ∀ n, popW n (bitsV b o n) = sumN (fun k => b.getD (o + k) 0) n := by
    intro n
    induction n with
    | zero => rfl
    | succ n ih =>
      rw [popW_add n 1]
      show popW n (bitsV b o n + b.getD (o + n) 0 * 2 ^ n) + _ = sumN _ n + b.getD (o + n) 0
      have e : bitsV b o (n + 1) / 2 ^ n = b.getD (o + n) 0 := by
        show (bitsV b o n + b.getD (o + n) 0 * 2 ^ n) / 2 ^ n = _
        rw [Nat.add_mul_div_right _ _ (Nat.two_pow_pos n), Nat.div_eq_of_lt (bitsV_lt h o n), Nat.zero_add]
      rw [e, Nat.mul_comm (b.getD (o + n) 0), popW_mod, ih]
      show _ + (b.getD (o + n) 0 % 2 + 0) = _
      have := h (o + n)
      omega
  intro n m hm
  obtain ⟨d, rfl⟩ : ∃ d, m = n + d := ⟨m - n, by omega⟩
  rw [popW_add, key n, Nat.div_eq_of_lt (bitsV_lt h o n)]
  have h0 : ∀ d, popW d 0 = 0 := by
    intro d
    induction d with
    | zero => rfl
    | succ d ih => show 0 % 2 + popW d (0 / 2) = 0; rw [Nat.zero_div, ih]
  rw [h0]; omega
theorem bit01_set {b : List Nat} (h : bit01 b) (i v : Nat) (hv : v ≤ 1) : bit01 (b.set i v) := fun q => by
  rw [getD_set]
  split
  · exact hv
  · exact h q
theorem bitsV_other {b : List Nat} {i v j : Nat} (h : i / 64 ≠ j) : ∀ k, k ≤ 64 → bitsV (b.set i v) (64 * j) k = bitsV b (64 * j) k := by
  intro k
  induction k with
  | zero => intro _; rfl
  | succ k ih =>
    intro hk
    show bitsV (b.set i v) (64 * j) k + (b.set i v).getD (64 * j + k) 0 * 2 ^ k = bitsV b (64 * j) k + b.getD (64 * j + k) 0 * 2 ^ k
    rw [ih (by omega), getD_set, if_neg (fun z => h (by omega))]
theorem lN_32 (n : Nat) : (lN n).toInt32.toBitVec = BitVec.setWidth 32 (BitVec.ofNat 64 n) := by rw [Int64.toBitVec_toInt32, wb_tb, BitVec.signExtend_eq_setWidth_of_le _ (by decide)]
theorem lN_lsb (n q : Nat) : (lN n).toBitVec.getLsbD q = (decide (q < 64) && n.testBit q) := by rw [wb_tb, BitVec.getLsbD_ofNat]
theorem w_one {k : Nat} (hk : k < 64) : (1 : Int64) <<< ((nI k).toInt64 &&& 63) = lN (2 ^ k) := by
  rw [show (1 : Int64) = lN 1 from rfl, wb_shl 1 hk, Nat.one_mul]
theorem w_clr {b : List Nat} (h : bit01 b) {o k : Nat} (hk : k < 64) (hb : o + k < b.length) : lN (bitsV b o 64) &&& (((1 : Int64) <<< ((nI k).toInt64 &&& 63)) ^^^ (-1)) = lN (bitsV (b.set (o + k) 0) o 64) := by
  rw [w_one hk]
  refine wb_inj (BitVec.eq_of_getLsbD_eq fun q hq => ?_)
  rw [Int64.toBitVec_and, Int64.toBitVec_xor, BitVec.getLsbD_and, BitVec.getLsbD_xor, lN_lsb, lN_lsb, lN_lsb, bitsV_tb h, bitsV_tb (bit01_set h _ 0 (by decide)), getD_set, show ((-1 : Int64).toBitVec) = BitVec.allOnes 64 from rfl, BitVec.getLsbD_allOnes, decide_eq_true hq, Nat.testBit_two_pow]
  by_cases e : k = q
  · subst e; rw [if_pos ⟨rfl, hb⟩, decide_eq_true rfl]; simp
  · rw [if_neg (fun z => e (by omega)), decide_eq_false e]; simp
theorem w_set {b : List Nat} (h : bit01 b) {o k : Nat} (hk : k < 64) (hb : o + k < b.length) : lN (bitsV b o 64) ||| ((1 : Int64) <<< ((nI k).toInt64 &&& 63)) = lN (bitsV (b.set (o + k) 1) o 64) := by
  rw [w_one hk]
  refine wb_inj (BitVec.eq_of_getLsbD_eq fun q hq => ?_)
  rw [Int64.toBitVec_or, BitVec.getLsbD_or, lN_lsb, lN_lsb, lN_lsb, bitsV_tb h, bitsV_tb (bit01_set h _ 1 (by decide)), getD_set, decide_eq_true hq, Nat.testBit_two_pow]
  by_cases e : k = q
  · subst e; rw [if_pos ⟨rfl, hb⟩, decide_eq_true rfl]; simp
  · rw [if_neg (fun z => e (by omega)), decide_eq_false e]; simp
theorem w_get {b : List Nat} (h : bit01 b) {o k : Nat} (hk : k < 64) : ((lN (bitsV b o 64)).toUInt64 >>> ((nI k).toInt64.toUInt64 &&& Int64.toUInt64 63)).toInt64.toInt32 &&& nI 1 = nI (b.getD (o + k) 0) := by
  have hlt : bitsV b o 64 < 2 ^ 64 := bitsV_lt h o 64
  rw [wb_shr hlt hk, ← bitsV_bit h o hk]
  generalize bitsV b o 64 / 2 ^ k = n
  refine Int32.toBitVec_inj.mp (BitVec.eq_of_toNat_eq ?_)
  rw [Int32.toBitVec_and, BitVec.toNat_and, lN_32]
  show (BitVec.setWidth 32 (BitVec.ofNat 64 n)).toNat &&& 1 = (BitVec.ofNat 32 _).toNat
  rw [BitVec.toNat_setWidth, BitVec.toNat_ofNat, BitVec.toNat_ofNat, Nat.and_one_is_mod]
  omega
theorem w_low {b : List Nat} (h : bit01 b) {o k : Nat} (hk : k < 64) : lN (bitsV b o 64) &&& (((1 : Int64) <<< ((nI k).toInt64 &&& 63)) - 1) = lN (bitsV b o k) := by
  rw [w_one hk]
  have hp : 1 ≤ 2 ^ k := Nat.one_le_two_pow
  rw [show lN (2 ^ k) - 1 = lN (2 ^ k - 1) from ?_, wb_mask (bitsV_lt h o 64) hk, bitsV_mod h o (by omega)]
  have h64 : 2 ^ k < 2 ^ 64 := wb_lt2 hk
  refine wb_inj (BitVec.eq_of_toNat_eq ?_)
  rw [Int64.toBitVec_sub, BitVec.toNat_sub]
  show (2 ^ 64 - 1 + (BitVec.ofNat 64 (2 ^ k)).toNat) % 2 ^ 64 = (BitVec.ofNat 64 (2 ^ k - 1)).toNat
  rw [BitVec.toNat_ofNat, BitVec.toNat_ofNat]
  omega
