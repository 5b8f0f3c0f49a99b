theorem arr_at {s : State} {args : Array Value} {ty : FieldType} (h : (Cond.arrayClass ty).before args s = true) (hty : ∀ C, ty ≠ .object C) : ∃ cA, ArrOfT s cA ty ∧ va_RA s cA ty := by
  obtain ⟨c, k, comp, h1, h2, h3⟩ := Cond.arrayClass_spec h
  refine ⟨c, fun N z => ⟨fun k h => (by cases h), k, h2, comp, h3⟩, ?_⟩
  cases ty with
  | object C => exact absurd rfl (hty C)
  | _ => exact h1
theorem arr_ob {s : State} {args : Array Value} {C : String} (h : (Cond.arrayOver (.object C)).before args s = true) : ∃ cA, ArrOfT s cA (.object C) ∧ va_RA s cA (.object C) := by
  obtain ⟨comp, c, k, h1, -, h3, h4, h5⟩ := Cond.arrayOver_spec h
  exact ⟨c, fun N z => ⟨fun k h => (by cases h), k, h3, comp, h4⟩, k, comp, h3, h4, h1, h5⟩
set_option maxRecDepth 100000 in
theorem ks_start {s : State} {b : Nat} (hts : ∀ w ∈ lw_tbl, w.before #[Value.ref b] s = true) (hg : (Jvm.Cond.and given_1 narrow_1).before #[Value.ref b] s = true) : ∃ G : Gx, G.2.2 = s.heap.size ∧ Ks G s := by
  obtain ⟨c0, i0, k0⟩ := u_known (T := TX0) hts wU_X0 (hts _ wT_X0)
  obtain ⟨c1, i1, k1⟩ := u_known (T := TX1) hts wU_X1 (hts _ wT_X1)
  obtain ⟨c2, i2, k2⟩ := u_known (T := TX2) hts wU_X2 (hts _ wT_X2)
  obtain ⟨c3, i3, k3⟩ := u_known (T := TX3) hts wU_X3 (hts _ wT_X3)
  obtain ⟨c4, i4, k4⟩ := u_known (T := TX4) hts wU_X4 (hts _ wT_X4)
  obtain ⟨c5, i5, k5⟩ := u_known (T := TX5) hts wU_X5 (hts _ wT_X5)
  obtain ⟨c6, i6, k6⟩ := u_known (T := TX6) hts wU_X6 (hts _ wT_X6)
  obtain ⟨c7, i7, k7⟩ := u_known (T := TX7) hts wU_X7 (hts _ wT_X7)
  obtain ⟨c8, i8, k8⟩ := u_known (T := TX9) hts wU_X9 (hts _ wT_X9)
  obtain ⟨c9, i9, k9⟩ := u_known (T := TX10) hts wU_X10 (hts _ wT_X10)
  obtain ⟨c10, i10, k10⟩ := u_known (T := TX11) hts wU_X11 (hts _ wT_X11)
  obtain ⟨a0, f0, r0⟩ := arr_at (hts _ wA_int) (fun _ h => by cases h)
  obtain ⟨a1, f1, r1⟩ := arr_at (hts _ wA_long) (fun _ h => by cases h)
  obtain ⟨a2, f2, r2⟩ := arr_at (hts _ wA_boolean) (fun _ h => by cases h)
  obtain ⟨a3, f3, r3⟩ := arr_ob (hts _ wO_X5)
  obtain ⟨a4, f4, r4⟩ := arr_ob (hts _ wO_X8)
  have hs := flat_of_before _ hg
  refine ⟨((fun q => if q = 0 then c0 else if q = 1 then c1 else if q = 2 then c2 else if q = 3 then c3 else if q = 4 then c4 else if q = 5 then c5 else if q = 6 then c6 else if q = 7 then c7 else if q = 8 then c8 else if q = 9 then c9 else c10, fun q => if q = 0 then i0 else if q = 1 then i1 else if q = 2 then i2 else if q = 3 then i3 else if q = 4 then i4 else if q = 5 then i5 else if q = 6 then i6 else if q = 7 then i7 else if q = 8 then i8 else if q = 9 then i9 else i10), fun q => if q = 0 then a0 else if q = 1 then a1 else if q = 2 then a2 else if q = 3 then a3 else a4, s.heap.size), rfl, ⟨fun c q hq => ?_, fun k q hq => ?_⟩, ⟨va_Nc.of (hs _ (by decide +kernel)), va_Nc.of (hs _ (by decide +kernel)), va_Nc.of (hs _ (by decide +kernel)), va_Nc.of (hs _ (by decide +kernel)), va_Nc.of (hs _ (by decide +kernel)), va_Nc.of (hs _ (by decide +kernel))⟩, ⟨va_AO.of (hts _ wO_X5), va_AO.of (hts _ wO_X8)⟩, ⟨Cond.castable_spec (hts _ wX_X0_X8), Cond.castable_spec (hts _ wX_X2_X8), Cond.castable_spec (hts _ wX_X3_X8)⟩, va_Nw.of rfl (hts _ wMN_X10_17), va_Nw.of rfl (hts _ wMN_X10_24), va_Nw.of rfl (hts _ wMN_X10_34), va_Nw.of rfl (hts _ wMN_X1_31), va_Nw.of rfl (hts _ wD_X8_size)⟩
  · match c, hq with
    | 0, hq => cases hq; exact k0
    | 1, hq => cases hq; exact k1
    | 2, hq => cases hq; exact k2
    | 3, hq => cases hq; exact k3
    | 4, hq => cases hq; exact k4
    | 5, hq => cases hq; exact k5
    | 6, hq => cases hq; exact k6
    | 7, hq => cases hq; exact k7
    | 8, hq => cases hq; exact k8
    | 9, hq => cases hq; exact k9
    | 10, hq => cases hq; exact k10
    | c + 11, hq => exact absurd hq (by rw [List.getElem?_eq_none (by show 11 ≤ c + 11; omega)]; intro h; cases h)
  · match k, hq with
    | 0, hq => cases hq; exact ⟨f0, r0⟩
    | 1, hq => cases hq; exact ⟨f1, r1⟩
    | 2, hq => cases hq; exact ⟨f2, r2⟩
    | 3, hq => cases hq; exact ⟨f3, r3⟩
    | 4, hq => cases hq; exact ⟨f4, r4⟩
    | k + 5, hq => exact absurd hq (by rw [List.getElem?_eq_none (by show 5 ≤ k + 5; omega)]; intro h; cases h)
/-! the script -/
section ScriptRows
variable {X : Kx} {G : Gx} {Q : State → Prop} {nL kc ks : Nat} {S : PS} {pc : Nat} {lv : List (Nat × Value)} {st : List Value} {cc : ByteArray} {own nm : String} {ret : Option FieldType} {R : Room}
def Scr (X : Kx) (G : Gx) (b L : Nat) (sc : Nat → Int32) : Prop := va_X b L sc (xs X) (xs X).heap ∧ b < (xs X).heap.size ∧ G.2.2 = (xs X).heap.size ∧ L ≤ 3072
theorem g_sld {b L i : Nat} {sc : Nat → Int32} (h : Scr X G b L sc) (hi : i < L) (C : Cok X G cc nL own ret nm R) (d : decode cc pc = .ok (.iaload, 1)) (k : Go X G Q nL kc ks S (pc + 1) lv (.int (sc i) :: st)) : Go X G Q nL kc ks S pc lv (.int (nI i) :: .ref b :: st) := fun H locs ls hR hS hl => by
  obtain ⟨h1, h2, h3, h4⟩ := h
  have e : (nI i).toNatClampNeg = i := nI_clamp (by omega)
  refine va_sld (A := Ab G) C.1 C.2.1 h1 h2 (fun z => ?_) hS (fun z => ?_) d ?_
  · have z' : G.2.2 ≤ b := z
    omega
  · rcases z with z | z
    · exact absurd z (nI_pos (by omega))
    · rw [e] at z; omega
  · rw [e]; exact k H locs ls hR hS hl
theorem g_slen {b L : Nat} {sc : Nat → Int32} (h : Scr X G b L sc) (C : Cok X G cc nL own ret nm R) (d : decode cc pc = .ok (.arraylength, 1)) (k : Go X G Q nL kc ks S (pc + 1) lv (.int (nI L) :: st)) : Go X G Q nL kc ks S pc lv (.ref b :: st) := fun H locs ls hR hS hl => by
  obtain ⟨h1, h2, h3, h4⟩ := h
  refine va_slen (A := Ab G) C.1 C.2.1 h1 h2 (fun z => ?_) hS d (k H locs ls hR hS hl)
  have z' : G.2.2 ≤ b := z
  omega
end ScriptRows
/-- class and model hold the same shelf -/
def Inv (S : PS) (Z : ZT) (x y : Nat) : Prop := RC S Z x ∧ MoOk S (mo S) y ∧ RM (mo S) Z ∧ okZ Z
theorem MoOk.mv {S S1 : PS} {y : Nat} (h : MoOk S (mo S) y) (hf : Fk S S1) : MoOk S1 (mo S1) y := by
  rw [hf.1]; exact h.fk hf
theorem Inv.next {S : PS} {Z' : ZT} {M' : MoT} {x y : Nat} (h1 : RC S Z' x) (h2 : MoOk S (mo S) y) (e : mo_r M' = mo_r (mo S)) (h3 : RM M' Z') (h4 : okZ Z') : Inv (mo_ S M') Z' x y := ⟨h1, ⟨h2.1, fun j hj => by
  show ∃ q, mo_r M' j = some q ∧ _
  rw [e]; exact h2.2 j hj⟩, h3, h4⟩
theorem RM_mv {S S1 : PS} {Z : ZT} (h : RM (mo S) Z) (hf : Fk S S1) : RM (mo S1) Z := by rw [hf.1]; exact h
theorem and63 (v : Int32) : ∃ j, j < 64 ∧ v &&& nI 63 = nI j := by
  refine ⟨v.toBitVec.toNat % 64, Nat.mod_lt _ (by decide), Int32.toBitVec_inj.mp (BitVec.eq_of_toNat_eq ?_)⟩
  rw [Int32.toBitVec_and, BitVec.toNat_and]
  show v.toBitVec.toNat &&& (BitVec.ofNat 32 63).toNat = (BitVec.ofNat 32 _).toNat
  rw [BitVec.toNat_ofNat, BitVec.toNat_ofNat, show 63 % 2 ^ 32 = 2 ^ 6 - 1 from rfl, Nat.and_two_pow_sub_one_eq_mod]
  omega
theorem lg_self (v : Int64) : lg_cmp v v = 0 := by
  unfold lg_cmp
  simp
theorem sub6 {L : Nat} (h : L < 6) : nI L - nI 6 < nI 0 := by
  have : ∀ L, L < 6 → nI L - nI 6 < nI 0 := by decide
  exact this L h
theorem nz_bI (v : Int32) : (¬ v = 0 → bI true = nI 1) ∧ (v = 0 → bI false = nI 0) := ⟨fun _ => rfl, fun _ => rfl⟩
