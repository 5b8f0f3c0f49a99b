def CoC (S : PS) (x : Nat) (c : Nat → Nat) : Prop := (kd S x = 10 ∧ ba_places S = some (c 0) ∧ kd S (c 0) = 20) ∧ ba_reel S = some (c 1) ∧ ba_shown S = some (c 3) ∧ ba_asked S = some (c 5) ∧ (ba_binder S = some (c 7) ∧ kd S (c 7) = 2) ∧ (bi_alike S = some (c 8) ∧ kd S (c 8) = 22) ∧ (bi_first S = some (c 9) ∧ kd S (c 9) = 23) ∧ (bi_depth S = some (c 10) ∧ kd S (c 10) = 24) ∧ (bi_stem S = some (c 11) ∧ kd S (c 11) = 25) ∧ (bi_degree S = some (c 12) ∧ kd S (c 12) = 26) ∧ ba_pending S = some (c 13)
theorem CoC.fr {S S' : PS} {A : Nat → Prop} {x : Nat} {c : Nat → Nat} (h : CoC S x c) (hf : Fr S S' A) : CoC S' x c := by
  obtain ⟨⟨a1, a2, a3⟩, a4, a5, a6, ⟨a7, a8⟩, ⟨b1, b2⟩, ⟨b3, b4⟩, ⟨b5, b6⟩, ⟨b7, b8⟩, ⟨b9, b10⟩, b11⟩ := h
  exact ⟨⟨hf.kd_ a1, (fe_ba_places hf.2.2).trans a2, hf.kd_ a3⟩, (fe_ba_reel hf.2.2).trans a4, (fe_ba_shown hf.2.2).trans a5, (fe_ba_asked hf.2.2).trans a6, ⟨(fe_ba_binder hf.2.2).trans a7, hf.kd_ a8⟩, ⟨(fe_bi_alike hf.2.2).trans b1, hf.kd_ b2⟩, ⟨(fe_bi_first hf.2.2).trans b3, hf.kd_ b4⟩, ⟨(fe_bi_depth hf.2.2).trans b5, hf.kd_ b6⟩, ⟨(fe_bi_stem hf.2.2).trans b7, hf.kd_ b8⟩, ⟨(fe_bi_degree hf.2.2).trans b9, hf.kd_ b10⟩, (fe_ba_pending hf.2.2).trans b11⟩
def fixI (k : Nat) : Prop := k = 3 ∨ k = 4 ∨ k = 5 ∨ k = 6 ∨ k = 13 ∨ k = 14 ∨ k = 15
def Sep (S : PS) (pl : Nat → Nat) (c : Nat → Nat) (D : Nat → Nat → Nat) : Prop := (∀ t u, usedP pl t → usedP pl u → t ≠ u → ∀ i j, i < 9 → j < 9 → D t i ≠ D u j) ∧ (∀ t, usedP pl t → ∀ i, i < 9 → kd S (D t i) ≠ 0 ∧ ∀ k, fixI k → D t i ≠ c k) ∧ c 3 ≠ c 5 ∧ c 4 ≠ c 6
def plC (f : Nat → Option Nat) (pl : Nat → Nat) (D : Nat → Nat → Nat) : Prop := ∀ p, p < 10 → f p = if pl p = 0 then none else some (D (pl p - 1) 0)
/-- the class holds the shelf Z: its own cells at c, things at D -/
def RCD (S : PS) (Z : ZT) (x : Nat) (c : Nat → Nat) (D : Nat → Nat → Nat) : Prop := CoC S x c ∧ tapeC S (c 1) (c 2) (zT Z) ∧ plC (pl_a S) (zP Z) D ∧ (∀ t, usedP (zP Z) t → thC S (D t) (zH Z t)) ∧ ba_refusal S = zS Z ∧ witC S (c 3) (c 4) (zW Z) ∧ (∃ w, witC S (c 5) (c 6) w) ∧ (∃ l, listC S (c 13) (c 14) (c 15) 100 l) ∧ Sep S (zP Z) c D
def RC (S : PS) (Z : ZT) (x : Nat) : Prop := ∃ c D, RCD S Z x c D
def Fk (S S' : PS) : Prop := mo S' = mo S ∧ ∀ a, kd S a ≠ 0 → kd S' a = kd S a
theorem Fk.refl (S : PS) : Fk S S := ⟨rfl, fun _ _ => rfl⟩
theorem Fr.fk {S S' : PS} {A : Nat → Prop} (h : Fr S S' A) : Fk S S' := ⟨fe_mo h.2.2, fun a ha => (h.1 a ha).1⟩
theorem MoOk.fk {S S' : PS} {M : MoT} {x : Nat} (h : MoOk S M x) (hf : Fk S S') : MoOk S' M x := ⟨(hf.2 x (by rw [h.1]; decide)).trans h.1, fun j hj => by
  obtain ⟨q, h1, h2⟩ := h.2 j hj
  exact ⟨q, h1, (hf.2 q (by rw [h2]; omega)).trans h2⟩⟩
theorem Sep.fr {S S' : PS} {A : Nat → Prop} {pl : Nat → Nat} {c : Nat → Nat} {D : Nat → Nat → Nat} (h : Sep S pl c D) (hf : Fr S S' A) : Sep S' pl c D := ⟨h.1, fun t ht i hi => ⟨by rw [(hf.1 _ (h.2.1 t ht i hi).1).1]; exact (h.2.1 t ht i hi).1, (h.2.1 t ht i hi).2⟩, h.2.2⟩
/-- nothing live is changed but the tape, the refusal -/
theorem RCD.step {S S' : PS} {Z Z' : ZT} {x : Nat} {c : Nat → Nat} {D : Nat → Nat → Nat} {A : Nat → Prop} (h : RCD S Z x c D) (hf : Fr S S' A) (hA : ∀ t, usedP (zP Z) t → ∀ i, i < 9 → ¬ A (D t i)) (hc : ∀ k, fixI k → ¬ A (c k)) (eP : zP Z' = zP Z) (eH : zH Z' = zH Z) (eW : zW Z' = zW Z) (hT : tapeC S' (c 1) (c 2) (zT Z')) (hpl : pl_a S' = pl_a S) (hs : ba_refusal S' = zS Z') : RCD S' Z' x c D := by
  obtain ⟨h1, h2, h3, h4, h5, h6, ⟨w, h7⟩, ⟨l, h8⟩, h9⟩ := h
  refine ⟨h1.fr hf, hT, by rw [hpl, eP]; exact h3, fun t ht => ?_, hs, ?_, ⟨w, h7.fr hf (hc 5 (by unfold fixI; decide)) (hc 6 (by unfold fixI; decide))⟩, ⟨l, h8.fr hf (hc 13 (by unfold fixI; decide)) (hc 14 (by unfold fixI; decide)) (hc 15 (by unfold fixI; decide))⟩, by rw [eP]; exact h9.fr hf⟩
  · rw [eP] at ht
    rw [eH]; exact (h4 t ht).fr hf (hA t ht)
  · rw [eW]; exact h6.fr hf (hc 3 (by unfold fixI; decide)) (hc 4 (by unfold fixI; decide))
theorem RCD.no {S S' : PS} {Z Z' : ZT} {x : Nat} {c : Nat → Nat} {D : Nat → Nat → Nat} (h : RCD S Z x c D) (hf : Fr S S' No) (eP : zP Z' = zP Z) (eH : zH Z' = zH Z) (eW : zW Z' = zW Z) (hT : tapeC S' (c 1) (c 2) (zT Z')) (hpl : pl_a S' = pl_a S) (hs : ba_refusal S' = zS Z') : RCD S' Z' x c D := h.step hf (fun _ _ _ _ z => z) (fun _ _ z => z) eP eH eW hT hpl hs
/-- thing t becomes T -/
theorem RCD.thing {S S' : PS} {Z Z' : ZT} {x : Nat} {c : Nat → Nat} {D : Nat → Nat → Nat} {A : Nat → Prop} {t : Nat} {T : Th} (h : RCD S Z x c D) (hf : Fr S S' A) (ht : usedP (zP Z) t) (hA : ∀ a, A a → ∃ i, i < 9 ∧ a = D t i) (eP : zP Z' = zP Z) (eH : ∀ q, zH Z' q = if q = t then T else zH Z q) (eW : zW Z' = zW Z) (hT' : thC S' (D t) T) (hT : tapeC S' (c 1) (c 2) (zT Z')) (hpl : pl_a S' = pl_a S) (hs : ba_refusal S' = zS Z') : RCD S' Z' x c D := by
  obtain ⟨h1, h2, h3, h4, h5, h6, ⟨w, h7⟩, ⟨l, h8⟩, h9⟩ := h
  have hc : ∀ k, fixI k → ¬ A (c k) := fun k hk z => by
    obtain ⟨i, hi, e⟩ := hA _ z
    exact (h9.2.1 t ht i hi).2 k hk e.symm
  refine ⟨h1.fr hf, hT, by rw [hpl, eP]; exact h3, fun u hu => ?_, hs, ?_, ⟨w, h7.fr hf (hc 5 (by unfold fixI; decide)) (hc 6 (by unfold fixI; decide))⟩, ⟨l, h8.fr hf (hc 13 (by unfold fixI; decide)) (hc 14 (by unfold fixI; decide)) (hc 15 (by unfold fixI; decide))⟩, by rw [eP]; exact h9.fr hf⟩
  · rw [eP] at hu
    rw [eH]
    by_cases e : u = t
    · rw [if_pos e, e]; exact hT'
    · rw [if_neg e]
      refine (h4 u hu).fr hf (fun i hi z => ?_)
      obtain ⟨j, hj, e2⟩ := hA _ z
      exact h9.1 u t hu ht e i j hi hj e2
  · rw [eW]; exact h6.fr hf (hc 3 (by unfold fixI; decide)) (hc 4 (by unfold fixI; decide))
/-- a place takes what another has, or nothing -/
theorem RCD.place {S : PS} {Z : ZT} {x : Nat} {c : Nat → Nat} {D : Nat → Nat → Nat} (h : RCD S Z x c D) {j v : Nat} {q : Option Nat} (hv : v = 0 ∨ ∃ p, p < 10 ∧ v = zP Z p) (hq : q = if v = 0 then none else some (D (v - 1) 0)) : RCD (pl_a_ S (va_up (pl_a S) j q)) (zP_ Z (setP (zP Z) j v)) x c D := by
  obtain ⟨h1, h2, h3, h4, h5, h6, h7, h8, h9⟩ := h
  have hu : ∀ t, usedP (setP (zP Z) j v) t → usedP (zP Z) t := fun t ht => by
    rcases usedP_set ht with g | g
    · exact g
    · rcases hv with e | ⟨p, hp, e⟩
      · omega
      · exact ⟨p, hp, by omega⟩
  refine ⟨h1, h2, fun p hp => ?_, fun t ht => h4 t (hu t ht), h5, h6, h7, h8, ⟨fun t u ht hu' => h9.1 t u (hu t ht) (hu u hu'), fun t ht => h9.2.1 t (hu t ht), h9.2.2⟩⟩
  show va_up (pl_a S) j q p = if setP (zP Z) j v p = 0 then none else some (D (setP (zP Z) j v p - 1) 0)
  unfold setP
  by_cases e : p = j
  · rw [e, va_up_self, if_pos rfl, hq]
  · rw [va_up_ne _ _ e, if_neg e]; exact h3 p hp
/-- a new thing on a place -/
theorem RCD.new {S S' : PS} {Z : ZT} {x : Nat} {c : Nat → Nat} {D : Nat → Nat → Nat} (h : RCD S Z x c D) {j : Nat} {d : Nat → Nat} {T : Th} (hf : Fr S S' No) (hd0 : ∀ i, i < 9 → kd S (d i) = 0) (hd1 : ∀ i, i < 9 → kd S' (d i) ≠ 0) (hT : thC S' d T) (hmu : mu S' = mu S) : RCD (pl_a_ S' (va_up (pl_a S') j (some (d 0)))) (setT (zP_ Z (setP (zP Z) j (madeN (zP Z) + 1))) (madeN (zP Z)) T) x c (fun t => if t = madeN (zP Z) then d else D t) := by
  obtain ⟨h1, h2, h3, h4, h5, h6, ⟨w, h7⟩, ⟨l, h8⟩, h9⟩ := h
  have hn := madeN_new (zP Z)
  have hne : ∀ t, usedP (zP Z) t → t ≠ madeN (zP Z) := fun t ht e => hn (e ▸ ht)
  have hu : ∀ t, usedP (setP (zP Z) j (madeN (zP Z) + 1)) t → t = madeN (zP Z) ∨ usedP (zP Z) t := fun t ht => by
    rcases usedP_set ht with g | g
    · exact Or.inr g
    · exact Or.inl (by omega)
  have hpl : pl_a S' = pl_a S := congrArg (fun q => q.2.2.1) hmu
  have hcs : ∀ k, fixI k → kd S (c k) ≠ 0 := fun k hk => by
    rcases hk with rfl | rfl | rfl | rfl | rfl | rfl | rfl
    · rw [h6.1.1]; decide
    · rw [h6.2.1.1]; decide
    · rw [h7.1.1]; decide
    · rw [h7.2.1.1]; decide
    · rw [h8.1.1]; decide
    · rw [h8.2.1.1]; decide
    · rw [h8.2.2.1.1]; decide
  refine ⟨h1.fr hf, (show tapeC S' (c 1) (c 2) (zT Z) from h2.fr hf hmu), fun p hp => ?_, fun t ht => ?_, (congrArg (fun q => q.1) hmu).trans h5, h6.fr hf id id, ⟨w, h7.fr hf id id⟩, ⟨l, h8.fr hf id id id⟩, fun t u ht hu' e i k hi hk => ?_, fun t ht i hi => ?_, h9.2.2⟩
  · show va_up (pl_a S') j (some (d 0)) p = if setP (zP Z) j (madeN (zP Z) + 1) p = 0 then none else some ((fun t => if t = madeN (zP Z) then d else D t) (setP (zP Z) j (madeN (zP Z) + 1) p - 1) 0)
    unfold setP
    by_cases e : p = j
    · rw [e, va_up_self, if_pos rfl, if_neg (by omega)]
      show _ = some ((if madeN (zP Z) + 1 - 1 = madeN (zP Z) then d else D (madeN (zP Z) + 1 - 1)) 0)
      rw [if_pos (by omega)]
    · rw [va_up_ne _ _ e, if_neg e, hpl, h3 p hp]
      by_cases g : zP Z p = 0
      · rw [if_pos g, if_pos g]
      · rw [if_neg g, if_neg g]
        show _ = some ((if zP Z p - 1 = madeN (zP Z) then d else D (zP Z p - 1)) 0)
        rw [if_neg (hne _ ⟨p, hp, by omega⟩)]
  · show thC S' (if t = madeN (zP Z) then d else D t) (if t = madeN (zP Z) then T else zH Z t)
    rcases hu t ht with g | g
    · rw [if_pos g, if_pos g]; exact hT
    · rw [if_neg (hne t g), if_neg (hne t g)]; exact (h4 t g).fr hf (fun i hi z => z)
  · show (if t = madeN (zP Z) then d else D t) i ≠ (if u = madeN (zP Z) then d else D u) k
    rcases hu t ht with g | g
    · rcases hu u hu' with g2 | g2
      · exact absurd (g.trans g2.symm) e
      · rw [if_pos g, if_neg (hne u g2)]
        exact fun z => (h9.2.1 u g2 k hk).1 (by rw [← z]; exact hd0 i hi)
    · rcases hu u hu' with g2 | g2
      · rw [if_neg (hne t g), if_pos g2]
        exact fun z => (h9.2.1 t g i hi).1 (by rw [z]; exact hd0 k hk)
      · rw [if_neg (hne t g), if_neg (hne u g2)]; exact h9.1 t u g g2 e i k hi hk
  · show kd S' ((if t = madeN (zP Z) then d else D t) i) ≠ 0 ∧ ∀ k, fixI k → (if t = madeN (zP Z) then d else D t) i ≠ c k
    rcases hu t ht with g | g
    · rw [if_pos g]; exact ⟨hd1 i hi, fun k hk z => hcs k hk (by rw [← z]; exact hd0 i hi)⟩
    · rw [if_neg (hne t g)]; exact ⟨by rw [(hf.1 _ (h9.2.1 t g i hi).1).1]; exact (h9.2.1 t g i hi).1, (h9.2.1 t g i hi).2⟩
def reA (Z : ZT) (p : Int32) : Int32 := match look Z p with
  | .inl e => e
  | .inr _ => -4
set_option maxRecDepth 100000 in
set_option maxHeartbeats 2000000 in
theorem c_C_beyond_in {lX : Launch} {G : Gx} {S : PS} {j : Nat} (hj : j < 10) : Ct lX yX10_isBeyond cX10_isBeyond 1 (Option.some Jvm.ClassFile.FieldType.boolean) rm_X10_isBeyond G [.int (nI j)] S (fun r S' => r = some (.int (nI 0)) ∧ S = S') := by
  refine Ct.mk RX10 "isBeyond" hy_X10_isBeyond (Nat.le_of_ble_eq_true rfl) (fun X hX C => ?_)
  change Go X G _ 1 0 0 S 0 [(0, .int (nI j))] []
  refine g_iload_n 0 0 C dX10_isBeyond_0 rfl rfl ?_
  refine g_nif_lt 10 (by omega) C dX10_isBeyond_1 (by decide) ?_
  refine g_iload_n 0 0 C dX10_isBeyond_4 rfl rfl ?_
  refine g_bipush (v := nI 10) C dX10_isBeyond_5 (by decide) ?_
  refine g_ncmp_lt 14 (by omega) (by omega) C dX10_isBeyond_7 (by decide) (fun c7 => ?_) (fun c7 => ?_)
  · refine g_iconst (v := nI 0) C dX10_isBeyond_14 (by decide) ?_
    exact g_zret C dX10_isBeyond_15 (by decide) (by decide) (Or.inl rfl) (⟨rfl, rfl⟩)
  · omega
set_option maxRecDepth 100000 in
set_option maxHeartbeats 2000000 in
theorem c_C_beyond_out {lX : Launch} {G : Gx} {S : PS} {p : Int32} (hp : p < 0 ∨ nI 10 ≤ p) : Ct lX yX10_isBeyond cX10_isBeyond 1 (Option.some Jvm.ClassFile.FieldType.boolean) rm_X10_isBeyond G [.int p] S (fun r S' => r = some (.int (nI 1)) ∧ S = S') := by
  refine Ct.mk RX10 "isBeyond" hy_X10_isBeyond (Nat.le_of_ble_eq_true rfl) (fun X hX C => ?_)
  change Go X G _ 1 0 0 S 0 [(0, .int p)] []
  refine g_iload_n 0 0 C dX10_isBeyond_0 rfl rfl ?_
  refine g_if_lt 10 C dX10_isBeyond_1 (by decide) (fun c1 => ?_) (fun c1 => ?_)
  · refine g_iconst (v := nI 1) C dX10_isBeyond_10 (by decide) ?_
    refine g_goto 15 C dX10_isBeyond_11 (by decide) ?_
    exact g_zret C dX10_isBeyond_15 (by decide) (by decide) (Or.inr rfl) (⟨rfl, rfl⟩)
  · refine g_iload_n 0 0 C dX10_isBeyond_4 rfl rfl ?_
    refine g_bipush (v := nI 10) C dX10_isBeyond_5 (by decide) ?_
    refine g_icmp_lt 14 C dX10_isBeyond_7 (by decide) (fun c7 => ?_) (fun c7 => ?_)
    · exact absurd hp (fun h => h.elim c1 (Int32.not_le.mpr c7))
    · refine g_iconst (v := nI 1) C dX10_isBeyond_10 (by decide) ?_
      refine g_goto 15 C dX10_isBeyond_11 (by decide) ?_
      exact g_zret C dX10_isBeyond_15 (by decide) (by decide) (Or.inr rfl) (⟨rfl, rfl⟩)
set_option maxRecDepth 100000 in
set_option maxHeartbeats 2000000 in
theorem c_C_thing_out {lX : Launch} {G : Gx} {S : PS} {x : Nat} {c : Nat → Nat} {D : Nat → Nat → Nat} {Z : ZT} (hr : RCD S Z x c D) (hZ : okZ Z) {p : Int32} (hp : p < 0 ∨ nI 10 ≤ p) : Ct lX yX10_thingAt cX10_thingAt 2 (Option.some (Jvm.ClassFile.FieldType.object "BitAlmanac$Thing")) rm_X10_thingAt G [.ref x, .int p] S (fun r S' => r = some .null ∧ S = S') := by
  obtain ⟨⟨⟨kx, r0, k0⟩, r1, r3, r5, ⟨r7, k7⟩, ⟨r8, k8⟩, ⟨r9, k9⟩, ⟨r10, k10⟩, ⟨r11, k11⟩, ⟨r12, k12⟩, r13⟩, hT, hP, hH, hRf, hW, hA, hL, hSep⟩ := id hr
  obtain ⟨⟨k1, r2, k2⟩, hu, htl, htf, ht255⟩ := id hT
  obtain ⟨⟨k3, r4⟩, ⟨k4, l4⟩, ws, wl, wv⟩ := id hW
  refine Ct.mk RX10 "thingAt" hy_X10_thingAt (Nat.le_of_ble_eq_true rfl) (fun X hX C => ?_)
  change Go X G _ 2 0 0 S 0 [(0, .ref x), (1, .int p)] []
  refine g_iload_n 1 1 C dX10_thingAt_0 rfl rfl ?_
  refine g_callS (As := [.int p]) (rest := []) C dX10_thingAt_1 (c_C_beyond_out hp) wC_X10_isBeyond wM_X10_63 wZ_X10_isBeyond wN_X10 hd_X10_isBeyond.2 ⟨by decide, by decide, by decide, by decide⟩ (Nat.le_of_ble_eq_true rfl) (fun r_ S_ h_ => ?_)
  obtain ⟨rfl, rfl⟩ := h_
  change Go X G _ 2 _ _ S 4 [(0, .ref x), (1, .int p)] [.int (nI 1)]
  refine g_nif_eq 11 (by decide) C dX10_thingAt_4 (by decide) (fun c => absurd c (by decide)) (fun _ => ?_)
  refine g_null C dX10_thingAt_7 ?_
  refine g_goto 17 C dX10_thingAt_8 (by decide) ?_
  exact g_aret (r := none) C dX10_thingAt_17 (Or.inl ⟨_, rfl⟩) (by decide) (by decide) (⟨rfl, rfl⟩)
set_option maxRecDepth 100000 in
set_option maxHeartbeats 2000000 in
theorem c_C_thing_no {lX : Launch} {G : Gx} {S : PS} {x : Nat} {c : Nat → Nat} {D : Nat → Nat → Nat} {Z : ZT} (hr : RCD S Z x c D) (hZ : okZ Z) {j : Nat} (hj : j < 10) (hp : zP Z j = 0) : Ct lX yX10_thingAt cX10_thingAt 2 (Option.some (Jvm.ClassFile.FieldType.object "BitAlmanac$Thing")) rm_X10_thingAt G [.ref x, .int (nI j)] S (fun r S' => r = some .null ∧ S = S') := by
  obtain ⟨⟨⟨kx, r0, k0⟩, r1, r3, r5, ⟨r7, k7⟩, ⟨r8, k8⟩, ⟨r9, k9⟩, ⟨r10, k10⟩, ⟨r11, k11⟩, ⟨r12, k12⟩, r13⟩, hT, hP, hH, hRf, hW, hA, hL, hSep⟩ := id hr
  obtain ⟨⟨k1, r2, k2⟩, hu, htl, htf, ht255⟩ := id hT
  obtain ⟨⟨k3, r4⟩, ⟨k4, l4⟩, ws, wl, wv⟩ := id hW
  refine Ct.mk RX10 "thingAt" hy_X10_thingAt (Nat.le_of_ble_eq_true rfl) (fun X hX C => ?_)
  change Go X G _ 2 0 0 S 0 [(0, .ref x), (1, .int (nI j))] []
  refine g_iload_n 1 1 C dX10_thingAt_0 rfl rfl ?_
  refine g_callS (As := [.int (nI j)]) (rest := []) C dX10_thingAt_1 (c_C_beyond_in hj) wC_X10_isBeyond wM_X10_63 wZ_X10_isBeyond wN_X10 hd_X10_isBeyond.2 ⟨by decide, by decide, by decide, by decide⟩ (Nat.le_of_ble_eq_true rfl) (fun r_ S_ h_ => ?_)
  obtain ⟨rfl, rfl⟩ := h_
  change Go X G _ 2 _ _ S 4 [(0, .ref x), (1, .int (nI j))] [.int (nI 0)]
  refine g_nif_eq 11 (by decide) C dX10_thingAt_4 (by decide) (fun _ => ?_) (fun c => absurd c (by decide))
  refine g_aload_n 0 0 C dX10_thingAt_11 rfl rfl ?_
  refine gr_ba_places C dX10_thingAt_12 kx wF_X10_11 r0 ?_
  refine g_iload_n 1 1 C dX10_thingAt_15 rfl rfl ?_
  refine ga_pl_a C dX10_thingAt_16 k0 (by omega) ?_
  refine g_topv (show va_rf ((pl_a S) j) = .null by rw [show pl_a S j = none from by rw [hP j hj, if_pos hp]]; rfl) ?_
  exact g_aret (r := none) C dX10_thingAt_17 (Or.inl ⟨_, rfl⟩) (by decide) (by decide) (⟨rfl, rfl⟩)
set_option maxRecDepth 100000 in
set_option maxHeartbeats 2000000 in
theorem c_C_thing_at {lX : Launch} {G : Gx} {S : PS} {x : Nat} {c : Nat → Nat} {D : Nat → Nat → Nat} {Z : ZT} (hr : RCD S Z x c D) (hZ : okZ Z) {j t : Nat} (hj : j < 10) (hp : zP Z j = t + 1) : Ct lX yX10_thingAt cX10_thingAt 2 (Option.some (Jvm.ClassFile.FieldType.object "BitAlmanac$Thing")) rm_X10_thingAt G [.ref x, .int (nI j)] S (fun r S' => r = some (.ref (D t 0)) ∧ S = S') := by
  obtain ⟨⟨⟨kx, r0, k0⟩, r1, r3, r5, ⟨r7, k7⟩, ⟨r8, k8⟩, ⟨r9, k9⟩, ⟨r10, k10⟩, ⟨r11, k11⟩, ⟨r12, k12⟩, r13⟩, hT, hP, hH, hRf, hW, hA, hL, hSep⟩ := id hr
  obtain ⟨⟨k1, r2, k2⟩, hu, htl, htf, ht255⟩ := id hT
  obtain ⟨⟨k3, r4⟩, ⟨k4, l4⟩, ws, wl, wv⟩ := id hW
  refine Ct.mk RX10 "thingAt" hy_X10_thingAt (Nat.le_of_ble_eq_true rfl) (fun X hX C => ?_)
  change Go X G _ 2 0 0 S 0 [(0, .ref x), (1, .int (nI j))] []
  refine g_iload_n 1 1 C dX10_thingAt_0 rfl rfl ?_
  refine g_callS (As := [.int (nI j)]) (rest := []) C dX10_thingAt_1 (c_C_beyond_in hj) wC_X10_isBeyond wM_X10_63 wZ_X10_isBeyond wN_X10 hd_X10_isBeyond.2 ⟨by decide, by decide, by decide, by decide⟩ (Nat.le_of_ble_eq_true rfl) (fun r_ S_ h_ => ?_)
  obtain ⟨rfl, rfl⟩ := h_
  change Go X G _ 2 _ _ S 4 [(0, .ref x), (1, .int (nI j))] [.int (nI 0)]
  refine g_nif_eq 11 (by decide) C dX10_thingAt_4 (by decide) (fun _ => ?_) (fun c => absurd c (by decide))
  refine g_aload_n 0 0 C dX10_thingAt_11 rfl rfl ?_
  refine gr_ba_places C dX10_thingAt_12 kx wF_X10_11 r0 ?_
  refine g_iload_n 1 1 C dX10_thingAt_15 rfl rfl ?_
  refine gar_pl_a C dX10_thingAt_16 k0 (by omega) (show pl_a S j = some (D t 0) from by rw [hP j hj, if_neg (by omega), hp]; rfl) ?_
  exact g_aret (r := some ((D t 0))) C dX10_thingAt_17 (Or.inl ⟨_, rfl⟩) (by decide) (by decide) (⟨rfl, rfl⟩)
set_option maxRecDepth 100000 in
set_option maxHeartbeats 2000000 in
theorem c_C_ref_out {lX : Launch} {G : Gx} {S : PS} {x : Nat} {c : Nat → Nat} {D : Nat → Nat → Nat} {Z : ZT} (hr : RCD S Z x c D) (hZ : okZ Z) {p : Int32} (hp : p < 0 ∨ nI 10 ≤ p) : Ct lX yX10_refusalAt cX10_refusalAt 2 (Option.some Jvm.ClassFile.FieldType.int) rm_X10_refusalAt G [.ref x, .int p] S (fun r S' => r = some (.int (reA Z p)) ∧ S = S') := by
  obtain ⟨⟨⟨kx, r0, k0⟩, r1, r3, r5, ⟨r7, k7⟩, ⟨r8, k8⟩, ⟨r9, k9⟩, ⟨r10, k10⟩, ⟨r11, k11⟩, ⟨r12, k12⟩, r13⟩, hT, hP, hH, hRf, hW, hA, hL, hSep⟩ := id hr
  obtain ⟨⟨k1, r2, k2⟩, hu, htl, htf, ht255⟩ := id hT
  obtain ⟨⟨k3, r4⟩, ⟨k4, l4⟩, ws, wl, wv⟩ := id hW
  refine Ct.mk RX10 "refusalAt" hy_X10_refusalAt (Nat.le_of_ble_eq_true rfl) (fun X hX C => ?_)
  change Go X G _ 2 0 0 S 0 [(0, .ref x), (1, .int p)] []
  refine g_iload_n 1 1 C dX10_refusalAt_0 rfl rfl ?_
  refine g_callS (As := [.int p]) (rest := []) C dX10_refusalAt_1 (c_C_beyond_out hp) wC_X10_isBeyond wM_X10_63 wZ_X10_isBeyond wN_X10 hd_X10_isBeyond.2 ⟨by decide, by decide, by decide, by decide⟩ (Nat.le_of_ble_eq_true rfl) (fun r_ S_ h_ => ?_)
  obtain ⟨rfl, rfl⟩ := h_
  change Go X G _ 2 _ _ S 4 [(0, .ref x), (1, .int p)] [.int (nI 1)]
  refine g_nif_eq 10 (by decide) C dX10_refusalAt_4 (by decide) (fun c => absurd c (by decide)) (fun _ => ?_)
  refine g_bipush (v := -2) C dX10_refusalAt_7 (by decide) ?_
  exact g_iret C dX10_refusalAt_9 (by decide) (by decide) (⟨by unfold reA; rw [look_out hp], rfl⟩)
set_option maxRecDepth 100000 in
set_option maxHeartbeats 2000000 in
theorem c_C_ref_no {lX : Launch} {G : Gx} {S : PS} {x : Nat} {c : Nat → Nat} {D : Nat → Nat → Nat} {Z : ZT} (hr : RCD S Z x c D) (hZ : okZ Z) {j : Nat} (hj : j < 10) (hp : zP Z j = 0) : Ct lX yX10_refusalAt cX10_refusalAt 2 (Option.some Jvm.ClassFile.FieldType.int) rm_X10_refusalAt G [.ref x, .int (nI j)] S (fun r S' => r = some (.int (reA Z (nI j))) ∧ S = S') := by
  obtain ⟨⟨⟨kx, r0, k0⟩, r1, r3, r5, ⟨r7, k7⟩, ⟨r8, k8⟩, ⟨r9, k9⟩, ⟨r10, k10⟩, ⟨r11, k11⟩, ⟨r12, k12⟩, r13⟩, hT, hP, hH, hRf, hW, hA, hL, hSep⟩ := id hr
  obtain ⟨⟨k1, r2, k2⟩, hu, htl, htf, ht255⟩ := id hT
  obtain ⟨⟨k3, r4⟩, ⟨k4, l4⟩, ws, wl, wv⟩ := id hW
  refine Ct.mk RX10 "refusalAt" hy_X10_refusalAt (Nat.le_of_ble_eq_true rfl) (fun X hX C => ?_)
  change Go X G _ 2 0 0 S 0 [(0, .ref x), (1, .int (nI j))] []
  refine g_iload_n 1 1 C dX10_refusalAt_0 rfl rfl ?_
  refine g_callS (As := [.int (nI j)]) (rest := []) C dX10_refusalAt_1 (c_C_beyond_in hj) wC_X10_isBeyond wM_X10_63 wZ_X10_isBeyond wN_X10 hd_X10_isBeyond.2 ⟨by decide, by decide, by decide, by decide⟩ (Nat.le_of_ble_eq_true rfl) (fun r_ S_ h_ => ?_)
  obtain ⟨rfl, rfl⟩ := h_
  change Go X G _ 2 _ _ S 4 [(0, .ref x), (1, .int (nI j))] [.int (nI 0)]
  refine g_nif_eq 10 (by decide) C dX10_refusalAt_4 (by decide) (fun _ => ?_) (fun c => absurd c (by decide))
  refine g_aload_n 0 0 C dX10_refusalAt_10 rfl rfl ?_
  refine gr_ba_places C dX10_refusalAt_11 kx wF_X10_11 r0 ?_
  refine g_iload_n 1 1 C dX10_refusalAt_14 rfl rfl ?_
  refine ga_pl_a C dX10_refusalAt_15 k0 (by omega) ?_
  refine g_topv (show va_rf ((pl_a S) j) = .null by rw [show pl_a S j = none from by rw [hP j hj, if_pos hp]]; rfl) ?_
  refine g_ifnonnullN C dX10_refusalAt_16 ?_
  refine g_bipush (v := -3) C dX10_refusalAt_19 (by decide) ?_
  refine g_goto 26 C dX10_refusalAt_21 (by decide) ?_
  exact g_iret C dX10_refusalAt_26 (by decide) (by decide) (⟨by unfold reA; rw [look_no hj hp], rfl⟩)
set_option maxRecDepth 100000 in
set_option maxHeartbeats 2000000 in
theorem c_C_ref_at {lX : Launch} {G : Gx} {S : PS} {x : Nat} {c : Nat → Nat} {D : Nat → Nat → Nat} {Z : ZT} (hr : RCD S Z x c D) (hZ : okZ Z) {j t : Nat} (hj : j < 10) (hp : zP Z j = t + 1) : Ct lX yX10_refusalAt cX10_refusalAt 2 (Option.some Jvm.ClassFile.FieldType.int) rm_X10_refusalAt G [.ref x, .int (nI j)] S (fun r S' => r = some (.int (reA Z (nI j))) ∧ S = S') := by
  obtain ⟨⟨⟨kx, r0, k0⟩, r1, r3, r5, ⟨r7, k7⟩, ⟨r8, k8⟩, ⟨r9, k9⟩, ⟨r10, k10⟩, ⟨r11, k11⟩, ⟨r12, k12⟩, r13⟩, hT, hP, hH, hRf, hW, hA, hL, hSep⟩ := id hr
  obtain ⟨⟨k1, r2, k2⟩, hu, htl, htf, ht255⟩ := id hT
  obtain ⟨⟨k3, r4⟩, ⟨k4, l4⟩, ws, wl, wv⟩ := id hW
  refine Ct.mk RX10 "refusalAt" hy_X10_refusalAt (Nat.le_of_ble_eq_true rfl) (fun X hX C => ?_)
  change Go X G _ 2 0 0 S 0 [(0, .ref x), (1, .int (nI j))] []
  refine g_iload_n 1 1 C dX10_refusalAt_0 rfl rfl ?_
  refine g_callS (As := [.int (nI j)]) (rest := []) C dX10_refusalAt_1 (c_C_beyond_in hj) wC_X10_isBeyond wM_X10_63 wZ_X10_isBeyond wN_X10 hd_X10_isBeyond.2 ⟨by decide, by decide, by decide, by decide⟩ (Nat.le_of_ble_eq_true rfl) (fun r_ S_ h_ => ?_)
  obtain ⟨rfl, rfl⟩ := h_
  change Go X G _ 2 _ _ S 4 [(0, .ref x), (1, .int (nI j))] [.int (nI 0)]
  refine g_nif_eq 10 (by decide) C dX10_refusalAt_4 (by decide) (fun _ => ?_) (fun c => absurd c (by decide))
  refine g_aload_n 0 0 C dX10_refusalAt_10 rfl rfl ?_
  refine gr_ba_places C dX10_refusalAt_11 kx wF_X10_11 r0 ?_
  refine g_iload_n 1 1 C dX10_refusalAt_14 rfl rfl ?_
  refine gar_pl_a C dX10_refusalAt_15 k0 (by omega) (show pl_a S j = some (D t 0) from by rw [hP j hj, if_neg (by omega), hp]; rfl) ?_
  refine g_ifnonnull 24 C dX10_refusalAt_16 (by decide) ?_
  refine g_bipush (v := -4) C dX10_refusalAt_24 (by decide) ?_
  exact g_iret C dX10_refusalAt_26 (by decide) (by decide) (⟨by unfold reA; rw [look_at hj hp], rfl⟩)
theorem c_C_ref {lX : Launch} {G : Gx} {S : PS} {x : Nat} {c : Nat → Nat} {D : Nat → Nat → Nat} {Z : ZT} (hr : RCD S Z x c D) (hZ : okZ Z) {p : Int32}  : Ct lX yX10_refusalAt cX10_refusalAt 2 (Option.some Jvm.ClassFile.FieldType.int) rm_X10_refusalAt G [.ref x, .int p] S (fun r S' => r = some (.int (reA Z p)) ∧ S = S') := by
  rcases look_cases Z p with h | ⟨j, hj, rfl, h | ⟨t, h⟩⟩
  · exact c_C_ref_out hr hZ h
  · exact c_C_ref_no hr hZ hj h
  · exact c_C_ref_at hr hZ hj h
set_option maxRecDepth 100000 in
set_option maxHeartbeats 2000000 in
theorem c_C_held_no {lX : Launch} {G : Gx} {S : PS} {x : Nat} {c : Nat → Nat} {D : Nat → Nat → Nat} {Z : ZT} (hr : RCD S Z x c D) (hZ : okZ Z) {j : Nat} (hj : j < 10) (hp : zP Z j = 0) : Ct lX yX10_kindHeld cX10_kindHeld 3 (Option.some Jvm.ClassFile.FieldType.int) rm_X10_kindHeld G [.ref x, .int (nI j)] S (fun r S' => r = some (.int (A_kind Z (nI j))) ∧ S = S') := by
  obtain ⟨⟨⟨kx, r0, k0⟩, r1, r3, r5, ⟨r7, k7⟩, ⟨r8, k8⟩, ⟨r9, k9⟩, ⟨r10, k10⟩, ⟨r11, k11⟩, ⟨r12, k12⟩, r13⟩, hT, hP, hH, hRf, hW, hA, hL, hSep⟩ := id hr
  obtain ⟨⟨k1, r2, k2⟩, hu, htl, htf, ht255⟩ := id hT
  obtain ⟨⟨k3, r4⟩, ⟨k4, l4⟩, ws, wl, wv⟩ := id hW
  refine Ct.mk RX10 "kindHeld" hy_X10_kindHeld (Nat.le_of_ble_eq_true rfl) (fun X hX C => ?_)
  change Go X G _ 3 0 0 S 0 [(0, .ref x), (1, .int (nI j))] []
  refine g_aload_n 0 0 C dX10_kindHeld_0 rfl rfl ?_
  refine g_iload_n 1 1 C dX10_kindHeld_1 rfl rfl ?_
  refine g_callV (As := [.int (nI j)]) (rest := []) C dX10_kindHeld_2 (c_C_thing_no hr hZ hj hp) wC_X10_thingAt wM_X10_139 wI_X10_thingAt wS_X10_thingAt wN_X10 (kne kx) (pf_10 kx) rfl hd_X10_thingAt ⟨by decide, by decide, by decide, by decide⟩ (Nat.le_of_ble_eq_true rfl) (fun r_ S_ h_ => ?_)
  obtain ⟨rfl, rfl⟩ := h_
  change Go X G _ 3 _ _ S 5 [(0, .ref x), (1, .int (nI j))] [.null]
  refine g_astore_nN (lv' := [(2, .null), (0, .ref x), (1, .int (nI j))]) C dX10_kindHeld_5 rfl (by decide) rfl ?_
  refine g_aload_nN 0 2 C dX10_kindHeld_6 rfl rfl ?_
  refine g_ifnonnullN C dX10_kindHeld_7 ?_
  refine g_iconst (v := nI 0) C dX10_kindHeld_10 (by decide) ?_
  refine g_goto 18 C dX10_kindHeld_11 (by decide) ?_
  exact g_iret C dX10_kindHeld_18 (by decide) (by decide) (⟨by unfold A_kind; rw [look_no hj hp]; rfl, rfl⟩)
set_option maxRecDepth 100000 in
set_option maxHeartbeats 2000000 in
theorem c_C_held_atb {lX : Launch} {G : Gx} {S : PS} {x : Nat} {c : Nat → Nat} {D : Nat → Nat → Nat} {Z : ZT} (hr : RCD S Z x c D) (hZ : okZ Z) {j t : Nat} (hj : j < 10) (hp : zP Z j = t + 1) (hk : tK (zH Z t) ≤ 5) : Ct lX yX10_kindHeld cX10_kindHeld 3 (Option.some Jvm.ClassFile.FieldType.int) rm_X10_kindHeld G [.ref x, .int (nI j)] S (fun r S' => r = some (.int (nI (tK (zH Z t)))) ∧ S = S') := by
  obtain ⟨⟨⟨kx, r0, k0⟩, r1, r3, r5, ⟨r7, k7⟩, ⟨r8, k8⟩, ⟨r9, k9⟩, ⟨r10, k10⟩, ⟨r11, k11⟩, ⟨r12, k12⟩, r13⟩, hT, hP, hH, hRf, hW, hA, hL, hSep⟩ := id hr
  obtain ⟨⟨k1, r2, k2⟩, hu, htl, htf, ht255⟩ := id hT
  obtain ⟨⟨k3, r4⟩, ⟨k4, l4⟩, ws, wl, wv⟩ := id hW
  have hth := hH t ⟨j, hj, hp⟩
  have hok := (hZ.th hj hp).1
  have hk7 := hok.2.1
  have hk1 := hok.1
  have hb := hth.1 hk
  refine Ct.mk RX10 "kindHeld" hy_X10_kindHeld (Nat.le_of_ble_eq_true rfl) (fun X hX C => ?_)
  change Go X G _ 3 0 0 S 0 [(0, .ref x), (1, .int (nI j))] []
  refine g_aload_n 0 0 C dX10_kindHeld_0 rfl rfl ?_
  refine g_iload_n 1 1 C dX10_kindHeld_1 rfl rfl ?_
  refine g_callV (As := [.int (nI j)]) (rest := []) C dX10_kindHeld_2 (c_C_thing_at hr hZ hj hp) wC_X10_thingAt wM_X10_139 wI_X10_thingAt wS_X10_thingAt wN_X10 (kne kx) (pf_10 kx) rfl hd_X10_thingAt ⟨by decide, by decide, by decide, by decide⟩ (Nat.le_of_ble_eq_true rfl) (fun r_ S_ h_ => ?_)
  obtain ⟨rfl, rfl⟩ := h_
  change Go X G _ 3 _ _ S 5 [(0, .ref x), (1, .int (nI j))] [.ref ((D t 0))]
  refine g_astore_n (lv' := [(2, .ref ((D t 0))), (0, .ref x), (1, .int (nI j))]) C dX10_kindHeld_5 rfl (by decide) rfl ?_
  refine g_aload_n 0 2 C dX10_kindHeld_6 rfl rfl ?_
  refine g_ifnonnull 14 C dX10_kindHeld_7 (by decide) ?_
  refine g_aload_n 0 2 C dX10_kindHeld_14 rfl rfl ?_
  refine gf_bk_kind C dX10_kindHeld_15 hb.1.1 wF_X10_280 ?_
  refine g_topi (hb.1.2.1) ?_
  exact g_iret C dX10_kindHeld_18 (by decide) (by decide) (⟨rfl, rfl⟩)
set_option maxRecDepth 100000 in
set_option maxHeartbeats 2000000 in
theorem c_C_held_atd {lX : Launch} {G : Gx} {S : PS} {x : Nat} {c : Nat → Nat} {D : Nat → Nat → Nat} {Z : ZT} (hr : RCD S Z x c D) (hZ : okZ Z) {j t : Nat} (hj : j < 10) (hp : zP Z j = t + 1) (hk : tK (zH Z t) = 6) : Ct lX yX10_kindHeld cX10_kindHeld 3 (Option.some Jvm.ClassFile.FieldType.int) rm_X10_kindHeld G [.ref x, .int (nI j)] S (fun r S' => r = some (.int (nI (tK (zH Z t)))) ∧ S = S') := by
  obtain ⟨⟨⟨kx, r0, k0⟩, r1, r3, r5, ⟨r7, k7⟩, ⟨r8, k8⟩, ⟨r9, k9⟩, ⟨r10, k10⟩, ⟨r11, k11⟩, ⟨r12, k12⟩, r13⟩, hT, hP, hH, hRf, hW, hA, hL, hSep⟩ := id hr
  obtain ⟨⟨k1, r2, k2⟩, hu, htl, htf, ht255⟩ := id hT
  obtain ⟨⟨k3, r4⟩, ⟨k4, l4⟩, ws, wl, wv⟩ := id hW
  have hth := hH t ⟨j, hj, hp⟩
  have hok := (hZ.th hj hp).1
  have hk7 := hok.2.1
  have hk1 := hok.1
  have hb := hth.2.1 hk
  refine Ct.mk RX10 "kindHeld" hy_X10_kindHeld (Nat.le_of_ble_eq_true rfl) (fun X hX C => ?_)
  change Go X G _ 3 0 0 S 0 [(0, .ref x), (1, .int (nI j))] []
  refine g_aload_n 0 0 C dX10_kindHeld_0 rfl rfl ?_
  refine g_iload_n 1 1 C dX10_kindHeld_1 rfl rfl ?_
  refine g_callV (As := [.int (nI j)]) (rest := []) C dX10_kindHeld_2 (c_C_thing_at hr hZ hj hp) wC_X10_thingAt wM_X10_139 wI_X10_thingAt wS_X10_thingAt wN_X10 (kne kx) (pf_10 kx) rfl hd_X10_thingAt ⟨by decide, by decide, by decide, by decide⟩ (Nat.le_of_ble_eq_true rfl) (fun r_ S_ h_ => ?_)
  obtain ⟨rfl, rfl⟩ := h_
  change Go X G _ 3 _ _ S 5 [(0, .ref x), (1, .int (nI j))] [.ref ((D t 0))]
  refine g_astore_n (lv' := [(2, .ref ((D t 0))), (0, .ref x), (1, .int (nI j))]) C dX10_kindHeld_5 rfl (by decide) rfl ?_
  refine g_aload_n 0 2 C dX10_kindHeld_6 rfl rfl ?_
  refine g_ifnonnull 14 C dX10_kindHeld_7 (by decide) ?_
  refine g_aload_n 0 2 C dX10_kindHeld_14 rfl rfl ?_
  refine gf_dr_kind C dX10_kindHeld_15 hb.1.1 wF_X10_280 ?_
  refine g_topi (hb.1.2.1) ?_
  exact g_iret C dX10_kindHeld_18 (by decide) (by decide) (⟨rfl, rfl⟩)
set_option maxRecDepth 100000 in
set_option maxHeartbeats 2000000 in
theorem c_C_held_atr {lX : Launch} {G : Gx} {S : PS} {x : Nat} {c : Nat → Nat} {D : Nat → Nat → Nat} {Z : ZT} (hr : RCD S Z x c D) (hZ : okZ Z) {j t : Nat} (hj : j < 10) (hp : zP Z j = t + 1) (hk : tK (zH Z t) = 7) : Ct lX yX10_kindHeld cX10_kindHeld 3 (Option.some Jvm.ClassFile.FieldType.int) rm_X10_kindHeld G [.ref x, .int (nI j)] S (fun r S' => r = some (.int (nI (tK (zH Z t)))) ∧ S = S') := by
  obtain ⟨⟨⟨kx, r0, k0⟩, r1, r3, r5, ⟨r7, k7⟩, ⟨r8, k8⟩, ⟨r9, k9⟩, ⟨r10, k10⟩, ⟨r11, k11⟩, ⟨r12, k12⟩, r13⟩, hT, hP, hH, hRf, hW, hA, hL, hSep⟩ := id hr
  obtain ⟨⟨k1, r2, k2⟩, hu, htl, htf, ht255⟩ := id hT
  obtain ⟨⟨k3, r4⟩, ⟨k4, l4⟩, ws, wl, wv⟩ := id hW
  have hth := hH t ⟨j, hj, hp⟩
  have hok := (hZ.th hj hp).1
  have hk7 := hok.2.1
  have hk1 := hok.1
  have hb := hth.2.2 hk
  refine Ct.mk RX10 "kindHeld" hy_X10_kindHeld (Nat.le_of_ble_eq_true rfl) (fun X hX C => ?_)
  change Go X G _ 3 0 0 S 0 [(0, .ref x), (1, .int (nI j))] []
  refine g_aload_n 0 0 C dX10_kindHeld_0 rfl rfl ?_
  refine g_iload_n 1 1 C dX10_kindHeld_1 rfl rfl ?_
  refine g_callV (As := [.int (nI j)]) (rest := []) C dX10_kindHeld_2 (c_C_thing_at hr hZ hj hp) wC_X10_thingAt wM_X10_139 wI_X10_thingAt wS_X10_thingAt wN_X10 (kne kx) (pf_10 kx) rfl hd_X10_thingAt ⟨by decide, by decide, by decide, by decide⟩ (Nat.le_of_ble_eq_true rfl) (fun r_ S_ h_ => ?_)
  obtain ⟨rfl, rfl⟩ := h_
  change Go X G _ 3 _ _ S 5 [(0, .ref x), (1, .int (nI j))] [.ref ((D t 0))]
  refine g_astore_n (lv' := [(2, .ref ((D t 0))), (0, .ref x), (1, .int (nI j))]) C dX10_kindHeld_5 rfl (by decide) rfl ?_
  refine g_aload_n 0 2 C dX10_kindHeld_6 rfl rfl ?_
  refine g_ifnonnull 14 C dX10_kindHeld_7 (by decide) ?_
  refine g_aload_n 0 2 C dX10_kindHeld_14 rfl rfl ?_
  refine gf_br_kind C dX10_kindHeld_15 hb.1.1 wF_X10_280 ?_
  refine g_topi (hb.1.2.1) ?_
  exact g_iret C dX10_kindHeld_18 (by decide) (by decide) (⟨rfl, rfl⟩)
theorem c_C_held_at {lX : Launch} {G : Gx} {S : PS} {x : Nat} {c : Nat → Nat} {D : Nat → Nat → Nat} {Z : ZT} (hr : RCD S Z x c D) (hZ : okZ Z) {j t : Nat} (hj : j < 10) (hp : zP Z j = t + 1) : Ct lX yX10_kindHeld cX10_kindHeld 3 (Option.some Jvm.ClassFile.FieldType.int) rm_X10_kindHeld G [.ref x, .int (nI j)] S (fun r S' => r = some (.int (nI (tK (zH Z t)))) ∧ S = S') := by
  have hok := (hZ.th hj hp).1
  have h1 := hok.1
  have h2 := hok.2.1
  by_cases g : tK (zH Z t) ≤ 5
  · exact c_C_held_atb hr hZ hj hp g
  · by_cases g2 : tK (zH Z t) = 6
    · exact c_C_held_atd hr hZ hj hp g2
    · exact c_C_held_atr hr hZ hj hp (by omega)
set_option maxRecDepth 100000 in
set_option maxHeartbeats 2000000 in
theorem c_C_draftAt_out {lX : Launch} {G : Gx} {S : PS} {x : Nat} {c : Nat → Nat} {D : Nat → Nat → Nat} {Z : ZT} (hr : RCD S Z x c D) (hZ : okZ Z) {p : Int32} (hp : p < 0 ∨ nI 10 ≤ p) : Ct lX yX10_draftAt cX10_draftAt 4 (Option.some (Jvm.ClassFile.FieldType.object "BitAlmanac$Draft")) rm_X10_draftAt G [.ref x, .int p] S (fun r S' => r = some .null ∧ S = S') := by
  obtain ⟨⟨⟨kx, r0, k0⟩, r1, r3, r5, ⟨r7, k7⟩, ⟨r8, k8⟩, ⟨r9, k9⟩, ⟨r10, k10⟩, ⟨r11, k11⟩, ⟨r12, k12⟩, r13⟩, hT, hP, hH, hRf, hW, hA, hL, hSep⟩ := id hr
  obtain ⟨⟨k1, r2, k2⟩, hu, htl, htf, ht255⟩ := id hT
  obtain ⟨⟨k3, r4⟩, ⟨k4, l4⟩, ws, wl, wv⟩ := id hW
  refine Ct.mk RX10 "draftAt" hy_X10_draftAt (Nat.le_of_ble_eq_true rfl) (fun X hX C => ?_)
  change Go X G _ 4 0 0 S 0 [(0, .ref x), (1, .int p)] []
  refine g_aload_n 0 0 C dX10_draftAt_0 rfl rfl ?_
  refine g_iload_n 1 1 C dX10_draftAt_1 rfl rfl ?_
  refine g_callV (As := [.int p]) (rest := []) C dX10_draftAt_2 (c_C_thing_out hr hZ hp) wC_X10_thingAt wM_X10_139 wI_X10_thingAt wS_X10_thingAt wN_X10 (kne kx) (pf_10 kx) rfl hd_X10_thingAt ⟨by decide, by decide, by decide, by decide⟩ (Nat.le_of_ble_eq_true rfl) (fun r_ S_ h_ => ?_)
  obtain ⟨rfl, rfl⟩ := h_
  change Go X G _ 4 _ _ S 5 [(0, .ref x), (1, .int p)] [.null]
  refine g_astore_nN (lv' := [(3, .null), (0, .ref x), (1, .int p)]) C dX10_draftAt_5 rfl (by decide) rfl ?_
  refine g_aload_nN 0 3 C dX10_draftAt_6 rfl rfl ?_
  refine g_instN C dX10_draftAt_7 ?_
  refine g_topi (show (0 : Int32) = nI 0 from rfl) ?_
  refine g_nif_eq 20 (by decide) C dX10_draftAt_10 (by decide) (fun _ => ?_) (fun c => absurd c (by decide))
  refine g_null C dX10_draftAt_20 ?_
  exact g_aret (r := none) C dX10_draftAt_21 (Or.inl ⟨_, rfl⟩) (by decide) (by decide) (⟨rfl, rfl⟩)
set_option maxRecDepth 100000 in
set_option maxHeartbeats 2000000 in
theorem c_C_draftAt_no {lX : Launch} {G : Gx} {S : PS} {x : Nat} {c : Nat → Nat} {D : Nat → Nat → Nat} {Z : ZT} (hr : RCD S Z x c D) (hZ : okZ Z) {j : Nat} (hj : j < 10) (hp : zP Z j = 0) : Ct lX yX10_draftAt cX10_draftAt 4 (Option.some (Jvm.ClassFile.FieldType.object "BitAlmanac$Draft")) rm_X10_draftAt G [.ref x, .int (nI j)] S (fun r S' => r = some .null ∧ S = S') := by
  obtain ⟨⟨⟨kx, r0, k0⟩, r1, r3, r5, ⟨r7, k7⟩, ⟨r8, k8⟩, ⟨r9, k9⟩, ⟨r10, k10⟩, ⟨r11, k11⟩, ⟨r12, k12⟩, r13⟩, hT, hP, hH, hRf, hW, hA, hL, hSep⟩ := id hr
  obtain ⟨⟨k1, r2, k2⟩, hu, htl, htf, ht255⟩ := id hT
  obtain ⟨⟨k3, r4⟩, ⟨k4, l4⟩, ws, wl, wv⟩ := id hW
  refine Ct.mk RX10 "draftAt" hy_X10_draftAt (Nat.le_of_ble_eq_true rfl) (fun X hX C => ?_)
  change Go X G _ 4 0 0 S 0 [(0, .ref x), (1, .int (nI j))] []
  refine g_aload_n 0 0 C dX10_draftAt_0 rfl rfl ?_
  refine g_iload_n 1 1 C dX10_draftAt_1 rfl rfl ?_
  refine g_callV (As := [.int (nI j)]) (rest := []) C dX10_draftAt_2 (c_C_thing_no hr hZ hj hp) wC_X10_thingAt wM_X10_139 wI_X10_thingAt wS_X10_thingAt wN_X10 (kne kx) (pf_10 kx) rfl hd_X10_thingAt ⟨by decide, by decide, by decide, by decide⟩ (Nat.le_of_ble_eq_true rfl) (fun r_ S_ h_ => ?_)
  obtain ⟨rfl, rfl⟩ := h_
  change Go X G _ 4 _ _ S 5 [(0, .ref x), (1, .int (nI j))] [.null]
  refine g_astore_nN (lv' := [(3, .null), (0, .ref x), (1, .int (nI j))]) C dX10_draftAt_5 rfl (by decide) rfl ?_
  refine g_aload_nN 0 3 C dX10_draftAt_6 rfl rfl ?_
  refine g_instN C dX10_draftAt_7 ?_
  refine g_topi (show (0 : Int32) = nI 0 from rfl) ?_
  refine g_nif_eq 20 (by decide) C dX10_draftAt_10 (by decide) (fun _ => ?_) (fun c => absurd c (by decide))
  refine g_null C dX10_draftAt_20 ?_
  exact g_aret (r := none) C dX10_draftAt_21 (Or.inl ⟨_, rfl⟩) (by decide) (by decide) (⟨rfl, rfl⟩)
set_option maxRecDepth 100000 in
set_option maxHeartbeats 2000000 in
theorem c_C_draftAt_atb {lX : Launch} {G : Gx} {S : PS} {x : Nat} {c : Nat → Nat} {D : Nat → Nat → Nat} {Z : ZT} (hr : RCD S Z x c D) (hZ : okZ Z) {j t : Nat} (hj : j < 10) (hp : zP Z j = t + 1) (hk : tK (zH Z t) ≤ 5) : Ct lX yX10_draftAt cX10_draftAt 4 (Option.some (Jvm.ClassFile.FieldType.object "BitAlmanac$Draft")) rm_X10_draftAt G [.ref x, .int (nI j)] S (fun r S' => r = some .null ∧ S = S') := by
  obtain ⟨⟨⟨kx, r0, k0⟩, r1, r3, r5, ⟨r7, k7⟩, ⟨r8, k8⟩, ⟨r9, k9⟩, ⟨r10, k10⟩, ⟨r11, k11⟩, ⟨r12, k12⟩, r13⟩, hT, hP, hH, hRf, hW, hA, hL, hSep⟩ := id hr
  obtain ⟨⟨k1, r2, k2⟩, hu, htl, htf, ht255⟩ := id hT
  obtain ⟨⟨k3, r4⟩, ⟨k4, l4⟩, ws, wl, wv⟩ := id hW
  have hth := hH t ⟨j, hj, hp⟩
  have hok := (hZ.th hj hp).1
  have hk7 := hok.2.1
  have hk1 := hok.1
  have hb := hth.1 hk
  refine Ct.mk RX10 "draftAt" hy_X10_draftAt (Nat.le_of_ble_eq_true rfl) (fun X hX C => ?_)
  change Go X G _ 4 0 0 S 0 [(0, .ref x), (1, .int (nI j))] []
  refine g_aload_n 0 0 C dX10_draftAt_0 rfl rfl ?_
  refine g_iload_n 1 1 C dX10_draftAt_1 rfl rfl ?_
  refine g_callV (As := [.int (nI j)]) (rest := []) C dX10_draftAt_2 (c_C_thing_at hr hZ hj hp) wC_X10_thingAt wM_X10_139 wI_X10_thingAt wS_X10_thingAt wN_X10 (kne kx) (pf_10 kx) rfl hd_X10_thingAt ⟨by decide, by decide, by decide, by decide⟩ (Nat.le_of_ble_eq_true rfl) (fun r_ S_ h_ => ?_)
  obtain ⟨rfl, rfl⟩ := h_
  change Go X G _ 4 _ _ S 5 [(0, .ref x), (1, .int (nI j))] [.ref ((D t 0))]
  refine g_astore_n (lv' := [(3, .ref ((D t 0))), (0, .ref x), (1, .int (nI j))]) C dX10_draftAt_5 rfl (by decide) rfl ?_
  refine g_aload_n 0 3 C dX10_draftAt_6 rfl rfl ?_
  refine g_instNo (q := (RX2, TX2, 6)) C dX10_draftAt_7 wK_X10_67 C.2.2.2.2.2.1.2.1.1 (kne hb.1.1) (pf_3 hb.1.1) rfl ?_
  refine g_topi (show (0 : Int32) = nI 0 from rfl) ?_
  refine g_nif_eq 20 (by decide) C dX10_draftAt_10 (by decide) (fun _ => ?_) (fun c => absurd c (by decide))
  refine g_null C dX10_draftAt_20 ?_
  exact g_aret (r := none) C dX10_draftAt_21 (Or.inl ⟨_, rfl⟩) (by decide) (by decide) (⟨rfl, rfl⟩)
set_option maxRecDepth 100000 in
set_option maxHeartbeats 2000000 in
theorem c_C_draftAt_atd {lX : Launch} {G : Gx} {S : PS} {x : Nat} {c : Nat → Nat} {D : Nat → Nat → Nat} {Z : ZT} (hr : RCD S Z x c D) (hZ : okZ Z) {j t : Nat} (hj : j < 10) (hp : zP Z j = t + 1) (hk : tK (zH Z t) = 6) : Ct lX yX10_draftAt cX10_draftAt 4 (Option.some (Jvm.ClassFile.FieldType.object "BitAlmanac$Draft")) rm_X10_draftAt G [.ref x, .int (nI j)] S (fun r S' => r = some (.ref (D t 0)) ∧ S = S') := by
  obtain ⟨⟨⟨kx, r0, k0⟩, r1, r3, r5, ⟨r7, k7⟩, ⟨r8, k8⟩, ⟨r9, k9⟩, ⟨r10, k10⟩, ⟨r11, k11⟩, ⟨r12, k12⟩, r13⟩, hT, hP, hH, hRf, hW, hA, hL, hSep⟩ := id hr
  obtain ⟨⟨k1, r2, k2⟩, hu, htl, htf, ht255⟩ := id hT
  obtain ⟨⟨k3, r4⟩, ⟨k4, l4⟩, ws, wl, wv⟩ := id hW
  have hth := hH t ⟨j, hj, hp⟩
  have hok := (hZ.th hj hp).1
  have hk7 := hok.2.1
  have hk1 := hok.1
  have hb := hth.2.1 hk
  refine Ct.mk RX10 "draftAt" hy_X10_draftAt (Nat.le_of_ble_eq_true rfl) (fun X hX C => ?_)
  change Go X G _ 4 0 0 S 0 [(0, .ref x), (1, .int (nI j))] []
  refine g_aload_n 0 0 C dX10_draftAt_0 rfl rfl ?_
  refine g_iload_n 1 1 C dX10_draftAt_1 rfl rfl ?_
  refine g_callV (As := [.int (nI j)]) (rest := []) C dX10_draftAt_2 (c_C_thing_at hr hZ hj hp) wC_X10_thingAt wM_X10_139 wI_X10_thingAt wS_X10_thingAt wN_X10 (kne kx) (pf_10 kx) rfl hd_X10_thingAt ⟨by decide, by decide, by decide, by decide⟩ (Nat.le_of_ble_eq_true rfl) (fun r_ S_ h_ => ?_)
  obtain ⟨rfl, rfl⟩ := h_
  change Go X G _ 4 _ _ S 5 [(0, .ref x), (1, .int (nI j))] [.ref ((D t 0))]
  refine g_astore_n (lv' := [(3, .ref ((D t 0))), (0, .ref x), (1, .int (nI j))]) C dX10_draftAt_5 rfl (by decide) rfl ?_
  refine g_aload_n 0 3 C dX10_draftAt_6 rfl rfl ?_
  refine g_instY (q := (RX3, TX3, 2)) C dX10_draftAt_7 wK_X10_67 (kne hb.1.1) (pf_4 hb.1.1) rfl ?_
  refine g_topi (show (1 : Int32) = nI 1 from rfl) ?_
  refine g_nif_eq 20 (by decide) C dX10_draftAt_10 (by decide) (fun c => absurd c (by decide)) (fun _ => ?_)
  refine g_aload_n 0 3 C dX10_draftAt_13 rfl rfl ?_
  refine g_castY (q := (RX3, TX3, 2)) C dX10_draftAt_14 wK_X10_67 (kne hb.1.1) (pf_4 hb.1.1) rfl ?_
  refine g_astore_n (lv' := [(2, .ref ((D t 0))), (3, .ref ((D t 0))), (0, .ref x), (1, .int (nI j))]) C dX10_draftAt_17 rfl (by decide) rfl ?_
  refine g_aload_n 0 2 C dX10_draftAt_18 rfl rfl ?_
  exact g_aret (r := some ((D t 0))) C dX10_draftAt_19 (Or.inl ⟨_, rfl⟩) (by decide) (by decide) (⟨rfl, rfl⟩)
set_option maxRecDepth 100000 in
set_option maxHeartbeats 2000000 in
theorem c_C_draftAt_atr {lX : Launch} {G : Gx} {S : PS} {x : Nat} {c : Nat → Nat} {D : Nat → Nat → Nat} {Z : ZT} (hr : RCD S Z x c D) (hZ : okZ Z) {j t : Nat} (hj : j < 10) (hp : zP Z j = t + 1) (hk : tK (zH Z t) = 7) : Ct lX yX10_draftAt cX10_draftAt 4 (Option.some (Jvm.ClassFile.FieldType.object "BitAlmanac$Draft")) rm_X10_draftAt G [.ref x, .int (nI j)] S (fun r S' => r = some .null ∧ S = S') := by
  obtain ⟨⟨⟨kx, r0, k0⟩, r1, r3, r5, ⟨r7, k7⟩, ⟨r8, k8⟩, ⟨r9, k9⟩, ⟨r10, k10⟩, ⟨r11, k11⟩, ⟨r12, k12⟩, r13⟩, hT, hP, hH, hRf, hW, hA, hL, hSep⟩ := id hr
  obtain ⟨⟨k1, r2, k2⟩, hu, htl, htf, ht255⟩ := id hT
  obtain ⟨⟨k3, r4⟩, ⟨k4, l4⟩, ws, wl, wv⟩ := id hW
  have hth := hH t ⟨j, hj, hp⟩
  have hok := (hZ.th hj hp).1
  have hk7 := hok.2.1
  have hk1 := hok.1
  have hb := hth.2.2 hk
  refine Ct.mk RX10 "draftAt" hy_X10_draftAt (Nat.le_of_ble_eq_true rfl) (fun X hX C => ?_)
  change Go X G _ 4 0 0 S 0 [(0, .ref x), (1, .int (nI j))] []
  refine g_aload_n 0 0 C dX10_draftAt_0 rfl rfl ?_
  refine g_iload_n 1 1 C dX10_draftAt_1 rfl rfl ?_
  refine g_callV (As := [.int (nI j)]) (rest := []) C dX10_draftAt_2 (c_C_thing_at hr hZ hj hp) wC_X10_thingAt wM_X10_139 wI_X10_thingAt wS_X10_thingAt wN_X10 (kne kx) (pf_10 kx) rfl hd_X10_thingAt ⟨by decide, by decide, by decide, by decide⟩ (Nat.le_of_ble_eq_true rfl) (fun r_ S_ h_ => ?_)
  obtain ⟨rfl, rfl⟩ := h_
  change Go X G _ 4 _ _ S 5 [(0, .ref x), (1, .int (nI j))] [.ref ((D t 0))]
  refine g_astore_n (lv' := [(3, .ref ((D t 0))), (0, .ref x), (1, .int (nI j))]) C dX10_draftAt_5 rfl (by decide) rfl ?_
  refine g_aload_n 0 3 C dX10_draftAt_6 rfl rfl ?_
  refine g_instNo (q := (RX0, TX0, 2)) C dX10_draftAt_7 wK_X10_67 C.2.2.2.2.2.1.2.1.2.1 (kne hb.1.1) (pf_1 hb.1.1) rfl ?_
  refine g_topi (show (0 : Int32) = nI 0 from rfl) ?_
  refine g_nif_eq 20 (by decide) C dX10_draftAt_10 (by decide) (fun _ => ?_) (fun c => absurd c (by decide))
  refine g_null C dX10_draftAt_20 ?_
  exact g_aret (r := none) C dX10_draftAt_21 (Or.inl ⟨_, rfl⟩) (by decide) (by decide) (⟨rfl, rfl⟩)
set_option maxRecDepth 100000 in
set_option maxHeartbeats 2000000 in
theorem c_C_bookAt_out {lX : Launch} {G : Gx} {S : PS} {x : Nat} {c : Nat → Nat} {D : Nat → Nat → Nat} {Z : ZT} (hr : RCD S Z x c D) (hZ : okZ Z) {p : Int32} (hp : p < 0 ∨ nI 10 ≤ p) : Ct lX yX10_bookAt cX10_bookAt 4 (Option.some (Jvm.ClassFile.FieldType.object "BitAlmanac$Book")) rm_X10_bookAt G [.ref x, .int p] S (fun r S' => r = some .null ∧ S = S') := by
  obtain ⟨⟨⟨kx, r0, k0⟩, r1, r3, r5, ⟨r7, k7⟩, ⟨r8, k8⟩, ⟨r9, k9⟩, ⟨r10, k10⟩, ⟨r11, k11⟩, ⟨r12, k12⟩, r13⟩, hT, hP, hH, hRf, hW, hA, hL, hSep⟩ := id hr
  obtain ⟨⟨k1, r2, k2⟩, hu, htl, htf, ht255⟩ := id hT
  obtain ⟨⟨k3, r4⟩, ⟨k4, l4⟩, ws, wl, wv⟩ := id hW
  refine Ct.mk RX10 "bookAt" hy_X10_bookAt (Nat.le_of_ble_eq_true rfl) (fun X hX C => ?_)
  change Go X G _ 4 0 0 S 0 [(0, .ref x), (1, .int p)] []
  refine g_aload_n 0 0 C dX10_bookAt_0 rfl rfl ?_
  refine g_iload_n 1 1 C dX10_bookAt_1 rfl rfl ?_
  refine g_callV (As := [.int p]) (rest := []) C dX10_bookAt_2 (c_C_thing_out hr hZ hp) wC_X10_thingAt wM_X10_139 wI_X10_thingAt wS_X10_thingAt wN_X10 (kne kx) (pf_10 kx) rfl hd_X10_thingAt ⟨by decide, by decide, by decide, by decide⟩ (Nat.le_of_ble_eq_true rfl) (fun r_ S_ h_ => ?_)
  obtain ⟨rfl, rfl⟩ := h_
  change Go X G _ 4 _ _ S 5 [(0, .ref x), (1, .int p)] [.null]
  refine g_astore_nN (lv' := [(3, .null), (0, .ref x), (1, .int p)]) C dX10_bookAt_5 rfl (by decide) rfl ?_
  refine g_aload_nN 0 3 C dX10_bookAt_6 rfl rfl ?_
  refine g_instN C dX10_bookAt_7 ?_
  refine g_topi (show (0 : Int32) = nI 0 from rfl) ?_
  refine g_nif_eq 20 (by decide) C dX10_bookAt_10 (by decide) (fun _ => ?_) (fun c => absurd c (by decide))
  refine g_null C dX10_bookAt_20 ?_
  exact g_aret (r := none) C dX10_bookAt_21 (Or.inl ⟨_, rfl⟩) (by decide) (by decide) (⟨rfl, rfl⟩)
set_option maxRecDepth 100000 in
set_option maxHeartbeats 2000000 in
theorem c_C_bookAt_no {lX : Launch} {G : Gx} {S : PS} {x : Nat} {c : Nat → Nat} {D : Nat → Nat → Nat} {Z : ZT} (hr : RCD S Z x c D) (hZ : okZ Z) {j : Nat} (hj : j < 10) (hp : zP Z j = 0) : Ct lX yX10_bookAt cX10_bookAt 4 (Option.some (Jvm.ClassFile.FieldType.object "BitAlmanac$Book")) rm_X10_bookAt G [.ref x, .int (nI j)] S (fun r S' => r = some .null ∧ S = S') := by
  obtain ⟨⟨⟨kx, r0, k0⟩, r1, r3, r5, ⟨r7, k7⟩, ⟨r8, k8⟩, ⟨r9, k9⟩, ⟨r10, k10⟩, ⟨r11, k11⟩, ⟨r12, k12⟩, r13⟩, hT, hP, hH, hRf, hW, hA, hL, hSep⟩ := id hr
  obtain ⟨⟨k1, r2, k2⟩, hu, htl, htf, ht255⟩ := id hT
  obtain ⟨⟨k3, r4⟩, ⟨k4, l4⟩, ws, wl, wv⟩ := id hW
  refine Ct.mk RX10 "bookAt" hy_X10_bookAt (Nat.le_of_ble_eq_true rfl) (fun X hX C => ?_)
  change Go X G _ 4 0 0 S 0 [(0, .ref x), (1, .int (nI j))] []
  refine g_aload_n 0 0 C dX10_bookAt_0 rfl rfl ?_
  refine g_iload_n 1 1 C dX10_bookAt_1 rfl rfl ?_
  refine g_callV (As := [.int (nI j)]) (rest := []) C dX10_bookAt_2 (c_C_thing_no hr hZ hj hp) wC_X10_thingAt wM_X10_139 wI_X10_thingAt wS_X10_thingAt wN_X10 (kne kx) (pf_10 kx) rfl hd_X10_thingAt ⟨by decide, by decide, by decide, by decide⟩ (Nat.le_of_ble_eq_true rfl) (fun r_ S_ h_ => ?_)
  obtain ⟨rfl, rfl⟩ := h_
  change Go X G _ 4 _ _ S 5 [(0, .ref x), (1, .int (nI j))] [.null]
  refine g_astore_nN (lv' := [(3, .null), (0, .ref x), (1, .int (nI j))]) C dX10_bookAt_5 rfl (by decide) rfl ?_
  refine g_aload_nN 0 3 C dX10_bookAt_6 rfl rfl ?_
  refine g_instN C dX10_bookAt_7 ?_
  refine g_topi (show (0 : Int32) = nI 0 from rfl) ?_
  refine g_nif_eq 20 (by decide) C dX10_bookAt_10 (by decide) (fun _ => ?_) (fun c => absurd c (by decide))
  refine g_null C dX10_bookAt_20 ?_
  exact g_aret (r := none) C dX10_bookAt_21 (Or.inl ⟨_, rfl⟩) (by decide) (by decide) (⟨rfl, rfl⟩)
set_option maxRecDepth 100000 in
set_option maxHeartbeats 2000000 in
theorem c_C_bookAt_atb {lX : Launch} {G : Gx} {S : PS} {x : Nat} {c : Nat → Nat} {D : Nat → Nat → Nat} {Z : ZT} (hr : RCD S Z x c D) (hZ : okZ Z) {j t : Nat} (hj : j < 10) (hp : zP Z j = t + 1) (hk : tK (zH Z t) ≤ 5) : Ct lX yX10_bookAt cX10_bookAt 4 (Option.some (Jvm.ClassFile.FieldType.object "BitAlmanac$Book")) rm_X10_bookAt G [.ref x, .int (nI j)] S (fun r S' => r = some (.ref (D t 0)) ∧ S = S') := by
  obtain ⟨⟨⟨kx, r0, k0⟩, r1, r3, r5, ⟨r7, k7⟩, ⟨r8, k8⟩, ⟨r9, k9⟩, ⟨r10, k10⟩, ⟨r11, k11⟩, ⟨r12, k12⟩, r13⟩, hT, hP, hH, hRf, hW, hA, hL, hSep⟩ := id hr
  obtain ⟨⟨k1, r2, k2⟩, hu, htl, htf, ht255⟩ := id hT
  obtain ⟨⟨k3, r4⟩, ⟨k4, l4⟩, ws, wl, wv⟩ := id hW
  have hth := hH t ⟨j, hj, hp⟩
  have hok := (hZ.th hj hp).1
  have hk7 := hok.2.1
  have hk1 := hok.1
  have hb := hth.1 hk
  refine Ct.mk RX10 "bookAt" hy_X10_bookAt (Nat.le_of_ble_eq_true rfl) (fun X hX C => ?_)
  change Go X G _ 4 0 0 S 0 [(0, .ref x), (1, .int (nI j))] []
  refine g_aload_n 0 0 C dX10_bookAt_0 rfl rfl ?_
  refine g_iload_n 1 1 C dX10_bookAt_1 rfl rfl ?_
  refine g_callV (As := [.int (nI j)]) (rest := []) C dX10_bookAt_2 (c_C_thing_at hr hZ hj hp) wC_X10_thingAt wM_X10_139 wI_X10_thingAt wS_X10_thingAt wN_X10 (kne kx) (pf_10 kx) rfl hd_X10_thingAt ⟨by decide, by decide, by decide, by decide⟩ (Nat.le_of_ble_eq_true rfl) (fun r_ S_ h_ => ?_)
  obtain ⟨rfl, rfl⟩ := h_
  change Go X G _ 4 _ _ S 5 [(0, .ref x), (1, .int (nI j))] [.ref ((D t 0))]
  refine g_astore_n (lv' := [(3, .ref ((D t 0))), (0, .ref x), (1, .int (nI j))]) C dX10_bookAt_5 rfl (by decide) rfl ?_
  refine g_aload_n 0 3 C dX10_bookAt_6 rfl rfl ?_
  refine g_instY (q := (RX2, TX2, 6)) C dX10_bookAt_7 wK_X10_119 (kne hb.1.1) (pf_3 hb.1.1) rfl ?_
  refine g_topi (show (1 : Int32) = nI 1 from rfl) ?_
  refine g_nif_eq 20 (by decide) C dX10_bookAt_10 (by decide) (fun c => absurd c (by decide)) (fun _ => ?_)
  refine g_aload_n 0 3 C dX10_bookAt_13 rfl rfl ?_
  refine g_castY (q := (RX2, TX2, 6)) C dX10_bookAt_14 wK_X10_119 (kne hb.1.1) (pf_3 hb.1.1) rfl ?_
  refine g_astore_n (lv' := [(2, .ref ((D t 0))), (3, .ref ((D t 0))), (0, .ref x), (1, .int (nI j))]) C dX10_bookAt_17 rfl (by decide) rfl ?_
  refine g_aload_n 0 2 C dX10_bookAt_18 rfl rfl ?_
  exact g_aret (r := some ((D t 0))) C dX10_bookAt_19 (Or.inl ⟨_, rfl⟩) (by decide) (by decide) (⟨rfl, rfl⟩)
set_option maxRecDepth 100000 in
set_option maxHeartbeats 2000000 in
theorem c_C_bookAt_atd {lX : Launch} {G : Gx} {S : PS} {x : Nat} {c : Nat → Nat} {D : Nat → Nat → Nat} {Z : ZT} (hr : RCD S Z x c D) (hZ : okZ Z) {j t : Nat} (hj : j < 10) (hp : zP Z j = t + 1) (hk : tK (zH Z t) = 6) : Ct lX yX10_bookAt cX10_bookAt 4 (Option.some (Jvm.ClassFile.FieldType.object "BitAlmanac$Book")) rm_X10_bookAt G [.ref x, .int (nI j)] S (fun r S' => r = some .null ∧ S = S') := by
  obtain ⟨⟨⟨kx, r0, k0⟩, r1, r3, r5, ⟨r7, k7⟩, ⟨r8, k8⟩, ⟨r9, k9⟩, ⟨r10, k10⟩, ⟨r11, k11⟩, ⟨r12, k12⟩, r13⟩, hT, hP, hH, hRf, hW, hA, hL, hSep⟩ := id hr
  obtain ⟨⟨k1, r2, k2⟩, hu, htl, htf, ht255⟩ := id hT
  obtain ⟨⟨k3, r4⟩, ⟨k4, l4⟩, ws, wl, wv⟩ := id hW
  have hth := hH t ⟨j, hj, hp⟩
  have hok := (hZ.th hj hp).1
  have hk7 := hok.2.1
  have hk1 := hok.1
  have hb := hth.2.1 hk
  refine Ct.mk RX10 "bookAt" hy_X10_bookAt (Nat.le_of_ble_eq_true rfl) (fun X hX C => ?_)
  change Go X G _ 4 0 0 S 0 [(0, .ref x), (1, .int (nI j))] []
  refine g_aload_n 0 0 C dX10_bookAt_0 rfl rfl ?_
  refine g_iload_n 1 1 C dX10_bookAt_1 rfl rfl ?_
  refine g_callV (As := [.int (nI j)]) (rest := []) C dX10_bookAt_2 (c_C_thing_at hr hZ hj hp) wC_X10_thingAt wM_X10_139 wI_X10_thingAt wS_X10_thingAt wN_X10 (kne kx) (pf_10 kx) rfl hd_X10_thingAt ⟨by decide, by decide, by decide, by decide⟩ (Nat.le_of_ble_eq_true rfl) (fun r_ S_ h_ => ?_)
  obtain ⟨rfl, rfl⟩ := h_
  change Go X G _ 4 _ _ S 5 [(0, .ref x), (1, .int (nI j))] [.ref ((D t 0))]
  refine g_astore_n (lv' := [(3, .ref ((D t 0))), (0, .ref x), (1, .int (nI j))]) C dX10_bookAt_5 rfl (by decide) rfl ?_
  refine g_aload_n 0 3 C dX10_bookAt_6 rfl rfl ?_
  refine g_instNo (q := (RX3, TX3, 2)) C dX10_bookAt_7 wK_X10_119 C.2.2.2.2.2.1.2.1.2.2.1 (kne hb.1.1) (pf_4 hb.1.1) rfl ?_
  refine g_topi (show (0 : Int32) = nI 0 from rfl) ?_
  refine g_nif_eq 20 (by decide) C dX10_bookAt_10 (by decide) (fun _ => ?_) (fun c => absurd c (by decide))
  refine g_null C dX10_bookAt_20 ?_
  exact g_aret (r := none) C dX10_bookAt_21 (Or.inl ⟨_, rfl⟩) (by decide) (by decide) (⟨rfl, rfl⟩)
set_option maxRecDepth 100000 in
set_option maxHeartbeats 2000000 in
theorem c_C_bookAt_atr {lX : Launch} {G : Gx} {S : PS} {x : Nat} {c : Nat → Nat} {D : Nat → Nat → Nat} {Z : ZT} (hr : RCD S Z x c D) (hZ : okZ Z) {j t : Nat} (hj : j < 10) (hp : zP Z j = t + 1) (hk : tK (zH Z t) = 7) : Ct lX yX10_bookAt cX10_bookAt 4 (Option.some (Jvm.ClassFile.FieldType.object "BitAlmanac$Book")) rm_X10_bookAt G [.ref x, .int (nI j)] S (fun r S' => r = some .null ∧ S = S') := by
  obtain ⟨⟨⟨kx, r0, k0⟩, r1, r3, r5, ⟨r7, k7⟩, ⟨r8, k8⟩, ⟨r9, k9⟩, ⟨r10, k10⟩, ⟨r11, k11⟩, ⟨r12, k12⟩, r13⟩, hT, hP, hH, hRf, hW, hA, hL, hSep⟩ := id hr
  obtain ⟨⟨k1, r2, k2⟩, hu, htl, htf, ht255⟩ := id hT
  obtain ⟨⟨k3, r4⟩, ⟨k4, l4⟩, ws, wl, wv⟩ := id hW
  have hth := hH t ⟨j, hj, hp⟩
  have hok := (hZ.th hj hp).1
  have hk7 := hok.2.1
  have hk1 := hok.1
  have hb := hth.2.2 hk
  refine Ct.mk RX10 "bookAt" hy_X10_bookAt (Nat.le_of_ble_eq_true rfl) (fun X hX C => ?_)
  change Go X G _ 4 0 0 S 0 [(0, .ref x), (1, .int (nI j))] []
  refine g_aload_n 0 0 C dX10_bookAt_0 rfl rfl ?_
  refine g_iload_n 1 1 C dX10_bookAt_1 rfl rfl ?_
  refine g_callV (As := [.int (nI j)]) (rest := []) C dX10_bookAt_2 (c_C_thing_at hr hZ hj hp) wC_X10_thingAt wM_X10_139 wI_X10_thingAt wS_X10_thingAt wN_X10 (kne kx) (pf_10 kx) rfl hd_X10_thingAt ⟨by decide, by decide, by decide, by decide⟩ (Nat.le_of_ble_eq_true rfl) (fun r_ S_ h_ => ?_)
  obtain ⟨rfl, rfl⟩ := h_
  change Go X G _ 4 _ _ S 5 [(0, .ref x), (1, .int (nI j))] [.ref ((D t 0))]
  refine g_astore_n (lv' := [(3, .ref ((D t 0))), (0, .ref x), (1, .int (nI j))]) C dX10_bookAt_5 rfl (by decide) rfl ?_
  refine g_aload_n 0 3 C dX10_bookAt_6 rfl rfl ?_
  refine g_instNo (q := (RX0, TX0, 2)) C dX10_bookAt_7 wK_X10_119 C.2.2.2.2.2.1.2.1.2.2.2.1 (kne hb.1.1) (pf_1 hb.1.1) rfl ?_
  refine g_topi (show (0 : Int32) = nI 0 from rfl) ?_
  refine g_nif_eq 20 (by decide) C dX10_bookAt_10 (by decide) (fun _ => ?_) (fun c => absurd c (by decide))
  refine g_null C dX10_bookAt_20 ?_
  exact g_aret (r := none) C dX10_bookAt_21 (Or.inl ⟨_, rfl⟩) (by decide) (by decide) (⟨rfl, rfl⟩)
set_option maxRecDepth 100000 in
set_option maxHeartbeats 2000000 in
theorem c_C_bareAt_out {lX : Launch} {G : Gx} {S : PS} {x : Nat} {c : Nat → Nat} {D : Nat → Nat → Nat} {Z : ZT} (hr : RCD S Z x c D) (hZ : okZ Z) {p : Int32} (hp : p < 0 ∨ nI 10 ≤ p) : Ct lX yX10_bareRowAt cX10_bareRowAt 4 (Option.some (Jvm.ClassFile.FieldType.object "BitAlmanac$Row")) rm_X10_bareRowAt G [.ref x, .int p] S (fun r S' => r = some .null ∧ S = S') := by
  obtain ⟨⟨⟨kx, r0, k0⟩, r1, r3, r5, ⟨r7, k7⟩, ⟨r8, k8⟩, ⟨r9, k9⟩, ⟨r10, k10⟩, ⟨r11, k11⟩, ⟨r12, k12⟩, r13⟩, hT, hP, hH, hRf, hW, hA, hL, hSep⟩ := id hr
  obtain ⟨⟨k1, r2, k2⟩, hu, htl, htf, ht255⟩ := id hT
  obtain ⟨⟨k3, r4⟩, ⟨k4, l4⟩, ws, wl, wv⟩ := id hW
  refine Ct.mk RX10 "bareRowAt" hy_X10_bareRowAt (Nat.le_of_ble_eq_true rfl) (fun X hX C => ?_)
  change Go X G _ 4 0 0 S 0 [(0, .ref x), (1, .int p)] []
  refine g_aload_n 0 0 C dX10_bareRowAt_0 rfl rfl ?_
  refine g_iload_n 1 1 C dX10_bareRowAt_1 rfl rfl ?_
  refine g_callV (As := [.int p]) (rest := []) C dX10_bareRowAt_2 (c_C_thing_out hr hZ hp) wC_X10_thingAt wM_X10_139 wI_X10_thingAt wS_X10_thingAt wN_X10 (kne kx) (pf_10 kx) rfl hd_X10_thingAt ⟨by decide, by decide, by decide, by decide⟩ (Nat.le_of_ble_eq_true rfl) (fun r_ S_ h_ => ?_)
  obtain ⟨rfl, rfl⟩ := h_
  change Go X G _ 4 _ _ S 5 [(0, .ref x), (1, .int p)] [.null]
  refine g_astore_nN (lv' := [(3, .null), (0, .ref x), (1, .int p)]) C dX10_bareRowAt_5 rfl (by decide) rfl ?_
  refine g_aload_nN 0 3 C dX10_bareRowAt_6 rfl rfl ?_
  refine g_instN C dX10_bareRowAt_7 ?_
  refine g_topi (show (0 : Int32) = nI 0 from rfl) ?_
  refine g_nif_eq 23 (by decide) C dX10_bareRowAt_10 (by decide) (fun _ => ?_) (fun c => absurd c (by decide))
  refine g_null C dX10_bareRowAt_23 ?_
  exact g_aret (r := none) C dX10_bareRowAt_24 (Or.inl ⟨_, rfl⟩) (by decide) (by decide) (⟨rfl, rfl⟩)
set_option maxRecDepth 100000 in
set_option maxHeartbeats 2000000 in
theorem c_C_bareAt_no {lX : Launch} {G : Gx} {S : PS} {x : Nat} {c : Nat → Nat} {D : Nat → Nat → Nat} {Z : ZT} (hr : RCD S Z x c D) (hZ : okZ Z) {j : Nat} (hj : j < 10) (hp : zP Z j = 0) : Ct lX yX10_bareRowAt cX10_bareRowAt 4 (Option.some (Jvm.ClassFile.FieldType.object "BitAlmanac$Row")) rm_X10_bareRowAt G [.ref x, .int (nI j)] S (fun r S' => r = some .null ∧ S = S') := by
  obtain ⟨⟨⟨kx, r0, k0⟩, r1, r3, r5, ⟨r7, k7⟩, ⟨r8, k8⟩, ⟨r9, k9⟩, ⟨r10, k10⟩, ⟨r11, k11⟩, ⟨r12, k12⟩, r13⟩, hT, hP, hH, hRf, hW, hA, hL, hSep⟩ := id hr
  obtain ⟨⟨k1, r2, k2⟩, hu, htl, htf, ht255⟩ := id hT
  obtain ⟨⟨k3, r4⟩, ⟨k4, l4⟩, ws, wl, wv⟩ := id hW
  refine Ct.mk RX10 "bareRowAt" hy_X10_bareRowAt (Nat.le_of_ble_eq_true rfl) (fun X hX C => ?_)
  change Go X G _ 4 0 0 S 0 [(0, .ref x), (1, .int (nI j))] []
  refine g_aload_n 0 0 C dX10_bareRowAt_0 rfl rfl ?_
  refine g_iload_n 1 1 C dX10_bareRowAt_1 rfl rfl ?_
  refine g_callV (As := [.int (nI j)]) (rest := []) C dX10_bareRowAt_2 (c_C_thing_no hr hZ hj hp) wC_X10_thingAt wM_X10_139 wI_X10_thingAt wS_X10_thingAt wN_X10 (kne kx) (pf_10 kx) rfl hd_X10_thingAt ⟨by decide, by decide, by decide, by decide⟩ (Nat.le_of_ble_eq_true rfl) (fun r_ S_ h_ => ?_)
  obtain ⟨rfl, rfl⟩ := h_
  change Go X G _ 4 _ _ S 5 [(0, .ref x), (1, .int (nI j))] [.null]
  refine g_astore_nN (lv' := [(3, .null), (0, .ref x), (1, .int (nI j))]) C dX10_bareRowAt_5 rfl (by decide) rfl ?_
  refine g_aload_nN 0 3 C dX10_bareRowAt_6 rfl rfl ?_
  refine g_instN C dX10_bareRowAt_7 ?_
  refine g_topi (show (0 : Int32) = nI 0 from rfl) ?_
  refine g_nif_eq 23 (by decide) C dX10_bareRowAt_10 (by decide) (fun _ => ?_) (fun c => absurd c (by decide))
  refine g_null C dX10_bareRowAt_23 ?_
  exact g_aret (r := none) C dX10_bareRowAt_24 (Or.inl ⟨_, rfl⟩) (by decide) (by decide) (⟨rfl, rfl⟩)
set_option maxRecDepth 100000 in
set_option maxHeartbeats 2000000 in
theorem c_C_bareAt_atb {lX : Launch} {G : Gx} {S : PS} {x : Nat} {c : Nat → Nat} {D : Nat → Nat → Nat} {Z : ZT} (hr : RCD S Z x c D) (hZ : okZ Z) {j t : Nat} (hj : j < 10) (hp : zP Z j = t + 1) (hk : tK (zH Z t) ≤ 5) : Ct lX yX10_bareRowAt cX10_bareRowAt 4 (Option.some (Jvm.ClassFile.FieldType.object "BitAlmanac$Row")) rm_X10_bareRowAt G [.ref x, .int (nI j)] S (fun r S' => r = some .null ∧ S = S') := by
  obtain ⟨⟨⟨kx, r0, k0⟩, r1, r3, r5, ⟨r7, k7⟩, ⟨r8, k8⟩, ⟨r9, k9⟩, ⟨r10, k10⟩, ⟨r11, k11⟩, ⟨r12, k12⟩, r13⟩, hT, hP, hH, hRf, hW, hA, hL, hSep⟩ := id hr
  obtain ⟨⟨k1, r2, k2⟩, hu, htl, htf, ht255⟩ := id hT
  obtain ⟨⟨k3, r4⟩, ⟨k4, l4⟩, ws, wl, wv⟩ := id hW
  have hth := hH t ⟨j, hj, hp⟩
  have hok := (hZ.th hj hp).1
  have hk7 := hok.2.1
  have hk1 := hok.1
  have hb := hth.1 hk
  refine Ct.mk RX10 "bareRowAt" hy_X10_bareRowAt (Nat.le_of_ble_eq_true rfl) (fun X hX C => ?_)
  change Go X G _ 4 0 0 S 0 [(0, .ref x), (1, .int (nI j))] []
  refine g_aload_n 0 0 C dX10_bareRowAt_0 rfl rfl ?_
  refine g_iload_n 1 1 C dX10_bareRowAt_1 rfl rfl ?_
  refine g_callV (As := [.int (nI j)]) (rest := []) C dX10_bareRowAt_2 (c_C_thing_at hr hZ hj hp) wC_X10_thingAt wM_X10_139 wI_X10_thingAt wS_X10_thingAt wN_X10 (kne kx) (pf_10 kx) rfl hd_X10_thingAt ⟨by decide, by decide, by decide, by decide⟩ (Nat.le_of_ble_eq_true rfl) (fun r_ S_ h_ => ?_)
  obtain ⟨rfl, rfl⟩ := h_
  change Go X G _ 4 _ _ S 5 [(0, .ref x), (1, .int (nI j))] [.ref ((D t 0))]
  refine g_astore_n (lv' := [(3, .ref ((D t 0))), (0, .ref x), (1, .int (nI j))]) C dX10_bareRowAt_5 rfl (by decide) rfl ?_
  refine g_aload_n 0 3 C dX10_bareRowAt_6 rfl rfl ?_
  refine g_instNo (q := (RX2, TX2, 6)) C dX10_bareRowAt_7 wK_X10_72 C.2.2.2.2.2.1.2.1.2.2.2.2.2 (kne hb.1.1) (pf_3 hb.1.1) rfl ?_
  refine g_topi (show (0 : Int32) = nI 0 from rfl) ?_
  refine g_nif_eq 23 (by decide) C dX10_bareRowAt_10 (by decide) (fun _ => ?_) (fun c => absurd c (by decide))
  refine g_null C dX10_bareRowAt_23 ?_
  exact g_aret (r := none) C dX10_bareRowAt_24 (Or.inl ⟨_, rfl⟩) (by decide) (by decide) (⟨rfl, rfl⟩)
set_option maxRecDepth 100000 in
set_option maxHeartbeats 2000000 in
theorem c_C_bareAt_atd {lX : Launch} {G : Gx} {S : PS} {x : Nat} {c : Nat → Nat} {D : Nat → Nat → Nat} {Z : ZT} (hr : RCD S Z x c D) (hZ : okZ Z) {j t : Nat} (hj : j < 10) (hp : zP Z j = t + 1) (hk : tK (zH Z t) = 6) : Ct lX yX10_bareRowAt cX10_bareRowAt 4 (Option.some (Jvm.ClassFile.FieldType.object "BitAlmanac$Row")) rm_X10_bareRowAt G [.ref x, .int (nI j)] S (fun r S' => r = some .null ∧ S = S') := by
  obtain ⟨⟨⟨kx, r0, k0⟩, r1, r3, r5, ⟨r7, k7⟩, ⟨r8, k8⟩, ⟨r9, k9⟩, ⟨r10, k10⟩, ⟨r11, k11⟩, ⟨r12, k12⟩, r13⟩, hT, hP, hH, hRf, hW, hA, hL, hSep⟩ := id hr
  obtain ⟨⟨k1, r2, k2⟩, hu, htl, htf, ht255⟩ := id hT
  obtain ⟨⟨k3, r4⟩, ⟨k4, l4⟩, ws, wl, wv⟩ := id hW
  have hth := hH t ⟨j, hj, hp⟩
  have hok := (hZ.th hj hp).1
  have hk7 := hok.2.1
  have hk1 := hok.1
  have hb := hth.2.1 hk
  refine Ct.mk RX10 "bareRowAt" hy_X10_bareRowAt (Nat.le_of_ble_eq_true rfl) (fun X hX C => ?_)
  change Go X G _ 4 0 0 S 0 [(0, .ref x), (1, .int (nI j))] []
  refine g_aload_n 0 0 C dX10_bareRowAt_0 rfl rfl ?_
  refine g_iload_n 1 1 C dX10_bareRowAt_1 rfl rfl ?_
  refine g_callV (As := [.int (nI j)]) (rest := []) C dX10_bareRowAt_2 (c_C_thing_at hr hZ hj hp) wC_X10_thingAt wM_X10_139 wI_X10_thingAt wS_X10_thingAt wN_X10 (kne kx) (pf_10 kx) rfl hd_X10_thingAt ⟨by decide, by decide, by decide, by decide⟩ (Nat.le_of_ble_eq_true rfl) (fun r_ S_ h_ => ?_)
  obtain ⟨rfl, rfl⟩ := h_
  change Go X G _ 4 _ _ S 5 [(0, .ref x), (1, .int (nI j))] [.ref ((D t 0))]
  refine g_astore_n (lv' := [(3, .ref ((D t 0))), (0, .ref x), (1, .int (nI j))]) C dX10_bareRowAt_5 rfl (by decide) rfl ?_
  refine g_aload_n 0 3 C dX10_bareRowAt_6 rfl rfl ?_
  refine g_instNo (q := (RX3, TX3, 2)) C dX10_bareRowAt_7 wK_X10_72 C.2.2.2.2.2.1.2.1.2.2.2.2.1 (kne hb.1.1) (pf_4 hb.1.1) rfl ?_
  refine g_topi (show (0 : Int32) = nI 0 from rfl) ?_
  refine g_nif_eq 23 (by decide) C dX10_bareRowAt_10 (by decide) (fun _ => ?_) (fun c => absurd c (by decide))
  refine g_null C dX10_bareRowAt_23 ?_
  exact g_aret (r := none) C dX10_bareRowAt_24 (Or.inl ⟨_, rfl⟩) (by decide) (by decide) (⟨rfl, rfl⟩)
set_option maxRecDepth 100000 in
set_option maxHeartbeats 2000000 in
theorem c_C_bareAt_atr {lX : Launch} {G : Gx} {S : PS} {x : Nat} {c : Nat → Nat} {D : Nat → Nat → Nat} {Z : ZT} (hr : RCD S Z x c D) (hZ : okZ Z) {j t : Nat} (hj : j < 10) (hp : zP Z j = t + 1) (hk : tK (zH Z t) = 7) : Ct lX yX10_bareRowAt cX10_bareRowAt 4 (Option.some (Jvm.ClassFile.FieldType.object "BitAlmanac$Row")) rm_X10_bareRowAt G [.ref x, .int (nI j)] S (fun r S' => r = some (.ref (D t 4)) ∧ S = S') := by
  obtain ⟨⟨⟨kx, r0, k0⟩, r1, r3, r5, ⟨r7, k7⟩, ⟨r8, k8⟩, ⟨r9, k9⟩, ⟨r10, k10⟩, ⟨r11, k11⟩, ⟨r12, k12⟩, r13⟩, hT, hP, hH, hRf, hW, hA, hL, hSep⟩ := id hr
  obtain ⟨⟨k1, r2, k2⟩, hu, htl, htf, ht255⟩ := id hT
  obtain ⟨⟨k3, r4⟩, ⟨k4, l4⟩, ws, wl, wv⟩ := id hW
  have hth := hH t ⟨j, hj, hp⟩
  have hok := (hZ.th hj hp).1
  have hk7 := hok.2.1
  have hk1 := hok.1
  have hb := hth.2.2 hk
  refine Ct.mk RX10 "bareRowAt" hy_X10_bareRowAt (Nat.le_of_ble_eq_true rfl) (fun X hX C => ?_)
  change Go X G _ 4 0 0 S 0 [(0, .ref x), (1, .int (nI j))] []
  refine g_aload_n 0 0 C dX10_bareRowAt_0 rfl rfl ?_
  refine g_iload_n 1 1 C dX10_bareRowAt_1 rfl rfl ?_
  refine g_callV (As := [.int (nI j)]) (rest := []) C dX10_bareRowAt_2 (c_C_thing_at hr hZ hj hp) wC_X10_thingAt wM_X10_139 wI_X10_thingAt wS_X10_thingAt wN_X10 (kne kx) (pf_10 kx) rfl hd_X10_thingAt ⟨by decide, by decide, by decide, by decide⟩ (Nat.le_of_ble_eq_true rfl) (fun r_ S_ h_ => ?_)
  obtain ⟨rfl, rfl⟩ := h_
  change Go X G _ 4 _ _ S 5 [(0, .ref x), (1, .int (nI j))] [.ref ((D t 0))]
  refine g_astore_n (lv' := [(3, .ref ((D t 0))), (0, .ref x), (1, .int (nI j))]) C dX10_bareRowAt_5 rfl (by decide) rfl ?_
  refine g_aload_n 0 3 C dX10_bareRowAt_6 rfl rfl ?_
  refine g_instY (q := (RX0, TX0, 2)) C dX10_bareRowAt_7 wK_X10_72 (kne hb.1.1) (pf_1 hb.1.1) rfl ?_
  refine g_topi (show (1 : Int32) = nI 1 from rfl) ?_
  refine g_nif_eq 23 (by decide) C dX10_bareRowAt_10 (by decide) (fun c => absurd c (by decide)) (fun _ => ?_)
  refine g_aload_n 0 3 C dX10_bareRowAt_13 rfl rfl ?_
  refine g_castY (q := (RX0, TX0, 2)) C dX10_bareRowAt_14 wK_X10_72 (kne hb.1.1) (pf_1 hb.1.1) rfl ?_
  refine g_astore_n (lv' := [(2, .ref ((D t 0))), (3, .ref ((D t 0))), (0, .ref x), (1, .int (nI j))]) C dX10_bareRowAt_17 rfl (by decide) rfl ?_
  refine g_aload_n 0 2 C dX10_bareRowAt_18 rfl rfl ?_
  refine gr_br_row C dX10_bareRowAt_19 hb.1.1 wF_X10_281 hb.1.2.2 ?_
  exact g_aret (r := some ((D t 4))) C dX10_bareRowAt_22 (Or.inl ⟨_, rfl⟩) (by decide) (by decide) (⟨rfl, rfl⟩)
theorem c_C_draftAt_ok {lX : Launch} {G : Gx} {S : PS} {x : Nat} {c : Nat → Nat} {D : Nat → Nat → Nat} {Z : ZT} (hr : RCD S Z x c D) (hZ : okZ Z) {j t : Nat} (hj : j < 10) (hp : zP Z j = t + 1) (he : draftE Z (nI j) = .inr t) : Ct lX yX10_draftAt cX10_draftAt 4 (Option.some (Jvm.ClassFile.FieldType.object "BitAlmanac$Draft")) rm_X10_draftAt G [.ref x, .int (nI j)] S (fun r S' => r = some (.ref (D t 0)) ∧ S = S') := by
  unfold draftE at he
  rw [look_at hj hp] at he
  simp only [] at he
  split at he
  · rename_i hk; exact c_C_draftAt_atd hr hZ hj hp hk
  · cases he
theorem c_C_draftAt_err {lX : Launch} {G : Gx} {S : PS} {x : Nat} {c : Nat → Nat} {D : Nat → Nat → Nat} {Z : ZT} (hr : RCD S Z x c D) (hZ : okZ Z) {p e : Int32} (he : draftE Z p = .inl e) : Ct lX yX10_draftAt cX10_draftAt 4 (Option.some (Jvm.ClassFile.FieldType.object "BitAlmanac$Draft")) rm_X10_draftAt G [.ref x, .int p] S (fun r S' => r = some .null ∧ S = S') := by
  rcases look_cases Z p with h | ⟨j, hj, rfl, h | ⟨t, h⟩⟩
  · exact c_C_draftAt_out hr hZ h
  · exact c_C_draftAt_no hr hZ hj h
  · have hok := (hZ.th hj h).1
    have h1 := hok.1
    have h2 := hok.2.1
    unfold draftE at he
    rw [look_at hj h] at he
    simp only [] at he
    split at he
    · cases he
    · rename_i hk; by_cases g : tK (zH Z t) ≤ 5
      · exact c_C_draftAt_atb hr hZ hj h g
      · exact c_C_draftAt_atr hr hZ hj h (by omega)
theorem c_C_bookAt_ok {lX : Launch} {G : Gx} {S : PS} {x : Nat} {c : Nat → Nat} {D : Nat → Nat → Nat} {Z : ZT} (hr : RCD S Z x c D) (hZ : okZ Z) {j t : Nat} (hj : j < 10) (hp : zP Z j = t + 1) (he : bookE Z (nI j) = .inr t) : Ct lX yX10_bookAt cX10_bookAt 4 (Option.some (Jvm.ClassFile.FieldType.object "BitAlmanac$Book")) rm_X10_bookAt G [.ref x, .int (nI j)] S (fun r S' => r = some (.ref (D t 0)) ∧ S = S') := by
  unfold bookE at he
  rw [look_at hj hp] at he
  simp only [] at he
  split at he
  · rename_i hk; exact c_C_bookAt_atb hr hZ hj hp hk
  · cases he
theorem c_C_bookAt_err {lX : Launch} {G : Gx} {S : PS} {x : Nat} {c : Nat → Nat} {D : Nat → Nat → Nat} {Z : ZT} (hr : RCD S Z x c D) (hZ : okZ Z) {p e : Int32} (he : bookE Z p = .inl e) : Ct lX yX10_bookAt cX10_bookAt 4 (Option.some (Jvm.ClassFile.FieldType.object "BitAlmanac$Book")) rm_X10_bookAt G [.ref x, .int p] S (fun r S' => r = some .null ∧ S = S') := by
  rcases look_cases Z p with h | ⟨j, hj, rfl, h | ⟨t, h⟩⟩
  · exact c_C_bookAt_out hr hZ h
  · exact c_C_bookAt_no hr hZ hj h
  · have hok := (hZ.th hj h).1
    have h1 := hok.1
    have h2 := hok.2.1
    unfold bookE at he
    rw [look_at hj h] at he
    simp only [] at he
    split at he
    · cases he
    · rename_i hk; by_cases g : tK (zH Z t) = 6
      · exact c_C_bookAt_atd hr hZ hj h g
      · exact c_C_bookAt_atr hr hZ hj h (by omega)
theorem ref_draft {Z : ZT} {p e : Int32} (h : draftE Z p = .inl e) : reA Z p = e := by
  unfold draftE at h
  unfold reA
  split at h
  · rename_i e' he; try rw [he]
    cases h; rfl
  · rename_i t he
    try rw [he]
    split at h
    · cases h
    · cases h; rfl
theorem ref_book {Z : ZT} {p e : Int32} (h : bookE Z p = .inl e) : reA Z p = e := by
  unfold bookE at h
  unfold reA
  split at h
  · rename_i e' he; try rw [he]
    cases h; rfl
  · rename_i t he
    try rw [he]
    split at h
    · cases h
    · cases h; rfl
theorem ref_rowed {Z : ZT} {p e : Int32} (h : rowedE Z p = .inl e) : reA Z p = e := by
  unfold rowedE at h
  unfold reA
  split at h
  · rename_i e' he; try rw [he]
    cases h; rfl
  · rename_i t he
    try rw [he]
    split at h
    · cases h; rfl
    · cases h
