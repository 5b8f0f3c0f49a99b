theorem c_M_sealed {l : Launch} {G : Gx} {S : PS} {M : MoT} {x : Nat} (hx : MoOk S M x) {t w : Nat} {ls : List Ent} (ht : t < 12) (hl : namesM M t ls) (hO : okL ls) (hO0 : 0 < ls.length) (hz : zeroM M t) (h1 : 1 ≤ w) (h5 : w ≤ 5) : Ct l yX11_sealed cX11_sealed 5 (Option.none : Option Jvm.ClassFile.FieldType) rm_X11_sealed G [.ref x, .int (nI t), .int (nI w)] (mo_ S M) (fun r S' => ∃ M', r = none ∧ S' = mo_ S M' ∧ BF t M M' ∧ sealedM M' t w ls) := by
  by_cases e1 : w = 1
  · subst e1; exact c_M_sealed1 hx ht hl hO hO0 hz
  · by_cases e5 : w = 5
    · subst e5; exact c_M_sealed5 hx ht hl hO hO0 hz
    · exact c_M_sealedT hx ht hl hO hO0 hz (by omega) (by omega) rfl
/-- a kind of book -/
def kdB (w : Int32) : Bool := inR w 6 && !inR w 1
theorem kd_in {w : Int32} (h1 : ¬ w < nI 1) (h2 : ¬ nI 5 < w) : ∃ i, 1 ≤ i ∧ i ≤ 5 ∧ w = nI i ∧ kdB w = true := by
  have a1 : nI 1 ≤ w := Int32.not_lt.mp h1
  have a2 : w ≤ nI 5 := Int32.not_lt.mp h2
  have h0 : ¬ w < 0 := by
    rw [Int32.le_iff_toInt_le, nI_toInt (by decide)] at a1
    rw [Int32.lt_iff_toInt_lt, Int32.toInt_zero]; omega
  have e := inR_in1 (n := 5) (by decide) h0 a2
  obtain ⟨i, hi, rfl⟩ := inR_spec e (by decide)
  have : 1 ≤ i := (nI_leI (by decide) (by omega)).mp a1
  refine ⟨i, this, by omega, rfl, ?_⟩
  unfold kdB
  rw [e, inR_nI (by omega), decide_eq_false (by omega)]; rfl
theorem kd_lo {w : Int32} (h : w < nI 1) : kdB w = false := by
  unfold kdB
  by_cases g : w < 0
  · rw [inR_neg g]; rfl
  · rw [inR_in' (n := 1) (by decide) g h, Bool.not_true, Bool.and_false]
theorem kd_hi {w : Int32} (h : nI 5 < w) : kdB w = false := by
  unfold kdB
  rw [inR_big1 (n := 5) (by decide) (Int32.not_le.mpr h)]; rfl
def A_seal (Z : ZT) (p q w : Int32) : Int32 := if (p < 0 ∨ nI 10 ≤ p) ∨ (q < 0 ∨ nI 10 ≤ q) then -2 else match draftE Z p with
  | .inl e => e
  | .inr t => if kdB w && fitsN (tL (zH Z t)) w.toNatClampNeg then nI (tL (zH Z t)).length else -5
def bookT (w : Nat) (l : List Ent) : Th := (w, l, bitsN w l, false, false)
def N_seal (Z : ZT) (p q w : Int32) : ZT := if (p < 0 ∨ nI 10 ≤ p) ∨ (q < 0 ∨ nI 10 ≤ q) then Z else match draftE Z p with
  | .inl _ => Z
  | .inr t => if kdB w && fitsN (tL (zH Z t)) w.toNatClampNeg then newZ Z q (bookT w.toNatClampNeg (tL (zH Z t))) else Z
/-- a new thing is built and sealed: the shelf stays, and the thing is the book -/
theorem rm_build {M M4 M5 : MoT} {Z : ZT} {t w0 w : Nat} {l : List Ent} (hR : RM M Z) (hZ : okZ Z) (ht : t = madeN (zP Z)) (hlf : LF t (mkM M t w0) M4) (hbf : BF t M4 M5) (hn : namesM M4 t l) (hs : sealedM M5 t w l) : RM M5 Z ∧ thM M5 t (bookT w l) := by
  have h0 : RM (mkM M t w0) Z := by rw [ht]; exact hR.mk
  have hnew := madeN_new (zP Z)
  rw [← ht] at hnew
  have hn5 := hbf.names hn
  have hth : ∀ q, usedP (zP Z) q → thM M5 q (zH Z q) := fun q hq => thM.bf hbf (fun e => hnew (e ▸ hq)) (hZ.2.2.1 q hq).2.2.2.1 (thM.lf hlf (fun e => hnew (e ▸ hq)) (h0.2.2.1 q hq))
  have hl1 := (mkM_new (M := M) (t := t) (w := w0)).2.2.2.1
  have hl2 := (mkM_new (M := M) (t := t) (w := w0)).2.2.2.2
  obtain ⟨_, _, _, _, rfl, -, -⟩ := hlf
  obtain ⟨_, _, _, _, _, _, _, _, _, _, _, _, rfl, -, -⟩ := hbf
  exact ⟨⟨h0.1, h0.2.1, hth, h0.2.2.2⟩, hs.1, hn5, hs.2.1.1, hs.2.1.2, hl1, hl2, fun _ => ⟨hs.2.2.1, hs.2.2.2.1, hs.2.2.2.2⟩⟩
theorem zero_lf {M M4 : MoT} {t w0 : Nat} (hlf : LF t (mkM M t w0) M4) : zeroM M4 t := by
  obtain ⟨_, _, _, _, rfl, -, -⟩ := hlf
  exact ⟨pk_us, pk_us, pk_us, pk_us⟩
theorem fitsN_pos {l : List Ent} {w : Nat} (h : fitsN l w = true) : 0 < l.length := by
  unfold fitsN at h
  rw [Bool.and_eq_true] at h
  exact of_decide_eq_true h.1
set_option maxRecDepth 100000 in
set_option maxHeartbeats 2000000 in
theorem c_M_seal_o1 {l : Launch} {G : Gx} {S : PS} {M : MoT} {x : Nat} (hx : MoOk S M x) {Z : ZT} (hR : RM M Z) (hZ : okZ Z) {p q w : Int32} (hp : p < 0 ∨ nI 10 ≤ p) : Ct l yX11_seal cX11_seal 8 (Option.some Jvm.ClassFile.FieldType.int) rm_X11_seal G [.ref x, .int p, .int q, .int w] (mo_ S M) (fun r S' => ∃ M', r = some (.int (A_seal Z p q w)) ∧ S' = mo_ S M' ∧ mo_r M' = mo_r M ∧ RM M' (N_seal Z p q w)) := by
  obtain ⟨q_many, r_many, k_many⟩ := hx.2 3 (by decide)
  obtain ⟨q_place, r_place, k_place⟩ := hx.2 1 (by decide)
  refine Ct.mk RX11 "seal" hy_X11_seal (Nat.le_of_ble_eq_true rfl) (fun X hX C => ?_)
  change Go X G _ 8 0 0 (mo_ S M) 0 [(0, .ref x), (1, .int p), (2, .int q), (3, .int w)] []
  refine g_aload_n 0 0 C dX11_seal_0 rfl rfl ?_
  refine g_iload_n 1 1 C dX11_seal_1 rfl rfl ?_
  refine g_callV (As := [.int p]) (rest := []) C dX11_seal_2 (c_M_isPlace_out hp) wC_X11_isPlace wM_X11_97 wI_X11_isPlace wS_X11_isPlace wN_X11 (kne hx.1) (pf_11 hx.1) rfl hd_X11_isPlace ⟨by decide, by decide, by decide, by decide⟩ (Nat.le_of_ble_eq_true rfl) (fun r_ S_ h_ => ?_)
  obtain ⟨rfl, rfl⟩ := h_
  change Go X G _ 8 _ _ (mo_ S M) 5 [(0, .ref x), (1, .int p), (2, .int q), (3, .int w)] [.int (nI 0)]
  refine g_nif_eq 16 (by decide) C dX11_seal_5 (by decide) (fun _ => ?_) (fun c => absurd c (by decide))
  refine g_bipush (v := -2) C dX11_seal_16 (by decide) ?_
  exact g_iret C dX11_seal_18 (by decide) (by decide) (⟨M, by unfold A_seal; rw [if_pos (Or.inl hp)], rfl, rfl, by unfold N_seal; rw [if_pos (Or.inl hp)]; exact hR⟩)
set_option maxRecDepth 100000 in
set_option maxHeartbeats 2000000 in
theorem c_M_seal_o2 {l : Launch} {G : Gx} {S : PS} {M : MoT} {x : Nat} (hx : MoOk S M x) {Z : ZT} (hR : RM M Z) (hZ : okZ Z) {j : Nat} {q w : Int32} (hj : j < 10) (hp : q < 0 ∨ nI 10 ≤ q) : Ct l yX11_seal cX11_seal 8 (Option.some Jvm.ClassFile.FieldType.int) rm_X11_seal G [.ref x, .int (nI j), .int q, .int w] (mo_ S M) (fun r S' => ∃ M', r = some (.int (A_seal Z (nI j) q w)) ∧ S' = mo_ S M' ∧ mo_r M' = mo_r M ∧ RM M' (N_seal Z (nI j) q w)) := by
  obtain ⟨q_many, r_many, k_many⟩ := hx.2 3 (by decide)
  obtain ⟨q_place, r_place, k_place⟩ := hx.2 1 (by decide)
  refine Ct.mk RX11 "seal" hy_X11_seal (Nat.le_of_ble_eq_true rfl) (fun X hX C => ?_)
  change Go X G _ 8 0 0 (mo_ S M) 0 [(0, .ref x), (1, .int (nI j)), (2, .int q), (3, .int w)] []
  refine g_aload_n 0 0 C dX11_seal_0 rfl rfl ?_
  refine g_iload_n 1 1 C dX11_seal_1 rfl rfl ?_
  refine g_callV (As := [.int (nI j)]) (rest := []) C dX11_seal_2 (c_M_isPlace_in hj) wC_X11_isPlace wM_X11_97 wI_X11_isPlace wS_X11_isPlace wN_X11 (kne hx.1) (pf_11 hx.1) rfl hd_X11_isPlace ⟨by decide, by decide, by decide, by decide⟩ (Nat.le_of_ble_eq_true rfl) (fun r_ S_ h_ => ?_)
  obtain ⟨rfl, rfl⟩ := h_
  change Go X G _ 8 _ _ (mo_ S M) 5 [(0, .ref x), (1, .int (nI j)), (2, .int q), (3, .int w)] [.int (nI 1)]
  refine g_nif_eq 16 (by decide) C dX11_seal_5 (by decide) (fun c => absurd c (by decide)) (fun _ => ?_)
  refine g_aload_n 0 0 C dX11_seal_8 rfl rfl ?_
  refine g_iload_n 2 2 C dX11_seal_9 rfl rfl ?_
  refine g_callV (As := [.int q]) (rest := []) C dX11_seal_10 (c_M_isPlace_out hp) wC_X11_isPlace wM_X11_97 wI_X11_isPlace wS_X11_isPlace wN_X11 (kne hx.1) (pf_11 hx.1) rfl hd_X11_isPlace ⟨by decide, by decide, by decide, by decide⟩ (Nat.le_of_ble_eq_true rfl) (fun r_ S_ h_ => ?_)
  obtain ⟨rfl, rfl⟩ := h_
  change Go X G _ 8 _ _ (mo_ S M) 13 [(0, .ref x), (1, .int (nI j)), (2, .int q), (3, .int w)] [.int (nI 0)]
  refine g_nif_ne 19 (by decide) C dX11_seal_13 (by decide) (fun c => absurd c (by decide)) (fun _ => ?_)
  refine g_bipush (v := -2) C dX11_seal_16 (by decide) ?_
  exact g_iret C dX11_seal_18 (by decide) (by decide) (⟨M, by unfold A_seal; rw [if_pos (Or.inr hp)], rfl, rfl, by unfold N_seal; rw [if_pos (Or.inr hp)]; exact hR⟩)
set_option maxRecDepth 100000 in
set_option maxHeartbeats 2000000 in
theorem c_M_seal_err {l : Launch} {G : Gx} {S : PS} {M : MoT} {x : Nat} (hx : MoOk S M x) {Z : ZT} (hR : RM M Z) (hZ : okZ Z) {j i : Nat} {e w : Int32} (hj : j < 10) (hi : i < 10) (he : draftE Z (nI j) = .inl e) (hneg : e < 0) : Ct l yX11_seal cX11_seal 8 (Option.some Jvm.ClassFile.FieldType.int) rm_X11_seal G [.ref x, .int (nI j), .int (nI i), .int w] (mo_ S M) (fun r S' => ∃ M', r = some (.int (A_seal Z (nI j) (nI i) w)) ∧ S' = mo_ S M' ∧ mo_r M' = mo_r M ∧ RM M' (N_seal Z (nI j) (nI i) w)) := by
  obtain ⟨q_many, r_many, k_many⟩ := hx.2 3 (by decide)
  obtain ⟨q_place, r_place, k_place⟩ := hx.2 1 (by decide)
  refine Ct.mk RX11 "seal" hy_X11_seal (Nat.le_of_ble_eq_true rfl) (fun X hX C => ?_)
  change Go X G _ 8 0 0 (mo_ S M) 0 [(0, .ref x), (1, .int (nI j)), (2, .int (nI i)), (3, .int w)] []
  refine g_aload_n 0 0 C dX11_seal_0 rfl rfl ?_
  refine g_iload_n 1 1 C dX11_seal_1 rfl rfl ?_
  refine g_callV (As := [.int (nI j)]) (rest := []) C dX11_seal_2 (c_M_isPlace_in hj) wC_X11_isPlace wM_X11_97 wI_X11_isPlace wS_X11_isPlace wN_X11 (kne hx.1) (pf_11 hx.1) rfl hd_X11_isPlace ⟨by decide, by decide, by decide, by decide⟩ (Nat.le_of_ble_eq_true rfl) (fun r_ S_ h_ => ?_)
  obtain ⟨rfl, rfl⟩ := h_
  change Go X G _ 8 _ _ (mo_ S M) 5 [(0, .ref x), (1, .int (nI j)), (2, .int (nI i)), (3, .int w)] [.int (nI 1)]
  refine g_nif_eq 16 (by decide) C dX11_seal_5 (by decide) (fun c => absurd c (by decide)) (fun _ => ?_)
  refine g_aload_n 0 0 C dX11_seal_8 rfl rfl ?_
  refine g_iload_n 2 2 C dX11_seal_9 rfl rfl ?_
  refine g_callV (As := [.int (nI i)]) (rest := []) C dX11_seal_10 (c_M_isPlace_in hi) wC_X11_isPlace wM_X11_97 wI_X11_isPlace wS_X11_isPlace wN_X11 (kne hx.1) (pf_11 hx.1) rfl hd_X11_isPlace ⟨by decide, by decide, by decide, by decide⟩ (Nat.le_of_ble_eq_true rfl) (fun r_ S_ h_ => ?_)
  obtain ⟨rfl, rfl⟩ := h_
  change Go X G _ 8 _ _ (mo_ S M) 13 [(0, .ref x), (1, .int (nI j)), (2, .int (nI i)), (3, .int w)] [.int (nI 1)]
  refine g_nif_ne 19 (by decide) C dX11_seal_13 (by decide) (fun _ => ?_) (fun c => absurd c (by decide))
  refine g_aload_n 0 0 C dX11_seal_19 rfl rfl ?_
  refine g_iload_n 1 1 C dX11_seal_20 rfl rfl ?_
  refine g_callV (As := [.int (nI j)]) (rest := []) C dX11_seal_21 (c_M_drafted hx hR hZ) wC_X11_drafted wM_X11_123 wI_X11_drafted wS_X11_drafted wN_X11 (kne hx.1) (pf_11 hx.1) rfl hd_X11_drafted ⟨by decide, by decide, by decide, by decide⟩ (Nat.le_of_ble_eq_true rfl) (fun r_ S_ h_ => ?_)
  obtain ⟨rfl, rfl⟩ := h_
  change Go X G _ 8 _ _ (mo_ S M) 24 [(0, .ref x), (1, .int (nI j)), (2, .int (nI i)), (3, .int w)] [.int (errI (draftE Z (nI j)))]
  refine g_topi (show errI (draftE Z (nI j)) = e by rw [he]; rfl) ?_
  refine g_istore (lv' := [(4, .int e), (0, .ref x), (1, .int (nI j)), (2, .int (nI i)), (3, .int w)]) C dX11_seal_24 (by decide) rfl ?_
  refine g_iload 0 C dX11_seal_26 rfl ?_
  refine g_if_ge 34 C dX11_seal_28 (by decide) (fun c28 => ?_) (fun c28 => ?_)
  · exact absurd c28 (Int32.not_le.mpr hneg)
  · refine g_iload 0 C dX11_seal_31 rfl ?_
    exact g_iret C dX11_seal_33 (by decide) (by decide) (⟨M, by unfold A_seal; rw [if_neg (fun z => z.elim (nI_in10 hj) (nI_in10 hi)), he], rfl, rfl, by unfold N_seal; rw [if_neg (fun z => z.elim (nI_in10 hj) (nI_in10 hi)), he]; exact hR⟩)
set_option maxRecDepth 100000 in
set_option maxHeartbeats 2000000 in
theorem c_M_seal_ok {l : Launch} {G : Gx} {S : PS} {M : MoT} {x : Nat} (hx : MoOk S M x) {Z : ZT} (hR : RM M Z) (hZ : okZ Z) {j t i : Nat} {w : Int32} (hj : j < 10) (hi : i < 10) (hp : zP Z j = t + 1) (he : draftE Z (nI j) = .inr t) : Ct l yX11_seal cX11_seal 8 (Option.some Jvm.ClassFile.FieldType.int) rm_X11_seal G [.ref x, .int (nI j), .int (nI i), .int w] (mo_ S M) (fun r S' => ∃ M', r = some (.int (A_seal Z (nI j) (nI i) w)) ∧ S' = mo_ S M' ∧ mo_r M' = mo_r M ∧ RM M' (N_seal Z (nI j) (nI i) w)) := by
  obtain ⟨q_many, r_many, k_many⟩ := hx.2 3 (by decide)
  obtain ⟨q_place, r_place, k_place⟩ := hx.2 1 (by decide)
  obtain ⟨hO, ht⟩ := hZ.th hj hp
  have hT := hR.th hj hp
  have hpl : m_place M j = nI (t + 1) := (hR.2.1 j hj).trans (by rw [hp])
  have hn1 := hT.2.1
  have hn2 := hn1.1
  have hm := madeN_le (zP Z)
  refine Ct.mk RX11 "seal" hy_X11_seal (Nat.le_of_ble_eq_true rfl) (fun X hX C => ?_)
  change Go X G _ 8 0 0 (mo_ S M) 0 [(0, .ref x), (1, .int (nI j)), (2, .int (nI i)), (3, .int w)] []
  refine g_aload_n 0 0 C dX11_seal_0 rfl rfl ?_
  refine g_iload_n 1 1 C dX11_seal_1 rfl rfl ?_
  refine g_callV (As := [.int (nI j)]) (rest := []) C dX11_seal_2 (c_M_isPlace_in hj) wC_X11_isPlace wM_X11_97 wI_X11_isPlace wS_X11_isPlace wN_X11 (kne hx.1) (pf_11 hx.1) rfl hd_X11_isPlace ⟨by decide, by decide, by decide, by decide⟩ (Nat.le_of_ble_eq_true rfl) (fun r_ S_ h_ => ?_)
  obtain ⟨rfl, rfl⟩ := h_
  change Go X G _ 8 _ _ (mo_ S M) 5 [(0, .ref x), (1, .int (nI j)), (2, .int (nI i)), (3, .int w)] [.int (nI 1)]
  refine g_nif_eq 16 (by decide) C dX11_seal_5 (by decide) (fun c => absurd c (by decide)) (fun _ => ?_)
  refine g_aload_n 0 0 C dX11_seal_8 rfl rfl ?_
  refine g_iload_n 2 2 C dX11_seal_9 rfl rfl ?_
  refine g_callV (As := [.int (nI i)]) (rest := []) C dX11_seal_10 (c_M_isPlace_in hi) wC_X11_isPlace wM_X11_97 wI_X11_isPlace wS_X11_isPlace wN_X11 (kne hx.1) (pf_11 hx.1) rfl hd_X11_isPlace ⟨by decide, by decide, by decide, by decide⟩ (Nat.le_of_ble_eq_true rfl) (fun r_ S_ h_ => ?_)
  obtain ⟨rfl, rfl⟩ := h_
  change Go X G _ 8 _ _ (mo_ S M) 13 [(0, .ref x), (1, .int (nI j)), (2, .int (nI i)), (3, .int w)] [.int (nI 1)]
  refine g_nif_ne 19 (by decide) C dX11_seal_13 (by decide) (fun _ => ?_) (fun c => absurd c (by decide))
  refine g_aload_n 0 0 C dX11_seal_19 rfl rfl ?_
  refine g_iload_n 1 1 C dX11_seal_20 rfl rfl ?_
  refine g_callV (As := [.int (nI j)]) (rest := []) C dX11_seal_21 (c_M_drafted hx hR hZ) wC_X11_drafted wM_X11_123 wI_X11_drafted wS_X11_drafted wN_X11 (kne hx.1) (pf_11 hx.1) rfl hd_X11_drafted ⟨by decide, by decide, by decide, by decide⟩ (Nat.le_of_ble_eq_true rfl) (fun r_ S_ h_ => ?_)
  obtain ⟨rfl, rfl⟩ := h_
  change Go X G _ 8 _ _ (mo_ S M) 24 [(0, .ref x), (1, .int (nI j)), (2, .int (nI i)), (3, .int w)] [.int (errI (draftE Z (nI j)))]
  refine g_topi (show errI (draftE Z (nI j)) = nI 0 by rw [he]; rfl) ?_
  refine g_istore (lv' := [(4, .int (nI 0)), (0, .ref x), (1, .int (nI j)), (2, .int (nI i)), (3, .int w)]) C dX11_seal_24 (by decide) rfl ?_
  refine g_iload 0 C dX11_seal_26 rfl ?_
  refine g_nif_ge 34 (by omega) C dX11_seal_28 (by decide) ?_
  refine g_aload_n 1 0 C dX11_seal_34 rfl rfl ?_
  refine g_iload_n 2 1 C dX11_seal_35 rfl rfl ?_
  refine g_callV (As := [.int (nI j)]) (rest := []) C dX11_seal_36 (c_M_at hx hj hpl) wC_X11_at wM_X11_108 wI_X11_at wS_X11_at wN_X11 (kne hx.1) (pf_11 hx.1) rfl hd_X11_at ⟨by decide, by decide, by decide, by decide⟩ (Nat.le_of_ble_eq_true rfl) (fun r_ S_ h_ => ?_)
  obtain ⟨rfl, rfl⟩ := h_
  change Go X G _ 8 _ _ (mo_ S M) 39 [(4, .int (nI 0)), (0, .ref x), (1, .int (nI j)), (2, .int (nI i)), (3, .int w)] [.int (nI t)]
  refine g_istore (lv' := [(5, .int (nI t)), (4, .int (nI 0)), (0, .ref x), (1, .int (nI j)), (2, .int (nI i)), (3, .int w)]) C dX11_seal_39 (by decide) rfl ?_
  refine g_iload_n 5 3 C dX11_seal_41 rfl rfl ?_
  refine g_iconst (v := nI 1) C dX11_seal_42 (by decide) ?_
  refine g_icmp_lt 61 C dX11_seal_43 (by decide) (fun c43 => ?_) (fun c43 => ?_)
  · have e := kd_lo c43
    refine g_bipush (v := -5) C dX11_seal_61 (by decide) ?_
    exact g_iret C dX11_seal_63 (by decide) (by decide) (⟨M, by unfold A_seal; rw [if_neg (fun z => z.elim (nI_in10 hj) (nI_in10 hi)), he]; simp only []; rw [e]; rfl, rfl, rfl, by unfold N_seal; rw [if_neg (fun z => z.elim (nI_in10 hj) (nI_in10 hi)), he]; simp only []; rw [e]; exact hR⟩)
  · refine g_iload_n 5 3 C dX11_seal_46 rfl rfl ?_
    refine g_iconst (v := nI 5) C dX11_seal_47 (by decide) ?_
    refine g_icmp_gt 61 C dX11_seal_48 (by decide) (fun c48 => ?_) (fun c48 => ?_)
    · have e := kd_hi c48
      refine g_bipush (v := -5) C dX11_seal_61 (by decide) ?_
      exact g_iret C dX11_seal_63 (by decide) (by decide) (⟨M, by unfold A_seal; rw [if_neg (fun z => z.elim (nI_in10 hj) (nI_in10 hi)), he]; simp only []; rw [e]; rfl, rfl, rfl, by unfold N_seal; rw [if_neg (fun z => z.elim (nI_in10 hj) (nI_in10 hi)), he]; simp only []; rw [e]; exact hR⟩)
    · obtain ⟨i1, hi11, hi15, rfl, ek⟩ := kd_in c43 c48
      refine g_aload_n 2 0 C dX11_seal_51 rfl rfl ?_
      refine g_iload 0 C dX11_seal_52 rfl ?_
      refine g_iload_n 5 3 C dX11_seal_54 rfl rfl ?_
      refine g_callV (As := [.int (nI t), .int (nI i1)]) (rest := []) C dX11_seal_55 (c_M_fits hx (by omega) hn1 (by omega)) wC_X11_fits wM_X11_169 wI_X11_fits wS_X11_fits wN_X11 (kne hx.1) (pf_11 hx.1) rfl hd_X11_fits ⟨by decide, by decide, by decide, by decide⟩ (Nat.le_of_ble_eq_true rfl) (fun r_ S_ h_ => ?_)
      obtain ⟨rfl, rfl⟩ := h_
      change Go X G _ 8 _ _ (mo_ S M) 58 [(5, .int (nI t)), (4, .int (nI 0)), (0, .ref x), (1, .int (nI j)), (2, .int (nI i)), (3, .int (nI i1))] [.int (bI (fitsN (tL (zH Z t)) i1))]
      refine g_if_ne 64 C dX11_seal_58 (by decide) (fun c58 => ?_) (fun c58 => ?_)
      · have ef := bI_t c58
        refine g_aload_n 2 0 C dX11_seal_64 rfl rfl ?_
        refine g_iload_n 5 3 C dX11_seal_65 rfl rfl ?_
        refine g_callV (As := [.int (nI i1)]) (rest := []) C dX11_seal_66 (c_M_made hx hR hZ) wC_X11_made wM_X11_101 wI_X11_made wS_X11_made wN_X11 (kne hx.1) (pf_11 hx.1) rfl hd_X11_made ⟨by decide, by decide, by decide, by decide⟩ (Nat.le_of_ble_eq_true rfl) (fun r_ S_ h_ => ?_)
        obtain ⟨rfl, rfl⟩ := h_
        change Go X G _ 8 _ _ (mo_ S (mkM M (madeN (zP Z)) i1)) 69 [(5, .int (nI t)), (4, .int (nI 0)), (0, .ref x), (1, .int (nI j)), (2, .int (nI i)), (3, .int (nI i1))] [.int (nI (madeN (zP Z)))]
        have hTk : thM (mkM M (madeN (zP Z)) i1) t (zH Z t) := hT.mk (fun e => madeN_new (zP Z) (e ▸ ⟨j, hj, hp⟩))
        have hne : t ≠ madeN (zP Z) := fun e => madeN_new (zP Z) (e ▸ ⟨j, hj, hp⟩)
        refine g_istore (lv' := [(6, .int (nI (madeN (zP Z)))), (5, .int (nI t)), (4, .int (nI 0)), (0, .ref x), (1, .int (nI j)), (2, .int (nI i)), (3, .int (nI i1))]) C dX11_seal_69 (by decide) rfl ?_
        refine g_iconst (v := nI 0) C dX11_seal_71 (by decide) ?_
        refine g_istore (lv' := [(7, .int (nI 0)), (6, .int (nI (madeN (zP Z)))), (5, .int (nI t)), (4, .int (nI 0)), (0, .ref x), (1, .int (nI j)), (2, .int (nI i)), (3, .int (nI i1))]) C dX11_seal_72 (by decide) rfl ?_
        have lp : ∀ (n_ : Nat) (k : Nat) (M3 : MoT), (tL (zH Z t)).length - k < n_ → (cpN (mkM M (madeN (zP Z)) i1) M3 t (madeN (zP Z)) (tL (zH Z t)) k) → Go X G (Qe X G (fun r S' => ∃ M', r = some (.int (A_seal Z (nI j) (nI i) (nI i1))) ∧ S' = mo_ S M' ∧ mo_r M' = mo_r M ∧ RM M' (N_seal Z (nI j) (nI i) (nI i1))) rm_X11_seal.cells rm_X11_seal.slots) 8 0 0 (mo_ S M3) 74 [(7, .int (nI k)), (6, .int (nI (madeN (zP Z)))), (5, .int (nI t)), (4, .int (nI 0)), (0, .ref x), (1, .int (nI j)), (2, .int (nI i)), (3, .int (nI i1))] [] := by
          intro n_
          induction n_ with
          | zero => intro k M3 hm_; exact absurd hm_ (Nat.not_lt_zero _)
          | succ n_ ih_ =>
            intro k M3 hm_ hk
            have hkl := hk.1
            have hx3 : MoOk S M3 x := hx.of ((hk.2.1.mo_r).trans rfl)
            have hmt : m_many M3 t = nI (tL (zH Z t)).length := by rw [hk.2.2.1]; exact hTk.2.1.2.1
            obtain ⟨q_many, r_many, k_many⟩ := hx3.2 3 (by decide)
            obtain ⟨q_place, r_place, k_place⟩ := hx3.2 1 (by decide)
            refine g_iload 0 C dX11_seal_74 rfl ?_
            refine g_aload_n 4 0 C dX11_seal_76 rfl rfl ?_
            refine gr_m_many C dX11_seal_77 hx.1 wF_X11_23 r_many ?_
            refine g_iload 2 C dX11_seal_80 rfl ?_
            refine ga_m_many C dX11_seal_82 k_many (by omega) ?_
            refine g_topi (hmt) ?_
            refine g_ncmp_ge 104 (by omega) (by omega) C dX11_seal_83 (by decide) (fun c83 => ?_) (fun c83 => ?_)
            · have hl4 : LF (madeN (zP Z)) (mkM M (madeN (zP Z)) i1) (m_many_ M3 (upd (m_many M3) (madeN (zP Z)) (nI (tL (zH Z t)).length))) := hk.2.1.trans ⟨m_size M3, m_bytes M3, m_value M3, _, rfl, fun p e _ h => h, fun q hq => pk_un hq⟩
              have hn4 : namesM (m_many_ M3 (upd (m_many M3) (madeN (zP Z)) (nI (tL (zH Z t)).length))) (madeN (zP Z)) (tL (zH Z t)) := namesM_iff.mpr ⟨hn2, pk_us, fun q hq => hk.2.2.2.2 q (by omega)⟩
              refine g_aload_n 4 0 C dX11_seal_104 rfl rfl ?_
              refine gr_m_many C dX11_seal_105 hx.1 wF_X11_23 r_many ?_
              refine g_iload 1 C dX11_seal_108 rfl ?_
              refine g_aload_n 4 0 C dX11_seal_110 rfl rfl ?_
              refine gr_m_many C dX11_seal_111 hx.1 wF_X11_23 r_many ?_
              refine g_iload 2 C dX11_seal_114 rfl ?_
              refine ga_m_many C dX11_seal_116 k_many (by omega) ?_
              refine g_topi (hmt) ?_
              refine gs_m_many C dX11_seal_117 k_many (by omega) ?_
              refine g_aload_n 4 0 C dX11_seal_118 rfl rfl ?_
              refine g_iload 1 C dX11_seal_119 rfl ?_
              refine g_iload_n 7 3 C dX11_seal_121 rfl rfl ?_
              refine g_callV (As := [.int (nI (madeN (zP Z))), .int (nI i1)]) (rest := []) C dX11_seal_122 (c_M_sealed (M := (m_many_ M3 (upd (m_many M3) (madeN (zP Z)) (nI (tL (zH Z t)).length)))) hx3 (by omega) hn4 hO.2.2.1 (fitsN_pos ef) (zero_lf hl4) hi11 hi15) wC_X11_sealed wM_X11_172 wI_X11_sealed wS_X11_sealed wN_X11 (kne hx.1) (pf_11 hx.1) rfl hd_X11_sealed ⟨by decide, by decide, by decide, by decide⟩ (Nat.le_of_ble_eq_true rfl) (fun r_ S_ h_ => ?_)
              obtain ⟨M5, rfl, rfl, hbf, hse⟩ := h_
              change Go X G _ 8 _ _ (mo_ S M5) 125 [(7, .int (nI k)), (6, .int (nI (madeN (zP Z)))), (5, .int (nI t)), (4, .int (nI 0)), (0, .ref x), (1, .int (nI j)), (2, .int (nI i)), (3, .int (nI i1))] []
              have hx5 := (show MoOk S (m_many_ M3 (upd (m_many M3) (madeN (zP Z)) (nI (tL (zH Z t)).length))) x from hx3).of hbf.mo_r
              have hn5 := hbf.names hn4
              obtain ⟨q_many, r_many, k_many⟩ := hx5.2 3 (by decide)
              obtain ⟨q_place, r_place, k_place⟩ := hx5.2 1 (by decide)
              refine g_aload_n 4 0 C dX11_seal_125 rfl rfl ?_
              refine gr_m_place C dX11_seal_126 hx.1 wF_X11_17 r_place ?_
              refine g_iload_n 6 2 C dX11_seal_129 rfl rfl ?_
              refine g_iload 1 C dX11_seal_130 rfl ?_
              refine g_iconst (v := nI 1) C dX11_seal_132 (by decide) ?_
              refine g_iadd C dX11_seal_133 ?_
              refine g_topi (nI_add _ _ : _ = nI (madeN (zP Z) + 1)) ?_
              refine gs_m_place C dX11_seal_134 k_place (by omega) ?_
              refine g_aload_n 4 0 C dX11_seal_135 rfl rfl ?_
              refine gr_m_many C dX11_seal_136 hx.1 wF_X11_23 r_many ?_
              refine g_iload 1 C dX11_seal_139 rfl ?_
              refine ga_m_many C dX11_seal_141 k_many (by omega) ?_
              refine g_topi (hn5.2.1) ?_
              exact g_iret C dX11_seal_142 (by decide) (by decide) (⟨_, by unfold A_seal; rw [if_neg (fun z => z.elim (nI_in10 hj) (nI_in10 hi)), he]; simp only []; rw [ek, nI_clamp (by omega), ef]; rfl, rfl, hbf.mo_r.trans ((hl4.mo_r).trans rfl), by
                unfold N_seal newZ; rw [if_neg (fun z => z.elim (nI_in10 hj) (nI_in10 hi)), he]; simp only []; rw [ek, nI_clamp (by omega), nI_clamp (by omega), ef]
                have hb9 := rm_build hR hZ rfl hl4 hbf hn4 hse
                exact rm_newT hb9.1 (madeN_new _) hb9.2⟩)
            · refine g_aload_n 4 0 C dX11_seal_86 rfl rfl ?_
              refine g_iload 2 C dX11_seal_87 rfl ?_
              refine g_iload 0 C dX11_seal_89 rfl ?_
              refine g_iload 1 C dX11_seal_91 rfl ?_
              refine g_iload 0 C dX11_seal_93 rfl ?_
              refine g_callV (As := [.int (nI t), .int (nI k), .int (nI (madeN (zP Z))), .int (nI k)]) (rest := []) C dX11_seal_95 (c_M_copy hx3 (by omega) (by omega) (by omega) (by omega) (by omega)) wC_X11_copy wM_X11_119 wI_X11_copy wS_X11_copy wN_X11 (kne hx.1) (pf_11 hx.1) rfl hd_X11_copy ⟨by decide, by decide, by decide, by decide⟩ (Nat.le_of_ble_eq_true rfl) (fun r_ S_ h_ => ?_)
              obtain ⟨rfl, rfl⟩ := h_
              change Go X G _ 8 _ _ (mo_ S (cpM M3 (100 * t + k) (100 * madeN (zP Z) + k))) 98 [(7, .int (nI k)), (6, .int (nI (madeN (zP Z)))), (5, .int (nI t)), (4, .int (nI 0)), (0, .ref x), (1, .int (nI j)), (2, .int (nI i)), (3, .int (nI i1))] []
              refine g_iinc (v := nI (k + 1)) (lv' := [(7, .int (nI (k + 1))), (6, .int (nI (madeN (zP Z)))), (5, .int (nI t)), (4, .int (nI 0)), (0, .ref x), (1, .int (nI j)), (2, .int (nI i)), (3, .int (nI i1))]) 0 C dX11_seal_98 rfl (nI_add _ 1) (by decide) rfl ?_
              refine g_goto 74 C dX11_seal_101 (by decide) ?_
              exact ih_ (k + 1) _ (by omega) (hk.step (by omega) hn2 hne)
        exact lp ((tL (zH Z t)).length + 1) 0 (mkM M (madeN (zP Z)) i1) (by omega) ⟨Nat.zero_le _, LF.refl _ _, rfl, hTk.2.1.2.2, fun q hq => absurd hq (Nat.not_lt_zero _)⟩
      · have ef := bI_f c58
        refine g_bipush (v := -5) C dX11_seal_61 (by decide) ?_
        exact g_iret C dX11_seal_63 (by decide) (by decide) (⟨M, by unfold A_seal; rw [if_neg (fun z => z.elim (nI_in10 hj) (nI_in10 hi)), he]; simp only []; rw [ek, nI_clamp (by omega), ef]; rfl, rfl, rfl, by unfold N_seal; rw [if_neg (fun z => z.elim (nI_in10 hj) (nI_in10 hi)), he]; simp only []; rw [ek, nI_clamp (by omega), ef]; exact hR⟩)
theorem c_M_seal {l : Launch} {G : Gx} {S : PS} {M : MoT} {x : Nat} (hx : MoOk S M x) {Z : ZT} (hR : RM M Z) (hZ : okZ Z) {p q w : Int32} : Ct l yX11_seal cX11_seal 8 (Option.some Jvm.ClassFile.FieldType.int) rm_X11_seal G [.ref x, .int p, .int q, .int w] (mo_ S M) (fun r S' => ∃ M', r = some (.int (A_seal Z p q w)) ∧ S' = mo_ S M' ∧ mo_r M' = mo_r M ∧ RM M' (N_seal Z p q w)) := by
  rcases look_cases Z p with h | ⟨j, hj, rfl, -⟩
  · exact c_M_seal_o1 hx hR hZ h
  · rcases look_cases Z q with g | ⟨i, hi, rfl, -⟩
    · exact c_M_seal_o2 hx hR hZ hj g
    · cases he : draftE Z (nI j) with
      | inl e => exact c_M_seal_err hx hR hZ hj hi he (draftE_neg he)
      | inr t =>
        obtain ⟨j', hj', e', hp, -⟩ := draftE_inr he
        have : j' = j := ((nI_eq (by omega) (by omega)).mp e').symm
        subst this
        exact c_M_seal_ok hx hR hZ hj hi hp he
