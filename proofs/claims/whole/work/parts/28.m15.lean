/-- is name cur in the list -/
def hasN (l : List Ent) (cur : List Nat) : Bool := isAtN l (aheadN l cur) cur
def goN (la lb : List Ent) (k w : Nat) : Bool := decide (w = 0) || (hasN lb (nm la k) == decide (w = 1))
theorem bI_inj {a b : Bool} : bI a = bI b ↔ a = b := by cases a <;> cases b <;> decide
set_option maxRecDepth 100000 in
set_option maxHeartbeats 400000 in
theorem c_M_isIn {l : Launch} {G : Gx} {S : PS} {M : MoT} {x : Nat} (hx : MoOk S M x) {t k u : Nat} {la lb : List Ent} (h1 : t < 12) (h2 : u < 12) (ha : namesM M t la) (hb : namesM M u lb) (hka : k < la.length) : Ct l yX11_isIn cX11_isIn 4 (Option.some Jvm.ClassFile.FieldType.boolean) rm_X11_isIn G [.ref x, .int (nI t), .int (nI k), .int (nI u)] (mo_ S M) (fun r S' => ∃ (fn : Nat → Int32) (v : Int32), r = some (.int (bI (hasN lb (nm la k)))) ∧ S' = mo_ S (m_length_ (m_name_ M fn) v)) := by
  have hl1 := ha.1
  have hl2 := hb.1
  have hk := ha.2.2 k hka
  refine Ct.mk RX11 "isIn" hy_X11_isIn (Nat.le_of_ble_eq_true rfl) (fun X hX C => ?_)
  change Go X G _ 4 0 0 (mo_ S M) 0 [(0, .ref x), (1, .int (nI t)), (2, .int (nI k)), (3, .int (nI u))] []
  refine g_aload_n 0 0 C dX11_isIn_0 rfl rfl ?_
  refine g_iload_n 1 1 C dX11_isIn_1 rfl rfl ?_
  refine g_iload_n 2 2 C dX11_isIn_2 rfl rfl ?_
  refine g_callV (As := [.int (nI t), .int (nI k)]) (rest := []) C dX11_isIn_3 (c_M_lay hx h1 (by omega) hk.2.1 hk.1) wC_X11_lay wM_X11_193 wI_X11_lay wS_X11_lay wN_X11 (kne hx.1) (pf_11 hx.1) rfl hd_X11_lay ⟨by decide, by decide, by decide, by decide⟩ (Nat.le_of_ble_eq_true rfl) (fun r_ S_ h_ => ?_)
  obtain ⟨fn, rfl, rfl, hfn⟩ := h_
  change Go X G _ 4 _ _ (mo_ S (m_length_ (m_name_ M fn) (nI (nm la k).length))) 6 [(0, .ref x), (1, .int (nI t)), (2, .int (nI k)), (3, .int (nI u))] []
  have hc : curM (m_length_ (m_name_ M fn) (nI (nm la k).length)) (nm la k) := ⟨rfl, hfn⟩
  have hah : aheadN lb (nm la k) ≤ lb.length := fN_le _ _
  refine g_aload_n 0 0 C dX11_isIn_6 rfl rfl ?_
  refine g_iload_n 3 3 C dX11_isIn_7 rfl rfl ?_
  refine g_aload_n 0 0 C dX11_isIn_8 rfl rfl ?_
  refine g_iload_n 3 3 C dX11_isIn_9 rfl rfl ?_
  refine g_callV (As := [.int (nI u)]) (rest := [.int (nI u), .ref x]) C dX11_isIn_10 (c_M_ahead (M := (m_length_ (m_name_ M fn) (nI (nm la k).length))) hx h2 hb hc hk.1) wC_X11_ahead wM_X11_130 wI_X11_ahead wS_X11_ahead wN_X11 (kne hx.1) (pf_11 hx.1) rfl hd_X11_ahead ⟨by decide, by decide, by decide, by decide⟩ (Nat.le_of_ble_eq_true rfl) (fun r_ S_ h_ => ?_)
  obtain ⟨rfl, rfl⟩ := h_
  change Go X G _ 4 _ _ (mo_ S (m_length_ (m_name_ M fn) (nI (nm la k).length))) 13 [(0, .ref x), (1, .int (nI t)), (2, .int (nI k)), (3, .int (nI u))] [.int (nI (aheadN lb (nm la k))), .int (nI u), .ref x]
  refine g_callV (As := [.int (nI u), .int (nI (aheadN lb (nm la k)))]) (rest := []) C dX11_isIn_13 (c_M_isAt (M := (m_length_ (m_name_ M fn) (nI (nm la k).length))) hx h2 hb hc hk.1 (by omega)) wC_X11_isAt wM_X11_133 wI_X11_isAt wS_X11_isAt wN_X11 (kne hx.1) (pf_11 hx.1) rfl hd_X11_isAt ⟨by decide, by decide, by decide, by decide⟩ (Nat.le_of_ble_eq_true rfl) (fun r_ S_ h_ => ?_)
  obtain ⟨rfl, rfl⟩ := h_
  change Go X G _ 4 _ _ (mo_ S (m_length_ (m_name_ M fn) (nI (nm la k).length))) 16 [(0, .ref x), (1, .int (nI t)), (2, .int (nI k)), (3, .int (nI u))] [.int (bI (hasN lb (nm la k)))]
  exact g_zret C dX11_isIn_16 (by decide) (by decide) (bI_01 _) ⟨fn, _, rfl, rfl⟩
set_option maxRecDepth 100000 in
set_option maxHeartbeats 400000 in
theorem c_M_goes {l : Launch} {G : Gx} {S : PS} {M : MoT} {x : Nat} (hx : MoOk S M x) {t k u : Nat} {la lb : List Ent} (h1 : t < 12) (h2 : u < 12) (ha : namesM M t la) (hb : namesM M u lb) (hka : k < la.length) {w : Nat} (hw : w ≤ 2) : Ct l yX11_goes cX11_goes 5 (Option.some Jvm.ClassFile.FieldType.boolean) rm_X11_goes G [.ref x, .int (nI t), .int (nI k), .int (nI u), .int (nI w)] (mo_ S M) (fun r S' => ∃ (fn : Nat → Int32) (v : Int32), r = some (.int (bI (goN la lb k w))) ∧ S' = mo_ S (m_length_ (m_name_ M fn) v)) := by
  have hl1 := ha.1
  have hl2 := hb.1
  have hk := ha.2.2 k hka
  refine Ct.mk RX11 "goes" hy_X11_goes (Nat.le_of_ble_eq_true rfl) (fun X hX C => ?_)
  change Go X G _ 5 0 0 (mo_ S M) 0 [(0, .ref x), (1, .int (nI t)), (2, .int (nI k)), (3, .int (nI u)), (4, .int (nI w))] []
  refine g_iload 4 C dX11_goes_0 rfl ?_
  refine g_nif_eq 26 (by omega) C dX11_goes_2 (by decide) (fun c2 => ?_) (fun c2 => ?_)
  · have e : goN la lb k w = true := by unfold goN; rw [decide_eq_true c2]; rfl
    refine g_iconst (v := nI 1) C dX11_goes_26 (by decide) ?_
    refine g_goto 31 C dX11_goes_27 (by decide) ?_
    exact g_zret C dX11_goes_31 (by decide) (by decide) (Or.inr rfl) ⟨m_name M, m_length M, by rw [e]; rfl, rfl⟩
  · refine g_aload_n 0 0 C dX11_goes_5 rfl rfl ?_
    refine g_iload_n 1 1 C dX11_goes_6 rfl rfl ?_
    refine g_iload_n 2 2 C dX11_goes_7 rfl rfl ?_
    refine g_iload_n 3 3 C dX11_goes_8 rfl rfl ?_
    refine g_callV (As := [.int (nI t), .int (nI k), .int (nI u)]) (rest := []) C dX11_goes_9 (c_M_isIn hx h1 h2 ha hb hka) wC_X11_isIn wM_X11_185 wI_X11_isIn wS_X11_isIn wN_X11 (kne hx.1) (pf_11 hx.1) rfl hd_X11_isIn ⟨by decide, by decide, by decide, by decide⟩ (Nat.le_of_ble_eq_true rfl) (fun r_ S_ h_ => ?_)
    obtain ⟨fn, v, rfl, rfl⟩ := h_
    change Go X G _ 5 _ _ (mo_ S (m_length_ (m_name_ M fn) v)) 12 [(0, .ref x), (1, .int (nI t)), (2, .int (nI k)), (3, .int (nI u)), (4, .int (nI w))] [.int (bI (hasN lb (nm la k)))]
    refine g_iload 4 C dX11_goes_12 rfl ?_
    refine g_iconst (v := nI 1) C dX11_goes_14 (by decide) ?_
    refine g_ncmp_ne 22 (by omega) (by omega) C dX11_goes_15 (by decide) (fun c15 => ?_) (fun c15 => ?_)
    · refine g_iconst (v := nI 0) C dX11_goes_22 (by decide) ?_
      refine g_icmp_ne 30 C dX11_goes_23 (by decide) (fun c23 => ?_) (fun c23 => ?_)
      · have e : goN la lb k w = false := by
          unfold goN
          rw [decide_eq_false c2, decide_eq_false c15, Bool.false_or]
          cases hh : hasN lb (nm la k)
          · rw [hh] at c23; first | rfl | exact absurd rfl c23
          · rw [hh] at c23; first | rfl | exact absurd rfl c23
        refine g_iconst (v := nI 0) C dX11_goes_30 (by decide) ?_
        exact g_zret C dX11_goes_31 (by decide) (by decide) (Or.inl rfl) ⟨fn, v, by rw [e]; rfl, rfl⟩
      · have e : goN la lb k w = true := by
          unfold goN
          rw [decide_eq_false c2, decide_eq_false c15, Bool.false_or]
          cases hh : hasN lb (nm la k)
          · rw [hh] at c23; first | rfl | exact absurd c23 (by decide)
          · rw [hh] at c23; first | rfl | exact absurd c23 (by decide)
        refine g_iconst (v := nI 1) C dX11_goes_26 (by decide) ?_
        refine g_goto 31 C dX11_goes_27 (by decide) ?_
        exact g_zret C dX11_goes_31 (by decide) (by decide) (Or.inr rfl) ⟨fn, v, by rw [e]; rfl, rfl⟩
    · refine g_iconst (v := nI 1) C dX11_goes_18 (by decide) ?_
      refine g_goto 23 C dX11_goes_19 (by decide) ?_
      refine g_icmp_ne 30 C dX11_goes_23 (by decide) (fun c23 => ?_) (fun c23 => ?_)
      · have e : goN la lb k w = false := by
          unfold goN
          rw [decide_eq_false c2, decide_eq_true c15, Bool.false_or]
          cases hh : hasN lb (nm la k)
          · rw [hh] at c23; first | rfl | exact absurd rfl c23
          · rw [hh] at c23; first | rfl | exact absurd rfl c23
        refine g_iconst (v := nI 0) C dX11_goes_30 (by decide) ?_
        exact g_zret C dX11_goes_31 (by decide) (by decide) (Or.inl rfl) ⟨fn, v, by rw [e]; rfl, rfl⟩
      · have e : goN la lb k w = true := by
          unfold goN
          rw [decide_eq_false c2, decide_eq_true c15, Bool.false_or]
          cases hh : hasN lb (nm la k)
          · rw [hh] at c23; first | rfl | exact absurd c23 (by decide)
          · rw [hh] at c23; first | rfl | exact absurd c23 (by decide)
        refine g_iconst (v := nI 1) C dX11_goes_26 (by decide) ?_
        refine g_goto 31 C dX11_goes_27 (by decide) ?_
        exact g_zret C dX11_goes_31 (by decide) (by decide) (Or.inr rfl) ⟨fn, v, by rw [e]; rfl, rfl⟩
set_option maxRecDepth 100000 in
set_option maxHeartbeats 400000 in
theorem c_M_take {l : Launch} {G : Gx} {S : PS} {M : MoT} {x : Nat} (hx : MoOk S M x) {t k u : Nat} {la lb : List Ent} (h1 : t < 12) (h2 : u < 12) (ha : namesM M t la) (hb : namesM M u lb) (hka : k < la.length) (hl100 : lb.length < 100) : Ct l yX11_take cX11_take 4 (Option.none : Option Jvm.ClassFile.FieldType) rm_X11_take G [.ref x, .int (nI t), .int (nI k), .int (nI u)] (mo_ S M) (fun r S' => ∃ (fn : Nat → Int32) (v : Int32) (M' : MoT), r = none ∧ S' = mo_ S M' ∧ LF u (m_length_ (m_name_ M fn) v) M' ∧ namesM M' u (insL lb (aheadN lb (nm la k)) (ent la k))) := by
  obtain ⟨q_value, r_value, k_value⟩ := hx.2 12 (by decide)
  have hl1 := ha.1
  have hl2 := hb.1
  have hk := ha.2.2 k hka
  refine Ct.mk RX11 "take" hy_X11_take (Nat.le_of_ble_eq_true rfl) (fun X hX C => ?_)
  change Go X G _ 4 0 0 (mo_ S M) 0 [(0, .ref x), (1, .int (nI t)), (2, .int (nI k)), (3, .int (nI u))] []
  refine g_aload_n 0 0 C dX11_take_0 rfl rfl ?_
  refine g_iload_n 1 1 C dX11_take_1 rfl rfl ?_
  refine g_iload_n 2 2 C dX11_take_2 rfl rfl ?_
  refine g_callV (As := [.int (nI t), .int (nI k)]) (rest := []) C dX11_take_3 (c_M_lay hx h1 (by omega) hk.2.1 hk.1) wC_X11_lay wM_X11_193 wI_X11_lay wS_X11_lay wN_X11 (kne hx.1) (pf_11 hx.1) rfl hd_X11_lay ⟨by decide, by decide, by decide, by decide⟩ (Nat.le_of_ble_eq_true rfl) (fun r_ S_ h_ => ?_)
  obtain ⟨fn, rfl, rfl, hfn⟩ := h_
  change Go X G _ 4 _ _ (mo_ S (m_length_ (m_name_ M fn) (nI (nm la k).length))) 6 [(0, .ref x), (1, .int (nI t)), (2, .int (nI k)), (3, .int (nI u))] []
  have hc : curM (m_length_ (m_name_ M fn) (nI (nm la k).length)) (nm la k) := ⟨rfl, hfn⟩
  have hah : aheadN lb (nm la k) ≤ lb.length := fN_le _ _
  refine g_aload_n 0 0 C dX11_take_6 rfl rfl ?_
  refine g_iload_n 3 3 C dX11_take_7 rfl rfl ?_
  refine g_aload_n 0 0 C dX11_take_8 rfl rfl ?_
  refine g_iload_n 3 3 C dX11_take_9 rfl rfl ?_
  refine g_callV (As := [.int (nI u)]) (rest := [.int (nI u), .ref x]) C dX11_take_10 (c_M_ahead (M := (m_length_ (m_name_ M fn) (nI (nm la k).length))) hx h2 hb hc hk.1) wC_X11_ahead wM_X11_130 wI_X11_ahead wS_X11_ahead wN_X11 (kne hx.1) (pf_11 hx.1) rfl hd_X11_ahead ⟨by decide, by decide, by decide, by decide⟩ (Nat.le_of_ble_eq_true rfl) (fun r_ S_ h_ => ?_)
  obtain ⟨rfl, rfl⟩ := h_
  change Go X G _ 4 _ _ (mo_ S (m_length_ (m_name_ M fn) (nI (nm la k).length))) 13 [(0, .ref x), (1, .int (nI t)), (2, .int (nI k)), (3, .int (nI u))] [.int (nI (aheadN lb (nm la k))), .int (nI u), .ref x]
  refine g_aload_n 0 0 C dX11_take_13 rfl rfl ?_
  refine gr_m_value C dX11_take_14 hx.1 wF_X11_52 r_value ?_
  refine g_bipush (v := nI 100) C dX11_take_17 (by decide) ?_
  refine g_iload_n 1 1 C dX11_take_19 rfl rfl ?_
  refine g_imul C dX11_take_20 ?_
  refine g_topi (pk_mul _ _ : _ = nI (100 * t)) ?_
  refine g_iload_n 2 2 C dX11_take_21 rfl rfl ?_
  refine g_iadd C dX11_take_22 ?_
  refine g_topi (nI_add _ _ : _ = nI (100 * t + k)) ?_
  refine ga_m_value C dX11_take_23 k_value (by omega) ?_
  refine g_topl (hk.2.2) ?_
  refine g_callV (As := [.int (nI u), .int (nI (aheadN lb (nm la k))), .long (vl la k)]) (rest := []) C dX11_take_24 (c_M_insert (M := (m_length_ (m_name_ M fn) (nI (nm la k).length))) hx h2 hah hl100 hb hc hk.1) wC_X11_insert wM_X11_137 wI_X11_insert wS_X11_insert wN_X11 (kne hx.1) (pf_11 hx.1) rfl hd_X11_insert ⟨by decide, by decide, by decide, by decide⟩ (Nat.le_of_ble_eq_true rfl) (fun r_ S_ h_ => ?_)
  obtain ⟨M', rfl, rfl, hlf, hnn⟩ := h_
  change Go X G _ 4 _ _ (mo_ S M') 27 [(0, .ref x), (1, .int (nI t)), (2, .int (nI k)), (3, .int (nI u))] []
  exact g_vret C dX11_take_27 (by decide) (by decide) (⟨fn, _, M', rfl, rfl, hlf, hnn⟩)
def lyM (M : MoT) (n : Nat) (v : Int32) : MoT := m_taped_ (m_tape_ M (upd (m_tape M) n (v &&& 255))) (nI (n + 1))
set_option maxRecDepth 100000 in
set_option maxHeartbeats 400000 in
theorem c_M_layT {l : Launch} {G : Gx} {S : PS} {M : MoT} {x : Nat} (hx : MoOk S M x) {n : Nat} {v : Int32} (hn : n < 1000) (hb : m_taped M = nI n) : Ct l yX11_lay_ cX11_lay_ 2 (Option.none : Option Jvm.ClassFile.FieldType) rm_X11_lay_ G [.ref x, .int v] (mo_ S M) (fun r S' => r = none ∧ S' = mo_ S (lyM M n v)) := by
  obtain ⟨q_tape, r_tape, k_tape⟩ := hx.2 0 (by decide)
  refine Ct.mk RX11 "lay" hy_X11_lay_ (Nat.le_of_ble_eq_true rfl) (fun X hX C => ?_)
  change Go X G _ 2 0 0 (mo_ S M) 0 [(0, .ref x), (1, .int v)] []
  refine g_aload_n 0 0 C dX11_lay__0 rfl rfl ?_
  refine gr_m_tape C dX11_lay__1 hx.1 wF_X11_7 r_tape ?_
  refine g_aload_n 0 0 C dX11_lay__4 rfl rfl ?_
  refine gf_m_taped C dX11_lay__5 hx.1 wF_X11_13 ?_
  refine g_topi (hb) ?_
  refine g_iload_n 1 1 C dX11_lay__8 rfl rfl ?_
  refine g_sipush (v := nI 255) C dX11_lay__9 (by decide) ?_
  refine g_iand C dX11_lay__12 ?_
  refine gs_m_tape C dX11_lay__13 k_tape (by omega) ?_
  refine g_aload_n 0 0 C dX11_lay__14 rfl rfl ?_
  refine g_dup C dX11_lay__15 rfl ?_
  refine gf_m_taped C dX11_lay__16 hx.1 wF_X11_13 ?_
  refine g_topi (hb) ?_
  refine g_iconst (v := nI 1) C dX11_lay__19 (by decide) ?_
  refine g_iadd C dX11_lay__20 ?_
  refine g_topi (nI_add _ _ : _ = nI (n + 1)) ?_
  refine pp_m_taped C dX11_lay__21 hx.1 wF_X11_13 (Or.inl rfl) ?_
  exact g_vret C dX11_lay__24 (by decide) (by decide) (⟨rfl, rfl⟩)
def tlM (M : MoT) (n : Nat) (v : Int32) : MoT := m_dues_ (m_due_ M (upd (m_due M) n v)) (nI (n + 1))
set_option maxRecDepth 100000 in
set_option maxHeartbeats 400000 in
theorem c_M_tell {l : Launch} {G : Gx} {S : PS} {M : MoT} {x : Nat} (hx : MoOk S M x) {n : Nat} {v : Int32} (hn : n < 80) (hb : m_dues M = nI n) : Ct l yX11_tell cX11_tell 2 (Option.none : Option Jvm.ClassFile.FieldType) rm_X11_tell G [.ref x, .int v] (mo_ S M) (fun r S' => r = none ∧ S' = mo_ S (tlM M n v)) := by
  obtain ⟨q_due, r_due, k_due⟩ := hx.2 20 (by decide)
  refine Ct.mk RX11 "tell" hy_X11_tell (Nat.le_of_ble_eq_true rfl) (fun X hX C => ?_)
  change Go X G _ 2 0 0 (mo_ S M) 0 [(0, .ref x), (1, .int v)] []
  refine g_aload_n 0 0 C dX11_tell_0 rfl rfl ?_
  refine gr_m_due C dX11_tell_1 hx.1 wF_X11_86 r_due ?_
  refine g_aload_n 0 0 C dX11_tell_4 rfl rfl ?_
  refine gf_m_dues C dX11_tell_5 hx.1 wF_X11_92 ?_
  refine g_topi (hb) ?_
  refine g_iload_n 1 1 C dX11_tell_8 rfl rfl ?_
  refine gs_m_due C dX11_tell_9 k_due (by omega) ?_
  refine g_aload_n 0 0 C dX11_tell_10 rfl rfl ?_
  refine g_dup C dX11_tell_11 rfl ?_
  refine gf_m_dues C dX11_tell_12 hx.1 wF_X11_92 ?_
  refine g_topi (hb) ?_
  refine g_iconst (v := nI 1) C dX11_tell_15 (by decide) ?_
  refine g_iadd C dX11_tell_16 ?_
  refine g_topi (nI_add _ _ : _ = nI (n + 1)) ?_
  refine pp_m_dues C dX11_tell_17 hx.1 wF_X11_92 (Or.inl rfl) ?_
  exact g_vret C dX11_tell_20 (by decide) (by decide) (⟨rfl, rfl⟩)
def A_unseal (Z : ZT) (p q : Int32) : Int32 := if (p < 0 ∨ nI 10 ≤ p) ∨ (q < 0 ∨ nI 10 ≤ q) then -2 else match bookE Z p with
  | .inl e => e
  | .inr t => if missT (zH Z t) then -6 else nI (tL (zH Z t)).length
def N_unseal (Z : ZT) (p q : Int32) : ZT := if (p < 0 ∨ nI 10 ≤ p) ∨ (q < 0 ∨ nI 10 ≤ q) then Z else match bookE Z p with
  | .inl _ => Z
  | .inr t => if missT (zH Z t) then Z else newZ Z q (6, tL (zH Z t), [], false, false)
/-- names copied to a thing that has none: so far k of them -/
def cpN (M0 M : MoT) (f t : Nat) (l : List Ent) (k : Nat) : Prop := k ≤ l.length ∧ LF t M0 M ∧ m_many M = m_many M0 ∧ (∀ q, q < l.length → entP M (100 * f + q) (ent l q)) ∧ ∀ q, q < k → entP M (100 * t + q) (ent l q)
theorem cpN.step {M0 M : MoT} {f t k : Nat} {l : List Ent} (h : cpN M0 M f t l k) (hk : k < l.length) (hl : l.length ≤ 100) (hft : f ≠ t) : cpN M0 (cpM M (100 * f + k) (100 * t + k)) f t l (k + 1) := by
  refine ⟨hk, h.2.1.trans (LF.cp (by omega) (by omega)), h.2.2.1, fun q hq => (h.2.2.2.1 q hq).cp_ne (by omega), fun q hq => ?_⟩
  by_cases e : q = k
  · rw [e]; exact (h.2.2.2.1 k hk).cp_to
  · exact (h.2.2.2.2 q (by omega)).cp_ne (by omega)
set_option maxRecDepth 100000 in
set_option maxHeartbeats 400000 in
theorem c_M_unseal_o1 {l : Launch} {G : Gx} {S : PS} {M : MoT} {x : Nat} (hx : MoOk S M x) {Z : ZT} (hR : RM M Z) (hZ : okZ Z) {p q : Int32} (hp : p < 0 ∨ nI 10 ≤ p) : Ct l yX11_unseal cX11_unseal 7 (Option.some Jvm.ClassFile.FieldType.int) rm_X11_unseal G [.ref x, .int p, .int q] (mo_ S M) (fun r S' => ∃ M', r = some (.int (A_unseal Z p q)) ∧ S' = mo_ S M' ∧ mo_r M' = mo_r M ∧ RM M' (N_unseal Z p q)) := by
  obtain ⟨q_many, r_many, k_many⟩ := hx.2 3 (by decide)
  obtain ⟨q_place, r_place, k_place⟩ := hx.2 1 (by decide)
  refine Ct.mk RX11 "unseal" hy_X11_unseal (Nat.le_of_ble_eq_true rfl) (fun X hX C => ?_)
  change Go X G _ 7 0 0 (mo_ S M) 0 [(0, .ref x), (1, .int p), (2, .int q)] []
  refine g_aload_n 0 0 C dX11_unseal_0 rfl rfl ?_
  refine g_iload_n 1 1 C dX11_unseal_1 rfl rfl ?_
  refine g_callV (As := [.int p]) (rest := []) C dX11_unseal_2 (c_M_isPlace_out hp) wC_X11_isPlace wM_X11_97 wI_X11_isPlace wS_X11_isPlace wN_X11 (kne hx.1) (pf_11 hx.1) rfl hd_X11_isPlace ⟨by decide, by decide, by decide, by decide⟩ (Nat.le_of_ble_eq_true rfl) (fun r_ S_ h_ => ?_)
  obtain ⟨rfl, rfl⟩ := h_
  change Go X G _ 7 _ _ (mo_ S M) 5 [(0, .ref x), (1, .int p), (2, .int q)] [.int (nI 0)]
  refine g_nif_eq 16 (by decide) C dX11_unseal_5 (by decide) (fun _ => ?_) (fun c => absurd c (by decide))
  refine g_bipush (v := -2) C dX11_unseal_16 (by decide) ?_
  exact g_iret C dX11_unseal_18 (by decide) (by decide) (⟨M, by unfold A_unseal; rw [if_pos (Or.inl hp)], rfl, rfl, by unfold N_unseal; rw [if_pos (Or.inl hp)]; exact hR⟩)
set_option maxRecDepth 100000 in
set_option maxHeartbeats 400000 in
theorem c_M_unseal_o2 {l : Launch} {G : Gx} {S : PS} {M : MoT} {x : Nat} (hx : MoOk S M x) {Z : ZT} (hR : RM M Z) (hZ : okZ Z) {j : Nat} {q : Int32} (hj : j < 10) (hp : q < 0 ∨ nI 10 ≤ q) : Ct l yX11_unseal cX11_unseal 7 (Option.some Jvm.ClassFile.FieldType.int) rm_X11_unseal G [.ref x, .int (nI j), .int q] (mo_ S M) (fun r S' => ∃ M', r = some (.int (A_unseal Z (nI j) q)) ∧ S' = mo_ S M' ∧ mo_r M' = mo_r M ∧ RM M' (N_unseal Z (nI j) q)) := by
  obtain ⟨q_many, r_many, k_many⟩ := hx.2 3 (by decide)
  obtain ⟨q_place, r_place, k_place⟩ := hx.2 1 (by decide)
  refine Ct.mk RX11 "unseal" hy_X11_unseal (Nat.le_of_ble_eq_true rfl) (fun X hX C => ?_)
  change Go X G _ 7 0 0 (mo_ S M) 0 [(0, .ref x), (1, .int (nI j)), (2, .int q)] []
  refine g_aload_n 0 0 C dX11_unseal_0 rfl rfl ?_
  refine g_iload_n 1 1 C dX11_unseal_1 rfl rfl ?_
  refine g_callV (As := [.int (nI j)]) (rest := []) C dX11_unseal_2 (c_M_isPlace_in hj) wC_X11_isPlace wM_X11_97 wI_X11_isPlace wS_X11_isPlace wN_X11 (kne hx.1) (pf_11 hx.1) rfl hd_X11_isPlace ⟨by decide, by decide, by decide, by decide⟩ (Nat.le_of_ble_eq_true rfl) (fun r_ S_ h_ => ?_)
  obtain ⟨rfl, rfl⟩ := h_
  change Go X G _ 7 _ _ (mo_ S M) 5 [(0, .ref x), (1, .int (nI j)), (2, .int q)] [.int (nI 1)]
  refine g_nif_eq 16 (by decide) C dX11_unseal_5 (by decide) (fun c => absurd c (by decide)) (fun _ => ?_)
  refine g_aload_n 0 0 C dX11_unseal_8 rfl rfl ?_
  refine g_iload_n 2 2 C dX11_unseal_9 rfl rfl ?_
  refine g_callV (As := [.int q]) (rest := []) C dX11_unseal_10 (c_M_isPlace_out hp) wC_X11_isPlace wM_X11_97 wI_X11_isPlace wS_X11_isPlace wN_X11 (kne hx.1) (pf_11 hx.1) rfl hd_X11_isPlace ⟨by decide, by decide, by decide, by decide⟩ (Nat.le_of_ble_eq_true rfl) (fun r_ S_ h_ => ?_)
  obtain ⟨rfl, rfl⟩ := h_
  change Go X G _ 7 _ _ (mo_ S M) 13 [(0, .ref x), (1, .int (nI j)), (2, .int q)] [.int (nI 0)]
  refine g_nif_ne 19 (by decide) C dX11_unseal_13 (by decide) (fun c => absurd c (by decide)) (fun _ => ?_)
  refine g_bipush (v := -2) C dX11_unseal_16 (by decide) ?_
  exact g_iret C dX11_unseal_18 (by decide) (by decide) (⟨M, by unfold A_unseal; rw [if_pos (Or.inr hp)], rfl, rfl, by unfold N_unseal; rw [if_pos (Or.inr hp)]; exact hR⟩)
set_option maxRecDepth 100000 in
set_option maxHeartbeats 400000 in
theorem c_M_unseal_err {l : Launch} {G : Gx} {S : PS} {M : MoT} {x : Nat} (hx : MoOk S M x) {Z : ZT} (hR : RM M Z) (hZ : okZ Z) {j i : Nat} {e : Int32} (hj : j < 10) (hi : i < 10) (he : bookE Z (nI j) = .inl e) (hneg : e < 0) : Ct l yX11_unseal cX11_unseal 7 (Option.some Jvm.ClassFile.FieldType.int) rm_X11_unseal G [.ref x, .int (nI j), .int (nI i)] (mo_ S M) (fun r S' => ∃ M', r = some (.int (A_unseal Z (nI j) (nI i))) ∧ S' = mo_ S M' ∧ mo_r M' = mo_r M ∧ RM M' (N_unseal Z (nI j) (nI i))) := by
  obtain ⟨q_many, r_many, k_many⟩ := hx.2 3 (by decide)
  obtain ⟨q_place, r_place, k_place⟩ := hx.2 1 (by decide)
  refine Ct.mk RX11 "unseal" hy_X11_unseal (Nat.le_of_ble_eq_true rfl) (fun X hX C => ?_)
  change Go X G _ 7 0 0 (mo_ S M) 0 [(0, .ref x), (1, .int (nI j)), (2, .int (nI i))] []
  refine g_aload_n 0 0 C dX11_unseal_0 rfl rfl ?_
  refine g_iload_n 1 1 C dX11_unseal_1 rfl rfl ?_
  refine g_callV (As := [.int (nI j)]) (rest := []) C dX11_unseal_2 (c_M_isPlace_in hj) wC_X11_isPlace wM_X11_97 wI_X11_isPlace wS_X11_isPlace wN_X11 (kne hx.1) (pf_11 hx.1) rfl hd_X11_isPlace ⟨by decide, by decide, by decide, by decide⟩ (Nat.le_of_ble_eq_true rfl) (fun r_ S_ h_ => ?_)
  obtain ⟨rfl, rfl⟩ := h_
  change Go X G _ 7 _ _ (mo_ S M) 5 [(0, .ref x), (1, .int (nI j)), (2, .int (nI i))] [.int (nI 1)]
  refine g_nif_eq 16 (by decide) C dX11_unseal_5 (by decide) (fun c => absurd c (by decide)) (fun _ => ?_)
  refine g_aload_n 0 0 C dX11_unseal_8 rfl rfl ?_
  refine g_iload_n 2 2 C dX11_unseal_9 rfl rfl ?_
  refine g_callV (As := [.int (nI i)]) (rest := []) C dX11_unseal_10 (c_M_isPlace_in hi) wC_X11_isPlace wM_X11_97 wI_X11_isPlace wS_X11_isPlace wN_X11 (kne hx.1) (pf_11 hx.1) rfl hd_X11_isPlace ⟨by decide, by decide, by decide, by decide⟩ (Nat.le_of_ble_eq_true rfl) (fun r_ S_ h_ => ?_)
  obtain ⟨rfl, rfl⟩ := h_
  change Go X G _ 7 _ _ (mo_ S M) 13 [(0, .ref x), (1, .int (nI j)), (2, .int (nI i))] [.int (nI 1)]
  refine g_nif_ne 19 (by decide) C dX11_unseal_13 (by decide) (fun _ => ?_) (fun c => absurd c (by decide))
  refine g_aload_n 0 0 C dX11_unseal_19 rfl rfl ?_
  refine g_iload_n 1 1 C dX11_unseal_20 rfl rfl ?_
  refine g_callV (As := [.int (nI j)]) (rest := []) C dX11_unseal_21 (c_M_book hx hR hZ) wC_X11_book wM_X11_175 wI_X11_book wS_X11_book wN_X11 (kne hx.1) (pf_11 hx.1) rfl hd_X11_book ⟨by decide, by decide, by decide, by decide⟩ (Nat.le_of_ble_eq_true rfl) (fun r_ S_ h_ => ?_)
  obtain ⟨rfl, rfl⟩ := h_
  change Go X G _ 7 _ _ (mo_ S M) 24 [(0, .ref x), (1, .int (nI j)), (2, .int (nI i))] [.int (errI (bookE Z (nI j)))]
  refine g_topi (show errI (bookE Z (nI j)) = e by rw [he]; rfl) ?_
  refine g_istore_n (lv' := [(3, .int e), (0, .ref x), (1, .int (nI j)), (2, .int (nI i))]) C dX11_unseal_24 rfl (by decide) rfl ?_
  refine g_iload_n 0 3 C dX11_unseal_25 rfl rfl ?_
  refine g_if_ge 31 C dX11_unseal_26 (by decide) (fun c26 => ?_) (fun c26 => ?_)
  · exact absurd c26 (Int32.not_le.mpr hneg)
  · refine g_iload_n 0 3 C dX11_unseal_29 rfl rfl ?_
    exact g_iret C dX11_unseal_30 (by decide) (by decide) (⟨M, by unfold A_unseal; rw [if_neg (fun z => z.elim (nI_in10 hj) (nI_in10 hi)), he], rfl, rfl, by unfold N_unseal; rw [if_neg (fun z => z.elim (nI_in10 hj) (nI_in10 hi)), he]; exact hR⟩)
set_option maxRecDepth 100000 in
set_option maxHeartbeats 400000 in
theorem c_M_unseal_ok {l : Launch} {G : Gx} {S : PS} {M : MoT} {x : Nat} (hx : MoOk S M x) {Z : ZT} (hR : RM M Z) (hZ : okZ Z) {j t i : Nat} (hj : j < 10) (hi : i < 10) (hp : zP Z j = t + 1) (he : bookE Z (nI j) = .inr t) : Ct l yX11_unseal cX11_unseal 7 (Option.some Jvm.ClassFile.FieldType.int) rm_X11_unseal G [.ref x, .int (nI j), .int (nI i)] (mo_ S M) (fun r S' => ∃ M', r = some (.int (A_unseal Z (nI j) (nI i))) ∧ S' = mo_ S M' ∧ mo_r M' = mo_r M ∧ RM M' (N_unseal Z (nI j) (nI i))) := by
  obtain ⟨q_many, r_many, k_many⟩ := hx.2 3 (by decide)
  obtain ⟨q_place, r_place, k_place⟩ := hx.2 1 (by decide)
  obtain ⟨hO, ht⟩ := hZ.th hj hp
  have hT := hR.th hj hp
  have hpl : m_place M j = nI (t + 1) := (hR.2.1 j hj).trans (by rw [hp])
  have hn1 := hT.2.1
  have hn2 := hn1.1
  have hm := madeN_le (zP Z)
  refine Ct.mk RX11 "unseal" hy_X11_unseal (Nat.le_of_ble_eq_true rfl) (fun X hX C => ?_)
  change Go X G _ 7 0 0 (mo_ S M) 0 [(0, .ref x), (1, .int (nI j)), (2, .int (nI i))] []
  refine g_aload_n 0 0 C dX11_unseal_0 rfl rfl ?_
  refine g_iload_n 1 1 C dX11_unseal_1 rfl rfl ?_
  refine g_callV (As := [.int (nI j)]) (rest := []) C dX11_unseal_2 (c_M_isPlace_in hj) wC_X11_isPlace wM_X11_97 wI_X11_isPlace wS_X11_isPlace wN_X11 (kne hx.1) (pf_11 hx.1) rfl hd_X11_isPlace ⟨by decide, by decide, by decide, by decide⟩ (Nat.le_of_ble_eq_true rfl) (fun r_ S_ h_ => ?_)
  obtain ⟨rfl, rfl⟩ := h_
  change Go X G _ 7 _ _ (mo_ S M) 5 [(0, .ref x), (1, .int (nI j)), (2, .int (nI i))] [.int (nI 1)]
  refine g_nif_eq 16 (by decide) C dX11_unseal_5 (by decide) (fun c => absurd c (by decide)) (fun _ => ?_)
  refine g_aload_n 0 0 C dX11_unseal_8 rfl rfl ?_
  refine g_iload_n 2 2 C dX11_unseal_9 rfl rfl ?_
  refine g_callV (As := [.int (nI i)]) (rest := []) C dX11_unseal_10 (c_M_isPlace_in hi) wC_X11_isPlace wM_X11_97 wI_X11_isPlace wS_X11_isPlace wN_X11 (kne hx.1) (pf_11 hx.1) rfl hd_X11_isPlace ⟨by decide, by decide, by decide, by decide⟩ (Nat.le_of_ble_eq_true rfl) (fun r_ S_ h_ => ?_)
  obtain ⟨rfl, rfl⟩ := h_
  change Go X G _ 7 _ _ (mo_ S M) 13 [(0, .ref x), (1, .int (nI j)), (2, .int (nI i))] [.int (nI 1)]
  refine g_nif_ne 19 (by decide) C dX11_unseal_13 (by decide) (fun _ => ?_) (fun c => absurd c (by decide))
  refine g_aload_n 0 0 C dX11_unseal_19 rfl rfl ?_
  refine g_iload_n 1 1 C dX11_unseal_20 rfl rfl ?_
  refine g_callV (As := [.int (nI j)]) (rest := []) C dX11_unseal_21 (c_M_book hx hR hZ) wC_X11_book wM_X11_175 wI_X11_book wS_X11_book wN_X11 (kne hx.1) (pf_11 hx.1) rfl hd_X11_book ⟨by decide, by decide, by decide, by decide⟩ (Nat.le_of_ble_eq_true rfl) (fun r_ S_ h_ => ?_)
  obtain ⟨rfl, rfl⟩ := h_
  change Go X G _ 7 _ _ (mo_ S M) 24 [(0, .ref x), (1, .int (nI j)), (2, .int (nI i))] [.int (errI (bookE Z (nI j)))]
  refine g_topi (show errI (bookE Z (nI j)) = nI 0 by rw [he]; rfl) ?_
  refine g_istore_n (lv' := [(3, .int (nI 0)), (0, .ref x), (1, .int (nI j)), (2, .int (nI i))]) C dX11_unseal_24 rfl (by decide) rfl ?_
  refine g_iload_n 0 3 C dX11_unseal_25 rfl rfl ?_
  refine g_nif_ge 31 (by omega) C dX11_unseal_26 (by decide) ?_
  refine g_aload_n 1 0 C dX11_unseal_31 rfl rfl ?_
  refine g_iload_n 2 1 C dX11_unseal_32 rfl rfl ?_
  refine g_callV (As := [.int (nI j)]) (rest := []) C dX11_unseal_33 (c_M_at hx hj hpl) wC_X11_at wM_X11_108 wI_X11_at wS_X11_at wN_X11 (kne hx.1) (pf_11 hx.1) rfl hd_X11_at ⟨by decide, by decide, by decide, by decide⟩ (Nat.le_of_ble_eq_true rfl) (fun r_ S_ h_ => ?_)
  obtain ⟨rfl, rfl⟩ := h_
  change Go X G _ 7 _ _ (mo_ S M) 36 [(3, .int (nI 0)), (0, .ref x), (1, .int (nI j)), (2, .int (nI i))] [.int (nI t)]
  refine g_istore (lv' := [(4, .int (nI t)), (3, .int (nI 0)), (0, .ref x), (1, .int (nI j)), (2, .int (nI i))]) C dX11_unseal_36 (by decide) rfl ?_
  refine g_aload_n 2 0 C dX11_unseal_38 rfl rfl ?_
  refine g_iload 0 C dX11_unseal_39 rfl ?_
  refine g_callV (As := [.int (nI t)]) (rest := []) C dX11_unseal_41 (c_M_misses hx (by omega) hT.2.2.2.2.1 hT.2.2.2.2.2.1) wC_X11_misses wM_X11_178 wI_X11_misses wS_X11_misses wN_X11 (kne hx.1) (pf_11 hx.1) rfl hd_X11_misses ⟨by decide, by decide, by decide, by decide⟩ (Nat.le_of_ble_eq_true rfl) (fun r_ S_ h_ => ?_)
  obtain ⟨rfl, rfl⟩ := h_
  change Go X G _ 7 _ _ (mo_ S M) 44 [(4, .int (nI t)), (3, .int (nI 0)), (0, .ref x), (1, .int (nI j)), (2, .int (nI i))] [.int (bI (missT (zH Z t)))]
  refine g_if_eq 50 C dX11_unseal_44 (by decide) (fun c44 => ?_) (fun c44 => ?_)
  · have em := bI_f c44
    refine g_aload_n 2 0 C dX11_unseal_50 rfl rfl ?_
    refine g_bipush (v := nI 6) C dX11_unseal_51 (by decide) ?_
    refine g_callV (As := [.int (nI 6)]) (rest := []) C dX11_unseal_53 (c_M_made hx hR hZ) wC_X11_made wM_X11_101 wI_X11_made wS_X11_made wN_X11 (kne hx.1) (pf_11 hx.1) rfl hd_X11_made ⟨by decide, by decide, by decide, by decide⟩ (Nat.le_of_ble_eq_true rfl) (fun r_ S_ h_ => ?_)
    obtain ⟨rfl, rfl⟩ := h_
    change Go X G _ 7 _ _ (mo_ S (mkM M (madeN (zP Z)) 6)) 56 [(4, .int (nI t)), (3, .int (nI 0)), (0, .ref x), (1, .int (nI j)), (2, .int (nI i))] [.int (nI (madeN (zP Z)))]
    have hTk : thM (mkM M (madeN (zP Z)) 6) t (zH Z t) := hT.mk (fun e => madeN_new (zP Z) (e ▸ ⟨j, hj, hp⟩))
    have hne : t ≠ madeN (zP Z) := fun e => madeN_new (zP Z) (e ▸ ⟨j, hj, hp⟩)
    refine g_istore (lv' := [(5, .int (nI (madeN (zP Z)))), (4, .int (nI t)), (3, .int (nI 0)), (0, .ref x), (1, .int (nI j)), (2, .int (nI i))]) C dX11_unseal_56 (by decide) rfl ?_
    refine g_iconst (v := nI 0) C dX11_unseal_58 (by decide) ?_
    refine g_istore (lv' := [(6, .int (nI 0)), (5, .int (nI (madeN (zP Z)))), (4, .int (nI t)), (3, .int (nI 0)), (0, .ref x), (1, .int (nI j)), (2, .int (nI i))]) C dX11_unseal_59 (by decide) rfl ?_
    have lp : ∀ (n_ : Nat) (k : Nat) (M3 : MoT), (tL (zH Z t)).length - k < n_ → (cpN (mkM M (madeN (zP Z)) 6) M3 t (madeN (zP Z)) (tL (zH Z t)) k) → Go X G (Qe X G (fun r S' => ∃ M', r = some (.int (A_unseal Z (nI j) (nI i))) ∧ S' = mo_ S M' ∧ mo_r M' = mo_r M ∧ RM M' (N_unseal Z (nI j) (nI i))) rm_X11_unseal.cells rm_X11_unseal.slots) 7 0 0 (mo_ S M3) 61 [(6, .int (nI k)), (5, .int (nI (madeN (zP Z)))), (4, .int (nI t)), (3, .int (nI 0)), (0, .ref x), (1, .int (nI j)), (2, .int (nI i))] [] := by
      intro n_
      induction n_ with
      | zero => intro k M3 hm_; exact absurd hm_ (Nat.not_lt_zero _)
      | succ n_ ih_ =>
        intro k M3 hm_ hk
        have hkl := hk.1
        have hx3 : MoOk S M3 x := hx.of ((hk.2.1.mo_r).trans rfl)
        have hmt : m_many M3 t = nI (tL (zH Z t)).length := by rw [hk.2.2.1]; exact hTk.2.1.2.1
        obtain ⟨q_many, r_many, k_many⟩ := hx3.2 3 (by decide)
        obtain ⟨q_place, r_place, k_place⟩ := hx3.2 1 (by decide)
        refine g_iload 0 C dX11_unseal_61 rfl ?_
        refine g_aload_n 4 0 C dX11_unseal_63 rfl rfl ?_
        refine gr_m_many C dX11_unseal_64 hx.1 wF_X11_23 r_many ?_
        refine g_iload 2 C dX11_unseal_67 rfl ?_
        refine ga_m_many C dX11_unseal_69 k_many (by omega) ?_
        refine g_topi (hmt) ?_
        refine g_ncmp_ge 91 (by omega) (by omega) C dX11_unseal_70 (by decide) (fun c70 => ?_) (fun c70 => ?_)
        · refine g_aload_n 4 0 C dX11_unseal_91 rfl rfl ?_
          refine gr_m_many C dX11_unseal_92 hx.1 wF_X11_23 r_many ?_
          refine g_iload 1 C dX11_unseal_95 rfl ?_
          refine g_aload_n 4 0 C dX11_unseal_97 rfl rfl ?_
          refine gr_m_many C dX11_unseal_98 hx.1 wF_X11_23 r_many ?_
          refine g_iload 2 C dX11_unseal_101 rfl ?_
          refine ga_m_many C dX11_unseal_103 k_many (by omega) ?_
          refine g_topi (hmt) ?_
          refine gs_m_many C dX11_unseal_104 k_many (by omega) ?_
          refine g_aload_n 4 0 C dX11_unseal_105 rfl rfl ?_
          refine gr_m_place C dX11_unseal_106 hx.1 wF_X11_17 r_place ?_
          refine g_iload_n 6 2 C dX11_unseal_109 rfl rfl ?_
          refine g_iload 1 C dX11_unseal_110 rfl ?_
          refine g_iconst (v := nI 1) C dX11_unseal_112 (by decide) ?_
          refine g_iadd C dX11_unseal_113 ?_
          refine g_topi (nI_add _ _ : _ = nI (madeN (zP Z) + 1)) ?_
          refine gs_m_place C dX11_unseal_114 k_place (by omega) ?_
          refine g_aload_n 4 0 C dX11_unseal_115 rfl rfl ?_
          refine gr_m_many C dX11_unseal_116 hx.1 wF_X11_23 r_many ?_
          refine g_iload 1 C dX11_unseal_119 rfl ?_
          refine ga_m_many C dX11_unseal_121 k_many (by omega) ?_
          refine g_topi ((pk_us : _ = nI (tL (zH Z t)).length)) ?_
          exact g_iret C dX11_unseal_122 (by decide) (by decide) (⟨_, by unfold A_unseal; rw [if_neg (fun z => z.elim (nI_in10 hj) (nI_in10 hi)), he]; simp only []; rw [em]; rfl, rfl, (hk.2.1.mo_r).trans rfl, by
            unfold N_unseal newZ; rw [if_neg (fun z => z.elim (nI_in10 hj) (nI_in10 hi)), he]; simp only []; rw [em, if_neg (by decide), nI_clamp (by omega)]
            have hl2 : LF (madeN (zP Z)) (mkM M (madeN (zP Z)) 6) (m_many_ M3 (upd (m_many M3) (madeN (zP Z)) (nI (tL (zH Z t)).length))) := hk.2.1.trans ⟨m_size M3, m_bytes M3, m_value M3, _, rfl, fun p e _ h => h, fun q hq => pk_un hq⟩
            have hn3 : namesM (m_many_ M3 (upd (m_many M3) (madeN (zP Z)) (nI (tL (zH Z t)).length))) (madeN (zP Z)) (tL (zH Z t)) := namesM_iff.mpr ⟨hn2, pk_us, fun q hq => hk.2.2.2.2 q (by omega)⟩
            have hT3 := thM.lfT hl2 mkM_draft hn3 rfl
            refine rm_newT (M := m_many_ M3 (upd (m_many M3) (madeN (zP Z)) (nI (tL (zH Z t)).length))) ?_ (madeN_new _) hT3
            have h0 := hR.mk (w := 6)
            have hm3 : tapeM (m_many_ M3 (upd (m_many M3) (madeN (zP Z)) (nI (tL (zH Z t)).length))) (zT Z) ∧ m_place M3 = m_place M ∧ m_status M3 = m_status M ∧ m_witnessed M3 = m_witnessed M ∧ m_witness M3 = m_witness M := by
              obtain ⟨_, _, _, _, rfl, -, -⟩ := hk.2.1
              exact ⟨h0.1, rfl, rfl, rfl, rfl⟩
            refine ⟨hm3.1, fun p hp => by show m_place M3 p = _; rw [hm3.2.1]; exact hR.2.1 p hp, fun q hq => thM.lf hl2 (fun e => madeN_new (zP Z) (e ▸ hq)) (h0.2.2.1 q hq), by show m_status M3 = _; rw [hm3.2.2.1]; exact hR.2.2.2.1, by show m_witnessed M3 = _; rw [hm3.2.2.2.1]; exact hR.2.2.2.2.1, fun i hi => by show m_witness M3 i = _; rw [hm3.2.2.2.2]; exact hR.2.2.2.2.2 i hi⟩⟩)
        · refine g_aload_n 4 0 C dX11_unseal_73 rfl rfl ?_
          refine g_iload 2 C dX11_unseal_74 rfl ?_
          refine g_iload 0 C dX11_unseal_76 rfl ?_
          refine g_iload 1 C dX11_unseal_78 rfl ?_
          refine g_iload 0 C dX11_unseal_80 rfl ?_
          refine g_callV (As := [.int (nI t), .int (nI k), .int (nI (madeN (zP Z))), .int (nI k)]) (rest := []) C dX11_unseal_82 (c_M_copy hx3 (by omega) (by omega) (by omega) (by omega) (by omega)) wC_X11_copy wM_X11_119 wI_X11_copy wS_X11_copy wN_X11 (kne hx.1) (pf_11 hx.1) rfl hd_X11_copy ⟨by decide, by decide, by decide, by decide⟩ (Nat.le_of_ble_eq_true rfl) (fun r_ S_ h_ => ?_)
          obtain ⟨rfl, rfl⟩ := h_
          change Go X G _ 7 _ _ (mo_ S (cpM M3 (100 * t + k) (100 * madeN (zP Z) + k))) 85 [(6, .int (nI k)), (5, .int (nI (madeN (zP Z)))), (4, .int (nI t)), (3, .int (nI 0)), (0, .ref x), (1, .int (nI j)), (2, .int (nI i))] []
          refine g_iinc (v := nI (k + 1)) (lv' := [(6, .int (nI (k + 1))), (5, .int (nI (madeN (zP Z)))), (4, .int (nI t)), (3, .int (nI 0)), (0, .ref x), (1, .int (nI j)), (2, .int (nI i))]) 0 C dX11_unseal_85 rfl (nI_add _ 1) (by decide) rfl ?_
          refine g_goto 61 C dX11_unseal_88 (by decide) ?_
          exact ih_ (k + 1) _ (by omega) (hk.step (by omega) hn2 hne)
    exact lp ((tL (zH Z t)).length + 1) 0 (mkM M (madeN (zP Z)) 6) (by omega) ⟨Nat.zero_le _, LF.refl _ _, rfl, hTk.2.1.2.2, fun q hq => absurd hq (Nat.not_lt_zero _)⟩
  · have em := bI_t c44
    refine g_bipush (v := -6) C dX11_unseal_47 (by decide) ?_
    exact g_iret C dX11_unseal_49 (by decide) (by decide) (⟨M, by unfold A_unseal; rw [if_neg (fun z => z.elim (nI_in10 hj) (nI_in10 hi)), he]; simp only []; rw [em]; rfl, rfl, rfl, by unfold N_unseal; rw [if_neg (fun z => z.elim (nI_in10 hj) (nI_in10 hi)), he]; simp only []; rw [em, if_pos rfl]; exact hR⟩)
theorem c_M_unseal {l : Launch} {G : Gx} {S : PS} {M : MoT} {x : Nat} (hx : MoOk S M x) {Z : ZT} (hR : RM M Z) (hZ : okZ Z) {p q : Int32} : Ct l yX11_unseal cX11_unseal 7 (Option.some Jvm.ClassFile.FieldType.int) rm_X11_unseal G [.ref x, .int p, .int q] (mo_ S M) (fun r S' => ∃ M', r = some (.int (A_unseal Z p q)) ∧ S' = mo_ S M' ∧ mo_r M' = mo_r M ∧ RM M' (N_unseal Z p q)) := by
  rcases look_cases Z p with h | ⟨j, hj, rfl, -⟩
  · exact c_M_unseal_o1 hx hR hZ h
  · rcases look_cases Z q with g | ⟨i, hi, rfl, -⟩
    · exact c_M_unseal_o2 hx hR hZ hj g
    · cases he : bookE Z (nI j) with
      | inl e => exact c_M_unseal_err hx hR hZ hj hi he (bookE_neg he)
      | inr t =>
        obtain ⟨j', hj', e', hp, -⟩ := bookE_inr he
        have : j' = j := ((nI_eq (by omega) (by omega)).mp e').symm
        subst this
        exact c_M_unseal_ok hx hR hZ hj hi hp he
