theorem MoOk.of {S : PS} {M M' : MoT} {x : Nat} (h : MoOk S M x) (e : mo_r M' = mo_r M) : MoOk S M' x := ⟨h.1, fun j hj => by rw [e]; exact h.2 j hj⟩
theorem look_neg {Z : ZT} {p e : Int32} (h : look Z p = .inl e) : e < 0 := by
  unfold look at h
  split at h
  · cases h; decide
  · split at h
    · cases h; decide
    · cases h
theorem look_inr {Z : ZT} {p : Int32} {t : Nat} (h : look Z p = .inr t) : ∃ j, j < 10 ∧ p = nI j ∧ zP Z j = t + 1 := by
  rcases look_cases Z p with g | ⟨j, hj, rfl, g | ⟨t', g⟩⟩
  · rw [look_out g] at h; cases h
  · rw [look_no hj g] at h; cases h
  · rw [look_at hj g] at h; cases h; exact ⟨j, hj, rfl, g⟩
theorem bookE_neg {Z : ZT} {p e : Int32} (h : bookE Z p = .inl e) : e < 0 := by
  unfold bookE at h
  split at h
  · rename_i e' he; cases h; exact look_neg he
  · split at h
    · cases h
    · cases h; decide
theorem bookE_inr {Z : ZT} {p : Int32} {t : Nat} (h : bookE Z p = .inr t) : ∃ j, j < 10 ∧ p = nI j ∧ zP Z j = t + 1 ∧ tK (zH Z t) ≤ 5 := by
  unfold bookE at h
  split at h
  · cases h
  · rename_i t' he
    split at h
    · cases h
      rename_i hk
      obtain ⟨j, h1, h2, h3⟩ := look_inr he
      exact ⟨j, h1, h2, h3, hk⟩
    · cases h
theorem askE_neg {Z : ZT} {p e : Int32} (h : askE Z p = .inl e) : e < 0 := by
  unfold askE at h
  split at h
  · rename_i e' he; cases h; exact bookE_neg he
  · split at h
    · split at h
      · cases h; decide
      · cases h
    · cases h; decide
theorem askE_inr {Z : ZT} (hZ : okZ Z) {p : Int32} {t : Nat} (h : askE Z p = .inr t) : ∃ j, j < 10 ∧ p = nI j ∧ zP Z j = t + 1 ∧ tK (zH Z t) ≤ 5 ∧ okN (zT Z) ∧ missT (zH Z t) = false := by
  unfold askE at h
  split at h
  · cases h
  · rename_i t' he
    obtain ⟨j, h1, h2, h3, h4⟩ := bookE_inr he
    split at h
    · rename_i hn
      split at h
      · cases h
      · rename_i hm
        cases h
        exact ⟨j, h1, h2, h3, h4, nameB_ok hn hZ.1.2, Bool.eq_false_iff.mpr hm⟩
    · cases h
theorem askZ_eq (Z : ZT) (p : Int32) : zP (askZ Z p) = zP Z ∧ zH (askZ Z p) = zH Z ∧ zS (askZ Z p) = zS Z ∧ zW (askZ Z p) = zW Z := by
  unfold askZ
  split <;> exact ⟨rfl, rfl, rfl, rfl⟩
theorem RM.ask {M1 : MoT} {Z : ZT} {p : Int32} (h : RM M1 (askZ Z p)) {j t : Nat} (hj : j < 10) (hp : zP Z j = t + 1) : thM M1 t (zH Z t) ∧ m_place M1 j = nI (t + 1) := by
  obtain ⟨e1, e2, -, -⟩ := askZ_eq Z p
  refine ⟨?_, ?_⟩
  · have := h.th (j := j) (t := t) hj (by rw [e1]; exact hp)
    rwa [e2] at this
  · rw [h.2.1 j hj, e1, hp]
theorem RM.scratch {M : MoT} {Z : ZT} (h : RM M Z) {fn : Nat → Int32} {v : Int32} : RM (m_taped_ (m_length_ (m_name_ M fn) v) 0) (zT_ Z []) := ⟨⟨rfl, fun i hi => absurd hi (Nat.not_lt_zero _)⟩, h.2.1, h.2.2.1, h.2.2.2⟩
theorem errI_inr {e : Int32 ⊕ Nat} (hn : ∀ q, e = .inl q → q < 0) (h : ¬ errI e < 0) : ∃ t, e = .inr t := by
  cases e with
  | inl q => exact absurd (hn q rfl) h
  | inr t => exact ⟨t, rfl⟩
set_option maxRecDepth 100000 in
set_option maxHeartbeats 400000 in
theorem c_M_asked_err {l : Launch} {G : Gx} {S : PS} {M : MoT} {x : Nat} (hx : MoOk S M x) {Z : ZT} (hR : RM M Z) (hZ : okZ Z) {p e : Int32} (he : bookE Z p = .inl e) (hneg : e < 0) : Ct l yX11_asked cX11_asked 3 (Option.some Jvm.ClassFile.FieldType.int) rm_X11_asked G [.ref x, .int p] (mo_ S M) (fun r S' => ∃ M', r = some (.int (errI (askE Z p))) ∧ S' = mo_ S M' ∧ mo_r M' = mo_r M ∧ RM M' (askZ Z p) ∧ (∀ t, askE Z p = .inr t → curM M' (zT Z))) := by
  have e1 : askE Z p = .inl e := by unfold askE; rw [he]
  have e2 : askZ Z p = Z := by unfold askZ; rw [he]
  refine Ct.mk RX11 "asked" hy_X11_asked (Nat.le_of_ble_eq_true rfl) (fun X hX C => ?_)
  change Go X G _ 3 0 0 (mo_ S M) 0 [(0, .ref x), (1, .int p)] []
  refine g_aload_n 0 0 C dX11_asked_0 rfl rfl ?_
  refine g_iload_n 1 1 C dX11_asked_1 rfl rfl ?_
  refine g_callV (As := [.int p]) (rest := []) C dX11_asked_2 (c_M_book hx hR hZ) wC_X11_book wM_X11_175 wI_X11_book wS_X11_book wN_X11 (kne hx.1) (pf_11 hx.1) rfl hd_X11_book ⟨by decide, by decide, by decide, by decide⟩ (Nat.le_of_ble_eq_true rfl) (fun r_ S_ h_ => ?_)
  obtain ⟨rfl, rfl⟩ := h_
  change Go X G _ 3 _ _ (mo_ S M) 5 [(0, .ref x), (1, .int p)] [.int (errI (bookE Z p))]
  refine g_topi (show errI (bookE Z p) = e by rw [he]; rfl) ?_
  refine g_istore_n (lv' := [(2, .int e), (0, .ref x), (1, .int p)]) C dX11_asked_5 rfl (by decide) rfl ?_
  refine g_iload_n 0 2 C dX11_asked_6 rfl rfl ?_
  refine g_if_ge 12 C dX11_asked_7 (by decide) (fun c7 => ?_) (fun c7 => ?_)
  · exact absurd c7 (Int32.not_le.mpr hneg)
  · refine g_iload_n 0 2 C dX11_asked_10 rfl rfl ?_
    exact g_iret C dX11_asked_11 (by decide) (by decide) (⟨M, by rw [e1]; rfl, rfl, rfl, by rw [e2]; exact hR, fun t h => by rw [e1] at h; cases h⟩)
set_option maxRecDepth 100000 in
set_option maxHeartbeats 400000 in
theorem c_M_asked_ok {l : Launch} {G : Gx} {S : PS} {M : MoT} {x : Nat} (hx : MoOk S M x) {Z : ZT} (hR : RM M Z) (hZ : okZ Z) {j t : Nat} (hj : j < 10) (hp : zP Z j = t + 1) (he : bookE Z (nI j) = .inr t) : Ct l yX11_asked cX11_asked 3 (Option.some Jvm.ClassFile.FieldType.int) rm_X11_asked G [.ref x, .int (nI j)] (mo_ S M) (fun r S' => ∃ M', r = some (.int (errI (askE Z (nI j)))) ∧ S' = mo_ S M' ∧ mo_r M' = mo_r M ∧ RM M' (askZ Z (nI j)) ∧ (∀ t, askE Z (nI j) = .inr t → curM M' (zT Z))) := by
  obtain ⟨hO, ht⟩ := hZ.th hj hp
  have e2 : askZ Z (nI j) = zT_ Z [] := by unfold askZ; rw [he]
  refine Ct.mk RX11 "asked" hy_X11_asked (Nat.le_of_ble_eq_true rfl) (fun X hX C => ?_)
  change Go X G _ 3 0 0 (mo_ S M) 0 [(0, .ref x), (1, .int (nI j))] []
  refine g_aload_n 0 0 C dX11_asked_0 rfl rfl ?_
  refine g_iload_n 1 1 C dX11_asked_1 rfl rfl ?_
  refine g_callV (As := [.int (nI j)]) (rest := []) C dX11_asked_2 (c_M_book hx hR hZ) wC_X11_book wM_X11_175 wI_X11_book wS_X11_book wN_X11 (kne hx.1) (pf_11 hx.1) rfl hd_X11_book ⟨by decide, by decide, by decide, by decide⟩ (Nat.le_of_ble_eq_true rfl) (fun r_ S_ h_ => ?_)
  obtain ⟨rfl, rfl⟩ := h_
  change Go X G _ 3 _ _ (mo_ S M) 5 [(0, .ref x), (1, .int (nI j))] [.int (errI (bookE Z (nI j)))]
  refine g_topi (show errI (bookE Z (nI j)) = nI 0 by rw [he]; rfl) ?_
  refine g_istore_n (lv' := [(2, .int (nI 0)), (0, .ref x), (1, .int (nI j))]) C dX11_asked_5 rfl (by decide) rfl ?_
  refine g_iload_n 0 2 C dX11_asked_6 rfl rfl ?_
  refine g_nif_ge 12 (by omega) C dX11_asked_7 (by decide) ?_
  refine g_aload_n 1 0 C dX11_asked_12 rfl rfl ?_
  refine g_callV (As := []) (rest := []) C dX11_asked_13 (c_M_takes hx hR.1 hZ.1.1 hZ.1.2) wC_X11_takes wM_X11_126 wI_X11_takes wS_X11_takes wN_X11 (kne hx.1) (pf_11 hx.1) rfl hd_X11_takes ⟨by decide, by decide, by decide, by decide⟩ (Nat.le_of_ble_eq_true rfl) (fun r_ S_ h_ => ?_)
  obtain ⟨fn, rfl, rfl, hfn⟩ := h_
  change Go X G _ 3 _ _ (mo_ S (m_taped_ (m_length_ (m_name_ M fn) (nI (zT Z).length)) 0)) 16 [(2, .int (nI 0)), (0, .ref x), (1, .int (nI j))] [.int (bI (nameB (zT Z)))]
  have hx1 : MoOk S (m_taped_ (m_length_ (m_name_ M fn) (nI (zT Z).length)) 0) x := hx
  have hT := hR.th hj hp
  refine g_if_ne 22 C dX11_asked_16 (by decide) (fun c16 => ?_) (fun c16 => ?_)
  · have hn := bI_t c16
    refine g_aload_n 1 0 C dX11_asked_22 rfl rfl ?_
    refine g_aload_n 1 0 C dX11_asked_23 rfl rfl ?_
    refine g_iload_n 2 1 C dX11_asked_24 rfl rfl ?_
    refine g_callV (As := [.int (nI j)]) (rest := [.ref x]) C dX11_asked_25 (c_M_at hx1 hj ((hR.2.1 j hj).trans (by rw [hp]))) wC_X11_at wM_X11_108 wI_X11_at wS_X11_at wN_X11 (kne hx.1) (pf_11 hx.1) rfl hd_X11_at ⟨by decide, by decide, by decide, by decide⟩ (Nat.le_of_ble_eq_true rfl) (fun r_ S_ h_ => ?_)
    obtain ⟨rfl, rfl⟩ := h_
    change Go X G _ 3 _ _ (mo_ S (m_taped_ (m_length_ (m_name_ M fn) (nI (zT Z).length)) 0)) 28 [(2, .int (nI 0)), (0, .ref x), (1, .int (nI j))] [.int (nI t), .ref x]
    refine g_callV (As := [.int (nI t)]) (rest := []) C dX11_asked_28 (c_M_misses hx1 (by omega) hT.2.2.2.2.1 hT.2.2.2.2.2.1) wC_X11_misses wM_X11_178 wI_X11_misses wS_X11_misses wN_X11 (kne hx.1) (pf_11 hx.1) rfl hd_X11_misses ⟨by decide, by decide, by decide, by decide⟩ (Nat.le_of_ble_eq_true rfl) (fun r_ S_ h_ => ?_)
    obtain ⟨rfl, rfl⟩ := h_
    change Go X G _ 3 _ _ (mo_ S (m_taped_ (m_length_ (m_name_ M fn) (nI (zT Z).length)) 0)) 31 [(2, .int (nI 0)), (0, .ref x), (1, .int (nI j))] [.int (bI (missT (zH Z t)))]
    refine g_if_eq 39 C dX11_asked_31 (by decide) (fun c31 => ?_) (fun c31 => ?_)
    · have e1 : askE Z (nI j) = .inr t := by unfold askE; rw [he]; simp only []; rw [hn, bI_f c31]; rfl
      refine g_iconst (v := nI 0) C dX11_asked_39 (by decide) ?_
      exact g_iret C dX11_asked_40 (by decide) (by decide) ⟨_, by rw [e1]; rfl, rfl, rfl, by rw [e2]; exact hR.scratch, fun t h => ⟨rfl, hfn hn⟩⟩
    · have e1 : askE Z (nI j) = .inl (-6) := by unfold askE; rw [he]; simp only []; rw [hn, bI_t c31]; rfl
      refine g_bipush (v := -6) C dX11_asked_34 (by decide) ?_
      refine g_goto 40 C dX11_asked_36 (by decide) ?_
      exact g_iret C dX11_asked_40 (by decide) (by decide) ⟨_, by rw [e1]; rfl, rfl, rfl, by rw [e2]; exact hR.scratch, fun t h => by rw [e1] at h; cases h⟩
  · have e1 : askE Z (nI j) = .inl (-5) := by unfold askE; rw [he]; simp only []; rw [bI_f c16]; rfl
    refine g_bipush (v := -5) C dX11_asked_19 (by decide) ?_
    exact g_iret C dX11_asked_21 (by decide) (by decide) (⟨_, by rw [e1]; rfl, rfl, rfl, by rw [e2]; exact hR.scratch, fun t h => by rw [e1] at h; cases h⟩)
theorem c_M_asked {l : Launch} {G : Gx} {S : PS} {M : MoT} {x : Nat} (hx : MoOk S M x) {Z : ZT} (hR : RM M Z) (hZ : okZ Z) {p : Int32} : Ct l yX11_asked cX11_asked 3 (Option.some Jvm.ClassFile.FieldType.int) rm_X11_asked G [.ref x, .int p] (mo_ S M) (fun r S' => ∃ M', r = some (.int (errI (askE Z p))) ∧ S' = mo_ S M' ∧ mo_r M' = mo_r M ∧ RM M' (askZ Z p) ∧ (∀ t, askE Z p = .inr t → curM M' (zT Z))) := by
  cases he : bookE Z p with
  | inl e => exact c_M_asked_err hx hR hZ he (bookE_neg he)
  | inr t =>
    obtain ⟨j, hj, rfl, hp, hk⟩ := bookE_inr he
    exact c_M_asked_ok hx hR hZ hj hp he
def A_below (Z : ZT) (p : Int32) : Int32 := match askE Z p with
  | .inl e => e
  | .inr t => nI (aheadN (tL (zH Z t)) (zT Z))
def A_number (Z : ZT) (p : Int32) : Int32 := match askE Z p with
  | .inl e => e
  | .inr t => if isAtN (tL (zH Z t)) (aheadN (tL (zH Z t)) (zT Z)) (zT Z) then nI (aheadN (tL (zH Z t)) (zT Z)) else -1
def A_prior (Z : ZT) (p : Int32) : Int32 := match askE Z p with
  | .inl e => e
  | .inr t => nI (aheadN (tL (zH Z t)) (zT Z)) - 1
def nextN (l : List Ent) (cur : List Nat) : Nat := aheadN l cur + (if isAtN l (aheadN l cur) cur then 1 else 0)
def A_next (Z : ZT) (p : Int32) : Int32 := match askE Z p with
  | .inl e => e
  | .inr t => if nextN (tL (zH Z t)) (zT Z) < (tL (zH Z t)).length then nI (nextN (tL (zH Z t)) (zT Z)) else -1
/-- the end of the names that begin with cur, from the first that isn't ahead of it on -/
def pastN (l : List Ent) (cur : List Nat) : Nat := aheadN l cur + fN (fun i => decide (lcp cur (nm l (aheadN l cur + i)) = cur.length)) (l.length - aheadN l cur)
def A_prefix (Z : ZT) (p : Int32) (last : Bool) : Int32 := match askE Z p with
  | .inl e => e
  | .inr t => if pastN (tL (zH Z t)) (zT Z) = aheadN (tL (zH Z t)) (zT Z) then -10 - nI (aheadN (tL (zH Z t)) (zT Z)) else if last then nI (pastN (tL (zH Z t)) (zT Z) - 1) else nI (aheadN (tL (zH Z t)) (zT Z))
/-- the last of the first n names with which cur begins -/
def longN (l : List Ent) (cur : List Nat) : Nat → Int32
  | 0 => -1
  | n + 1 => if lcp cur (nm l n) = (nm l n).length then nI n else longN l cur n
def A_longest (Z : ZT) (p : Int32) : Int32 := match askE Z p with
  | .inl e => e
  | .inr t => longN (tL (zH Z t)) (zT Z) (tL (zH Z t)).length
set_option maxRecDepth 100000 in
set_option maxHeartbeats 400000 in
theorem c_M_below_err {l : Launch} {G : Gx} {S : PS} {M : MoT} {x : Nat} (hx : MoOk S M x) {Z : ZT} (hR : RM M Z) (hZ : okZ Z) {p e : Int32} (he : askE Z p = .inl e) (hneg : e < 0)  : Ct l yX11_below cX11_below 3 (Option.some Jvm.ClassFile.FieldType.int) rm_X11_below G [.ref x, .int p] (mo_ S M) (fun r S' => ∃ M', r = some (.int (A_below Z p)) ∧ S' = mo_ S M' ∧ mo_r M' = mo_r M ∧ RM M' (askZ Z p)) := by
  refine Ct.mk RX11 "below" hy_X11_below (Nat.le_of_ble_eq_true rfl) (fun X hX C => ?_)
  change Go X G _ 3 0 0 (mo_ S M) 0 [(0, .ref x), (1, .int p)] []
  refine g_aload_n 0 0 C dX11_below_0 rfl rfl ?_
  refine g_iload_n 1 1 C dX11_below_1 rfl rfl ?_
  refine g_callV (As := [.int p]) (rest := []) C dX11_below_2 (c_M_asked hx hR hZ) wC_X11_asked wM_X11_196 wI_X11_asked wS_X11_asked wN_X11 (kne hx.1) (pf_11 hx.1) rfl hd_X11_asked ⟨by decide, by decide, by decide, by decide⟩ (Nat.le_of_ble_eq_true rfl) (fun r_ S_ h_ => ?_)
  obtain ⟨M1, rfl, rfl, h1, hR1, hc1⟩ := h_
  change Go X G _ 3 _ _ (mo_ S M1) 5 [(0, .ref x), (1, .int p)] [.int (errI (askE Z p))]
  refine g_topi (show errI (askE Z p) = e by rw [he]; rfl) ?_
  refine g_istore_n (lv' := [(2, .int e), (0, .ref x), (1, .int p)]) C dX11_below_5 rfl (by decide) rfl ?_
  refine g_iload_n 0 2 C dX11_below_6 rfl rfl ?_
  refine g_if_ge 14 C dX11_below_7 (by decide) (fun c7 => ?_) (fun c7 => ?_)
  · exact absurd c7 (Int32.not_le.mpr hneg)
  · refine g_iload_n 0 2 C dX11_below_10 rfl rfl ?_
    refine g_goto 23 C dX11_below_11 (by decide) ?_
    exact g_iret C dX11_below_23 (by decide) (by decide) (⟨M1, by unfold A_below; rw [he], rfl, h1, hR1⟩)
set_option maxRecDepth 100000 in
set_option maxHeartbeats 400000 in
theorem c_M_below_ok {l : Launch} {G : Gx} {S : PS} {M : MoT} {x : Nat} (hx : MoOk S M x) {Z : ZT} (hR : RM M Z) (hZ : okZ Z) {j t : Nat} (hj : j < 10) (hp : zP Z j = t + 1) (ha : askE Z (nI j) = .inr t) (hc0 : okN (zT Z))  : Ct l yX11_below cX11_below 3 (Option.some Jvm.ClassFile.FieldType.int) rm_X11_below G [.ref x, .int (nI j)] (mo_ S M) (fun r S' => ∃ M', r = some (.int (A_below Z (nI j))) ∧ S' = mo_ S M' ∧ mo_r M' = mo_r M ∧ RM M' (askZ Z (nI j))) := by
  obtain ⟨hO, ht⟩ := hZ.th hj hp
  refine Ct.mk RX11 "below" hy_X11_below (Nat.le_of_ble_eq_true rfl) (fun X hX C => ?_)
  change Go X G _ 3 0 0 (mo_ S M) 0 [(0, .ref x), (1, .int (nI j))] []
  refine g_aload_n 0 0 C dX11_below_0 rfl rfl ?_
  refine g_iload_n 1 1 C dX11_below_1 rfl rfl ?_
  refine g_callV (As := [.int (nI j)]) (rest := []) C dX11_below_2 (c_M_asked hx hR hZ) wC_X11_asked wM_X11_196 wI_X11_asked wS_X11_asked wN_X11 (kne hx.1) (pf_11 hx.1) rfl hd_X11_asked ⟨by decide, by decide, by decide, by decide⟩ (Nat.le_of_ble_eq_true rfl) (fun r_ S_ h_ => ?_)
  obtain ⟨M1, rfl, rfl, h1, hR1, hc1⟩ := h_
  change Go X G _ 3 _ _ (mo_ S M1) 5 [(0, .ref x), (1, .int (nI j))] [.int (errI (askE Z (nI j)))]
  refine g_topi (show errI (askE Z (nI j)) = nI 0 by rw [ha]; rfl) ?_
  have hx1 := hx.of h1
  obtain ⟨hT, hpl⟩ := hR1.ask hj hp
  have hc := hc1 t ha
  have hn1 := hT.2.1
  have hn2 := hn1.1
  have hah : aheadN (tL (zH Z t)) (zT Z) ≤ (tL (zH Z t)).length := fN_le _ _
  refine g_istore_n (lv' := [(2, .int (nI 0)), (0, .ref x), (1, .int (nI j))]) C dX11_below_5 rfl (by decide) rfl ?_
  refine g_iload_n 0 2 C dX11_below_6 rfl rfl ?_
  refine g_nif_ge 14 (by omega) C dX11_below_7 (by decide) ?_
  refine g_aload_n 1 0 C dX11_below_14 rfl rfl ?_
  refine g_aload_n 1 0 C dX11_below_15 rfl rfl ?_
  refine g_iload_n 2 1 C dX11_below_16 rfl rfl ?_
  refine g_callV (As := [.int (nI j)]) (rest := [.ref x]) C dX11_below_17 (c_M_at hx1 hj hpl) wC_X11_at wM_X11_108 wI_X11_at wS_X11_at wN_X11 (kne hx1.1) (pf_11 hx1.1) rfl hd_X11_at ⟨by decide, by decide, by decide, by decide⟩ (Nat.le_of_ble_eq_true rfl) (fun r_ S_ h_ => ?_)
  obtain ⟨rfl, rfl⟩ := h_
  change Go X G _ 3 _ _ (mo_ S M1) 20 [(2, .int (nI 0)), (0, .ref x), (1, .int (nI j))] [.int (nI t), .ref x]
  refine g_callV (As := [.int (nI t)]) (rest := []) C dX11_below_20 (c_M_ahead hx1 (by omega) hn1 hc hc0) wC_X11_ahead wM_X11_130 wI_X11_ahead wS_X11_ahead wN_X11 (kne hx1.1) (pf_11 hx1.1) rfl hd_X11_ahead ⟨by decide, by decide, by decide, by decide⟩ (Nat.le_of_ble_eq_true rfl) (fun r_ S_ h_ => ?_)
  obtain ⟨rfl, rfl⟩ := h_
  change Go X G _ 3 _ _ (mo_ S M1) 23 [(2, .int (nI 0)), (0, .ref x), (1, .int (nI j))] [.int (nI (aheadN (tL (zH Z t)) (zT Z)))]
  exact g_iret C dX11_below_23 (by decide) (by decide) (⟨M1, by unfold A_below; rw [ha], rfl, h1, hR1⟩)
theorem c_M_below {l : Launch} {G : Gx} {S : PS} {M : MoT} {x : Nat} (hx : MoOk S M x) {Z : ZT} (hR : RM M Z) (hZ : okZ Z) {p : Int32}  : Ct l yX11_below cX11_below 3 (Option.some Jvm.ClassFile.FieldType.int) rm_X11_below G [.ref x, .int p] (mo_ S M) (fun r S' => ∃ M', r = some (.int (A_below Z p)) ∧ S' = mo_ S M' ∧ mo_r M' = mo_r M ∧ RM M' (askZ Z p)) := by
  cases ha : askE Z p with
  | inl e => exact c_M_below_err hx hR hZ ha (askE_neg ha)
  | inr t =>
    obtain ⟨j, hj, rfl, hp, hk, hc0, hm⟩ := askE_inr hZ ha
    exact c_M_below_ok hx hR hZ hj hp ha hc0
set_option maxRecDepth 100000 in
set_option maxHeartbeats 400000 in
theorem c_M_number_err {l : Launch} {G : Gx} {S : PS} {M : MoT} {x : Nat} (hx : MoOk S M x) {Z : ZT} (hR : RM M Z) (hZ : okZ Z) {p e : Int32} (he : askE Z p = .inl e) (hneg : e < 0)  : Ct l yX11_number cX11_number 4 (Option.some Jvm.ClassFile.FieldType.int) rm_X11_number G [.ref x, .int p] (mo_ S M) (fun r S' => ∃ M', r = some (.int (A_number Z p)) ∧ S' = mo_ S M' ∧ mo_r M' = mo_r M ∧ RM M' (askZ Z p)) := by
  refine Ct.mk RX11 "number" hy_X11_number (Nat.le_of_ble_eq_true rfl) (fun X hX C => ?_)
  change Go X G _ 4 0 0 (mo_ S M) 0 [(0, .ref x), (1, .int p)] []
  refine g_aload_n 0 0 C dX11_number_0 rfl rfl ?_
  refine g_iload_n 1 1 C dX11_number_1 rfl rfl ?_
  refine g_callV (As := [.int p]) (rest := []) C dX11_number_2 (c_M_asked hx hR hZ) wC_X11_asked wM_X11_196 wI_X11_asked wS_X11_asked wN_X11 (kne hx.1) (pf_11 hx.1) rfl hd_X11_asked ⟨by decide, by decide, by decide, by decide⟩ (Nat.le_of_ble_eq_true rfl) (fun r_ S_ h_ => ?_)
  obtain ⟨M1, rfl, rfl, h1, hR1, hc1⟩ := h_
  change Go X G _ 4 _ _ (mo_ S M1) 5 [(0, .ref x), (1, .int p)] [.int (errI (askE Z p))]
  refine g_topi (show errI (askE Z p) = e by rw [he]; rfl) ?_
  refine g_istore_n (lv' := [(2, .int e), (0, .ref x), (1, .int p)]) C dX11_number_5 rfl (by decide) rfl ?_
  refine g_iload_n 0 2 C dX11_number_6 rfl rfl ?_
  refine g_if_ge 12 C dX11_number_7 (by decide) (fun c7 => ?_) (fun c7 => ?_)
  · exact absurd c7 (Int32.not_le.mpr hneg)
  · refine g_iload_n 0 2 C dX11_number_10 rfl rfl ?_
    exact g_iret C dX11_number_11 (by decide) (by decide) (⟨M1, by unfold A_number; rw [he], rfl, h1, hR1⟩)
set_option maxRecDepth 100000 in
set_option maxHeartbeats 400000 in
theorem c_M_number_ok {l : Launch} {G : Gx} {S : PS} {M : MoT} {x : Nat} (hx : MoOk S M x) {Z : ZT} (hR : RM M Z) (hZ : okZ Z) {j t : Nat} (hj : j < 10) (hp : zP Z j = t + 1) (ha : askE Z (nI j) = .inr t) (hc0 : okN (zT Z))  : Ct l yX11_number cX11_number 4 (Option.some Jvm.ClassFile.FieldType.int) rm_X11_number G [.ref x, .int (nI j)] (mo_ S M) (fun r S' => ∃ M', r = some (.int (A_number Z (nI j))) ∧ S' = mo_ S M' ∧ mo_r M' = mo_r M ∧ RM M' (askZ Z (nI j))) := by
  obtain ⟨hO, ht⟩ := hZ.th hj hp
  refine Ct.mk RX11 "number" hy_X11_number (Nat.le_of_ble_eq_true rfl) (fun X hX C => ?_)
  change Go X G _ 4 0 0 (mo_ S M) 0 [(0, .ref x), (1, .int (nI j))] []
  refine g_aload_n 0 0 C dX11_number_0 rfl rfl ?_
  refine g_iload_n 1 1 C dX11_number_1 rfl rfl ?_
  refine g_callV (As := [.int (nI j)]) (rest := []) C dX11_number_2 (c_M_asked hx hR hZ) wC_X11_asked wM_X11_196 wI_X11_asked wS_X11_asked wN_X11 (kne hx.1) (pf_11 hx.1) rfl hd_X11_asked ⟨by decide, by decide, by decide, by decide⟩ (Nat.le_of_ble_eq_true rfl) (fun r_ S_ h_ => ?_)
  obtain ⟨M1, rfl, rfl, h1, hR1, hc1⟩ := h_
  change Go X G _ 4 _ _ (mo_ S M1) 5 [(0, .ref x), (1, .int (nI j))] [.int (errI (askE Z (nI j)))]
  refine g_topi (show errI (askE Z (nI j)) = nI 0 by rw [ha]; rfl) ?_
  have hx1 := hx.of h1
  obtain ⟨hT, hpl⟩ := hR1.ask hj hp
  have hc := hc1 t ha
  have hn1 := hT.2.1
  have hn2 := hn1.1
  have hah : aheadN (tL (zH Z t)) (zT Z) ≤ (tL (zH Z t)).length := fN_le _ _
  refine g_istore_n (lv' := [(2, .int (nI 0)), (0, .ref x), (1, .int (nI j))]) C dX11_number_5 rfl (by decide) rfl ?_
  refine g_iload_n 0 2 C dX11_number_6 rfl rfl ?_
  refine g_nif_ge 12 (by omega) C dX11_number_7 (by decide) ?_
  refine g_aload_n 1 0 C dX11_number_12 rfl rfl ?_
  refine g_aload_n 1 0 C dX11_number_13 rfl rfl ?_
  refine g_iload_n 2 1 C dX11_number_14 rfl rfl ?_
  refine g_callV (As := [.int (nI j)]) (rest := [.ref x]) C dX11_number_15 (c_M_at hx1 hj hpl) wC_X11_at wM_X11_108 wI_X11_at wS_X11_at wN_X11 (kne hx1.1) (pf_11 hx1.1) rfl hd_X11_at ⟨by decide, by decide, by decide, by decide⟩ (Nat.le_of_ble_eq_true rfl) (fun r_ S_ h_ => ?_)
  obtain ⟨rfl, rfl⟩ := h_
  change Go X G _ 4 _ _ (mo_ S M1) 18 [(2, .int (nI 0)), (0, .ref x), (1, .int (nI j))] [.int (nI t), .ref x]
  refine g_callV (As := [.int (nI t)]) (rest := []) C dX11_number_18 (c_M_ahead hx1 (by omega) hn1 hc hc0) wC_X11_ahead wM_X11_130 wI_X11_ahead wS_X11_ahead wN_X11 (kne hx1.1) (pf_11 hx1.1) rfl hd_X11_ahead ⟨by decide, by decide, by decide, by decide⟩ (Nat.le_of_ble_eq_true rfl) (fun r_ S_ h_ => ?_)
  obtain ⟨rfl, rfl⟩ := h_
  change Go X G _ 4 _ _ (mo_ S M1) 21 [(2, .int (nI 0)), (0, .ref x), (1, .int (nI j))] [.int (nI (aheadN (tL (zH Z t)) (zT Z)))]
  refine g_istore_n (lv' := [(3, .int (nI (aheadN (tL (zH Z t)) (zT Z)))), (2, .int (nI 0)), (0, .ref x), (1, .int (nI j))]) C dX11_number_21 rfl (by decide) rfl ?_
  refine g_aload_n 2 0 C dX11_number_22 rfl rfl ?_
  refine g_aload_n 2 0 C dX11_number_23 rfl rfl ?_
  refine g_iload_n 3 1 C dX11_number_24 rfl rfl ?_
  refine g_callV (As := [.int (nI j)]) (rest := [.ref x]) C dX11_number_25 (c_M_at hx1 hj hpl) wC_X11_at wM_X11_108 wI_X11_at wS_X11_at wN_X11 (kne hx1.1) (pf_11 hx1.1) rfl hd_X11_at ⟨by decide, by decide, by decide, by decide⟩ (Nat.le_of_ble_eq_true rfl) (fun r_ S_ h_ => ?_)
  obtain ⟨rfl, rfl⟩ := h_
  change Go X G _ 4 _ _ (mo_ S M1) 28 [(3, .int (nI (aheadN (tL (zH Z t)) (zT Z)))), (2, .int (nI 0)), (0, .ref x), (1, .int (nI j))] [.int (nI t), .ref x]
  refine g_iload_n 0 3 C dX11_number_28 rfl rfl ?_
  refine g_callV (As := [.int (nI t), .int (nI (aheadN (tL (zH Z t)) (zT Z)))]) (rest := []) C dX11_number_29 (c_M_isAt hx1 (by omega) hn1 hc hc0 (by omega)) wC_X11_isAt wM_X11_133 wI_X11_isAt wS_X11_isAt wN_X11 (kne hx1.1) (pf_11 hx1.1) rfl hd_X11_isAt ⟨by decide, by decide, by decide, by decide⟩ (Nat.le_of_ble_eq_true rfl) (fun r_ S_ h_ => ?_)
  obtain ⟨rfl, rfl⟩ := h_
  change Go X G _ 4 _ _ (mo_ S M1) 32 [(3, .int (nI (aheadN (tL (zH Z t)) (zT Z)))), (2, .int (nI 0)), (0, .ref x), (1, .int (nI j))] [.int (bI (isAtN (tL (zH Z t)) (aheadN (tL (zH Z t)) (zT Z)) (zT Z)))]
  refine g_if_eq 39 C dX11_number_32 (by decide) (fun c32 => ?_) (fun c32 => ?_)
  · have e := bI_f c32
    refine g_iconst (v := -1) C dX11_number_39 (by decide) ?_
    exact g_iret C dX11_number_40 (by decide) (by decide) (⟨M1, by unfold A_number; rw [ha]; simp only []; rw [e]; rfl, rfl, h1, hR1⟩)
  · have e := bI_t c32
    refine g_iload_n 0 3 C dX11_number_35 rfl rfl ?_
    refine g_goto 40 C dX11_number_36 (by decide) ?_
    exact g_iret C dX11_number_40 (by decide) (by decide) (⟨M1, by unfold A_number; rw [ha]; simp only []; rw [e]; rfl, rfl, h1, hR1⟩)
theorem c_M_number {l : Launch} {G : Gx} {S : PS} {M : MoT} {x : Nat} (hx : MoOk S M x) {Z : ZT} (hR : RM M Z) (hZ : okZ Z) {p : Int32}  : Ct l yX11_number cX11_number 4 (Option.some Jvm.ClassFile.FieldType.int) rm_X11_number G [.ref x, .int p] (mo_ S M) (fun r S' => ∃ M', r = some (.int (A_number Z p)) ∧ S' = mo_ S M' ∧ mo_r M' = mo_r M ∧ RM M' (askZ Z p)) := by
  cases ha : askE Z p with
  | inl e => exact c_M_number_err hx hR hZ ha (askE_neg ha)
  | inr t =>
    obtain ⟨j, hj, rfl, hp, hk, hc0, hm⟩ := askE_inr hZ ha
    exact c_M_number_ok hx hR hZ hj hp ha hc0
set_option maxRecDepth 100000 in
set_option maxHeartbeats 400000 in
theorem c_M_prior_err {l : Launch} {G : Gx} {S : PS} {M : MoT} {x : Nat} (hx : MoOk S M x) {Z : ZT} (hR : RM M Z) (hZ : okZ Z) {p e : Int32} (he : askE Z p = .inl e) (hneg : e < 0)  : Ct l yX11_prior cX11_prior 3 (Option.some Jvm.ClassFile.FieldType.int) rm_X11_prior G [.ref x, .int p] (mo_ S M) (fun r S' => ∃ M', r = some (.int (A_prior Z p)) ∧ S' = mo_ S M' ∧ mo_r M' = mo_r M ∧ RM M' (askZ Z p)) := by
  refine Ct.mk RX11 "prior" hy_X11_prior (Nat.le_of_ble_eq_true rfl) (fun X hX C => ?_)
  change Go X G _ 3 0 0 (mo_ S M) 0 [(0, .ref x), (1, .int p)] []
  refine g_aload_n 0 0 C dX11_prior_0 rfl rfl ?_
  refine g_iload_n 1 1 C dX11_prior_1 rfl rfl ?_
  refine g_callV (As := [.int p]) (rest := []) C dX11_prior_2 (c_M_asked hx hR hZ) wC_X11_asked wM_X11_196 wI_X11_asked wS_X11_asked wN_X11 (kne hx.1) (pf_11 hx.1) rfl hd_X11_asked ⟨by decide, by decide, by decide, by decide⟩ (Nat.le_of_ble_eq_true rfl) (fun r_ S_ h_ => ?_)
  obtain ⟨M1, rfl, rfl, h1, hR1, hc1⟩ := h_
  change Go X G _ 3 _ _ (mo_ S M1) 5 [(0, .ref x), (1, .int p)] [.int (errI (askE Z p))]
  refine g_topi (show errI (askE Z p) = e by rw [he]; rfl) ?_
  refine g_istore_n (lv' := [(2, .int e), (0, .ref x), (1, .int p)]) C dX11_prior_5 rfl (by decide) rfl ?_
  refine g_iload_n 0 2 C dX11_prior_6 rfl rfl ?_
  refine g_if_ge 14 C dX11_prior_7 (by decide) (fun c7 => ?_) (fun c7 => ?_)
  · exact absurd c7 (Int32.not_le.mpr hneg)
  · refine g_iload_n 0 2 C dX11_prior_10 rfl rfl ?_
    refine g_goto 25 C dX11_prior_11 (by decide) ?_
    exact g_iret C dX11_prior_25 (by decide) (by decide) (⟨M1, by unfold A_prior; rw [he], rfl, h1, hR1⟩)
set_option maxRecDepth 100000 in
set_option maxHeartbeats 400000 in
theorem c_M_prior_ok {l : Launch} {G : Gx} {S : PS} {M : MoT} {x : Nat} (hx : MoOk S M x) {Z : ZT} (hR : RM M Z) (hZ : okZ Z) {j t : Nat} (hj : j < 10) (hp : zP Z j = t + 1) (ha : askE Z (nI j) = .inr t) (hc0 : okN (zT Z))  : Ct l yX11_prior cX11_prior 3 (Option.some Jvm.ClassFile.FieldType.int) rm_X11_prior G [.ref x, .int (nI j)] (mo_ S M) (fun r S' => ∃ M', r = some (.int (A_prior Z (nI j))) ∧ S' = mo_ S M' ∧ mo_r M' = mo_r M ∧ RM M' (askZ Z (nI j))) := by
  obtain ⟨hO, ht⟩ := hZ.th hj hp
  refine Ct.mk RX11 "prior" hy_X11_prior (Nat.le_of_ble_eq_true rfl) (fun X hX C => ?_)
  change Go X G _ 3 0 0 (mo_ S M) 0 [(0, .ref x), (1, .int (nI j))] []
  refine g_aload_n 0 0 C dX11_prior_0 rfl rfl ?_
  refine g_iload_n 1 1 C dX11_prior_1 rfl rfl ?_
  refine g_callV (As := [.int (nI j)]) (rest := []) C dX11_prior_2 (c_M_asked hx hR hZ) wC_X11_asked wM_X11_196 wI_X11_asked wS_X11_asked wN_X11 (kne hx.1) (pf_11 hx.1) rfl hd_X11_asked ⟨by decide, by decide, by decide, by decide⟩ (Nat.le_of_ble_eq_true rfl) (fun r_ S_ h_ => ?_)
  obtain ⟨M1, rfl, rfl, h1, hR1, hc1⟩ := h_
  change Go X G _ 3 _ _ (mo_ S M1) 5 [(0, .ref x), (1, .int (nI j))] [.int (errI (askE Z (nI j)))]
  refine g_topi (show errI (askE Z (nI j)) = nI 0 by rw [ha]; rfl) ?_
  have hx1 := hx.of h1
  obtain ⟨hT, hpl⟩ := hR1.ask hj hp
  have hc := hc1 t ha
  have hn1 := hT.2.1
  have hn2 := hn1.1
  have hah : aheadN (tL (zH Z t)) (zT Z) ≤ (tL (zH Z t)).length := fN_le _ _
  refine g_istore_n (lv' := [(2, .int (nI 0)), (0, .ref x), (1, .int (nI j))]) C dX11_prior_5 rfl (by decide) rfl ?_
  refine g_iload_n 0 2 C dX11_prior_6 rfl rfl ?_
  refine g_nif_ge 14 (by omega) C dX11_prior_7 (by decide) ?_
  refine g_aload_n 1 0 C dX11_prior_14 rfl rfl ?_
  refine g_aload_n 1 0 C dX11_prior_15 rfl rfl ?_
  refine g_iload_n 2 1 C dX11_prior_16 rfl rfl ?_
  refine g_callV (As := [.int (nI j)]) (rest := [.ref x]) C dX11_prior_17 (c_M_at hx1 hj hpl) wC_X11_at wM_X11_108 wI_X11_at wS_X11_at wN_X11 (kne hx1.1) (pf_11 hx1.1) rfl hd_X11_at ⟨by decide, by decide, by decide, by decide⟩ (Nat.le_of_ble_eq_true rfl) (fun r_ S_ h_ => ?_)
  obtain ⟨rfl, rfl⟩ := h_
  change Go X G _ 3 _ _ (mo_ S M1) 20 [(2, .int (nI 0)), (0, .ref x), (1, .int (nI j))] [.int (nI t), .ref x]
  refine g_callV (As := [.int (nI t)]) (rest := []) C dX11_prior_20 (c_M_ahead hx1 (by omega) hn1 hc hc0) wC_X11_ahead wM_X11_130 wI_X11_ahead wS_X11_ahead wN_X11 (kne hx1.1) (pf_11 hx1.1) rfl hd_X11_ahead ⟨by decide, by decide, by decide, by decide⟩ (Nat.le_of_ble_eq_true rfl) (fun r_ S_ h_ => ?_)
  obtain ⟨rfl, rfl⟩ := h_
  change Go X G _ 3 _ _ (mo_ S M1) 23 [(2, .int (nI 0)), (0, .ref x), (1, .int (nI j))] [.int (nI (aheadN (tL (zH Z t)) (zT Z)))]
  refine g_iconst (v := nI 1) C dX11_prior_23 (by decide) ?_
  refine g_isub C dX11_prior_24 ?_
  exact g_iret C dX11_prior_25 (by decide) (by decide) (⟨M1, by unfold A_prior; rw [ha]; rfl, rfl, h1, hR1⟩)
theorem c_M_prior {l : Launch} {G : Gx} {S : PS} {M : MoT} {x : Nat} (hx : MoOk S M x) {Z : ZT} (hR : RM M Z) (hZ : okZ Z) {p : Int32}  : Ct l yX11_prior cX11_prior 3 (Option.some Jvm.ClassFile.FieldType.int) rm_X11_prior G [.ref x, .int p] (mo_ S M) (fun r S' => ∃ M', r = some (.int (A_prior Z p)) ∧ S' = mo_ S M' ∧ mo_r M' = mo_r M ∧ RM M' (askZ Z p)) := by
  cases ha : askE Z p with
  | inl e => exact c_M_prior_err hx hR hZ ha (askE_neg ha)
  | inr t =>
    obtain ⟨j, hj, rfl, hp, hk, hc0, hm⟩ := askE_inr hZ ha
    exact c_M_prior_ok hx hR hZ hj hp ha hc0
set_option maxRecDepth 100000 in
set_option maxHeartbeats 400000 in
theorem c_M_next_err {l : Launch} {G : Gx} {S : PS} {M : MoT} {x : Nat} (hx : MoOk S M x) {Z : ZT} (hR : RM M Z) (hZ : okZ Z) {p e : Int32} (he : askE Z p = .inl e) (hneg : e < 0)  : Ct l yX11_next cX11_next 5 (Option.some Jvm.ClassFile.FieldType.int) rm_X11_next G [.ref x, .int p] (mo_ S M) (fun r S' => ∃ M', r = some (.int (A_next Z p)) ∧ S' = mo_ S M' ∧ mo_r M' = mo_r M ∧ RM M' (askZ Z p)) := by
  obtain ⟨q_many, r_many, k_many⟩ := hx.2 3 (by decide)
  refine Ct.mk RX11 "next" hy_X11_next (Nat.le_of_ble_eq_true rfl) (fun X hX C => ?_)
  change Go X G _ 5 0 0 (mo_ S M) 0 [(0, .ref x), (1, .int p)] []
  refine g_aload_n 0 0 C dX11_next_0 rfl rfl ?_
  refine g_iload_n 1 1 C dX11_next_1 rfl rfl ?_
  refine g_callV (As := [.int p]) (rest := []) C dX11_next_2 (c_M_asked hx hR hZ) wC_X11_asked wM_X11_196 wI_X11_asked wS_X11_asked wN_X11 (kne hx.1) (pf_11 hx.1) rfl hd_X11_asked ⟨by decide, by decide, by decide, by decide⟩ (Nat.le_of_ble_eq_true rfl) (fun r_ S_ h_ => ?_)
  obtain ⟨M1, rfl, rfl, h1, hR1, hc1⟩ := h_
  change Go X G _ 5 _ _ (mo_ S M1) 5 [(0, .ref x), (1, .int p)] [.int (errI (askE Z p))]
  refine g_topi (show errI (askE Z p) = e by rw [he]; rfl) ?_
  refine g_istore_n (lv' := [(2, .int e), (0, .ref x), (1, .int p)]) C dX11_next_5 rfl (by decide) rfl ?_
  refine g_iload_n 0 2 C dX11_next_6 rfl rfl ?_
  refine g_if_ge 12 C dX11_next_7 (by decide) (fun c7 => ?_) (fun c7 => ?_)
  · exact absurd c7 (Int32.not_le.mpr hneg)
  · refine g_iload_n 0 2 C dX11_next_10 rfl rfl ?_
    exact g_iret C dX11_next_11 (by decide) (by decide) (⟨M1, by unfold A_next; rw [he], rfl, h1, hR1⟩)
set_option maxRecDepth 100000 in
set_option maxHeartbeats 400000 in
theorem c_M_next_ok {l : Launch} {G : Gx} {S : PS} {M : MoT} {x : Nat} (hx : MoOk S M x) {Z : ZT} (hR : RM M Z) (hZ : okZ Z) {j t : Nat} (hj : j < 10) (hp : zP Z j = t + 1) (ha : askE Z (nI j) = .inr t) (hc0 : okN (zT Z))  : Ct l yX11_next cX11_next 5 (Option.some Jvm.ClassFile.FieldType.int) rm_X11_next G [.ref x, .int (nI j)] (mo_ S M) (fun r S' => ∃ M', r = some (.int (A_next Z (nI j))) ∧ S' = mo_ S M' ∧ mo_r M' = mo_r M ∧ RM M' (askZ Z (nI j))) := by
  obtain ⟨q_many, r_many, k_many⟩ := hx.2 3 (by decide)
  obtain ⟨hO, ht⟩ := hZ.th hj hp
  refine Ct.mk RX11 "next" hy_X11_next (Nat.le_of_ble_eq_true rfl) (fun X hX C => ?_)
  change Go X G _ 5 0 0 (mo_ S M) 0 [(0, .ref x), (1, .int (nI j))] []
  refine g_aload_n 0 0 C dX11_next_0 rfl rfl ?_
  refine g_iload_n 1 1 C dX11_next_1 rfl rfl ?_
  refine g_callV (As := [.int (nI j)]) (rest := []) C dX11_next_2 (c_M_asked hx hR hZ) wC_X11_asked wM_X11_196 wI_X11_asked wS_X11_asked wN_X11 (kne hx.1) (pf_11 hx.1) rfl hd_X11_asked ⟨by decide, by decide, by decide, by decide⟩ (Nat.le_of_ble_eq_true rfl) (fun r_ S_ h_ => ?_)
  obtain ⟨M1, rfl, rfl, h1, hR1, hc1⟩ := h_
  change Go X G _ 5 _ _ (mo_ S M1) 5 [(0, .ref x), (1, .int (nI j))] [.int (errI (askE Z (nI j)))]
  refine g_topi (show errI (askE Z (nI j)) = nI 0 by rw [ha]; rfl) ?_
  have hx1 := hx.of h1
  obtain ⟨q_many, r_many, k_many⟩ := hx1.2 3 (by decide)
  obtain ⟨hT, hpl⟩ := hR1.ask hj hp
  have hc := hc1 t ha
  have hn1 := hT.2.1
  have hn2 := hn1.1
  have hah : aheadN (tL (zH Z t)) (zT Z) ≤ (tL (zH Z t)).length := fN_le _ _
  refine g_istore_n (lv' := [(2, .int (nI 0)), (0, .ref x), (1, .int (nI j))]) C dX11_next_5 rfl (by decide) rfl ?_
  refine g_iload_n 0 2 C dX11_next_6 rfl rfl ?_
  refine g_nif_ge 12 (by omega) C dX11_next_7 (by decide) ?_
  refine g_aload_n 1 0 C dX11_next_12 rfl rfl ?_
  refine g_iload_n 2 1 C dX11_next_13 rfl rfl ?_
  refine g_callV (As := [.int (nI j)]) (rest := []) C dX11_next_14 (c_M_at hx1 hj hpl) wC_X11_at wM_X11_108 wI_X11_at wS_X11_at wN_X11 (kne hx1.1) (pf_11 hx1.1) rfl hd_X11_at ⟨by decide, by decide, by decide, by decide⟩ (Nat.le_of_ble_eq_true rfl) (fun r_ S_ h_ => ?_)
  obtain ⟨rfl, rfl⟩ := h_
  change Go X G _ 5 _ _ (mo_ S M1) 17 [(2, .int (nI 0)), (0, .ref x), (1, .int (nI j))] [.int (nI t)]
  refine g_istore_n (lv' := [(3, .int (nI t)), (2, .int (nI 0)), (0, .ref x), (1, .int (nI j))]) C dX11_next_17 rfl (by decide) rfl ?_
  refine g_aload_n 2 0 C dX11_next_18 rfl rfl ?_
  refine g_iload_n 0 3 C dX11_next_19 rfl rfl ?_
  refine g_callV (As := [.int (nI t)]) (rest := []) C dX11_next_20 (c_M_ahead hx1 (by omega) hn1 hc hc0) wC_X11_ahead wM_X11_130 wI_X11_ahead wS_X11_ahead wN_X11 (kne hx1.1) (pf_11 hx1.1) rfl hd_X11_ahead ⟨by decide, by decide, by decide, by decide⟩ (Nat.le_of_ble_eq_true rfl) (fun r_ S_ h_ => ?_)
  obtain ⟨rfl, rfl⟩ := h_
  change Go X G _ 5 _ _ (mo_ S M1) 23 [(3, .int (nI t)), (2, .int (nI 0)), (0, .ref x), (1, .int (nI j))] [.int (nI (aheadN (tL (zH Z t)) (zT Z)))]
  refine g_istore (lv' := [(4, .int (nI (aheadN (tL (zH Z t)) (zT Z)))), (3, .int (nI t)), (2, .int (nI 0)), (0, .ref x), (1, .int (nI j))]) C dX11_next_23 (by decide) rfl ?_
  refine g_iload 0 C dX11_next_25 rfl ?_
  refine g_aload_n 3 0 C dX11_next_27 rfl rfl ?_
  refine g_iload_n 1 3 C dX11_next_28 rfl rfl ?_
  refine g_iload 0 C dX11_next_29 rfl ?_
  refine g_callV (As := [.int (nI t), .int (nI (aheadN (tL (zH Z t)) (zT Z)))]) (rest := [.int (nI (aheadN (tL (zH Z t)) (zT Z)))]) C dX11_next_31 (c_M_isAt hx1 (by omega) hn1 hc hc0 (by omega)) wC_X11_isAt wM_X11_133 wI_X11_isAt wS_X11_isAt wN_X11 (kne hx1.1) (pf_11 hx1.1) rfl hd_X11_isAt ⟨by decide, by decide, by decide, by decide⟩ (Nat.le_of_ble_eq_true rfl) (fun r_ S_ h_ => ?_)
  obtain ⟨rfl, rfl⟩ := h_
  change Go X G _ 5 _ _ (mo_ S M1) 34 [(4, .int (nI (aheadN (tL (zH Z t)) (zT Z)))), (3, .int (nI t)), (2, .int (nI 0)), (0, .ref x), (1, .int (nI j))] [.int (bI (isAtN (tL (zH Z t)) (aheadN (tL (zH Z t)) (zT Z)) (zT Z))), .int (nI (aheadN (tL (zH Z t)) (zT Z)))]
  refine g_if_eq 41 C dX11_next_34 (by decide) (fun c34 => ?_) (fun c34 => ?_)
  · have e : nextN (tL (zH Z t)) (zT Z) = aheadN (tL (zH Z t)) (zT Z) + 0 := by unfold nextN; rw [bI_f c34]; rfl
    refine g_iconst (v := nI 0) C dX11_next_41 (by decide) ?_
    refine g_iadd C dX11_next_42 ?_
    refine g_topi (nI_add _ _ : _ = nI (aheadN (tL (zH Z t)) (zT Z) + 0)) ?_
    refine g_istore (lv' := [(4, .int (nI (aheadN (tL (zH Z t)) (zT Z) + 0))), (3, .int (nI t)), (2, .int (nI 0)), (0, .ref x), (1, .int (nI j))]) C dX11_next_43 (by decide) rfl ?_
    refine g_iload 0 C dX11_next_45 rfl ?_
    refine g_aload_n 3 0 C dX11_next_47 rfl rfl ?_
    refine gr_m_many C dX11_next_48 hx1.1 wF_X11_23 r_many ?_
    refine g_iload_n 1 3 C dX11_next_51 rfl rfl ?_
    refine ga_m_many C dX11_next_52 k_many (by omega) ?_
    refine g_topi (hn1.2.1) ?_
    refine g_ncmp_ge 61 (by omega) (by omega) C dX11_next_53 (by decide) (fun c53 => ?_) (fun c53 => ?_)
    · have e2 : ¬ nextN (tL (zH Z t)) (zT Z) < (tL (zH Z t)).length := by omega
      refine g_iconst (v := -1) C dX11_next_61 (by decide) ?_
      exact g_iret C dX11_next_62 (by decide) (by decide) (⟨M1, by unfold A_next; rw [ha]; simp only []; rw [if_neg e2], rfl, h1, hR1⟩)
    · have e2 : nextN (tL (zH Z t)) (zT Z) < (tL (zH Z t)).length := by omega
      refine g_iload 0 C dX11_next_56 rfl ?_
      refine g_goto 62 C dX11_next_58 (by decide) ?_
      exact g_iret C dX11_next_62 (by decide) (by decide) (⟨M1, by unfold A_next; rw [ha]; simp only []; rw [if_pos e2, e], rfl, h1, hR1⟩)
  · have e : nextN (tL (zH Z t)) (zT Z) = aheadN (tL (zH Z t)) (zT Z) + 1 := by unfold nextN; rw [bI_t c34]; rfl
    refine g_iconst (v := nI 1) C dX11_next_37 (by decide) ?_
    refine g_goto 42 C dX11_next_38 (by decide) ?_
    refine g_iadd C dX11_next_42 ?_
    refine g_topi (nI_add _ _ : _ = nI (aheadN (tL (zH Z t)) (zT Z) + 1)) ?_
    refine g_istore (lv' := [(4, .int (nI (aheadN (tL (zH Z t)) (zT Z) + 1))), (3, .int (nI t)), (2, .int (nI 0)), (0, .ref x), (1, .int (nI j))]) C dX11_next_43 (by decide) rfl ?_
    refine g_iload 0 C dX11_next_45 rfl ?_
    refine g_aload_n 3 0 C dX11_next_47 rfl rfl ?_
    refine gr_m_many C dX11_next_48 hx1.1 wF_X11_23 r_many ?_
    refine g_iload_n 1 3 C dX11_next_51 rfl rfl ?_
    refine ga_m_many C dX11_next_52 k_many (by omega) ?_
    refine g_topi (hn1.2.1) ?_
    refine g_ncmp_ge 61 (by omega) (by omega) C dX11_next_53 (by decide) (fun c53 => ?_) (fun c53 => ?_)
    · have e2 : ¬ nextN (tL (zH Z t)) (zT Z) < (tL (zH Z t)).length := by omega
      refine g_iconst (v := -1) C dX11_next_61 (by decide) ?_
      exact g_iret C dX11_next_62 (by decide) (by decide) (⟨M1, by unfold A_next; rw [ha]; simp only []; rw [if_neg e2], rfl, h1, hR1⟩)
    · have e2 : nextN (tL (zH Z t)) (zT Z) < (tL (zH Z t)).length := by omega
      refine g_iload 0 C dX11_next_56 rfl ?_
      refine g_goto 62 C dX11_next_58 (by decide) ?_
      exact g_iret C dX11_next_62 (by decide) (by decide) (⟨M1, by unfold A_next; rw [ha]; simp only []; rw [if_pos e2, e], rfl, h1, hR1⟩)
theorem c_M_next {l : Launch} {G : Gx} {S : PS} {M : MoT} {x : Nat} (hx : MoOk S M x) {Z : ZT} (hR : RM M Z) (hZ : okZ Z) {p : Int32}  : Ct l yX11_next cX11_next 5 (Option.some Jvm.ClassFile.FieldType.int) rm_X11_next G [.ref x, .int p] (mo_ S M) (fun r S' => ∃ M', r = some (.int (A_next Z p)) ∧ S' = mo_ S M' ∧ mo_r M' = mo_r M ∧ RM M' (askZ Z p)) := by
  cases ha : askE Z p with
  | inl e => exact c_M_next_err hx hR hZ ha (askE_neg ha)
  | inr t =>
    obtain ⟨j, hj, rfl, hp, hk, hc0, hm⟩ := askE_inr hZ ha
    exact c_M_next_ok hx hR hZ hj hp ha hc0
