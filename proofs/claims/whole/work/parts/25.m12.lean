def setLs (T : Th) (l : List Ent) : Th := (T.1, l, T.2.2)
def updE (l : List Ent) (k : Nat) (v : Int64) : List Ent := l.set k ((ent l k).1, v)
def A_put (Z : ZT) (p : Int32) : Int32 := match draftE Z p with
  | .inl e => e
  | .inr t => if nameB (zT Z) then (if isAtN (tL (zH Z t)) (aheadN (tL (zH Z t)) (zT Z)) (zT Z) then 0 else if (tL (zH Z t)).length = 100 then -7 else 1) else -5
def N_put (Z : ZT) (p : Int32) (v : Int64) : ZT := match draftE Z p with
  | .inl _ => Z
  | .inr t => if nameB (zT Z) then (if isAtN (tL (zH Z t)) (aheadN (tL (zH Z t)) (zT Z)) (zT Z) then setT (zT_ Z []) t (setLs (zH Z t) (updE (tL (zH Z t)) (aheadN (tL (zH Z t)) (zT Z)) v)) else if (tL (zH Z t)).length = 100 then zT_ Z [] else setT (zT_ Z []) t (setLs (zH Z t) (insL (tL (zH Z t)) (aheadN (tL (zH Z t)) (zT Z)) (zT Z, v)))) else zT_ Z []
theorem thM.lf {M M' : MoT} {t q : Nat} {T : Th} (h : LF t M M') (hq : q ≠ t) (hT : thM M q T) : thM M' q T := by
  have hn := h.names hq hT.2.1
  obtain ⟨_, _, _, _, rfl, -, -⟩ := h
  exact ⟨hT.1, hn, hT.2.2⟩
theorem thM.lfT {M M' : MoT} {t : Nat} {T : Th} {l : List Ent} (h : LF t M M') (hT : thM M t T) (hn : namesM M' t l) (hk : tK T = 6) : thM M' t (setLs T l) := by
  obtain ⟨_, _, _, _, rfl, -, -⟩ := h
  exact ⟨hT.1, hn, hT.2.2.1, hT.2.2.2.1, hT.2.2.2.2.1, hT.2.2.2.2.2.1, fun h => absurd h (by show ¬ tK T ≤ 5; omega)⟩
theorem rm_lf {M M' : MoT} {Z : ZT} {t : Nat} {l : List Ent} (hR : RM M Z) (h : LF t M M') (hT : thM M t (zH Z t)) (hn : namesM M' t l) (hk : tK (zH Z t) = 6) : RM M' (setT Z t (setLs (zH Z t) l)) := by
  have h2 := thM.lfT h hT hn hk
  refine RM.setT hR (fun q hq hu hh => thM.lf h hq hh) h2 ?_ ?_ ?_ ?_ ?_ <;> (obtain ⟨_, _, _, _, rfl, -, -⟩ := h)
  · exact hR.1
  · rfl
  · rfl
  · rfl
  · rfl
theorem ent_upd {l : List Ent} {k q : Nat} {v : Int64} (hk : k < l.length) : ent (updE l k v) q = if q = k then ((ent l k).1, v) else ent l q := by
  unfold updE
  by_cases h : q = k
  · rw [if_pos h, h]
    show (l.set k _).getD k _ = _
    rw [getD_set, if_pos ⟨rfl, hk⟩]
  · rw [if_neg h]
    show (l.set k _).getD q _ = _
    rw [getD_set, if_neg (fun z => h z.1.symm)]; rfl
theorem names_upd {M : MoT} {t k : Nat} {l : List Ent} {v : Int64} (hn : namesM M t l) (hk : k < l.length) : namesM (m_value_ M (vp_updL (m_value M) (100 * t + k) v)) t (updE l k v) ∧ LF t M (m_value_ M (vp_updL (m_value M) (100 * t + k) v)) := by
  have hl := hn.1
  have key : ∀ p e, p ≠ 100 * t + k → entP M p e → entP (m_value_ M (vp_updL (m_value M) (100 * t + k) v)) p e := fun p e hp h => ⟨h.1, h.2.1, (pk_uLn hp).trans h.2.2⟩
  refine ⟨namesM_iff.mpr ⟨by unfold updE; rw [List.length_set]; exact hl, by unfold updE; rw [List.length_set]; exact hn.2.1, fun q hq => ?_⟩, m_size M, m_bytes M, _, m_many M, rfl, fun p e hp h => key p e (by omega) h, fun _ _ => rfl⟩
  unfold updE at hq
  rw [List.length_set] at hq
  rw [ent_upd hk]
  by_cases e : q = k
  · rw [if_pos e, e]
    have := hn.2.2 k hk
    exact ⟨this.1, this.2.1, pk_uLs⟩
  · rw [if_neg e]; exact key _ _ (by omega) (hn.2.2 q hq)
def A_unput (Z : ZT) (p : Int32) : Int32 := match draftE Z p with
  | .inl e => e
  | .inr t => if nameB (zT Z) then bI (isAtN (tL (zH Z t)) (aheadN (tL (zH Z t)) (zT Z)) (zT Z)) else -5
def delL (l : List Ent) (k : Nat) : List Ent := l.take k ++ l.drop (k + 1)
theorem delL_len {l : List Ent} {k : Nat} (hk : k < l.length) : (delL l k).length = l.length - 1 := by
  unfold delL
  rw [List.length_append, List.length_take, List.length_drop]
  omega
theorem ent_del {l : List Ent} {k : Nat} (hk : k < l.length) (q : Nat) : ent (delL l k) q = if q < k then ent l q else ent l (q + 1) := by
  unfold ent delL
  rw [List.getD_eq_getElem?_getD, List.getD_eq_getElem?_getD, List.getD_eq_getElem?_getD]
  by_cases h1 : q < k
  · rw [if_pos h1, List.getElem?_append_left (by rw [List.length_take]; omega), List.getElem?_take_of_lt h1]
  · rw [if_neg h1, List.getElem?_append_right (by rw [List.length_take]; omega), List.length_take, Nat.min_eq_left (by omega), List.getElem?_drop, show k + 1 + (q - k) = q + 1 by omega]
def N_unput (Z : ZT) (p : Int32) : ZT := match draftE Z p with
  | .inl _ => Z
  | .inr t => if nameB (zT Z) then (if isAtN (tL (zH Z t)) (aheadN (tL (zH Z t)) (zT Z)) (zT Z) then setT (zT_ Z []) t (setLs (zH Z t) (delL (tL (zH Z t)) (aheadN (tL (zH Z t)) (zT Z)))) else zT_ Z []) else zT_ Z []
theorem isAtN_lt {l : List Ent} {k : Nat} {cur : List Nat} (h : isAtN l k cur = true) : k < l.length := by
  unfold isAtN at h
  rw [Bool.and_eq_true] at h
  exact of_decide_eq_true h.1
set_option maxRecDepth 100000 in
set_option maxHeartbeats 400000 in
theorem c_M_put_err {l : Launch} {G : Gx} {S : PS} {M : MoT} {x : Nat} (hx : MoOk S M x) {Z : ZT} (hR : RM M Z) (hZ : okZ Z) {p e : Int32} (he : draftE Z p = .inl e) (hneg : e < 0) {v : Int64} : Ct l yX11_put cX11_put 7 (Option.some Jvm.ClassFile.FieldType.int) rm_X11_put G [.ref x, .int p, .long v] (mo_ S M) (fun r S' => ∃ M', r = some (.int (A_put Z p)) ∧ S' = mo_ S M' ∧ mo_r M' = mo_r M ∧ RM M' (N_put Z p v)) := by
  obtain ⟨q_value, r_value, k_value⟩ := hx.2 12 (by decide)
  obtain ⟨q_many, r_many, k_many⟩ := hx.2 3 (by decide)
  refine Ct.mk RX11 "put" hy_X11_put (Nat.le_of_ble_eq_true rfl) (fun X hX C => ?_)
  change Go X G _ 7 0 0 (mo_ S M) 0 [(0, .ref x), (1, .int p), (2, .long v)] []
  refine g_aload_n 0 0 C dX11_put_0 rfl rfl ?_
  refine g_iload_n 1 1 C dX11_put_1 rfl rfl ?_
  refine g_callV (As := [.int p]) (rest := []) C dX11_put_2 (c_M_drafted hx hR hZ) wC_X11_drafted wM_X11_123 wI_X11_drafted wS_X11_drafted wN_X11 (kne hx.1) (pf_11 hx.1) rfl hd_X11_drafted ⟨by decide, by decide, by decide, by decide⟩ (Nat.le_of_ble_eq_true rfl) (fun r_ S_ h_ => ?_)
  obtain ⟨rfl, rfl⟩ := h_
  change Go X G _ 7 _ _ (mo_ S M) 5 [(0, .ref x), (1, .int p), (2, .long v)] [.int (errI (draftE Z p))]
  refine g_topi (show errI (draftE Z p) = e by rw [he]; rfl) ?_
  refine g_istore (lv' := [(4, .int e), (0, .ref x), (1, .int p), (2, .long v)]) C dX11_put_5 (by decide) rfl ?_
  refine g_iload 0 C dX11_put_7 rfl ?_
  refine g_if_ge 15 C dX11_put_9 (by decide) (fun c9 => ?_) (fun c9 => ?_)
  · exact absurd c9 (Int32.not_le.mpr hneg)
  · refine g_iload 0 C dX11_put_12 rfl ?_
    exact g_iret C dX11_put_14 (by decide) (by decide) (⟨M, by unfold A_put; rw [he], rfl, rfl, (by unfold N_put; rw [he]; exact hR)⟩)
set_option maxRecDepth 100000 in
set_option maxHeartbeats 400000 in
theorem c_M_put_ok {l : Launch} {G : Gx} {S : PS} {M : MoT} {x : Nat} (hx : MoOk S M x) {Z : ZT} (hR : RM M Z) (hZ : okZ Z) {j t : Nat} (hj : j < 10) (hp : zP Z j = t + 1) (he : draftE Z (nI j) = .inr t) {v : Int64} : Ct l yX11_put cX11_put 7 (Option.some Jvm.ClassFile.FieldType.int) rm_X11_put G [.ref x, .int (nI j), .long v] (mo_ S M) (fun r S' => ∃ M', r = some (.int (A_put Z (nI j))) ∧ S' = mo_ S M' ∧ mo_r M' = mo_r M ∧ RM M' (N_put Z (nI j) v)) := by
  obtain ⟨q_value, r_value, k_value⟩ := hx.2 12 (by decide)
  obtain ⟨q_many, r_many, k_many⟩ := hx.2 3 (by decide)
  obtain ⟨hO, ht⟩ := hZ.th hj hp
  have hT := hR.th hj hp
  have hpl : m_place M j = nI (t + 1) := (hR.2.1 j hj).trans (by rw [hp])
  have hn1 := hT.2.1
  have hn2 := hn1.1
  have hb2 := hO.2.2.2.1
  refine Ct.mk RX11 "put" hy_X11_put (Nat.le_of_ble_eq_true rfl) (fun X hX C => ?_)
  change Go X G _ 7 0 0 (mo_ S M) 0 [(0, .ref x), (1, .int (nI j)), (2, .long v)] []
  refine g_aload_n 0 0 C dX11_put_0 rfl rfl ?_
  refine g_iload_n 1 1 C dX11_put_1 rfl rfl ?_
  refine g_callV (As := [.int (nI j)]) (rest := []) C dX11_put_2 (c_M_drafted hx hR hZ) wC_X11_drafted wM_X11_123 wI_X11_drafted wS_X11_drafted wN_X11 (kne hx.1) (pf_11 hx.1) rfl hd_X11_drafted ⟨by decide, by decide, by decide, by decide⟩ (Nat.le_of_ble_eq_true rfl) (fun r_ S_ h_ => ?_)
  obtain ⟨rfl, rfl⟩ := h_
  change Go X G _ 7 _ _ (mo_ S M) 5 [(0, .ref x), (1, .int (nI j)), (2, .long v)] [.int (errI (draftE Z (nI j)))]
  refine g_topi (show errI (draftE Z (nI j)) = nI 0 by rw [he]; rfl) ?_
  refine g_istore (lv' := [(4, .int (nI 0)), (0, .ref x), (1, .int (nI j)), (2, .long v)]) C dX11_put_5 (by decide) rfl ?_
  refine g_iload 0 C dX11_put_7 rfl ?_
  refine g_nif_ge 15 (by omega) C dX11_put_9 (by decide) ?_
  refine g_aload_n 1 0 C dX11_put_15 rfl rfl ?_
  refine g_callV (As := []) (rest := []) C dX11_put_16 (c_M_takes hx hR.1 hZ.1.1 hZ.1.2) wC_X11_takes wM_X11_126 wI_X11_takes wS_X11_takes wN_X11 (kne hx.1) (pf_11 hx.1) rfl hd_X11_takes ⟨by decide, by decide, by decide, by decide⟩ (Nat.le_of_ble_eq_true rfl) (fun r_ S_ h_ => ?_)
  obtain ⟨fn, rfl, rfl, hfn⟩ := h_
  change Go X G _ 7 _ _ (mo_ S (m_taped_ (m_length_ (m_name_ M fn) (nI (zT Z).length)) 0)) 19 [(4, .int (nI 0)), (0, .ref x), (1, .int (nI j)), (2, .long v)] [.int (bI (nameB (zT Z)))]
  have hx1 : MoOk S (m_taped_ (m_length_ (m_name_ M fn) (nI (zT Z).length)) 0) x := hx
  have hR1 : RM (m_taped_ (m_length_ (m_name_ M fn) (nI (zT Z).length)) 0) (zT_ Z []) := hR.scratch
  obtain ⟨-, -, -, -, hk6⟩ := draftE_inr he
  refine g_if_ne 25 C dX11_put_19 (by decide) (fun c19 => ?_) (fun c19 => ?_)
  · have hn := bI_t c19
    have hc0 := nameB_ok hn hZ.1.2
    have hc : curM (m_taped_ (m_length_ (m_name_ M fn) (nI (zT Z).length)) 0) (zT Z) := ⟨rfl, hfn hn⟩
    have hah : aheadN (tL (zH Z t)) (zT Z) ≤ (tL (zH Z t)).length := fN_le _ _
    refine g_aload_n 1 0 C dX11_put_25 rfl rfl ?_
    refine g_iload_n 2 1 C dX11_put_26 rfl rfl ?_
    refine g_callV (As := [.int (nI j)]) (rest := []) C dX11_put_27 (c_M_at (M := (m_taped_ (m_length_ (m_name_ M fn) (nI (zT Z).length)) 0)) hx hj hpl) wC_X11_at wM_X11_108 wI_X11_at wS_X11_at wN_X11 (kne hx.1) (pf_11 hx.1) rfl hd_X11_at ⟨by decide, by decide, by decide, by decide⟩ (Nat.le_of_ble_eq_true rfl) (fun r_ S_ h_ => ?_)
    obtain ⟨rfl, rfl⟩ := h_
    change Go X G _ 7 _ _ (mo_ S (m_taped_ (m_length_ (m_name_ M fn) (nI (zT Z).length)) 0)) 30 [(4, .int (nI 0)), (0, .ref x), (1, .int (nI j)), (2, .long v)] [.int (nI t)]
    refine g_istore (lv' := [(5, .int (nI t)), (4, .int (nI 0)), (0, .ref x), (1, .int (nI j)), (2, .long v)]) C dX11_put_30 (by decide) rfl ?_
    refine g_aload_n 2 0 C dX11_put_32 rfl rfl ?_
    refine g_iload 0 C dX11_put_33 rfl ?_
    refine g_callV (As := [.int (nI t)]) (rest := []) C dX11_put_35 (c_M_ahead (M := (m_taped_ (m_length_ (m_name_ M fn) (nI (zT Z).length)) 0)) hx (by omega) hn1 hc hc0) wC_X11_ahead wM_X11_130 wI_X11_ahead wS_X11_ahead wN_X11 (kne hx.1) (pf_11 hx.1) rfl hd_X11_ahead ⟨by decide, by decide, by decide, by decide⟩ (Nat.le_of_ble_eq_true rfl) (fun r_ S_ h_ => ?_)
    obtain ⟨rfl, rfl⟩ := h_
    change Go X G _ 7 _ _ (mo_ S (m_taped_ (m_length_ (m_name_ M fn) (nI (zT Z).length)) 0)) 38 [(5, .int (nI t)), (4, .int (nI 0)), (0, .ref x), (1, .int (nI j)), (2, .long v)] [.int (nI (aheadN (tL (zH Z t)) (zT Z)))]
    refine g_istore (lv' := [(6, .int (nI (aheadN (tL (zH Z t)) (zT Z)))), (5, .int (nI t)), (4, .int (nI 0)), (0, .ref x), (1, .int (nI j)), (2, .long v)]) C dX11_put_38 (by decide) rfl ?_
    refine g_aload_n 3 0 C dX11_put_40 rfl rfl ?_
    refine g_iload 1 C dX11_put_41 rfl ?_
    refine g_iload 0 C dX11_put_43 rfl ?_
    refine g_callV (As := [.int (nI t), .int (nI (aheadN (tL (zH Z t)) (zT Z)))]) (rest := []) C dX11_put_45 (c_M_isAt (M := (m_taped_ (m_length_ (m_name_ M fn) (nI (zT Z).length)) 0)) hx (by omega) hn1 hc hc0 (by omega)) wC_X11_isAt wM_X11_133 wI_X11_isAt wS_X11_isAt wN_X11 (kne hx.1) (pf_11 hx.1) rfl hd_X11_isAt ⟨by decide, by decide, by decide, by decide⟩ (Nat.le_of_ble_eq_true rfl) (fun r_ S_ h_ => ?_)
    obtain ⟨rfl, rfl⟩ := h_
    change Go X G _ 7 _ _ (mo_ S (m_taped_ (m_length_ (m_name_ M fn) (nI (zT Z).length)) 0)) 48 [(6, .int (nI (aheadN (tL (zH Z t)) (zT Z)))), (5, .int (nI t)), (4, .int (nI 0)), (0, .ref x), (1, .int (nI j)), (2, .long v)] [.int (bI (isAtN (tL (zH Z t)) (aheadN (tL (zH Z t)) (zT Z)) (zT Z)))]
    refine g_if_eq 67 C dX11_put_48 (by decide) (fun c48 => ?_) (fun c48 => ?_)
    · have ea := bI_f c48
      refine g_aload_n 3 0 C dX11_put_67 rfl rfl ?_
      refine gr_m_many C dX11_put_68 hx.1 wF_X11_23 r_many ?_
      refine g_iload 1 C dX11_put_71 rfl ?_
      refine ga_m_many C dX11_put_73 k_many (by omega) ?_
      refine g_topi (hn1.2.1) ?_
      refine g_bipush (v := nI 100) C dX11_put_74 (by decide) ?_
      refine g_ncmp_ne 82 (by omega) (by omega) C dX11_put_76 (by decide) (fun c76 => ?_) (fun c76 => ?_)
      · refine g_aload_n 3 0 C dX11_put_82 rfl rfl ?_
        refine g_iload 1 C dX11_put_83 rfl ?_
        refine g_iload 0 C dX11_put_85 rfl ?_
        refine g_lload_n 5 2 C dX11_put_87 rfl rfl ?_
        refine g_callV (As := [.int (nI t), .int (nI (aheadN (tL (zH Z t)) (zT Z))), .long v]) (rest := []) C dX11_put_88 (c_M_insert (M := (m_taped_ (m_length_ (m_name_ M fn) (nI (zT Z).length)) 0)) hx (by omega) hah (by omega) hn1 hc hc0) wC_X11_insert wM_X11_137 wI_X11_insert wS_X11_insert wN_X11 (kne hx.1) (pf_11 hx.1) rfl hd_X11_insert ⟨by decide, by decide, by decide, by decide⟩ (Nat.le_of_ble_eq_true rfl) (fun r_ S_ h_ => ?_)
        obtain ⟨M', rfl, rfl, hlf, hnn⟩ := h_
        change Go X G _ 7 _ _ (mo_ S M') 91 [(6, .int (nI (aheadN (tL (zH Z t)) (zT Z)))), (5, .int (nI t)), (4, .int (nI 0)), (0, .ref x), (1, .int (nI j)), (2, .long v)] []
        refine g_iconst (v := nI 1) C dX11_put_91 (by decide) ?_
        exact g_iret C dX11_put_92 (by decide) (by decide) (⟨M', by unfold A_put; rw [he]; simp only []; rw [hn, ea, if_neg c76]; rfl, rfl, hlf.mo_r, by unfold N_put; rw [he]; simp only []; rw [hn, ea, if_pos rfl, if_neg (by decide), if_neg c76]; exact rm_lf hR1 hlf hT hnn hk6⟩)
      · refine g_bipush (v := -7) C dX11_put_79 (by decide) ?_
        exact g_iret C dX11_put_81 (by decide) (by decide) (⟨_, by unfold A_put; rw [he]; simp only []; rw [hn, ea, if_pos c76]; rfl, rfl, rfl, by unfold N_put; rw [he]; simp only []; rw [hn, ea, if_pos rfl, if_neg (by decide), if_pos c76]; exact hR1⟩)
    · have ea := bI_t c48
      have hlt := isAtN_lt ea
      refine g_aload_n 3 0 C dX11_put_51 rfl rfl ?_
      refine gr_m_value C dX11_put_52 hx.1 wF_X11_52 r_value ?_
      refine g_bipush (v := nI 100) C dX11_put_55 (by decide) ?_
      refine g_iload 1 C dX11_put_57 rfl ?_
      refine g_imul C dX11_put_59 ?_
      refine g_topi (pk_mul _ _ : _ = nI (100 * t)) ?_
      refine g_iload 0 C dX11_put_60 rfl ?_
      refine g_iadd C dX11_put_62 ?_
      refine g_topi (nI_add _ _ : _ = nI (100 * t + (aheadN (tL (zH Z t)) (zT Z)))) ?_
      refine g_lload_n 5 2 C dX11_put_63 rfl rfl ?_
      refine gs_m_value C dX11_put_64 k_value (by omega) ?_
      refine g_iconst (v := nI 0) C dX11_put_65 (by decide) ?_
      exact g_iret C dX11_put_66 (by decide) (by decide) (⟨_, by unfold A_put; rw [he]; simp only []; rw [hn, ea]; rfl, rfl, rfl, by unfold N_put; rw [he]; simp only []; rw [hn, ea, if_pos rfl, if_pos rfl]; exact rm_lf hR1 (names_upd (M := (m_taped_ (m_length_ (m_name_ M fn) (nI (zT Z).length)) 0)) hn1 hlt).2 hT (names_upd (M := (m_taped_ (m_length_ (m_name_ M fn) (nI (zT Z).length)) 0)) hn1 hlt).1 hk6⟩)
  · have hn := bI_f c19
    refine g_bipush (v := -5) C dX11_put_22 (by decide) ?_
    exact g_iret C dX11_put_24 (by decide) (by decide) (⟨_, by unfold A_put; rw [he]; simp only []; rw [hn]; rfl, rfl, rfl, by unfold N_put; rw [he]; simp only []; rw [hn]; exact hR1⟩)
theorem c_M_put {l : Launch} {G : Gx} {S : PS} {M : MoT} {x : Nat} (hx : MoOk S M x) {Z : ZT} (hR : RM M Z) (hZ : okZ Z) {p : Int32} {v : Int64} : Ct l yX11_put cX11_put 7 (Option.some Jvm.ClassFile.FieldType.int) rm_X11_put G [.ref x, .int p, .long v] (mo_ S M) (fun r S' => ∃ M', r = some (.int (A_put Z p)) ∧ S' = mo_ S M' ∧ mo_r M' = mo_r M ∧ RM M' (N_put Z p v)) := by
  cases he : draftE Z p with
  | inl e => exact c_M_put_err hx hR hZ he (draftE_neg he)
  | inr t =>
    obtain ⟨j, hj, rfl, hp, -⟩ := draftE_inr he
    exact c_M_put_ok hx hR hZ hj hp he
