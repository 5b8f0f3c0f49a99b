/-- the bits of thing t so far -/
def bitsM (M : MoT) (t : Nat) (b : List Nat) : Prop := m_bits M t = nI b.length ∧ ∀ i, i < b.length → m_row M (4900 * t + i) = nI (b.getD i 0)
/-- thing t is being sealed: only what belongs to that changes -/
def BF (t : Nat) (M M' : MoT) : Prop := ∃ (s bi ed le ma ro lo hi de fe sf : Nat → Int32) (n : Int32), M' = m_nodes_ (m_stringFrom_ (m_firstEdge_ (m_deep_ (m_high_ (m_low_ (m_row_ (m_marks_ (m_letters_ (m_edges_ (m_bits_ (m_sort_ M s) bi) ed) le) ma) ro) lo) hi) de) fe) sf) n ∧ (∀ q, q ≠ t → s q = m_sort M q ∧ bi q = m_bits M q ∧ ed q = m_edges M q ∧ le q = m_letters M q ∧ ma q = m_marks M q) ∧ ∀ i, (i < 4900 * t ∨ 4900 * t + 4900 ≤ i) → ro i = m_row M i
theorem BF.refl (t : Nat) (M : MoT) : BF t M M := ⟨m_sort M, m_bits M, m_edges M, m_letters M, m_marks M, m_row M, m_low M, m_high M, m_deep M, m_firstEdge M, m_stringFrom M, m_nodes M, rfl, fun _ _ => ⟨rfl, rfl, rfl, rfl, rfl⟩, fun _ _ => rfl⟩
theorem BF.trans {t : Nat} {M M1 M2 : MoT} (h1 : BF t M M1) (h2 : BF t M1 M2) : BF t M M2 := by
  obtain ⟨_, _, _, _, _, _, _, _, _, _, _, _, rfl, a1, b1⟩ := h1
  obtain ⟨s, bi, ed, le, ma, ro, lo, hi, de, fe, sf, n, rfl, a2, b2⟩ := h2
  exact ⟨s, bi, ed, le, ma, ro, lo, hi, de, fe, sf, n, rfl, fun q hq => ⟨(a2 q hq).1.trans (a1 q hq).1, (a2 q hq).2.1.trans (a1 q hq).2.1, (a2 q hq).2.2.1.trans (a1 q hq).2.2.1, (a2 q hq).2.2.2.1.trans (a1 q hq).2.2.2.1, (a2 q hq).2.2.2.2.trans (a1 q hq).2.2.2.2⟩, fun i hi => (b2 i hi).trans (b1 i hi)⟩
theorem BF.mo_r {t : Nat} {M M' : MoT} (h : BF t M M') : mo_r M' = mo_r M := by obtain ⟨_, _, _, _, _, _, _, _, _, _, _, _, rfl, -, -⟩ := h; rfl
theorem BF.names {t : Nat} {M M' : MoT} (h : BF t M M') {q : Nat} {l : List Ent} (hl : namesM M q l) : namesM M' q l := by obtain ⟨_, _, _, _, _, _, _, _, _, _, _, _, rfl, -, -⟩ := h; exact hl
theorem BF.tf {t : Nat} {M M' : MoT} (h : TF M M') : BF t M M' := by
  obtain ⟨fl, fh, fd, ff, fs, n, rfl⟩ := h
  exact ⟨m_sort M, m_bits M, m_edges M, m_letters M, m_marks M, m_row M, fl, fh, fd, ff, fs, n, rfl, fun _ _ => ⟨rfl, rfl, rfl, rfl, rfl⟩, fun _ _ => rfl⟩
theorem BF.addB {t n b : Nat} {M : MoT} (hn : n < 4900) : BF t M (addB M t n b) := ⟨m_sort M, upd (m_bits M) t (nI (n + 1)), m_edges M, m_letters M, m_marks M, upd (m_row M) (4900 * t + n) (nI b), m_low M, m_high M, m_deep M, m_firstEdge M, m_stringFrom M, m_nodes M, rfl, fun q hq => ⟨rfl, pk_un hq, rfl, rfl, rfl⟩, fun i hi => pk_un (by omega)⟩
def KE (M M' : MoT) : Prop := m_edges M' = m_edges M ∧ m_letters M' = m_letters M ∧ m_marks M' = m_marks M ∧ m_sort M' = m_sort M
theorem KE.addB {M M1 : MoT} {t n b : Nat} (h : KE M M1) : KE M (addB M1 t n b) := h
theorem bitsM.add {M : MoT} {t : Nat} {b : List Nat} (h : bitsM M t b) (x : Nat) : bitsM (addB M t b.length x) t (b ++ [x]) := by
  refine ⟨by rw [List.length_append]; exact pk_us, fun i hi => ?_⟩
  rw [List.length_append] at hi
  have hi : i < b.length + 1 := hi
  rw [getD_app]
  show upd (m_row M) (4900 * t + b.length) (nI x) (4900 * t + i) = _
  by_cases e : i < b.length
  · rw [if_pos e, pk_un (by omega)]; exact h.2 i e
  · rw [if_neg e, show i - b.length = 0 by omega, show i = b.length by omega, pk_us]; rfl
theorem thM.bf {M M' : MoT} {t q : Nat} {T : Th} (h : BF t M M') (hq : q ≠ t) (hb : (tB T).length ≤ 4802) (hT : thM M q T) : thM M' q T := by
  obtain ⟨_, _, _, _, _, _, _, _, _, _, _, _, rfl, a, b⟩ := h
  obtain ⟨a1, a2, a3, a4, a5⟩ := a q hq
  exact ⟨a1.trans hT.1, hT.2.1, a2.trans hT.2.2.1, fun i hi => (b _ (by omega)).trans (hT.2.2.2.1 i hi), hT.2.2.2.2.1, hT.2.2.2.2.2.1, fun hk => ⟨a3.trans (hT.2.2.2.2.2.2 hk).1, a4.trans (hT.2.2.2.2.2.2 hk).2.1, a5.trans (hT.2.2.2.2.2.2 hk).2.2⟩⟩
theorem sl32 : ∀ n, n < 32 → ((nI n &&& 31).toBitVec.smod 32).toNat = n := by decide +kernel
theorem shrN {b s : Nat} (hb : b < 2 ^ 31) (hs : s < 32) : nI b >>> (nI s &&& 31) = nI (b / 2 ^ s) := pk_shrN hb _ s (sl32 s hs)
/-- the row of SPLIT up to high part v -/
def spB (l : List Ent) (v : Nat) : List Nat := (List.range v).flatMap fun v => List.replicate (sumN (fun k => if hiPart l k = v then 1 else 0) l.length) 1 ++ [0]
theorem spB_succ (l : List Ent) (v : Nat) : spB l (v + 1) = spB l v ++ (List.replicate (sumN (fun k => if hiPart l k = v then 1 else 0) l.length) 1 ++ [0]) := by
  unfold spB
  rw [List.range_succ, List.flatMap_append, List.flatMap_cons, List.flatMap_nil, List.append_nil]
theorem spB_len (l : List Ent) (v : Nat) : (spB l v).length = v + sumN (fun k => if hiPart l k < v then 1 else 0) l.length := by
  induction v with
  | zero =>
    show 0 = 0 + sumN (fun k => if hiPart l k < 0 then 1 else 0) l.length
    rw [sumN_congr (g := fun _ => 0) (fun i _ => by rw [if_neg (by omega)])]
    have := sumN_le (f := fun _ => 0) (b := 0) (fun _ => Nat.le_refl _) l.length
    omega
  | succ v ih =>
    rw [spB_succ, List.length_append, List.length_append, List.length_replicate, ih]
    have : ∀ n, sumN (fun k => if hiPart l k < v + 1 then 1 else 0) n = sumN (fun k => if hiPart l k < v then 1 else 0) n + sumN (fun k => if hiPart l k = v then 1 else 0) n := by
      intro n
      induction n with
      | zero => rfl
      | succ n ih2 =>
        show _ + (if hiPart l n < v + 1 then 1 else 0) = _ + (if hiPart l n < v then 1 else 0) + (_ + (if hiPart l n = v then 1 else 0))
        rw [ih2]
        by_cases g1 : hiPart l n < v
        · rw [if_pos g1, if_pos (by omega), if_neg (by omega)]; omega
        · by_cases g2 : hiPart l n = v
          · rw [if_neg g1, if_pos (by omega), if_pos g2]; omega
          · rw [if_neg g1, if_neg (by omega), if_neg g2]; omega
    rw [this]
    show _ + (_ + 1) = _
    omega
theorem rep_succ (n : Nat) (b : List Nat) : (b ++ List.replicate n 1) ++ [1] = b ++ List.replicate (n + 1) 1 := by rw [List.append_assoc, List.replicate_succ']
theorem hbN_le {n : Nat} (hn : n ≤ 100) : hbN n ≤ 7 := hbN_7 hn (fun q hq => of_decide_eq_true (fN_all (p := fun h => decide (2 ^ h ≤ n)) hq))
set_option maxRecDepth 100000 in
set_option maxHeartbeats 2000000 in
theorem c_M_split {l : Launch} {G : Gx} {S : PS} {M : MoT} {x : Nat} (hx : MoOk S M x) {t : Nat} {ls : List Ent} (ht : t < 12) (hl : namesM M t ls) (hb0 : bitsM M t []) : Ct l yX11_split cX11_split 5 (Option.none : Option Jvm.ClassFile.FieldType) rm_X11_split G [.ref x, .int (nI t)] (mo_ S M) (fun r S' => ∃ M', r = none ∧ S' = mo_ S M' ∧ BF t M M' ∧ bitsM M' t (bitsS ls) ∧ KE M M') := by
  obtain ⟨q_many, r_many, k_many⟩ := hx.2 3 (by decide)
  have hl1 := hl.1
  have h7 := hbN_le hl1
  have hpw : 2 ^ hbN ls.length ≤ 2 ^ 7 := Nat.pow_le_pow_right (by decide) h7
  refine Ct.mk RX11 "split" hy_X11_split (Nat.le_of_ble_eq_true rfl) (fun X hX C => ?_)
  change Go X G _ 5 0 0 (mo_ S M) 0 [(0, .ref x), (1, .int (nI t))] []
  refine g_aload_n 0 0 C dX11_split_0 rfl rfl ?_
  refine g_iload_n 1 1 C dX11_split_1 rfl rfl ?_
  refine g_callV (As := [.int (nI t)]) (rest := []) C dX11_split_2 (c_M_highBits hx ht hl) wC_X11_highBits wM_X11_166 wI_X11_highBits wS_X11_highBits wN_X11 (kne hx.1) (pf_11 hx.1) rfl hd_X11_highBits ⟨by decide, by decide, by decide, by decide⟩ (Nat.le_of_ble_eq_true rfl) (fun r_ S_ h_ => ?_)
  obtain ⟨rfl, rfl⟩ := h_
  change Go X G _ 5 _ _ (mo_ S M) 5 [(0, .ref x), (1, .int (nI t))] [.int (nI (hbN ls.length))]
  refine g_istore_n (lv' := [(2, .int (nI (hbN ls.length))), (0, .ref x), (1, .int (nI t))]) C dX11_split_5 rfl (by decide) rfl ?_
  refine g_iconst (v := nI 0) C dX11_split_6 (by decide) ?_
  refine g_istore_n (lv' := [(3, .int (nI 0)), (2, .int (nI (hbN ls.length))), (0, .ref x), (1, .int (nI t))]) C dX11_split_7 rfl (by decide) rfl ?_
  have lp : ∀ (n_ : Nat) (v : Nat) (M1 : MoT), 2 ^ hbN ls.length - v < n_ → (v ≤ 2 ^ hbN ls.length ∧ BF t M M1 ∧ bitsM M1 t (spB ls v) ∧ KE M M1) → Go X G (Qe X G (fun r S' => ∃ M', r = none ∧ S' = mo_ S M' ∧ BF t M M' ∧ bitsM M' t (bitsS ls) ∧ KE M M') rm_X11_split.cells rm_X11_split.slots) 5 0 0 (mo_ S M1) 8 [(3, .int (nI v)), (2, .int (nI (hbN ls.length))), (0, .ref x), (1, .int (nI t))] [] := by
    intro n_
    induction n_ with
    | zero => intro v M1 hm_; exact absurd hm_ (Nat.not_lt_zero _)
    | succ n_ iho_ =>
      intro v M1 hm_ hi
      have hx1 := hx.of hi.2.1.mo_r
      have hn1 := hi.2.1.names hl
      obtain ⟨q_many, r_many, k_many⟩ := hx1.2 3 (by decide)
      refine g_iload_n 0 3 C dX11_split_8 rfl rfl ?_
      refine g_iconst (v := nI 1) C dX11_split_9 (by decide) ?_
      refine g_iload_n 1 2 C dX11_split_10 rfl rfl ?_
      refine g_ishl C dX11_split_11 ?_
      refine g_topi (shl1 (hbN ls.length) (by omega)) ?_
      refine g_ncmp_ge 70 (by omega) (by omega) C dX11_split_12 (by decide) (fun c12 => ?_) (fun c12 => ?_)
      · exact g_vret C dX11_split_70 (by decide) (by decide) (⟨M1, rfl, rfl, hi.2.1, by show bitsM M1 t (spB ls (2 ^ hbN ls.length)); rw [show 2 ^ hbN ls.length = v by omega]; exact hi.2.2.1, hi.2.2.2⟩)
      · refine g_iconst (v := nI 0) C dX11_split_15 (by decide) ?_
        refine g_istore (lv' := [(4, .int (nI 0)), (3, .int (nI v)), (2, .int (nI (hbN ls.length))), (0, .ref x), (1, .int (nI t))]) C dX11_split_16 (by decide) rfl ?_
        have lp2 : ∀ (n_ : Nat) (k : Nat) (M2 : MoT), ls.length - k < n_ → (k ≤ ls.length ∧ BF t M M2 ∧ bitsM M2 t (spB ls v ++ List.replicate (sumN (fun q => if hiPart ls q = v then 1 else 0) k) 1) ∧ KE M M2) → Go X G (Qe X G (fun r S' => ∃ M', r = none ∧ S' = mo_ S M' ∧ BF t M M' ∧ bitsM M' t (bitsS ls) ∧ KE M M') rm_X11_split.cells rm_X11_split.slots) 5 0 0 (mo_ S M2) 18 [(4, .int (nI k)), (3, .int (nI v)), (2, .int (nI (hbN ls.length))), (0, .ref x), (1, .int (nI t))] [] := by
          intro n_
          induction n_ with
          | zero => intro k M2 hm_; exact absurd hm_ (Nat.not_lt_zero _)
          | succ n_ ihk_ =>
            intro k M2 hm_ h2
            obtain ⟨bk, hbk⟩ : ∃ bk, bk = (spB ls v ++ List.replicate (sumN (fun q => if hiPart ls q = v then 1 else 0) k) 1) := ⟨_, rfl⟩
            rw [← hbk] at h2
            have hx2 := hx.of h2.2.1.mo_r
            have hn2 := h2.2.1.names hl
            have hbl : bk.length ≤ v + 200 := by
              rw [hbk, List.length_append, spB_len, List.length_replicate]
              have a1 := sumN_if_le (fun k => hiPart ls k < v) ls.length
              have a2 := sumN_if_le (fun q => hiPart ls q = v) k
              have := h2.1
              omega
            obtain ⟨q_many, r_many, k_many⟩ := hx2.2 3 (by decide)
            refine g_iload 0 C dX11_split_18 rfl ?_
            refine g_aload_n 3 0 C dX11_split_20 rfl rfl ?_
            refine gr_m_many C dX11_split_21 hx.1 wF_X11_23 r_many ?_
            refine g_iload_n 4 1 C dX11_split_24 rfl rfl ?_
            refine ga_m_many C dX11_split_25 k_many (by omega) ?_
            refine g_topi (hn2.2.1) ?_
            refine g_ncmp_ge 58 (by omega) (by omega) C dX11_split_26 (by decide) (fun c26 => ?_) (fun c26 => ?_)
            · have eB : spB ls (v + 1) = bk ++ [0] := by rw [hbk, spB_succ, List.append_assoc, show k = ls.length by omega]
              refine g_aload_n 3 0 C dX11_split_58 rfl rfl ?_
              refine g_iload_n 4 1 C dX11_split_59 rfl rfl ?_
              refine g_iconst (v := nI 0) C dX11_split_60 (by decide) ?_
              refine g_callV (As := [.int (nI t), .int (nI 0)]) (rest := []) C dX11_split_61 (c_M_addBit hx2 ht (by omega) h2.2.2.1.1) wC_X11_addBit wM_X11_162 wI_X11_addBit wS_X11_addBit wN_X11 (kne hx.1) (pf_11 hx.1) rfl hd_X11_addBit ⟨by decide, by decide, by decide, by decide⟩ (Nat.le_of_ble_eq_true rfl) (fun r_ S_ h_ => ?_)
              obtain ⟨rfl, rfl⟩ := h_
              change Go X G _ 5 _ _ (mo_ S (addB M2 t bk.length 0)) 64 [(4, .int (nI k)), (3, .int (nI v)), (2, .int (nI (hbN ls.length))), (0, .ref x), (1, .int (nI t))] []
              refine g_iinc (v := nI (v + 1)) (lv' := [(3, .int (nI (v + 1))), (4, .int (nI k)), (2, .int (nI (hbN ls.length))), (0, .ref x), (1, .int (nI t))]) 1 C dX11_split_64 rfl (nI_add _ 1) (by decide) rfl ?_
              refine g_goto 8 C dX11_split_67 (by decide) ?_
              refine Go.pick (lv' := [(3, .int (nI (v + 1))), (2, .int (nI (hbN ls.length))), (0, .ref x), (1, .int (nI t))]) [0, 2, 3, 4] rfl ?_
              exact iho_ (v + 1) _ (by omega) ⟨by omega, h2.2.1.trans (BF.addB (by omega)), by rw [eB]; exact h2.2.2.1.add 0, h2.2.2.2.addB⟩
            · have hkk := hn2.2.2 k (by omega)
              have hk1 := hkk.1.1
              have hb0 := hkk.1.2.2 0 (by omega)
              refine g_aload_n 3 0 C dX11_split_29 rfl rfl ?_
              refine g_iload_n 4 1 C dX11_split_30 rfl rfl ?_
              refine g_iload 0 C dX11_split_31 rfl ?_
              refine g_iconst (v := nI 0) C dX11_split_33 (by decide) ?_
              refine g_callV (As := [.int (nI t), .int (nI k), .int (nI 0)]) (rest := []) C dX11_split_34 (c_M_byteAt hx2 ht (by omega) (by decide)) wC_X11_byteAt wM_X11_111 wI_X11_byteAt wS_X11_byteAt wN_X11 (kne hx.1) (pf_11 hx.1) rfl hd_X11_byteAt ⟨by decide, by decide, by decide, by decide⟩ (Nat.le_of_ble_eq_true rfl) (fun r_ S_ h_ => ?_)
              obtain ⟨rfl, rfl⟩ := h_
              change Go X G _ 5 _ _ (mo_ S M2) 37 [(4, .int (nI k)), (3, .int (nI v)), (2, .int (nI (hbN ls.length))), (0, .ref x), (1, .int (nI t))] [.int (m_bytes M2 (24 * (100 * t + k) + 0))]
              refine g_topi (hkk.2.1.2 0 (by omega)) ?_
              refine g_bipush (v := nI 8) C dX11_split_37 (by decide) ?_
              refine g_iload_n 2 2 C dX11_split_39 rfl rfl ?_
              refine g_isub C dX11_split_40 ?_
              refine g_topi (pk_sub (by omega) : _ = nI (8 - (hbN ls.length))) ?_
              refine g_ishr C dX11_split_41 ?_
              refine g_topi (show _ = nI (hiPart ls k) from shrN (by omega) (by omega)) ?_
              have hpl : hiPart ls k ≤ 255 := Nat.le_trans (Nat.div_le_self _ _) hb0.2
              refine g_iload_n 1 3 C dX11_split_42 rfl rfl ?_
              refine g_ncmp_ne 52 (by omega) (by omega) C dX11_split_43 (by decide) (fun c43 => ?_) (fun c43 => ?_)
              · have es : sumN (fun q => if hiPart ls q = v then 1 else 0) (k + 1) = sumN (fun q => if hiPart ls q = v then 1 else 0) k := by show _ + (if hiPart ls k = v then 1 else 0) = _; rw [if_neg c43]; rfl
                refine g_iinc (v := nI (k + 1)) (lv' := [(4, .int (nI (k + 1))), (3, .int (nI v)), (2, .int (nI (hbN ls.length))), (0, .ref x), (1, .int (nI t))]) 0 C dX11_split_52 rfl (nI_add _ 1) (by decide) rfl ?_
                refine g_goto 18 C dX11_split_55 (by decide) ?_
                exact ihk_ (k + 1) _ (by omega) ⟨by omega, h2.2.1, by rw [es, ← hbk]; exact h2.2.2.1, h2.2.2.2⟩
              · have es : sumN (fun q => if hiPart ls q = v then 1 else 0) (k + 1) = sumN (fun q => if hiPart ls q = v then 1 else 0) k + 1 := by show _ + (if hiPart ls k = v then 1 else 0) = _; rw [if_pos c43]
                refine g_aload_n 3 0 C dX11_split_46 rfl rfl ?_
                refine g_iload_n 4 1 C dX11_split_47 rfl rfl ?_
                refine g_iconst (v := nI 1) C dX11_split_48 (by decide) ?_
                refine g_callV (As := [.int (nI t), .int (nI 1)]) (rest := []) C dX11_split_49 (c_M_addBit hx2 ht (by omega) h2.2.2.1.1) wC_X11_addBit wM_X11_162 wI_X11_addBit wS_X11_addBit wN_X11 (kne hx.1) (pf_11 hx.1) rfl hd_X11_addBit ⟨by decide, by decide, by decide, by decide⟩ (Nat.le_of_ble_eq_true rfl) (fun r_ S_ h_ => ?_)
                obtain ⟨rfl, rfl⟩ := h_
                change Go X G _ 5 _ _ (mo_ S (addB M2 t bk.length 1)) 52 [(4, .int (nI k)), (3, .int (nI v)), (2, .int (nI (hbN ls.length))), (0, .ref x), (1, .int (nI t))] []
                refine g_iinc (v := nI (k + 1)) (lv' := [(4, .int (nI (k + 1))), (3, .int (nI v)), (2, .int (nI (hbN ls.length))), (0, .ref x), (1, .int (nI t))]) 0 C dX11_split_52 rfl (nI_add _ 1) (by decide) rfl ?_
                refine g_goto 18 C dX11_split_55 (by decide) ?_
                exact ihk_ (k + 1) _ (by omega) ⟨by omega, h2.2.1.trans (BF.addB (by omega)), by rw [es, ← rep_succ, ← hbk]; exact h2.2.2.1.add 1, h2.2.2.2.addB⟩
        exact lp2 (ls.length + 1) 0 M1 (by omega) ⟨Nat.zero_le _, hi.2.1, by show bitsM M1 t (spB ls v ++ []); rw [List.append_nil]; exact hi.2.2.1, hi.2.2.2⟩
  exact lp (2 ^ hbN ls.length + 1) 0 M (Nat.lt_succ_of_le (Nat.sub_le _ _)) ⟨Nat.zero_le _, BF.refl t M, hb0, rfl, rfl, rfl, rfl⟩
