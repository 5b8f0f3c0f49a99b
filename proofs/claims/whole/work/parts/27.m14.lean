def all8 (l : List Ent) (k : Nat) : Bool := decide (fN (fun q => decide ((nm l q).length = 8)) k = k)
def fitsN (l : List Ent) (w : Nat) : Bool := decide (0 < l.length) && (decide (w ≠ 5) || all8 l l.length)
theorem all8_iff {l : List Ent} {k : Nat} : all8 l k = true ↔ ∀ q, q < k → (nm l q).length = 8 := by
  unfold all8
  rw [decide_eq_true_iff]
  constructor
  · intro h q hq
    exact of_decide_eq_true (fN_all (p := fun q => decide ((nm l q).length = 8)) (n := k) (j := q) (by omega))
  · intro h
    exact fN_eq (Nat.le_refl _) (fun q hq => decide_eq_true (h q hq)) (Or.inl rfl)
theorem all8_0 (l : List Ent) : all8 l 0 = true := all8_iff.mpr (fun q hq => absurd hq (Nat.not_lt_zero _))
theorem all8_s {l : List Ent} {k : Nat} : all8 l (k + 1) = (all8 l k && decide ((nm l k).length = 8)) := by
  rw [Bool.eq_iff_iff, Bool.and_eq_true, all8_iff, all8_iff, decide_eq_true_iff]
  exact ⟨fun h => ⟨fun q hq => h q (by omega), h k (by omega)⟩, fun h q hq => by
    by_cases e : q = k
    · rw [e]; exact h.2
    · exact h.1 q (by omega)⟩
theorem shl1 : ∀ h, h < 31 → nI 1 <<< (nI h &&& 31) = nI (2 ^ h) := by decide +kernel
theorem hbN_7 {n h : Nat} (hn : n ≤ 100) (hh : ∀ q, q < h → 2 ^ q ≤ n) : h ≤ 7 := by
  rcases Nat.lt_or_ge 7 h with g | g
  · have := hh 7 g
    omega
  · exact g
def addB (M : MoT) (t n b : Nat) : MoT := m_bits_ (m_row_ M (upd (m_row M) (4900 * t + n) (nI b))) (upd (m_bits M) t (nI (n + 1)))
def addN (M : MoT) (n a b d f : Nat) : MoT := m_nodes_ (m_stringFrom_ (m_deep_ (m_high_ (m_low_ M (upd (m_low M) n (nI a))) (upd (m_high M) n (nI b))) (upd (m_deep M) n (nI d))) (upd (m_stringFrom M) n (nI f))) (nI (n + 1))
set_option maxRecDepth 100000 in
set_option maxHeartbeats 400000 in
theorem c_M_fits {l : Launch} {G : Gx} {S : PS} {M : MoT} {x : Nat} (hx : MoOk S M x) {t w : Nat} {ls : List Ent} (ht : t < 12) (hl : namesM M t ls) (hw : w < 256) : Ct l yX11_fits cX11_fits 5 (Option.some Jvm.ClassFile.FieldType.boolean) rm_X11_fits G [.ref x, .int (nI t), .int (nI w)] (mo_ S M) (fun r S' => r = some (.int (bI (fitsN ls w))) ∧ S' = mo_ S M) := by
  obtain ⟨q_many, r_many, k_many⟩ := hx.2 3 (by decide)
  obtain ⟨q_size, r_size, k_size⟩ := hx.2 10 (by decide)
  have hl1 := hl.1
  refine Ct.mk RX11 "fits" hy_X11_fits (Nat.le_of_ble_eq_true rfl) (fun X hX C => ?_)
  change Go X G _ 5 0 0 (mo_ S M) 0 [(0, .ref x), (1, .int (nI t)), (2, .int (nI w))] []
  refine g_aload_n 0 0 C dX11_fits_0 rfl rfl ?_
  refine gr_m_many C dX11_fits_1 hx.1 wF_X11_23 r_many ?_
  refine g_iload_n 1 1 C dX11_fits_4 rfl rfl ?_
  refine ga_m_many C dX11_fits_5 k_many (by omega) ?_
  refine g_topi (hl.2.1) ?_
  refine g_nif_le 13 (by omega) C dX11_fits_6 (by decide) (fun c6 => ?_) (fun c6 => ?_)
  · refine g_iconst (v := nI 0) C dX11_fits_13 (by decide) ?_
    refine g_istore_n (lv' := [(3, .int (nI 0)), (0, .ref x), (1, .int (nI t)), (2, .int (nI w))]) C dX11_fits_14 rfl (by decide) rfl ?_
    refine g_iconst (v := nI 0) C dX11_fits_15 (by decide) ?_
    refine g_istore (lv' := [(4, .int (nI 0)), (3, .int (nI 0)), (0, .ref x), (1, .int (nI t)), (2, .int (nI w))]) C dX11_fits_16 (by decide) rfl ?_
    have lp : ∀ (n_ : Nat) (k : Nat) (b : Int32), ls.length - k < n_ → (k ≤ ls.length ∧ b = bI (decide (0 < ls.length) && all8 ls k) ∧ (w ≠ 5 → k = 0)) → Go X G (Qe X G (fun r S' => r = some (.int (bI (fitsN ls w))) ∧ S' = mo_ S M) rm_X11_fits.cells rm_X11_fits.slots) 5 0 0 (mo_ S M) 18 [(4, .int (nI k)), (3, .int b), (0, .ref x), (1, .int (nI t)), (2, .int (nI w))] [] := by
      intro n_
      induction n_ with
      | zero => intro k b hm_; exact absurd hm_ (Nat.not_lt_zero _)
      | succ n_ ih_ =>
        intro k b hm_ hi
        refine g_iload 0 C dX11_fits_18 rfl ?_
        refine g_aload_n 2 0 C dX11_fits_20 rfl rfl ?_
        refine gr_m_many C dX11_fits_21 hx.1 wF_X11_23 r_many ?_
        refine g_iload_n 3 1 C dX11_fits_24 rfl rfl ?_
        refine ga_m_many C dX11_fits_25 k_many (by omega) ?_
        refine g_topi (hl.2.1) ?_
        refine g_ncmp_ge 67 (by omega) (by omega) C dX11_fits_26 (by decide) (fun c26 => ?_) (fun c26 => ?_)
        · have ef : fitsN ls w = (decide (0 < ls.length) && all8 ls k) := by
            unfold fitsN
            rw [show k = ls.length by omega]
            by_cases e : w = 5
            · rw [decide_eq_false (p := w ≠ 5) (fun z => z e), Bool.false_or]
            · rw [show ls.length = 0 by have := hi.2.2 e; omega]; rfl
          refine g_iload_n 1 3 C dX11_fits_67 rfl rfl ?_
          exact g_zret C dX11_fits_68 (by decide) (by decide) (by rw [hi.2.1]; exact bI_01 _) ⟨by rw [ef, hi.2.1], rfl⟩
        · refine g_iload_n 4 2 C dX11_fits_29 rfl rfl ?_
          refine g_iconst (v := nI 5) C dX11_fits_30 (by decide) ?_
          refine g_ncmp_ne 67 (by omega) (by omega) C dX11_fits_31 (by decide) (fun c31 => ?_) (fun c31 => ?_)
          · have ef : fitsN ls w = (decide (0 < ls.length) && all8 ls k) := by
              unfold fitsN
              rw [hi.2.2 c31, all8_0, decide_eq_true c31]; rfl
            refine g_iload_n 1 3 C dX11_fits_67 rfl rfl ?_
            exact g_zret C dX11_fits_68 (by decide) (by decide) (by rw [hi.2.1]; exact bI_01 _) ⟨by rw [ef, hi.2.1], rfl⟩
          · have hk := hl.2.2 k (by omega)
            have hkl := hk.1.2.1
            refine g_iload_n 1 3 C dX11_fits_34 rfl rfl ?_
            refine g_if_eq 59 C dX11_fits_35 (by decide) (fun c35 => ?_) (fun c35 => ?_)
            · refine g_iconst (v := nI 0) C dX11_fits_59 (by decide) ?_
              refine g_istore_n (lv' := [(3, .int (nI 0)), (4, .int (nI k)), (0, .ref x), (1, .int (nI t)), (2, .int (nI w))]) C dX11_fits_60 rfl (by decide) rfl ?_
              refine g_iinc (v := nI (k + 1)) (lv' := [(4, .int (nI (k + 1))), (3, .int (nI 0)), (0, .ref x), (1, .int (nI t)), (2, .int (nI w))]) 1 C dX11_fits_61 rfl (nI_add _ 1) (by decide) rfl ?_
              refine g_goto 18 C dX11_fits_64 (by decide) ?_
              exact ih_ (k + 1) _ (by omega) ⟨by omega, by rw [all8_s]; have h0 := bI_f (hi.2.1.symm.trans c35); rw [← Bool.and_assoc, h0]; rfl, fun h => absurd c31 h⟩
            · refine g_aload_n 2 0 C dX11_fits_38 rfl rfl ?_
              refine gr_m_size C dX11_fits_39 hx.1 wF_X11_46 r_size ?_
              refine g_bipush (v := nI 100) C dX11_fits_42 (by decide) ?_
              refine g_iload_n 3 1 C dX11_fits_44 rfl rfl ?_
              refine g_imul C dX11_fits_45 ?_
              refine g_topi (pk_mul _ _ : _ = nI (100 * t)) ?_
              refine g_iload 0 C dX11_fits_46 rfl ?_
              refine g_iadd C dX11_fits_48 ?_
              refine g_topi (nI_add _ _ : _ = nI (100 * t + k)) ?_
              refine ga_m_size C dX11_fits_49 k_size (by omega) ?_
              refine g_topi (hk.2.1.1) ?_
              refine g_bipush (v := nI 8) C dX11_fits_50 (by decide) ?_
              refine g_ncmp_ne 59 (by omega) (by omega) C dX11_fits_52 (by decide) (fun c52 => ?_) (fun c52 => ?_)
              · refine g_iconst (v := nI 0) C dX11_fits_59 (by decide) ?_
                refine g_istore_n (lv' := [(3, .int (nI 0)), (4, .int (nI k)), (0, .ref x), (1, .int (nI t)), (2, .int (nI w))]) C dX11_fits_60 rfl (by decide) rfl ?_
                refine g_iinc (v := nI (k + 1)) (lv' := [(4, .int (nI (k + 1))), (3, .int (nI 0)), (0, .ref x), (1, .int (nI t)), (2, .int (nI w))]) 1 C dX11_fits_61 rfl (nI_add _ 1) (by decide) rfl ?_
                refine g_goto 18 C dX11_fits_64 (by decide) ?_
                exact ih_ (k + 1) _ (by omega) ⟨by omega, by rw [all8_s]; rw [decide_eq_false c52, Bool.and_false, Bool.and_false]; rfl, fun h => absurd c31 h⟩
              · refine g_iconst (v := nI 1) C dX11_fits_55 (by decide) ?_
                refine g_goto 60 C dX11_fits_56 (by decide) ?_
                refine g_istore_n (lv' := [(3, .int (nI 1)), (4, .int (nI k)), (0, .ref x), (1, .int (nI t)), (2, .int (nI w))]) C dX11_fits_60 rfl (by decide) rfl ?_
                refine g_iinc (v := nI (k + 1)) (lv' := [(4, .int (nI (k + 1))), (3, .int (nI 1)), (0, .ref x), (1, .int (nI t)), (2, .int (nI w))]) 1 C dX11_fits_61 rfl (nI_add _ 1) (by decide) rfl ?_
                refine g_goto 18 C dX11_fits_64 (by decide) ?_
                exact ih_ (k + 1) _ (by omega) ⟨by omega, by rw [all8_s]; have h0 := bI_t (hi.2.1 ▸ c35); rw [← Bool.and_assoc, h0, decide_eq_true c52]; rfl, fun h => absurd c31 h⟩
    exact lp (ls.length + 1) 0 _ (by omega) ⟨Nat.zero_le _, by rw [all8_0, decide_eq_false (by omega)]; rfl, fun _ => rfl⟩
  · refine g_iconst (v := nI 1) C dX11_fits_9 (by decide) ?_
    refine g_goto 14 C dX11_fits_10 (by decide) ?_
    refine g_istore_n (lv' := [(3, .int (nI 1)), (0, .ref x), (1, .int (nI t)), (2, .int (nI w))]) C dX11_fits_14 rfl (by decide) rfl ?_
    refine g_iconst (v := nI 0) C dX11_fits_15 (by decide) ?_
    refine g_istore (lv' := [(4, .int (nI 0)), (3, .int (nI 1)), (0, .ref x), (1, .int (nI t)), (2, .int (nI w))]) C dX11_fits_16 (by decide) rfl ?_
    have lp : ∀ (n_ : Nat) (k : Nat) (b : Int32), ls.length - k < n_ → (k ≤ ls.length ∧ b = bI (decide (0 < ls.length) && all8 ls k) ∧ (w ≠ 5 → k = 0)) → Go X G (Qe X G (fun r S' => r = some (.int (bI (fitsN ls w))) ∧ S' = mo_ S M) rm_X11_fits.cells rm_X11_fits.slots) 5 0 0 (mo_ S M) 18 [(4, .int (nI k)), (3, .int b), (0, .ref x), (1, .int (nI t)), (2, .int (nI w))] [] := by
      intro n_
      induction n_ with
      | zero => intro k b hm_; exact absurd hm_ (Nat.not_lt_zero _)
      | succ n_ ih_ =>
        intro k b hm_ hi
        refine g_iload 0 C dX11_fits_18 rfl ?_
        refine g_aload_n 2 0 C dX11_fits_20 rfl rfl ?_
        refine gr_m_many C dX11_fits_21 hx.1 wF_X11_23 r_many ?_
        refine g_iload_n 3 1 C dX11_fits_24 rfl rfl ?_
        refine ga_m_many C dX11_fits_25 k_many (by omega) ?_
        refine g_topi (hl.2.1) ?_
        refine g_ncmp_ge 67 (by omega) (by omega) C dX11_fits_26 (by decide) (fun c26 => ?_) (fun c26 => ?_)
        · have ef : fitsN ls w = (decide (0 < ls.length) && all8 ls k) := by
            unfold fitsN
            rw [show k = ls.length by omega]
            by_cases e : w = 5
            · rw [decide_eq_false (p := w ≠ 5) (fun z => z e), Bool.false_or]
            · rw [show ls.length = 0 by have := hi.2.2 e; omega]; rfl
          refine g_iload_n 1 3 C dX11_fits_67 rfl rfl ?_
          exact g_zret C dX11_fits_68 (by decide) (by decide) (by rw [hi.2.1]; exact bI_01 _) ⟨by rw [ef, hi.2.1], rfl⟩
        · refine g_iload_n 4 2 C dX11_fits_29 rfl rfl ?_
          refine g_iconst (v := nI 5) C dX11_fits_30 (by decide) ?_
          refine g_ncmp_ne 67 (by omega) (by omega) C dX11_fits_31 (by decide) (fun c31 => ?_) (fun c31 => ?_)
          · have ef : fitsN ls w = (decide (0 < ls.length) && all8 ls k) := by
              unfold fitsN
              rw [hi.2.2 c31, all8_0, decide_eq_true c31]; rfl
            refine g_iload_n 1 3 C dX11_fits_67 rfl rfl ?_
            exact g_zret C dX11_fits_68 (by decide) (by decide) (by rw [hi.2.1]; exact bI_01 _) ⟨by rw [ef, hi.2.1], rfl⟩
          · have hk := hl.2.2 k (by omega)
            have hkl := hk.1.2.1
            refine g_iload_n 1 3 C dX11_fits_34 rfl rfl ?_
            refine g_if_eq 59 C dX11_fits_35 (by decide) (fun c35 => ?_) (fun c35 => ?_)
            · refine g_iconst (v := nI 0) C dX11_fits_59 (by decide) ?_
              refine g_istore_n (lv' := [(3, .int (nI 0)), (4, .int (nI k)), (0, .ref x), (1, .int (nI t)), (2, .int (nI w))]) C dX11_fits_60 rfl (by decide) rfl ?_
              refine g_iinc (v := nI (k + 1)) (lv' := [(4, .int (nI (k + 1))), (3, .int (nI 0)), (0, .ref x), (1, .int (nI t)), (2, .int (nI w))]) 1 C dX11_fits_61 rfl (nI_add _ 1) (by decide) rfl ?_
              refine g_goto 18 C dX11_fits_64 (by decide) ?_
              exact ih_ (k + 1) _ (by omega) ⟨by omega, by rw [all8_s]; have h0 := bI_f (hi.2.1.symm.trans c35); rw [← Bool.and_assoc, h0]; rfl, fun h => absurd c31 h⟩
            · refine g_aload_n 2 0 C dX11_fits_38 rfl rfl ?_
              refine gr_m_size C dX11_fits_39 hx.1 wF_X11_46 r_size ?_
              refine g_bipush (v := nI 100) C dX11_fits_42 (by decide) ?_
              refine g_iload_n 3 1 C dX11_fits_44 rfl rfl ?_
              refine g_imul C dX11_fits_45 ?_
              refine g_topi (pk_mul _ _ : _ = nI (100 * t)) ?_
              refine g_iload 0 C dX11_fits_46 rfl ?_
              refine g_iadd C dX11_fits_48 ?_
              refine g_topi (nI_add _ _ : _ = nI (100 * t + k)) ?_
              refine ga_m_size C dX11_fits_49 k_size (by omega) ?_
              refine g_topi (hk.2.1.1) ?_
              refine g_bipush (v := nI 8) C dX11_fits_50 (by decide) ?_
              refine g_ncmp_ne 59 (by omega) (by omega) C dX11_fits_52 (by decide) (fun c52 => ?_) (fun c52 => ?_)
              · refine g_iconst (v := nI 0) C dX11_fits_59 (by decide) ?_
                refine g_istore_n (lv' := [(3, .int (nI 0)), (4, .int (nI k)), (0, .ref x), (1, .int (nI t)), (2, .int (nI w))]) C dX11_fits_60 rfl (by decide) rfl ?_
                refine g_iinc (v := nI (k + 1)) (lv' := [(4, .int (nI (k + 1))), (3, .int (nI 0)), (0, .ref x), (1, .int (nI t)), (2, .int (nI w))]) 1 C dX11_fits_61 rfl (nI_add _ 1) (by decide) rfl ?_
                refine g_goto 18 C dX11_fits_64 (by decide) ?_
                exact ih_ (k + 1) _ (by omega) ⟨by omega, by rw [all8_s]; rw [decide_eq_false c52, Bool.and_false, Bool.and_false]; rfl, fun h => absurd c31 h⟩
              · refine g_iconst (v := nI 1) C dX11_fits_55 (by decide) ?_
                refine g_goto 60 C dX11_fits_56 (by decide) ?_
                refine g_istore_n (lv' := [(3, .int (nI 1)), (4, .int (nI k)), (0, .ref x), (1, .int (nI t)), (2, .int (nI w))]) C dX11_fits_60 rfl (by decide) rfl ?_
                refine g_iinc (v := nI (k + 1)) (lv' := [(4, .int (nI (k + 1))), (3, .int (nI 1)), (0, .ref x), (1, .int (nI t)), (2, .int (nI w))]) 1 C dX11_fits_61 rfl (nI_add _ 1) (by decide) rfl ?_
                refine g_goto 18 C dX11_fits_64 (by decide) ?_
                exact ih_ (k + 1) _ (by omega) ⟨by omega, by rw [all8_s]; have h0 := bI_t (hi.2.1 ▸ c35); rw [← Bool.and_assoc, h0, decide_eq_true c52]; rfl, fun h => absurd c31 h⟩
    exact lp (ls.length + 1) 0 _ (by omega) ⟨Nat.zero_le _, by rw [all8_0, decide_eq_true (by omega)]; rfl, fun _ => rfl⟩
set_option maxRecDepth 100000 in
set_option maxHeartbeats 400000 in
theorem c_M_highBits {l : Launch} {G : Gx} {S : PS} {M : MoT} {x : Nat} (hx : MoOk S M x) {t : Nat} {ls : List Ent} (ht : t < 12) (hl : namesM M t ls) : Ct l yX11_highBits cX11_highBits 3 (Option.some Jvm.ClassFile.FieldType.int) rm_X11_highBits G [.ref x, .int (nI t)] (mo_ S M) (fun r S' => r = some (.int (nI (hbN ls.length))) ∧ S' = mo_ S M) := by
  obtain ⟨q_many, r_many, k_many⟩ := hx.2 3 (by decide)
  have hl1 := hl.1
  refine Ct.mk RX11 "highBits" hy_X11_highBits (Nat.le_of_ble_eq_true rfl) (fun X hX C => ?_)
  change Go X G _ 3 0 0 (mo_ S M) 0 [(0, .ref x), (1, .int (nI t))] []
  refine g_iconst (v := nI 0) C dX11_highBits_0 (by decide) ?_
  refine g_istore_n (lv' := [(2, .int (nI 0)), (0, .ref x), (1, .int (nI t))]) C dX11_highBits_1 rfl (by decide) rfl ?_
  have lp : ∀ (n_ : Nat) (h : Nat), 9 - h < n_ → (∀ q, q < h → 2 ^ q ≤ ls.length) → Go X G (Qe X G (fun r S' => r = some (.int (nI (hbN ls.length))) ∧ S' = mo_ S M) rm_X11_highBits.cells rm_X11_highBits.slots) 3 0 0 (mo_ S M) 2 [(2, .int (nI h)), (0, .ref x), (1, .int (nI t))] [] := by
    intro n_
    induction n_ with
    | zero => intro h hm_; exact absurd hm_ (Nat.not_lt_zero _)
    | succ n_ ih_ =>
      intro h hm_ hi
      have h7 := hbN_7 hl.1 hi
      have hp : 2 ^ h ≤ 2 ^ 7 := Nat.pow_le_pow_right (by decide) h7
      refine g_iconst (v := nI 1) C dX11_highBits_2 (by decide) ?_
      refine g_iload_n 0 2 C dX11_highBits_3 rfl rfl ?_
      refine g_ishl C dX11_highBits_4 ?_
      refine g_topi (shl1 h (by omega)) ?_
      refine g_aload_n 1 0 C dX11_highBits_5 rfl rfl ?_
      refine gr_m_many C dX11_highBits_6 hx.1 wF_X11_23 r_many ?_
      refine g_iload_n 2 1 C dX11_highBits_9 rfl rfl ?_
      refine ga_m_many C dX11_highBits_10 k_many (by omega) ?_
      refine g_topi (hl.2.1) ?_
      refine g_ncmp_gt 20 (by omega) (by omega) C dX11_highBits_11 (by decide) (fun c11 => ?_) (fun c11 => ?_)
      · refine g_iload_n 0 2 C dX11_highBits_20 rfl rfl ?_
        exact g_iret C dX11_highBits_21 (by decide) (by decide) (⟨by show _ = some (Value.int (nI (fN (fun h => decide (2 ^ h ≤ ls.length)) 31))); rw [fN_eq (k := h) (by omega) (fun q hq => decide_eq_true (hi q hq)) (Or.inr (decide_eq_false (by omega)))], rfl⟩)
      · refine g_iinc (v := nI (h + 1)) (lv' := [(2, .int (nI (h + 1))), (0, .ref x), (1, .int (nI t))]) 0 C dX11_highBits_14 rfl (nI_add _ 1) (by decide) rfl ?_
        refine g_goto 2 C dX11_highBits_17 (by decide) ?_
        exact ih_ (h + 1) (by omega) (fun q hq => by
          by_cases e : q = h
          · rw [e]; exact c11
          · exact hi q (by omega))
  exact lp 10 0 (by omega) (fun q hq => absurd hq (Nat.not_lt_zero _))
set_option maxRecDepth 100000 in
set_option maxHeartbeats 400000 in
theorem c_M_addBit {l : Launch} {G : Gx} {S : PS} {M : MoT} {x : Nat} (hx : MoOk S M x) {t n b : Nat} (ht : t < 12) (hn : n < 4900) (hb : m_bits M t = nI n) : Ct l yX11_addBit cX11_addBit 3 (Option.none : Option Jvm.ClassFile.FieldType) rm_X11_addBit G [.ref x, .int (nI t), .int (nI b)] (mo_ S M) (fun r S' => r = none ∧ S' = mo_ S (addB M t n b)) := by
  obtain ⟨q_row, r_row, k_row⟩ := hx.2 9 (by decide)
  obtain ⟨q_bits, r_bits, k_bits⟩ := hx.2 4 (by decide)
  refine Ct.mk RX11 "addBit" hy_X11_addBit (Nat.le_of_ble_eq_true rfl) (fun X hX C => ?_)
  change Go X G _ 3 0 0 (mo_ S M) 0 [(0, .ref x), (1, .int (nI t)), (2, .int (nI b))] []
  refine g_aload_n 0 0 C dX11_addBit_0 rfl rfl ?_
  refine gr_m_row C dX11_addBit_1 hx.1 wF_X11_43 r_row ?_
  refine g_sipush (v := nI 4900) C dX11_addBit_4 (by decide) ?_
  refine g_iload_n 1 1 C dX11_addBit_7 rfl rfl ?_
  refine g_imul C dX11_addBit_8 ?_
  refine g_topi (pk_mul _ _ : _ = nI (4900 * t)) ?_
  refine g_aload_n 0 0 C dX11_addBit_9 rfl rfl ?_
  refine gr_m_bits C dX11_addBit_10 hx.1 wF_X11_26 r_bits ?_
  refine g_iload_n 1 1 C dX11_addBit_13 rfl rfl ?_
  refine ga_m_bits C dX11_addBit_14 k_bits (by omega) ?_
  refine g_topi (hb) ?_
  refine g_iadd C dX11_addBit_15 ?_
  refine g_topi (nI_add _ _ : _ = nI (4900 * t + n)) ?_
  refine g_iload_n 2 2 C dX11_addBit_16 rfl rfl ?_
  refine gs_m_row C dX11_addBit_17 k_row (by omega) ?_
  refine g_aload_n 0 0 C dX11_addBit_18 rfl rfl ?_
  refine gr_m_bits C dX11_addBit_19 hx.1 wF_X11_26 r_bits ?_
  refine g_iload_n 1 1 C dX11_addBit_22 rfl rfl ?_
  refine g_dup2_11 C dX11_addBit_23 rfl rfl ?_
  refine ga_m_bits C dX11_addBit_24 k_bits (by omega) ?_
  refine g_topi (hb) ?_
  refine g_iconst (v := nI 1) C dX11_addBit_25 (by decide) ?_
  refine g_iadd C dX11_addBit_26 ?_
  refine g_topi (nI_add _ _ : _ = nI (n + 1)) ?_
  refine gs_m_bits C dX11_addBit_27 k_bits (by omega) ?_
  exact g_vret C dX11_addBit_28 (by decide) (by decide) (⟨rfl, rfl⟩)
set_option maxRecDepth 100000 in
set_option maxHeartbeats 400000 in
theorem c_M_addNode {l : Launch} {G : Gx} {S : PS} {M : MoT} {x : Nat} (hx : MoOk S M x) {n a b d f : Nat} (hn : n < 2500) (hb : m_nodes M = nI n) : Ct l yX11_addNode cX11_addNode 5 (Option.none : Option Jvm.ClassFile.FieldType) rm_X11_addNode G [.ref x, .int (nI a), .int (nI b), .int (nI d), .int (nI f)] (mo_ S M) (fun r S' => r = none ∧ S' = mo_ S (addN M n a b d f)) := by
  obtain ⟨q_low, r_low, k_low⟩ := hx.2 14 (by decide)
  obtain ⟨q_high, r_high, k_high⟩ := hx.2 15 (by decide)
  obtain ⟨q_deep, r_deep, k_deep⟩ := hx.2 16 (by decide)
  obtain ⟨q_stringFrom, r_stringFrom, k_stringFrom⟩ := hx.2 18 (by decide)
  refine Ct.mk RX11 "addNode" hy_X11_addNode (Nat.le_of_ble_eq_true rfl) (fun X hX C => ?_)
  change Go X G _ 5 0 0 (mo_ S M) 0 [(0, .ref x), (1, .int (nI a)), (2, .int (nI b)), (3, .int (nI d)), (4, .int (nI f))] []
  refine g_aload_n 0 0 C dX11_addNode_0 rfl rfl ?_
  refine gr_m_low C dX11_addNode_1 hx.1 wF_X11_62 r_low ?_
  refine g_aload_n 0 0 C dX11_addNode_4 rfl rfl ?_
  refine gf_m_nodes C dX11_addNode_5 hx.1 wF_X11_77 ?_
  refine g_topi (hb) ?_
  refine g_iload_n 1 1 C dX11_addNode_8 rfl rfl ?_
  refine gs_m_low C dX11_addNode_9 k_low (by omega) ?_
  refine g_aload_n 0 0 C dX11_addNode_10 rfl rfl ?_
  refine gr_m_high C dX11_addNode_11 hx.1 wF_X11_65 r_high ?_
  refine g_aload_n 0 0 C dX11_addNode_14 rfl rfl ?_
  refine gf_m_nodes C dX11_addNode_15 hx.1 wF_X11_77 ?_
  refine g_topi (hb) ?_
  refine g_iload_n 2 2 C dX11_addNode_18 rfl rfl ?_
  refine gs_m_high C dX11_addNode_19 k_high (by omega) ?_
  refine g_aload_n 0 0 C dX11_addNode_20 rfl rfl ?_
  refine gr_m_deep C dX11_addNode_21 hx.1 wF_X11_68 r_deep ?_
  refine g_aload_n 0 0 C dX11_addNode_24 rfl rfl ?_
  refine gf_m_nodes C dX11_addNode_25 hx.1 wF_X11_77 ?_
  refine g_topi (hb) ?_
  refine g_iload_n 3 3 C dX11_addNode_28 rfl rfl ?_
  refine gs_m_deep C dX11_addNode_29 k_deep (by omega) ?_
  refine g_aload_n 0 0 C dX11_addNode_30 rfl rfl ?_
  refine gr_m_stringFrom C dX11_addNode_31 hx.1 wF_X11_74 r_stringFrom ?_
  refine g_aload_n 0 0 C dX11_addNode_34 rfl rfl ?_
  refine gf_m_nodes C dX11_addNode_35 hx.1 wF_X11_77 ?_
  refine g_topi (hb) ?_
  refine g_iload 4 C dX11_addNode_38 rfl ?_
  refine gs_m_stringFrom C dX11_addNode_40 k_stringFrom (by omega) ?_
  refine g_aload_n 0 0 C dX11_addNode_41 rfl rfl ?_
  refine g_dup C dX11_addNode_42 rfl ?_
  refine gf_m_nodes C dX11_addNode_43 hx.1 wF_X11_77 ?_
  refine g_topi (hb) ?_
  refine g_iconst (v := nI 1) C dX11_addNode_46 (by decide) ?_
  refine g_iadd C dX11_addNode_47 ?_
  refine g_topi (nI_add _ _ : _ = nI (n + 1)) ?_
  refine pp_m_nodes C dX11_addNode_48 hx.1 wF_X11_77 (Or.inl rfl) ?_
  exact g_vret C dX11_addNode_51 (by decide) (by decide) (⟨rfl, rfl⟩)
set_option maxRecDepth 100000 in
set_option maxHeartbeats 400000 in
theorem c_M_isEnd {l : Launch} {G : Gx} {S : PS} {M : MoT} {x : Nat} (hx : MoOk S M x) {t v lo d : Nat} {ls : List Ent} (ht : t < 12) (hl : namesM M t ls) (hv : v < 2500) (h1 : m_low M v = nI lo) (h2 : lo < ls.length) (h3 : m_deep M v = nI d) (hd : d ≤ 24) : Ct l yX11_isEnd cX11_isEnd 3 (Option.some Jvm.ClassFile.FieldType.boolean) rm_X11_isEnd G [.ref x, .int (nI t), .int (nI v)] (mo_ S M) (fun r S' => r = some (.int (bI (decide ((nm ls lo).length = d)))) ∧ S' = mo_ S M) := by
  obtain ⟨q_size, r_size, k_size⟩ := hx.2 10 (by decide)
  obtain ⟨q_low, r_low, k_low⟩ := hx.2 14 (by decide)
  obtain ⟨q_deep, r_deep, k_deep⟩ := hx.2 16 (by decide)
  have hl1 := hl.1
  have hk := hl.2.2 lo h2
  have hkl := hk.1.2.1
  refine Ct.mk RX11 "isEnd" hy_X11_isEnd (Nat.le_of_ble_eq_true rfl) (fun X hX C => ?_)
  change Go X G _ 3 0 0 (mo_ S M) 0 [(0, .ref x), (1, .int (nI t)), (2, .int (nI v))] []
  refine g_aload_n 0 0 C dX11_isEnd_0 rfl rfl ?_
  refine gr_m_size C dX11_isEnd_1 hx.1 wF_X11_46 r_size ?_
  refine g_bipush (v := nI 100) C dX11_isEnd_4 (by decide) ?_
  refine g_iload_n 1 1 C dX11_isEnd_6 rfl rfl ?_
  refine g_imul C dX11_isEnd_7 ?_
  refine g_topi (pk_mul _ _ : _ = nI (100 * t)) ?_
  refine g_aload_n 0 0 C dX11_isEnd_8 rfl rfl ?_
  refine gr_m_low C dX11_isEnd_9 hx.1 wF_X11_62 r_low ?_
  refine g_iload_n 2 2 C dX11_isEnd_12 rfl rfl ?_
  refine ga_m_low C dX11_isEnd_13 k_low (by omega) ?_
  refine g_topi (h1) ?_
  refine g_iadd C dX11_isEnd_14 ?_
  refine g_topi (nI_add _ _ : _ = nI (100 * t + lo)) ?_
  refine ga_m_size C dX11_isEnd_15 k_size (by omega) ?_
  refine g_topi (hk.2.1.1) ?_
  refine g_aload_n 0 0 C dX11_isEnd_16 rfl rfl ?_
  refine gr_m_deep C dX11_isEnd_17 hx.1 wF_X11_68 r_deep ?_
  refine g_iload_n 2 2 C dX11_isEnd_20 rfl rfl ?_
  refine ga_m_deep C dX11_isEnd_21 k_deep (by omega) ?_
  refine g_topi (h3) ?_
  refine g_ncmp_ne 29 (by omega) (by omega) C dX11_isEnd_22 (by decide) (fun c22 => ?_) (fun c22 => ?_)
  · have e := decide_eq_false c22
    refine g_iconst (v := nI 0) C dX11_isEnd_29 (by decide) ?_
    exact g_zret C dX11_isEnd_30 (by decide) (by decide) (Or.inl rfl) (⟨by rw [e]; rfl, rfl⟩)
  · have e := decide_eq_true c22
    refine g_iconst (v := nI 1) C dX11_isEnd_25 (by decide) ?_
    refine g_goto 30 C dX11_isEnd_26 (by decide) ?_
    exact g_zret C dX11_isEnd_30 (by decide) (by decide) (Or.inr rfl) (⟨by rw [e]; rfl, rfl⟩)
set_option maxRecDepth 100000 in
set_option maxHeartbeats 400000 in
theorem c_M_groupEnd {l : Launch} {G : Gx} {S : PS} {M : MoT} {x : Nat} (hx : MoOk S M x) {t k hi d : Nat} {ls : List Ent} (ht : t < 12) (hl : namesM M t ls) (hkh : k < hi) (hhi : hi ≤ ls.length) (hd : d < 24) (hlen : ∀ q, k ≤ q → q < hi → d < (nm ls q).length) (hpre : ∀ q, k < q → q < hi → d ≤ alN ls q) : Ct l yX11_groupEnd cX11_groupEnd 6 (Option.some Jvm.ClassFile.FieldType.int) rm_X11_groupEnd G [.ref x, .int (nI t), .int (nI k), .int (nI hi), .int (nI d)] (mo_ S M) (fun r S' => r = some (.int (nI (gEnd ls k hi d))) ∧ S' = mo_ S M) := by
  have hl1 := hl.1
  refine Ct.mk RX11 "groupEnd" hy_X11_groupEnd (Nat.le_of_ble_eq_true rfl) (fun X hX C => ?_)
  change Go X G _ 6 0 0 (mo_ S M) 0 [(0, .ref x), (1, .int (nI t)), (2, .int (nI k)), (3, .int (nI hi)), (4, .int (nI d))] []
  refine g_iload_n 2 2 C dX11_groupEnd_0 rfl rfl ?_
  refine g_iconst (v := nI 1) C dX11_groupEnd_1 (by decide) ?_
  refine g_iadd C dX11_groupEnd_2 ?_
  refine g_topi (nI_add _ _ : _ = nI (k + 1)) ?_
  refine g_istore (lv' := [(5, .int (nI (k + 1))), (0, .ref x), (1, .int (nI t)), (2, .int (nI k)), (3, .int (nI hi)), (4, .int (nI d))]) C dX11_groupEnd_3 (by decide) rfl ?_
  have lp : ∀ (n_ : Nat) (e : Nat), hi - e < n_ → (k < e ∧ e ≤ hi ∧ (∀ q, k < q → q < e → d < alN ls q) ∧ (nm ls (e - 1)).getD d 0 = (nm ls k).getD d 0) → Go X G (Qe X G (fun r S' => r = some (.int (nI (gEnd ls k hi d))) ∧ S' = mo_ S M) rm_X11_groupEnd.cells rm_X11_groupEnd.slots) 6 0 0 (mo_ S M) 5 [(5, .int (nI e)), (0, .ref x), (1, .int (nI t)), (2, .int (nI k)), (3, .int (nI hi)), (4, .int (nI d))] [] := by
    intro n_
    induction n_ with
    | zero => intro e hm_; exact absurd hm_ (Nat.not_lt_zero _)
    | succ n_ ih_ =>
      intro e hm_ hh
      refine g_iload 0 C dX11_groupEnd_5 rfl ?_
      refine g_iload_n 4 3 C dX11_groupEnd_7 rfl rfl ?_
      refine g_ncmp_ge 37 (by omega) (by omega) C dX11_groupEnd_8 (by decide) (fun c8 => ?_) (fun c8 => ?_)
      · have eg : gEnd ls k hi d = e := by unfold gEnd; rw [fN_eq (k := e - (k + 1)) (by omega) (fun q hq => decide_eq_true (hh.2.2.1 _ (by omega) (by omega))) (Or.inl (by omega))]; omega
        refine g_iload 0 C dX11_groupEnd_37 rfl ?_
        exact g_iret C dX11_groupEnd_39 (by decide) (by decide) (⟨by rw [eg], rfl⟩)
      · have he := hl.2.2 e (by omega)
        have hk0 := hl.2.2 k (by omega)
        have hde := hlen e (by omega) (by omega)
        have hdk := hlen k (by omega) (by omega)
        have hdp := hlen (e - 1) (by omega) (by omega)
        have hb1 := he.1.2.2 d hde
        have hb2 := hk0.1.2.2 d hdk
        have hal := hpre e (by omega) (by omega)
        have hkl := he.1.2.1
        refine g_aload_n 1 0 C dX11_groupEnd_11 rfl rfl ?_
        refine g_iload_n 2 1 C dX11_groupEnd_12 rfl rfl ?_
        refine g_iload 0 C dX11_groupEnd_13 rfl ?_
        refine g_iload 5 C dX11_groupEnd_15 rfl ?_
        refine g_callV (As := [.int (nI t), .int (nI e), .int (nI d)]) (rest := []) C dX11_groupEnd_17 (c_M_byteAt hx ht (by omega) (by omega)) wC_X11_byteAt wM_X11_111 wI_X11_byteAt wS_X11_byteAt wN_X11 (kne hx.1) (pf_11 hx.1) rfl hd_X11_byteAt ⟨by decide, by decide, by decide, by decide⟩ (Nat.le_of_ble_eq_true rfl) (fun r_ S_ h_ => ?_)
        obtain ⟨rfl, rfl⟩ := h_
        change Go X G _ 6 _ _ (mo_ S M) 20 [(5, .int (nI e)), (0, .ref x), (1, .int (nI t)), (2, .int (nI k)), (3, .int (nI hi)), (4, .int (nI d))] [.int (m_bytes M (24 * (100 * t + e) + d))]
        refine g_topi (he.2.1.2 d hde) ?_
        refine g_aload_n 1 0 C dX11_groupEnd_20 rfl rfl ?_
        refine g_iload_n 2 1 C dX11_groupEnd_21 rfl rfl ?_
        refine g_iload_n 3 2 C dX11_groupEnd_22 rfl rfl ?_
        refine g_iload 5 C dX11_groupEnd_23 rfl ?_
        refine g_callV (As := [.int (nI t), .int (nI k), .int (nI d)]) (rest := [.int (nI ((nm ls e).getD d 0))]) C dX11_groupEnd_25 (c_M_byteAt hx ht (by omega) (by omega)) wC_X11_byteAt wM_X11_111 wI_X11_byteAt wS_X11_byteAt wN_X11 (kne hx.1) (pf_11 hx.1) rfl hd_X11_byteAt ⟨by decide, by decide, by decide, by decide⟩ (Nat.le_of_ble_eq_true rfl) (fun r_ S_ h_ => ?_)
        obtain ⟨rfl, rfl⟩ := h_
        change Go X G _ 6 _ _ (mo_ S M) 28 [(5, .int (nI e)), (0, .ref x), (1, .int (nI t)), (2, .int (nI k)), (3, .int (nI hi)), (4, .int (nI d))] [.int (m_bytes M (24 * (100 * t + k) + d)), .int (nI ((nm ls e).getD d 0))]
        refine g_topi (hk0.2.1.2 d hdk) ?_
        refine g_ncmp_ne 37 (by omega) (by omega) C dX11_groupEnd_28 (by decide) (fun c28 => ?_) (fun c28 => ?_)
        · have hx9 : ¬ d < alN ls e := fun h => c28 ((lcp_all (a := nm ls (e - 1)) (b := nm ls e) h).symm.trans hh.2.2.2)
          have eg : gEnd ls k hi d = e := by unfold gEnd; rw [fN_eq (k := e - (k + 1)) (by omega) (fun q hq => decide_eq_true (hh.2.2.1 _ (by omega) (by omega))) (Or.inr (decide_eq_false (by rw [show k + 1 + (e - (k + 1)) = e by omega]; exact hx9)))]; omega
          refine g_iload 0 C dX11_groupEnd_37 rfl ?_
          exact g_iret C dX11_groupEnd_39 (by decide) (by decide) (⟨by rw [eg], rfl⟩)
        · have hx9 : d < alN ls e := lcp_ge (a := nm ls (e - 1)) (b := nm ls e) (by omega) (by omega) (fun q hq => by
            by_cases g : q = d
            · rw [g]; exact hh.2.2.2.trans c28.symm
            · exact lcp_all (Nat.lt_of_lt_of_le (show q < d by omega) hal))
          refine g_iinc (v := nI (e + 1)) (lv' := [(5, .int (nI (e + 1))), (0, .ref x), (1, .int (nI t)), (2, .int (nI k)), (3, .int (nI hi)), (4, .int (nI d))]) 0 C dX11_groupEnd_31 rfl (nI_add _ 1) (by decide) rfl ?_
          refine g_goto 5 C dX11_groupEnd_34 (by decide) ?_
          exact ih_ (e + 1) (by omega) ⟨by omega, by omega, fun q h1 h2 => by
            by_cases g : q = e
            · rw [g]; exact hx9
            · exact hh.2.2.1 q h1 (by omega), c28⟩
  exact lp (hi + 1) (k + 1) (by omega) ⟨by omega, by omega, fun q h1 h2 => absurd h1 (by omega), rfl⟩
