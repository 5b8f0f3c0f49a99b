set_option maxRecDepth 100000 in
set_option maxHeartbeats 400000 in
theorem c_M_width {l : Launch} {G : Gx} {S : PS} {M : MoT} {x : Nat} (hx : MoOk S M x) {t : Nat} {ls : List Ent} (ht : t < 12) (hl : namesM M t ls) : Ct l yX11_width cX11_width 6 (Option.some Jvm.ClassFile.FieldType.int) rm_X11_width G [.ref x, .int (nI t)] (mo_ S M) (fun r S' => r = some (.int (nI (widthN ls))) ∧ S' = mo_ S M) := by
  obtain ⟨q_many, r_many, k_many⟩ := hx.2 3 (by decide)
  obtain ⟨q_value, r_value, k_value⟩ := hx.2 12 (by decide)
  have hl1 := hl.1
  refine Ct.mk RX11 "width" hy_X11_width (Nat.le_of_ble_eq_true rfl) (fun X hX C => ?_)
  change Go X G _ 6 0 0 (mo_ S M) 0 [(0, .ref x), (1, .int (nI t))] []
  refine g_iconst (v := nI 1) C dX11_width_0 (by decide) ?_
  refine g_istore_n (lv' := [(2, .int (nI 1)), (0, .ref x), (1, .int (nI t))]) C dX11_width_1 rfl (by decide) rfl ?_
  refine g_iconst (v := nI 0) C dX11_width_2 (by decide) ?_
  refine g_istore_n (lv' := [(3, .int (nI 0)), (2, .int (nI 1)), (0, .ref x), (1, .int (nI t))]) C dX11_width_3 rfl (by decide) rfl ?_
  have lp : ∀ (n_ : Nat) (k w : Nat), ls.length - k < n_ → (k ≤ ls.length ∧ w = wK ls k ∧ isW w) → Go X G (Qe X G (fun r S' => r = some (.int (nI (widthN ls))) ∧ S' = mo_ S M) rm_X11_width.cells rm_X11_width.slots) 6 0 0 (mo_ S M) 4 [(3, .int (nI k)), (2, .int (nI w)), (0, .ref x), (1, .int (nI t))] [] := by
    intro n_
    induction n_ with
    | zero => intro k w hm_; exact absurd hm_ (Nat.not_lt_zero _)
    | succ n_ iho_ =>
      intro k w hm_ hi
      have hw9 : 1 ≤ w ∧ w ≤ 8 := by rcases hi.2.2 with h | h | h | h <;> omega
      refine g_iload_n 0 3 C dX11_width_4 rfl rfl ?_
      refine g_aload_n 2 0 C dX11_width_5 rfl rfl ?_
      refine gr_m_many C dX11_width_6 hx.1 wF_X11_23 r_many ?_
      refine g_iload_n 3 1 C dX11_width_9 rfl rfl ?_
      refine ga_m_many C dX11_width_10 k_many (by omega) ?_
      refine g_topi (hl.2.1) ?_
      refine g_ncmp_ge 75 (by omega) (by omega) C dX11_width_11 (by decide) (fun c11 => ?_) (fun c11 => ?_)
      · refine g_iload_n 1 2 C dX11_width_75 rfl rfl ?_
        exact g_iret C dX11_width_76 (by decide) (by decide) (⟨by rw [hi.2.1, show k = ls.length by omega]; rfl, rfl⟩)
      · have hk := hl.2.2 k (by omega)
        refine g_aload_n 2 0 C dX11_width_14 rfl rfl ?_
        refine gr_m_value C dX11_width_15 hx.1 wF_X11_52 r_value ?_
        refine g_bipush (v := nI 100) C dX11_width_18 (by decide) ?_
        refine g_iload_n 3 1 C dX11_width_20 rfl rfl ?_
        refine g_imul C dX11_width_21 ?_
        refine g_topi (pk_mul _ _ : _ = nI (100 * t)) ?_
        refine g_iload_n 0 3 C dX11_width_22 rfl rfl ?_
        refine g_iadd C dX11_width_23 ?_
        refine g_topi (nI_add _ _ : _ = nI (100 * t + k)) ?_
        refine ga_m_value C dX11_width_24 k_value (by omega) ?_
        refine g_topl (hk.2.2) ?_
        refine g_lstore (lv' := [(4, .long (vl ls k)), (3, .int (nI k)), (2, .int (nI w)), (0, .ref x), (1, .int (nI t))]) C dX11_width_25 (by decide) rfl ?_
        have lp2 : ∀ (n_ : Nat) (w f : Nat), 8 - w < n_ → (isW w ∧ 8 ≤ w * 2 ^ f ∧ wUp (vl ls k) f w = wK ls (k + 1)) → Go X G (Qe X G (fun r S' => r = some (.int (nI (widthN ls))) ∧ S' = mo_ S M) rm_X11_width.cells rm_X11_width.slots) 6 0 0 (mo_ S M) 27 [(4, .long (vl ls k)), (3, .int (nI k)), (2, .int (nI w)), (0, .ref x), (1, .int (nI t))] [] := by
          intro n_
          induction n_ with
          | zero => intro w f hm_; exact absurd hm_ (Nat.not_lt_zero _)
          | succ n_ ih_ =>
            intro w f hm_ h2
            have hw8 : 1 ≤ w ∧ w ≤ 8 := by rcases h2.1 with h | h | h | h <;> omega
            refine g_iload_n 2 2 C dX11_width_27 rfl rfl ?_
            refine g_bipush (v := nI 8) C dX11_width_28 (by decide) ?_
            refine g_ncmp_ge 69 (by omega) (by omega) C dX11_width_30 (by decide) (fun c30 => ?_) (fun c30 => ?_)
            · have ew : w = wK ls (k + 1) := by rw [← h2.2.2]; exact (wUp_stop (fun h => by omega)).symm
              refine g_iinc (v := nI (k + 1)) (lv' := [(3, .int (nI (k + 1))), (4, .long (vl ls k)), (2, .int (nI w)), (0, .ref x), (1, .int (nI t))]) 1 C dX11_width_69 rfl (nI_add _ 1) (by decide) rfl ?_
              refine g_goto 4 C dX11_width_72 (by decide) ?_
              refine Go.pick (lv' := [(3, .int (nI (k + 1))), (2, .int (nI w)), (0, .ref x), (1, .int (nI t))]) [0, 2, 3, 4] rfl ?_
              exact iho_ (k + 1) w (by omega) ⟨by omega, ew, h2.1⟩
            · refine g_lload 0 C dX11_width_33 rfl ?_
              refine g_lconst (v := 1) C dX11_width_35 (by decide) ?_
              refine g_bipush (v := nI 8) C dX11_width_36 (by decide) ?_
              refine g_iload_n 2 2 C dX11_width_38 rfl rfl ?_
              refine g_imul C dX11_width_39 ?_
              refine g_topi (pk_mul _ _ : _ = nI (8 * w)) ?_
              refine g_iconst (v := nI 1) C dX11_width_40 (by decide) ?_
              refine g_isub C dX11_width_41 ?_
              refine g_topi (pk_sub (by omega) : _ = nI (8 * w - 1)) ?_
              refine g_lshl C dX11_width_42 ?_
              refine g_lneg C dX11_width_43 ?_
              refine g_lcmp C dX11_width_44 ?_
              refine g_if_lt 62 C dX11_width_45 (by decide) (fun c45 => ?_) (fun c45 => ?_)
              · have ef : fitW (vl ls k) w = false := decide_eq_false (fun h => (wLo h2.1 (by omega)).mp c45 h.1)
                refine g_iload_n 2 2 C dX11_width_62 rfl rfl ?_
                refine g_iconst (v := nI 2) C dX11_width_63 (by decide) ?_
                refine g_imul C dX11_width_64 ?_
                refine g_topi (pk_mul _ _ : _ = nI (w * 2)) ?_
                refine g_istore_n (lv' := [(2, .int (nI (w * 2))), (4, .long (vl ls k)), (3, .int (nI k)), (0, .ref x), (1, .int (nI t))]) C dX11_width_65 rfl (by decide) rfl ?_
                refine g_goto 27 C dX11_width_66 (by decide) ?_
                refine Go.pick (lv' := [(4, .long (vl ls k)), (3, .int (nI k)), (2, .int (nI (w * 2))), (0, .ref x), (1, .int (nI t))]) [1, 2, 0, 3, 4] rfl ?_
                cases f with
                | zero => have := h2.2.1; omega
                | succ f =>
                  refine ih_ (w * 2) f (by omega) ⟨by have := h2.1; unfold isW at this ⊢; omega, by have := h2.2.1; rw [Nat.pow_succ] at this; rw [Nat.mul_assoc, Nat.mul_comm 2]; exact this, ?_⟩
                  rw [← h2.2.2]
                  show _ = (if w < 8 ∧ fitW (vl ls k) w = false then wUp (vl ls k) f (w * 2) else w)
                  rw [if_pos ⟨by omega, ef⟩]
              · refine g_lload 0 C dX11_width_48 rfl ?_
                refine g_lconst (v := 1) C dX11_width_50 (by decide) ?_
                refine g_bipush (v := nI 8) C dX11_width_51 (by decide) ?_
                refine g_iload_n 2 2 C dX11_width_53 rfl rfl ?_
                refine g_imul C dX11_width_54 ?_
                refine g_topi (pk_mul _ _ : _ = nI (8 * w)) ?_
                refine g_iconst (v := nI 1) C dX11_width_55 (by decide) ?_
                refine g_isub C dX11_width_56 ?_
                refine g_topi (pk_sub (by omega) : _ = nI (8 * w - 1)) ?_
                refine g_lshl C dX11_width_57 ?_
                refine g_lcmp C dX11_width_58 ?_
                refine g_if_lt 69 C dX11_width_59 (by decide) (fun c59 => ?_) (fun c59 => ?_)
                · have ef : fitW (vl ls k) w = true := decide_eq_true ⟨Decidable.not_not.mp (fun h => c45 ((wLo h2.1 (by omega)).mpr h)), (wHi h2.1 (by omega)).mp c59⟩
                  have ew : w = wK ls (k + 1) := by rw [← h2.2.2]; exact (wUp_stop (fun h => by rw [ef] at h; exact absurd h.2 (by decide))).symm
                  refine g_iinc (v := nI (k + 1)) (lv' := [(3, .int (nI (k + 1))), (4, .long (vl ls k)), (2, .int (nI w)), (0, .ref x), (1, .int (nI t))]) 1 C dX11_width_69 rfl (nI_add _ 1) (by decide) rfl ?_
                  refine g_goto 4 C dX11_width_72 (by decide) ?_
                  refine Go.pick (lv' := [(3, .int (nI (k + 1))), (2, .int (nI w)), (0, .ref x), (1, .int (nI t))]) [0, 2, 3, 4] rfl ?_
                  exact iho_ (k + 1) w (by omega) ⟨by omega, ew, h2.1⟩
                · have ef : fitW (vl ls k) w = false := decide_eq_false (fun h => c59 ((wHi h2.1 (by omega)).mpr h.2))
                  refine g_iload_n 2 2 C dX11_width_62 rfl rfl ?_
                  refine g_iconst (v := nI 2) C dX11_width_63 (by decide) ?_
                  refine g_imul C dX11_width_64 ?_
                  refine g_topi (pk_mul _ _ : _ = nI (w * 2)) ?_
                  refine g_istore_n (lv' := [(2, .int (nI (w * 2))), (4, .long (vl ls k)), (3, .int (nI k)), (0, .ref x), (1, .int (nI t))]) C dX11_width_65 rfl (by decide) rfl ?_
                  refine g_goto 27 C dX11_width_66 (by decide) ?_
                  refine Go.pick (lv' := [(4, .long (vl ls k)), (3, .int (nI k)), (2, .int (nI (w * 2))), (0, .ref x), (1, .int (nI t))]) [1, 2, 0, 3, 4] rfl ?_
                  cases f with
                  | zero => have := h2.2.1; omega
                  | succ f =>
                    refine ih_ (w * 2) f (by omega) ⟨by have := h2.1; unfold isW at this ⊢; omega, by have := h2.2.1; rw [Nat.pow_succ] at this; rw [Nat.mul_assoc, Nat.mul_comm 2]; exact this, ?_⟩
                    rw [← h2.2.2]
                    show _ = (if w < 8 ∧ fitW (vl ls k) w = false then wUp (vl ls k) f (w * 2) else w)
                    rw [if_pos ⟨by omega, ef⟩]
        exact lp2 9 w 4 (by omega) ⟨hi.2.2, by rcases hi.2.2 with rfl | rfl | rfl | rfl <;> decide, by rw [hi.2.1]; rfl⟩
  exact lp (ls.length + 1) 0 1 (by omega) ⟨Nat.zero_le _, rfl, Or.inl rfl⟩
def abV (T : Th) (w : Nat) : Nat := match w with
  | 0 => tK T
  | 1 => (tB T).length
  | 2 => edgesN (tK T) (tL T)
  | 3 => lettersN (tK T) (tL T)
  | 4 => marksN (tK T) (tL T)
  | 5 => if tK T = 5 then (tL T).length * (64 - hbN (tL T).length) else 0
  | 6 => widthN (tL T)
  | _ => if tK T = 1 then 0 else (if tA T then 0 else (tB T).length / 512 + 1) + (if tC T then 0 else (tB T).length / 64 + 1)
def A_about (Z : ZT) (p w : Int32) : Int32 := match bookE Z p with
  | .inl e => e
  | .inr t => if inR w 8 then nI (abV (zH Z t) w.toNatClampNeg) else -5
set_option maxRecDepth 100000 in
set_option maxHeartbeats 400000 in
theorem c_M_about_err {l : Launch} {G : Gx} {S : PS} {M : MoT} {x : Nat} (hx : MoOk S M x) {Z : ZT} (hR : RM M Z) (hZ : okZ Z) {p e : Int32} (he : bookE Z p = .inl e) (hneg : e < 0) {what : Int32} : Ct l yX11_about cX11_about 5 (Option.some Jvm.ClassFile.FieldType.int) rm_X11_about G [.ref x, .int p, .int what] (mo_ S M) (fun r S' => ∃ M', r = some (.int (A_about Z p what)) ∧ S' = mo_ S M' ∧ mo_r M' = mo_r M ∧ RM M' (Z)) := by
  obtain ⟨q_sort, r_sort, k_sort⟩ := hx.2 2 (by decide)
  obtain ⟨q_bits, r_bits, k_bits⟩ := hx.2 4 (by decide)
  obtain ⟨q_edges, r_edges, k_edges⟩ := hx.2 5 (by decide)
  obtain ⟨q_letters, r_letters, k_letters⟩ := hx.2 6 (by decide)
  obtain ⟨q_marks, r_marks, k_marks⟩ := hx.2 7 (by decide)
  obtain ⟨q_many, r_many, k_many⟩ := hx.2 3 (by decide)
  obtain ⟨q_lost, r_lost, k_lost⟩ := hx.2 8 (by decide)
  refine Ct.mk RX11 "about" hy_X11_about (Nat.le_of_ble_eq_true rfl) (fun X hX C => ?_)
  change Go X G _ 5 0 0 (mo_ S M) 0 [(0, .ref x), (1, .int p), (2, .int what)] []
  refine g_aload_n 0 0 C dX11_about_0 rfl rfl ?_
  refine g_iload_n 1 1 C dX11_about_1 rfl rfl ?_
  refine g_callV (As := [.int p]) (rest := []) C dX11_about_2 (c_M_book hx hR hZ) wC_X11_book wM_X11_175 wI_X11_book wS_X11_book wN_X11 (kne hx.1) (pf_11 hx.1) rfl hd_X11_book ⟨by decide, by decide, by decide, by decide⟩ (Nat.le_of_ble_eq_true rfl) (fun r_ S_ h_ => ?_)
  obtain ⟨rfl, rfl⟩ := h_
  change Go X G _ 5 _ _ (mo_ S M) 5 [(0, .ref x), (1, .int p), (2, .int what)] [.int (errI (bookE Z p))]
  refine g_topi (show errI (bookE Z p) = e by rw [he]; rfl) ?_
  refine g_istore_n (lv' := [(3, .int e), (0, .ref x), (1, .int p), (2, .int what)]) C dX11_about_5 rfl (by decide) rfl ?_
  refine g_iload_n 0 3 C dX11_about_6 rfl rfl ?_
  refine g_if_ge 12 C dX11_about_7 (by decide) (fun c7 => ?_) (fun c7 => ?_)
  · exact absurd c7 (Int32.not_le.mpr hneg)
  · refine g_iload_n 0 3 C dX11_about_10 rfl rfl ?_
    exact g_iret C dX11_about_11 (by decide) (by decide) (⟨M, by unfold A_about; rw [he], rfl, rfl, hR⟩)
set_option maxRecDepth 100000 in
set_option maxHeartbeats 400000 in
theorem c_M_about_ok {l : Launch} {G : Gx} {S : PS} {M : MoT} {x : Nat} (hx : MoOk S M x) {Z : ZT} (hR : RM M Z) (hZ : okZ Z) {j t : Nat} (hj : j < 10) (hp : zP Z j = t + 1) (he : bookE Z (nI j) = .inr t) {what : Int32} : Ct l yX11_about cX11_about 5 (Option.some Jvm.ClassFile.FieldType.int) rm_X11_about G [.ref x, .int (nI j), .int what] (mo_ S M) (fun r S' => ∃ M', r = some (.int (A_about Z (nI j) what)) ∧ S' = mo_ S M' ∧ mo_r M' = mo_r M ∧ RM M' (Z)) := by
  obtain ⟨q_sort, r_sort, k_sort⟩ := hx.2 2 (by decide)
  obtain ⟨q_bits, r_bits, k_bits⟩ := hx.2 4 (by decide)
  obtain ⟨q_edges, r_edges, k_edges⟩ := hx.2 5 (by decide)
  obtain ⟨q_letters, r_letters, k_letters⟩ := hx.2 6 (by decide)
  obtain ⟨q_marks, r_marks, k_marks⟩ := hx.2 7 (by decide)
  obtain ⟨q_many, r_many, k_many⟩ := hx.2 3 (by decide)
  obtain ⟨q_lost, r_lost, k_lost⟩ := hx.2 8 (by decide)
  obtain ⟨hO, ht⟩ := hZ.th hj hp
  have hT := hR.th hj hp
  have hpl : m_place M j = nI (t + 1) := (hR.2.1 j hj).trans (by rw [hp])
  have hn1 := hT.2.1
  have hn2 := hn1.1
  have hb2 := hO.2.2.2.1
  obtain ⟨_, _, _, _, hk5⟩ := bookE_inr he
  have hk3 := hT.2.2.2.2.2.2 hk5
  have hhb := hbN_le (n := (tL (zH Z t)).length) (by omega)
  refine Ct.mk RX11 "about" hy_X11_about (Nat.le_of_ble_eq_true rfl) (fun X hX C => ?_)
  change Go X G _ 5 0 0 (mo_ S M) 0 [(0, .ref x), (1, .int (nI j)), (2, .int what)] []
  refine g_aload_n 0 0 C dX11_about_0 rfl rfl ?_
  refine g_iload_n 1 1 C dX11_about_1 rfl rfl ?_
  refine g_callV (As := [.int (nI j)]) (rest := []) C dX11_about_2 (c_M_book hx hR hZ) wC_X11_book wM_X11_175 wI_X11_book wS_X11_book wN_X11 (kne hx.1) (pf_11 hx.1) rfl hd_X11_book ⟨by decide, by decide, by decide, by decide⟩ (Nat.le_of_ble_eq_true rfl) (fun r_ S_ h_ => ?_)
  obtain ⟨rfl, rfl⟩ := h_
  change Go X G _ 5 _ _ (mo_ S M) 5 [(0, .ref x), (1, .int (nI j)), (2, .int what)] [.int (errI (bookE Z (nI j)))]
  refine g_topi (show errI (bookE Z (nI j)) = nI 0 by rw [he]; rfl) ?_
  refine g_istore_n (lv' := [(3, .int (nI 0)), (0, .ref x), (1, .int (nI j)), (2, .int what)]) C dX11_about_5 rfl (by decide) rfl ?_
  refine g_iload_n 0 3 C dX11_about_6 rfl rfl ?_
  refine g_nif_ge 12 (by omega) C dX11_about_7 (by decide) ?_
  refine g_aload_n 1 0 C dX11_about_12 rfl rfl ?_
  refine g_iload_n 2 1 C dX11_about_13 rfl rfl ?_
  refine g_callV (As := [.int (nI j)]) (rest := []) C dX11_about_14 (c_M_at hx hj hpl) wC_X11_at wM_X11_108 wI_X11_at wS_X11_at wN_X11 (kne hx.1) (pf_11 hx.1) rfl hd_X11_at ⟨by decide, by decide, by decide, by decide⟩ (Nat.le_of_ble_eq_true rfl) (fun r_ S_ h_ => ?_)
  obtain ⟨rfl, rfl⟩ := h_
  change Go X G _ 5 _ _ (mo_ S M) 17 [(3, .int (nI 0)), (0, .ref x), (1, .int (nI j)), (2, .int what)] [.int (nI t)]
  refine g_istore (lv' := [(4, .int (nI t)), (3, .int (nI 0)), (0, .ref x), (1, .int (nI j)), (2, .int what)]) C dX11_about_17 (by decide) rfl ?_
  refine g_iload_n 4 2 C dX11_about_19 rfl rfl ?_
  rcases pk_ix what (n := 8) (by decide) with h | h | ⟨i1, hi1, rfl⟩
  rotate_left 2
  rcases (show i1 = 0 ∨ i1 = 1 ∨ i1 = 2 ∨ i1 = 3 ∨ i1 = 4 ∨ i1 = 5 ∨ i1 = 6 ∨ i1 = 7 by omega) with rfl | rfl | rfl | rfl | rfl | rfl | rfl | rfl
  · refine g_table (off := 48) 68 C dX11_about_20 (by decide) (by decide) (by decide) rfl (by decide) ?_
    refine g_aload_n 2 0 C dX11_about_68 rfl rfl ?_
    refine gr_m_sort C dX11_about_69 hx.1 wF_X11_20 r_sort ?_
    refine g_iload 0 C dX11_about_72 rfl ?_
    refine ga_m_sort C dX11_about_74 k_sort (by omega) ?_
    refine g_topi (hT.1) ?_
    exact g_iret C dX11_about_75 (by decide) (by decide) (⟨M, by unfold A_about; rw [he]; simp only []; rw [inR_nI (by decide), decide_eq_true (by decide), if_pos rfl, nI_clamp (by decide)]; unfold abV; rfl, rfl, rfl, hR⟩)
  · refine g_table (off := 56) 76 C dX11_about_20 (by decide) (by decide) (by decide) rfl (by decide) ?_
    refine g_aload_n 2 0 C dX11_about_76 rfl rfl ?_
    refine gr_m_bits C dX11_about_77 hx.1 wF_X11_26 r_bits ?_
    refine g_iload 0 C dX11_about_80 rfl ?_
    refine ga_m_bits C dX11_about_82 k_bits (by omega) ?_
    refine g_topi (hT.2.2.1) ?_
    exact g_iret C dX11_about_83 (by decide) (by decide) (⟨M, by unfold A_about; rw [he]; simp only []; rw [inR_nI (by decide), decide_eq_true (by decide), if_pos rfl, nI_clamp (by decide)]; unfold abV; rfl, rfl, rfl, hR⟩)
  · refine g_table (off := 64) 84 C dX11_about_20 (by decide) (by decide) (by decide) rfl (by decide) ?_
    refine g_aload_n 2 0 C dX11_about_84 rfl rfl ?_
    refine gr_m_edges C dX11_about_85 hx.1 wF_X11_29 r_edges ?_
    refine g_iload 0 C dX11_about_88 rfl ?_
    refine ga_m_edges C dX11_about_90 k_edges (by omega) ?_
    refine g_topi (hk3.1) ?_
    exact g_iret C dX11_about_91 (by decide) (by decide) (⟨M, by unfold A_about; rw [he]; simp only []; rw [inR_nI (by decide), decide_eq_true (by decide), if_pos rfl, nI_clamp (by decide)]; unfold abV; rfl, rfl, rfl, hR⟩)
  · refine g_table (off := 72) 92 C dX11_about_20 (by decide) (by decide) (by decide) rfl (by decide) ?_
    refine g_aload_n 2 0 C dX11_about_92 rfl rfl ?_
    refine gr_m_letters C dX11_about_93 hx.1 wF_X11_32 r_letters ?_
    refine g_iload 0 C dX11_about_96 rfl ?_
    refine ga_m_letters C dX11_about_98 k_letters (by omega) ?_
    refine g_topi (hk3.2.1) ?_
    exact g_iret C dX11_about_99 (by decide) (by decide) (⟨M, by unfold A_about; rw [he]; simp only []; rw [inR_nI (by decide), decide_eq_true (by decide), if_pos rfl, nI_clamp (by decide)]; unfold abV; rfl, rfl, rfl, hR⟩)
  · refine g_table (off := 80) 100 C dX11_about_20 (by decide) (by decide) (by decide) rfl (by decide) ?_
    refine g_aload_n 2 0 C dX11_about_100 rfl rfl ?_
    refine gr_m_marks C dX11_about_101 hx.1 wF_X11_35 r_marks ?_
    refine g_iload 0 C dX11_about_104 rfl ?_
    refine ga_m_marks C dX11_about_106 k_marks (by omega) ?_
    refine g_topi (hk3.2.2) ?_
    exact g_iret C dX11_about_107 (by decide) (by decide) (⟨M, by unfold A_about; rw [he]; simp only []; rw [inR_nI (by decide), decide_eq_true (by decide), if_pos rfl, nI_clamp (by decide)]; unfold abV; rfl, rfl, rfl, hR⟩)
  · refine g_table (off := 88) 108 C dX11_about_20 (by decide) (by decide) (by decide) rfl (by decide) ?_
    refine g_aload_n 2 0 C dX11_about_108 rfl rfl ?_
    refine gr_m_sort C dX11_about_109 hx.1 wF_X11_20 r_sort ?_
    refine g_iload 0 C dX11_about_112 rfl ?_
    refine ga_m_sort C dX11_about_114 k_sort (by omega) ?_
    refine g_topi (hT.1) ?_
    refine g_iconst (v := nI 5) C dX11_about_115 (by decide) ?_
    refine g_ncmp_ne 139 (by omega) (by omega) C dX11_about_116 (by decide) (fun c116 => ?_) (fun c116 => ?_)
    · refine g_iconst (v := nI 0) C dX11_about_139 (by decide) ?_
      exact g_iret C dX11_about_140 (by decide) (by decide) (⟨M, by unfold A_about; rw [he]; simp only []; rw [inR_nI (by decide), decide_eq_true (by decide), if_pos rfl, nI_clamp (by decide)]; unfold abV; first | (rw [if_pos c116]; rfl) | (rw [if_neg c116]; rfl), rfl, rfl, hR⟩)
    · refine g_aload_n 2 0 C dX11_about_119 rfl rfl ?_
      refine gr_m_many C dX11_about_120 hx.1 wF_X11_23 r_many ?_
      refine g_iload 0 C dX11_about_123 rfl ?_
      refine ga_m_many C dX11_about_125 k_many (by omega) ?_
      refine g_topi (hT.2.1.2.1) ?_
      refine g_bipush (v := nI 64) C dX11_about_126 (by decide) ?_
      refine g_aload_n 2 0 C dX11_about_128 rfl rfl ?_
      refine g_iload 0 C dX11_about_129 rfl ?_
      refine g_callV (As := [.int (nI t)]) (rest := [.int (nI 64), .int (nI ((tL (zH Z t)).length))]) C dX11_about_131 (c_M_highBits hx (by omega) hn1) wC_X11_highBits wM_X11_166 wI_X11_highBits wS_X11_highBits wN_X11 (kne hx.1) (pf_11 hx.1) rfl hd_X11_highBits ⟨by decide, by decide, by decide, by decide⟩ (Nat.le_of_ble_eq_true rfl) (fun r_ S_ h_ => ?_)
      obtain ⟨rfl, rfl⟩ := h_
      change Go X G _ 5 _ _ (mo_ S M) 134 [(4, .int (nI t)), (3, .int (nI 0)), (0, .ref x), (1, .int (nI j)), (2, .int (nI 5))] [.int (nI (hbN (tL (zH Z t)).length)), .int (nI 64), .int (nI ((tL (zH Z t)).length))]
      refine g_isub C dX11_about_134 ?_
      refine g_topi (pk_sub (by omega) : _ = nI (64 - (hbN (tL (zH Z t)).length))) ?_
      refine g_imul C dX11_about_135 ?_
      refine g_topi (pk_mul _ _ : _ = nI (((tL (zH Z t)).length) * (64 - (hbN (tL (zH Z t)).length)))) ?_
      refine g_goto 140 C dX11_about_136 (by decide) ?_
      exact g_iret C dX11_about_140 (by decide) (by decide) (⟨M, by unfold A_about; rw [he]; simp only []; rw [inR_nI (by decide), decide_eq_true (by decide), if_pos rfl, nI_clamp (by decide)]; unfold abV; first | (rw [if_pos c116]; rfl) | (rw [if_neg c116]; rfl), rfl, rfl, hR⟩)
  · refine g_table (off := 121) 141 C dX11_about_20 (by decide) (by decide) (by decide) rfl (by decide) ?_
    refine g_aload_n 2 0 C dX11_about_141 rfl rfl ?_
    refine g_iload 0 C dX11_about_142 rfl ?_
    refine g_callV (As := [.int (nI t)]) (rest := []) C dX11_about_144 (c_M_width hx (by omega) hn1) wC_X11_width wM_X11_211 wI_X11_width wS_X11_width wN_X11 (kne hx.1) (pf_11 hx.1) rfl hd_X11_width ⟨by decide, by decide, by decide, by decide⟩ (Nat.le_of_ble_eq_true rfl) (fun r_ S_ h_ => ?_)
    obtain ⟨rfl, rfl⟩ := h_
    change Go X G _ 5 _ _ (mo_ S M) 147 [(4, .int (nI t)), (3, .int (nI 0)), (0, .ref x), (1, .int (nI j)), (2, .int (nI 6))] [.int (nI (widthN (tL (zH Z t))))]
    exact g_iret C dX11_about_147 (by decide) (by decide) (⟨M, by unfold A_about; rw [he]; simp only []; rw [inR_nI (by decide), decide_eq_true (by decide), if_pos rfl, nI_clamp (by decide)]; unfold abV; rfl, rfl, rfl, hR⟩)
  · refine g_table (off := 128) 148 C dX11_about_20 (by decide) (by decide) (by decide) rfl (by decide) ?_
    refine g_aload_n 2 0 C dX11_about_148 rfl rfl ?_
    refine gr_m_sort C dX11_about_149 hx.1 wF_X11_20 r_sort ?_
    refine g_iload 0 C dX11_about_152 rfl ?_
    refine ga_m_sort C dX11_about_154 k_sort (by omega) ?_
    refine g_topi (hT.1) ?_
    refine g_iconst (v := nI 1) C dX11_about_155 (by decide) ?_
    refine g_ncmp_ne 163 (by omega) (by omega) C dX11_about_156 (by decide) (fun c156 => ?_) (fun c156 => ?_)
    · refine g_aload_n 2 0 C dX11_about_163 rfl rfl ?_
      refine gr_m_lost C dX11_about_164 hx.1 wF_X11_38 r_lost ?_
      refine g_iconst (v := nI 2) C dX11_about_167 (by decide) ?_
      refine g_iload 0 C dX11_about_168 rfl ?_
      refine g_imul C dX11_about_170 ?_
      refine g_topi (pk_mul _ _ : _ = nI (2 * t)) ?_
      refine ga_m_lost C dX11_about_171 k_lost (by omega) ?_
      refine g_topi (hT.2.2.2.2.1) ?_
      refine g_if_eq 179 C dX11_about_172 (by decide) (fun c172 => ?_) (fun c172 => ?_)
      · have ea := bI_f c172
        refine g_aload_n 2 0 C dX11_about_179 rfl rfl ?_
        refine gr_m_bits C dX11_about_180 hx.1 wF_X11_26 r_bits ?_
        refine g_iload 0 C dX11_about_183 rfl ?_
        refine ga_m_bits C dX11_about_185 k_bits (by omega) ?_
        refine g_topi (hT.2.2.1) ?_
        refine g_sipush (v := nI 512) C dX11_about_186 (by decide) ?_
        refine g_idiv C dX11_about_189 (by decide) ?_
        refine g_topi (pk_div (by omega) (by omega) (by omega) : _ = nI (((tB (zH Z t)).length) / 512)) ?_
        refine g_iconst (v := nI 1) C dX11_about_190 (by decide) ?_
        refine g_iadd C dX11_about_191 ?_
        refine g_topi (nI_add _ _ : _ = nI (((tB (zH Z t)).length) / 512 + 1)) ?_
        refine g_aload_n 2 0 C dX11_about_192 rfl rfl ?_
        refine gr_m_lost C dX11_about_193 hx.1 wF_X11_38 r_lost ?_
        refine g_iconst (v := nI 2) C dX11_about_196 (by decide) ?_
        refine g_iload 0 C dX11_about_197 rfl ?_
        refine g_imul C dX11_about_199 ?_
        refine g_topi (pk_mul _ _ : _ = nI (2 * t)) ?_
        refine g_iconst (v := nI 1) C dX11_about_200 (by decide) ?_
        refine g_iadd C dX11_about_201 ?_
        refine g_topi (nI_add _ _ : _ = nI (2 * t + 1)) ?_
        refine ga_m_lost C dX11_about_202 k_lost (by omega) ?_
        refine g_topi (hT.2.2.2.2.2.1) ?_
        refine g_if_eq 210 C dX11_about_203 (by decide) (fun c203 => ?_) (fun c203 => ?_)
        · have ec := bI_f c203
          refine g_aload_n 2 0 C dX11_about_210 rfl rfl ?_
          refine gr_m_bits C dX11_about_211 hx.1 wF_X11_26 r_bits ?_
          refine g_iload 0 C dX11_about_214 rfl ?_
          refine ga_m_bits C dX11_about_216 k_bits (by omega) ?_
          refine g_topi (hT.2.2.1) ?_
          refine g_bipush (v := nI 64) C dX11_about_217 (by decide) ?_
          refine g_idiv C dX11_about_219 (by decide) ?_
          refine g_topi (pk_div (by omega) (by omega) (by omega) : _ = nI (((tB (zH Z t)).length) / 64)) ?_
          refine g_iconst (v := nI 1) C dX11_about_220 (by decide) ?_
          refine g_iadd C dX11_about_221 ?_
          refine g_topi (nI_add _ _ : _ = nI (((tB (zH Z t)).length) / 64 + 1)) ?_
          refine g_iadd C dX11_about_222 ?_
          refine g_topi (nI_add _ _ : _ = nI (((tB (zH Z t)).length) / 512 + 1 + (((tB (zH Z t)).length) / 64 + 1))) ?_
          exact g_iret C dX11_about_223 (by decide) (by decide) (⟨M, by unfold A_about; rw [he]; simp only []; rw [inR_nI (by decide), decide_eq_true (by decide), if_pos rfl, nI_clamp (by decide)]; unfold abV; first | (rw [if_pos c156]; rfl) | (rw [if_neg c156, ea, ec]; rfl), rfl, rfl, hR⟩)
        · have ec := bI_t c203
          refine g_iconst (v := nI 0) C dX11_about_206 (by decide) ?_
          refine g_goto 222 C dX11_about_207 (by decide) ?_
          refine g_iadd C dX11_about_222 ?_
          refine g_topi (nI_add _ _ : _ = nI (((tB (zH Z t)).length) / 512 + 1 + 0)) ?_
          exact g_iret C dX11_about_223 (by decide) (by decide) (⟨M, by unfold A_about; rw [he]; simp only []; rw [inR_nI (by decide), decide_eq_true (by decide), if_pos rfl, nI_clamp (by decide)]; unfold abV; first | (rw [if_pos c156]; rfl) | (rw [if_neg c156, ea, ec]; rfl), rfl, rfl, hR⟩)
      · have ea := bI_t c172
        refine g_iconst (v := nI 0) C dX11_about_175 (by decide) ?_
        refine g_goto 192 C dX11_about_176 (by decide) ?_
        refine g_aload_n 2 0 C dX11_about_192 rfl rfl ?_
        refine gr_m_lost C dX11_about_193 hx.1 wF_X11_38 r_lost ?_
        refine g_iconst (v := nI 2) C dX11_about_196 (by decide) ?_
        refine g_iload 0 C dX11_about_197 rfl ?_
        refine g_imul C dX11_about_199 ?_
        refine g_topi (pk_mul _ _ : _ = nI (2 * t)) ?_
        refine g_iconst (v := nI 1) C dX11_about_200 (by decide) ?_
        refine g_iadd C dX11_about_201 ?_
        refine g_topi (nI_add _ _ : _ = nI (2 * t + 1)) ?_
        refine ga_m_lost C dX11_about_202 k_lost (by omega) ?_
        refine g_topi (hT.2.2.2.2.2.1) ?_
        refine g_if_eq 210 C dX11_about_203 (by decide) (fun c203 => ?_) (fun c203 => ?_)
        · have ec := bI_f c203
          refine g_aload_n 2 0 C dX11_about_210 rfl rfl ?_
          refine gr_m_bits C dX11_about_211 hx.1 wF_X11_26 r_bits ?_
          refine g_iload 0 C dX11_about_214 rfl ?_
          refine ga_m_bits C dX11_about_216 k_bits (by omega) ?_
          refine g_topi (hT.2.2.1) ?_
          refine g_bipush (v := nI 64) C dX11_about_217 (by decide) ?_
          refine g_idiv C dX11_about_219 (by decide) ?_
          refine g_topi (pk_div (by omega) (by omega) (by omega) : _ = nI (((tB (zH Z t)).length) / 64)) ?_
          refine g_iconst (v := nI 1) C dX11_about_220 (by decide) ?_
          refine g_iadd C dX11_about_221 ?_
          refine g_topi (nI_add _ _ : _ = nI (((tB (zH Z t)).length) / 64 + 1)) ?_
          refine g_iadd C dX11_about_222 ?_
          refine g_topi (nI_add _ _ : _ = nI (0 + (((tB (zH Z t)).length) / 64 + 1))) ?_
          exact g_iret C dX11_about_223 (by decide) (by decide) (⟨M, by unfold A_about; rw [he]; simp only []; rw [inR_nI (by decide), decide_eq_true (by decide), if_pos rfl, nI_clamp (by decide)]; unfold abV; first | (rw [if_pos c156]; rfl) | (rw [if_neg c156, ea, ec]; rfl), rfl, rfl, hR⟩)
        · have ec := bI_t c203
          refine g_iconst (v := nI 0) C dX11_about_206 (by decide) ?_
          refine g_goto 222 C dX11_about_207 (by decide) ?_
          refine g_iadd C dX11_about_222 ?_
          refine g_topi (nI_add _ _ : _ = nI (0 + 0)) ?_
          exact g_iret C dX11_about_223 (by decide) (by decide) (⟨M, by unfold A_about; rw [he]; simp only []; rw [inR_nI (by decide), decide_eq_true (by decide), if_pos rfl, nI_clamp (by decide)]; unfold abV; first | (rw [if_pos c156]; rfl) | (rw [if_neg c156, ea, ec]; rfl), rfl, rfl, hR⟩)
    · refine g_iconst (v := nI 0) C dX11_about_159 (by decide) ?_
      refine g_goto 223 C dX11_about_160 (by decide) ?_
      exact g_iret C dX11_about_223 (by decide) (by decide) (⟨M, by unfold A_about; rw [he]; simp only []; rw [inR_nI (by decide), decide_eq_true (by decide), if_pos rfl, nI_clamp (by decide)]; unfold abV; first | (rw [if_pos c156]; rfl) | (rw [if_neg c156, ea, ec]; rfl), rfl, rfl, hR⟩)
  · refine g_tableOut 224 C dX11_about_20 (Or.inl (by rw [Int32.lt_iff_toInt_lt, Int32.toInt_zero] at h; exact h)) (by decide) ?_
    refine g_bipush (v := -5) C dX11_about_224 (by decide) ?_
    exact g_iret C dX11_about_226 (by decide) (by decide) (⟨M, by unfold A_about; rw [he]; simp only []; rw [show inR what 8 = false from by first | exact inR_neg h | exact inR_big (by decide) h]; rfl, rfl, rfl, hR⟩)
  · refine g_tableOut 224 C dX11_about_20 (Or.inr (by rw [Int32.le_iff_toInt_le, nI_toInt (by decide)] at h; omega)) (by decide) ?_
    refine g_bipush (v := -5) C dX11_about_224 (by decide) ?_
    exact g_iret C dX11_about_226 (by decide) (by decide) (⟨M, by unfold A_about; rw [he]; simp only []; rw [show inR what 8 = false from by first | exact inR_neg h | exact inR_big (by decide) h]; rfl, rfl, rfl, hR⟩)
theorem c_M_about {l : Launch} {G : Gx} {S : PS} {M : MoT} {x : Nat} (hx : MoOk S M x) {Z : ZT} (hR : RM M Z) (hZ : okZ Z) {p : Int32} {what : Int32} : Ct l yX11_about cX11_about 5 (Option.some Jvm.ClassFile.FieldType.int) rm_X11_about G [.ref x, .int p, .int what] (mo_ S M) (fun r S' => ∃ M', r = some (.int (A_about Z p what)) ∧ S' = mo_ S M' ∧ mo_r M' = mo_r M ∧ RM M' (Z)) := by
  cases he : bookE Z p with
  | inl e => exact c_M_about_err hx hR hZ he (bookE_neg he)
  | inr t =>
    obtain ⟨j, hj, rfl, hp, -⟩ := bookE_inr he
    exact c_M_about_ok hx hR hZ hj hp he
def bytesL (v : Int64) (n : Nat) : List Nat := (List.range n).map fun i => byteN v (n - 1 - i)
theorem bytesL_len (v : Int64) (n : Nat) : (bytesL v n).length = n := by unfold bytesL; rw [List.length_map, List.length_range]
theorem bytesL_get (v : Int64) {n i : Nat} (h : i < n) : (bytesL v n).getD i 0 = byteN v (n - 1 - i) := by
  unfold bytesL
  rw [List.getD_eq_getElem?_getD, List.getElem?_map, List.getElem?_range h]
  rfl
def A_feed (Z : ZT) (n : Int32) : Int32 := if inR n 9 && !inR n 1 then (if (zT Z).length + n.toNatClampNeg ≤ 1000 then nI ((zT Z).length + n.toNatClampNeg) else -7) else -5
def N_feed (Z : ZT) (v : Int64) (n : Int32) : ZT := if inR n 9 && !inR n 1 then (if (zT Z).length + n.toNatClampNeg ≤ 1000 then zT_ Z (zT Z ++ bytesL v n.toNatClampNeg) else Z) else Z
theorem fd_in {w : Int32} (h1 : ¬ w < nI 1) (h2 : w ≤ nI 8) : ∃ i, 1 ≤ i ∧ i ≤ 8 ∧ w = nI i ∧ (inR w 9 && !inR w 1) = true := by
  have a1 : nI 1 ≤ w := Int32.not_lt.mp h1
  have h0 : ¬ w < 0 := by
    rw [Int32.le_iff_toInt_le, nI_toInt (by decide)] at a1
    rw [Int32.lt_iff_toInt_lt, Int32.toInt_zero]; omega
  have e := inR_in1 (n := 8) (by decide) h0 h2
  obtain ⟨i, hi, rfl⟩ := inR_spec e (by decide)
  have : 1 ≤ i := (nI_leI (by decide) (by omega)).mp a1
  refine ⟨i, this, by omega, rfl, ?_⟩
  rw [e, inR_nI (by omega), decide_eq_false (by omega)]; rfl
theorem fd_lo {w : Int32} (h : w < nI 1) : (inR w 9 && !inR w 1) = false := by
  by_cases g : w < 0
  · rw [inR_neg g]; rfl
  · rw [inR_in' (n := 1) (by decide) g h, Bool.not_true, Bool.and_false]
theorem fd_hi {w : Int32} (h : ¬ w ≤ nI 8) : (inR w 9 && !inR w 1) = false := by
  rw [inR_big1 (n := 8) (by decide) h]; rfl
theorem getD_app2 {a b : List Nat} {i : Nat} (h : i < b.length) : (a ++ b).getD (a.length + i) 0 = b.getD i 0 := by
  rw [getD_app, if_neg (by omega), show a.length + i - a.length = i by omega]
set_option maxRecDepth 100000 in
set_option maxHeartbeats 400000 in
theorem c_M_feed {l : Launch} {G : Gx} {S : PS} {M : MoT} {x : Nat} (hx : MoOk S M x) {Z : ZT} (hR : RM M Z) (hZ : okZ Z) {v : Int64} {n : Int32} : Ct l yX11_feed cX11_feed 5 (Option.some Jvm.ClassFile.FieldType.int) rm_X11_feed G [.ref x, .long v, .int n] (mo_ S M) (fun r S' => ∃ M', r = some (.int (A_feed Z n)) ∧ S' = mo_ S M' ∧ mo_r M' = mo_r M ∧ RM M' (N_feed Z v n)) := by
  obtain ⟨q_tape, r_tape, k_tape⟩ := hx.2 0 (by decide)
  have hw := hZ.1.1
  refine Ct.mk RX11 "feed" hy_X11_feed (Nat.le_of_ble_eq_true rfl) (fun X hX C => ?_)
  change Go X G _ 5 0 0 (mo_ S M) 0 [(0, .ref x), (1, .long v), (3, .int n)] []
  refine g_iload_n 2 3 C dX11_feed_0 rfl rfl ?_
  refine g_iconst (v := nI 1) C dX11_feed_1 (by decide) ?_
  refine g_icmp_lt 11 C dX11_feed_2 (by decide) (fun c2 => ?_) (fun c2 => ?_)
  · have e := fd_lo c2
    refine g_bipush (v := -5) C dX11_feed_11 (by decide) ?_
    exact g_iret C dX11_feed_13 (by decide) (by decide) (⟨M, by unfold A_feed; rw [e]; rfl, rfl, rfl, by unfold N_feed; rw [e]; exact hR⟩)
  · refine g_iload_n 2 3 C dX11_feed_5 rfl rfl ?_
    refine g_bipush (v := nI 8) C dX11_feed_6 (by decide) ?_
    refine g_icmp_le 14 C dX11_feed_8 (by decide) (fun c8 => ?_) (fun c8 => ?_)
    · obtain ⟨i1, hi11, hi18, rfl, ek⟩ := fd_in c2 c8
      refine g_aload_n 0 0 C dX11_feed_14 rfl rfl ?_
      refine gf_m_taped C dX11_feed_15 hx.1 wF_X11_13 ?_
      refine g_topi (hR.1.1) ?_
      refine g_iload_n 2 3 C dX11_feed_18 rfl rfl ?_
      refine g_iadd C dX11_feed_19 ?_
      refine g_topi (nI_add _ _ : _ = nI ((zT Z).length + i1)) ?_
      refine g_sipush (v := nI 1000) C dX11_feed_20 (by decide) ?_
      refine g_ncmp_le 29 (by omega) (by omega) C dX11_feed_23 (by decide) (fun c23 => ?_) (fun c23 => ?_)
      · refine g_iload_n 2 3 C dX11_feed_29 rfl rfl ?_
        refine g_iconst (v := nI 1) C dX11_feed_30 (by decide) ?_
        refine g_isub C dX11_feed_31 ?_
        refine g_topi (pk_sub (by omega) : _ = nI (i1 - 1)) ?_
        refine g_istore (lv' := [(4, .int (nI (i1 - 1))), (0, .ref x), (1, .long v), (3, .int (nI i1))]) C dX11_feed_32 (by decide) rfl ?_
        have lp : ∀ (n_ : Nat) (r : Nat) (ft : Nat → Int32), r < n_ → (r ≤ i1 ∧ (∀ q, q < (zT Z).length → ft q = m_tape M q) ∧ ∀ q, q < i1 - r → ft ((zT Z).length + q) = nI (byteN v (i1 - 1 - q))) → Go X G (Qe X G (fun r S' => ∃ M', r = some (.int (A_feed Z (nI i1))) ∧ S' = mo_ S M' ∧ mo_r M' = mo_r M ∧ RM M' (N_feed Z v (nI i1))) rm_X11_feed.cells rm_X11_feed.slots) 5 0 0 (mo_ S (m_taped_ (m_tape_ M ft) (nI ((zT Z).length + (i1 - r))))) 34 [(4, .int (nI r - nI 1)), (0, .ref x), (1, .long v), (3, .int (nI i1))] [] := by
          intro n_
          induction n_ with
          | zero => intro r ft hm_; exact absurd hm_ (Nat.not_lt_zero _)
          | succ n_ ih_ =>
            intro r ft hm_ hi
            refine g_iload 0 C dX11_feed_34 rfl ?_
            rcases Nat.eq_zero_or_pos r with rfl | hr
            · refine g_topi (show nI 0 - nI 1 = -1 by decide) ?_
              refine g_if_lt 76 C dX11_feed_36 (by decide) (fun _ => ?_) (fun c => absurd c (by decide))
              refine g_aload_n 1 0 C dX11_feed_76 rfl rfl ?_
              refine gf_m_taped C dX11_feed_77 hx.1 wF_X11_13 ?_
              exact g_iret C dX11_feed_80 (by decide) (by decide) (⟨_, by unfold A_feed; rw [ek, if_pos rfl, nI_clamp (by omega), if_pos (by omega)]; rfl, rfl, rfl, by
                unfold N_feed; rw [ek, if_pos rfl, nI_clamp (by omega), if_pos (by omega)]
                refine ⟨⟨by show nI (_ + (i1 - 0)) = nI (zT Z ++ bytesL v i1).length; rw [List.length_append, bytesL_len, Nat.sub_zero], fun q hq => ?_⟩, hR.2.1, hR.2.2.1, hR.2.2.2⟩
                have hq : q < (zT Z ++ bytesL v i1).length := hq
                rw [List.length_append, bytesL_len] at hq
                show ft q = nI ((zT Z ++ bytesL v i1).getD q 0)
                by_cases e : q < (zT Z).length
                · rw [getD_app, if_pos e, hi.2.1 q e]; exact hR.1.2 q e
                · have := hi.2.2 (q - (zT Z).length) (by omega)
                  rw [show (zT Z).length + (q - (zT Z).length) = q by omega] at this
                  rw [this, getD_app, if_neg e, bytesL_get v (by omega)]⟩)
            · rw [show nI r - nI 1 = nI (r - 1) from pk_sub (by omega)]
              refine g_nif_lt 76 (by omega) C dX11_feed_36 (by decide) ?_
              refine g_aload_n 1 0 C dX11_feed_39 rfl rfl ?_
              refine gr_m_tape C dX11_feed_40 hx.1 wF_X11_7 r_tape ?_
              refine g_aload_n 1 0 C dX11_feed_43 rfl rfl ?_
              refine gf_m_taped C dX11_feed_44 hx.1 wF_X11_13 ?_
              refine g_lload_n 2 1 C dX11_feed_47 rfl rfl ?_
              refine g_bipush (v := nI 8) C dX11_feed_48 (by decide) ?_
              refine g_iload 0 C dX11_feed_50 rfl ?_
              refine g_imul C dX11_feed_52 ?_
              refine g_topi (pk_mul _ _ : _ = nI (8 * (r - 1))) ?_
              refine g_lshr C dX11_feed_53 ?_
              refine g_ldc2 (v := 255) C dX11_feed_54 wG_X11_95 ?_
              refine g_land C dX11_feed_57 ?_
              refine g_l2i C dX11_feed_58 ?_
              refine g_topi (by_feed v (k := r - 1) (by omega)) ?_
              refine gs_m_tape C dX11_feed_59 k_tape (by omega) ?_
              refine g_aload_n 1 0 C dX11_feed_60 rfl rfl ?_
              refine g_dup C dX11_feed_61 rfl ?_
              refine gf_m_taped C dX11_feed_62 hx.1 wF_X11_13 ?_
              refine g_iconst (v := nI 1) C dX11_feed_65 (by decide) ?_
              refine g_iadd C dX11_feed_66 ?_
              refine g_topi (nI_add _ _ : _ = nI ((zT Z).length + (i1 - r) + 1)) ?_
              refine pp_m_taped C dX11_feed_67 hx.1 wF_X11_13 (Or.inl rfl) ?_
              refine g_iinc (v := nI (r - 1) - nI 1) (lv' := [(4, .int (nI (r - 1) - nI 1)), (0, .ref x), (1, .long v), (3, .int (nI i1))]) 0 C dX11_feed_70 rfl (m1_sub _) (by decide) rfl ?_
              refine g_goto 34 C dX11_feed_73 (by decide) ?_
              refine g_st (congrArg (fun z => mo_ S (m_taped_ (m_tape_ M (upd ft ((zT Z).length + (i1 - r)) (nI (byteN v (r - 1))))) (nI z))) (show _ = (zT Z).length + (i1 - (r - 1)) by omega)) ?_
              exact ih_ (r - 1) _ (by omega) ⟨by omega, fun q hq => (pk_un (by omega)).trans (hi.2.1 q hq), fun q hq => by
                by_cases e : q = i1 - r
                · rw [e, show i1 - 1 - (i1 - r) = r - 1 by omega]; exact pk_us
                · exact (pk_un (by omega)).trans (hi.2.2 q (by omega))⟩
        rw [show nI (i1 - 1) = nI i1 - nI 1 from (pk_sub (by omega)).symm]
        refine g_st (S' := mo_ S (m_taped_ (m_tape_ M (m_tape M)) (nI ((zT Z).length + (i1 - i1))))) (by rw [Nat.sub_self, Nat.add_zero, ← hR.1.1]) ?_
        exact lp (i1 + 1) i1 (m_tape M) (by omega) ⟨by omega, fun _ _ => rfl, fun q hq => absurd hq (by omega)⟩
      · refine g_bipush (v := -7) C dX11_feed_26 (by decide) ?_
        exact g_iret C dX11_feed_28 (by decide) (by decide) (⟨M, by unfold A_feed; rw [ek, if_pos rfl, nI_clamp (by omega), if_neg (by omega)], rfl, rfl, by unfold N_feed; rw [ek, if_pos rfl, nI_clamp (by omega), if_neg (by omega)]; exact hR⟩)
    · have e := fd_hi c8
      refine g_bipush (v := -5) C dX11_feed_11 (by decide) ?_
      exact g_iret C dX11_feed_13 (by decide) (by decide) (⟨M, by unfold A_feed; rw [e]; rfl, rfl, rfl, by unfold N_feed; rw [e]; exact hR⟩)
