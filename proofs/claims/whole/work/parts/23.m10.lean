/-- among the first p places, one holds thing t -/
def usd (pl : Nat → Nat) (t p : Nat) : Bool := decide (fN (fun q => pl q != t + 1) p < p)
theorem usd_iff {pl : Nat → Nat} {t p : Nat} : usd pl t p = true ↔ ∃ q, q < p ∧ pl q = t + 1 := by
  unfold usd
  rw [decide_eq_true_iff]
  constructor
  · intro h
    have := fN_end h
    exact ⟨_, h, by simpa using this⟩
  · rintro ⟨q, hq, e⟩
    rcases Nat.lt_or_ge (fN (fun q => pl q != t + 1) p) p with h | h
    · exact h
    · have := fN_all (p := fun q => pl q != t + 1) (n := p) (j := q) (by omega)
      simp [e] at this
theorem usd_used {pl : Nat → Nat} {t : Nat} : usd pl t 10 = true ↔ usedP pl t := usd_iff
/-- as many places as things, at least -/
theorem pigeon : ∀ (m n : Nat) (f : Nat → Nat), (∀ t, t < n → ∃ p, p < m ∧ f p = t) → n ≤ m := by
  intro m
  induction m with
  | zero => intro n f h; rcases Nat.eq_zero_or_pos n with e | e; omega; obtain ⟨p, hp, -⟩ := h 0 e; omega
  | succ m ih =>
    intro n f h
    rcases Nat.eq_zero_or_pos n with e | e
    · omega
    · have := ih (n - 1) (fun p => if f p = n - 1 then f m else f p) (fun t ht => ?_)
      · omega
      · by_cases h1 : f m = t
        · obtain ⟨p, hp, e2⟩ := h (n - 1) (by omega)
          have : p ≠ m := fun q => by rw [q] at e2; omega
          exact ⟨p, by omega, by rw [if_pos e2]; exact h1⟩
        · obtain ⟨p, hp, e2⟩ := h t (by omega)
          have : p ≠ m := fun q => by rw [q] at e2; omega
          exact ⟨p, by omega, by rw [if_neg (by omega)]; exact e2⟩
/-- the least thing that no place holds -/
def madeN (pl : Nat → Nat) : Nat := fN (fun t => usd pl t 10) 11
theorem used_le {pl : Nat → Nat} {n : Nat} (h : ∀ t, t < n → usd pl t 10 = true) : n ≤ 10 := by
  refine pigeon 10 n (fun p => pl p - 1) (fun t ht => ?_)
  obtain ⟨q, hq, e⟩ := usd_iff.mp (h t ht)
  exact ⟨q, hq, by show pl q - 1 = t; omega⟩
theorem madeN_le (pl : Nat → Nat) : madeN pl ≤ 10 := used_le (fun t ht => fN_all (p := fun t => usd pl t 10) ht)
theorem madeN_new (pl : Nat → Nat) : ¬ usedP pl (madeN pl) := by
  intro h
  have := fN_end (p := fun t => usd pl t 10) (n := 11) (show madeN pl < 11 by have := madeN_le pl; omega)
  rw [show usd pl (fN (fun t => usd pl t 10) 11) 10 = true from usd_used.mpr h] at this
  cases this
theorem madeN_eq {pl : Nat → Nat} {t : Nat} (h1 : ∀ q, q < t → usd pl q 10 = true) (h2 : usd pl t 10 = false) (h3 : t ≤ 10) : madeN pl = t := fN_eq (by omega) h1 (Or.inr h2)
def mkM (M : MoT) (t w : Nat) : MoT := m_lost_ (m_marks_ (m_letters_ (m_edges_ (m_bits_ (m_many_ (m_sort_ M (upd (m_sort M) t (nI w))) (upd (m_many M) t (nI 0))) (upd (m_bits M) t (nI 0))) (upd (m_edges M) t (nI 0))) (upd (m_letters M) t (nI 0))) (upd (m_marks M) t (nI 0))) (upd (upd (m_lost M) (2 * t) (nI 0)) (2 * t + 1) (nI 0))
theorem thM.mk {M : MoT} {t w q : Nat} {T : Th} (h : thM M q T) (hq : q ≠ t) : thM (mkM M t w) q T := by
  refine ⟨(pk_un hq).trans h.1, ⟨h.2.1.1, (pk_un hq).trans h.2.1.2.1, h.2.1.2.2⟩, (pk_un hq).trans h.2.2.1, h.2.2.2.1, ?_, ?_, fun hk => ⟨(pk_un hq).trans (h.2.2.2.2.2.2 hk).1, (pk_un hq).trans (h.2.2.2.2.2.2 hk).2.1, (pk_un hq).trans (h.2.2.2.2.2.2 hk).2.2⟩⟩
  · show upd (upd (m_lost M) (2 * t) (nI 0)) (2 * t + 1) (nI 0) (2 * q) = _
    rw [pk_un (by omega), pk_un (by omega)]; exact h.2.2.2.2.1
  · show upd (upd (m_lost M) (2 * t) (nI 0)) (2 * t + 1) (nI 0) (2 * q + 1) = _
    rw [pk_un (by omega), pk_un (by omega)]; exact h.2.2.2.2.2.1
theorem RM.mk {M : MoT} {Z : ZT} (h : RM M Z) {w : Nat} : RM (mkM M (madeN (zP Z)) w) Z := ⟨h.1, h.2.1, fun q hq => (h.2.2.1 q hq).mk (fun e => madeN_new (zP Z) (e ▸ hq)), h.2.2.2⟩
/-- what a thing is right behind made(w) -/
theorem mkM_new {M : MoT} {t w : Nat} : m_sort (mkM M t w) t = nI w ∧ namesM (mkM M t w) t [] ∧ m_bits (mkM M t w) t = nI 0 ∧ m_lost (mkM M t w) (2 * t) = bI false ∧ m_lost (mkM M t w) (2 * t + 1) = bI false := by
  refine ⟨pk_us, ⟨Nat.zero_le _, pk_us, fun k hk => absurd hk (Nat.not_lt_zero _)⟩, pk_us, ?_, ?_⟩
  · show upd (upd (m_lost M) (2 * t) (nI 0)) (2 * t + 1) (nI 0) (2 * t) = _
    rw [pk_un (by omega), pk_us]; rfl
  · show upd (upd (m_lost M) (2 * t) (nI 0)) (2 * t + 1) (nI 0) (2 * t + 1) = _
    rw [pk_us]; rfl
/-- a place gets the thing t that no place held -/
theorem rm_newT {M : MoT} {Z : ZT} (h : RM M Z) {j t : Nat} {T : Th} (hu : ¬ usedP (zP Z) t) (hT : thM M t T) : RM (m_place_ M (upd (m_place M) j (nI (t + 1)))) (setT (zP_ Z (setP (zP Z) j (t + 1))) t T) := by
  refine ⟨h.1, fun p hp => ?_, fun q hq => ?_, h.2.2.2⟩
  · show upd (m_place M) j (nI (t + 1)) p = nI (setP (zP Z) j (t + 1) p)
    unfold setP upd
    by_cases e : p = j
    · rw [if_pos e, if_pos e]
    · rw [if_neg e, if_neg e]; exact h.2.1 p hp
  · show thM M q (if q = t then T else zH Z q)
    by_cases e : q = t
    · rw [if_pos e, e]; exact hT
    · rw [if_neg e]
      rcases usedP_set hq with g | g
      · exact h.2.2.1 q g
      · omega
set_option maxRecDepth 100000 in
set_option maxHeartbeats 400000 in
theorem c_M_made {l : Launch} {G : Gx} {S : PS} {M : MoT} {x : Nat} (hx : MoOk S M x) {Z : ZT} (hR : RM M Z) (hZ : okZ Z) {w : Nat} : Ct l yX11_made cX11_made 5 (Option.some Jvm.ClassFile.FieldType.int) rm_X11_made G [.ref x, .int (nI w)] (mo_ S M) (fun r S' => r = some (.int (nI (madeN (zP Z)))) ∧ S' = mo_ S (mkM M (madeN (zP Z)) w)) := by
  obtain ⟨q_place, r_place, k_place⟩ := hx.2 1 (by decide)
  obtain ⟨q_sort, r_sort, k_sort⟩ := hx.2 2 (by decide)
  obtain ⟨q_many, r_many, k_many⟩ := hx.2 3 (by decide)
  obtain ⟨q_bits, r_bits, k_bits⟩ := hx.2 4 (by decide)
  obtain ⟨q_edges, r_edges, k_edges⟩ := hx.2 5 (by decide)
  obtain ⟨q_letters, r_letters, k_letters⟩ := hx.2 6 (by decide)
  obtain ⟨q_marks, r_marks, k_marks⟩ := hx.2 7 (by decide)
  obtain ⟨q_lost, r_lost, k_lost⟩ := hx.2 8 (by decide)
  refine Ct.mk RX11 "made" hy_X11_made (Nat.le_of_ble_eq_true rfl) (fun X hX C => ?_)
  change Go X G _ 5 0 0 (mo_ S M) 0 [(0, .ref x), (1, .int (nI w))] []
  refine g_iconst (v := nI 0) C dX11_made_0 (by decide) ?_
  refine g_istore_n (lv' := [(2, .int (nI 0)), (0, .ref x), (1, .int (nI w))]) C dX11_made_1 rfl (by decide) rfl ?_
  refine g_iconst (v := nI 1) C dX11_made_2 (by decide) ?_
  refine g_istore_n (lv' := [(3, .int (nI 1)), (2, .int (nI 0)), (0, .ref x), (1, .int (nI w))]) C dX11_made_3 rfl (by decide) rfl ?_
  have lp : ∀ (n_ : Nat) (t : Nat) (u : Int32), 12 - t < n_ → (¬ u = 0 ∧ t ≤ 10 ∧ ∀ q, q < t → usd (zP Z) q 10 = true) → Go X G (Qe X G (fun r S' => r = some (.int (nI (madeN (zP Z)))) ∧ S' = mo_ S (mkM M (madeN (zP Z)) w)) rm_X11_made.cells rm_X11_made.slots) 5 0 0 (mo_ S M) 4 [(3, .int u), (2, .int (nI t)), (0, .ref x), (1, .int (nI w))] [] := by
    intro n_
    induction n_ with
    | zero => intro t u hm_; exact absurd hm_ (Nat.not_lt_zero _)
    | succ n_ iho_ =>
      intro t u hm_ hi
      refine g_iload_n 0 3 C dX11_made_4 rfl rfl ?_
      refine g_if_eq 59 C dX11_made_5 (by decide) (fun c5 => ?_) (fun c5 => ?_)
      · exact absurd c5 hi.1
      · refine g_iconst (v := nI 0) C dX11_made_8 (by decide) ?_
        refine g_istore_n (lv' := [(3, .int (nI 0)), (2, .int (nI t)), (0, .ref x), (1, .int (nI w))]) C dX11_made_9 rfl (by decide) rfl ?_
        refine g_iconst (v := nI 0) C dX11_made_10 (by decide) ?_
        refine g_istore (lv' := [(4, .int (nI 0)), (3, .int (nI 0)), (2, .int (nI t)), (0, .ref x), (1, .int (nI w))]) C dX11_made_11 (by decide) rfl ?_
        have lp2 : ∀ (n_ : Nat) (p : Nat) (b : Int32), 10 - p < n_ → (p ≤ 10 ∧ b = bI (usd (zP Z) t p)) → Go X G (Qe X G (fun r S' => r = some (.int (nI (madeN (zP Z)))) ∧ S' = mo_ S (mkM M (madeN (zP Z)) w)) rm_X11_made.cells rm_X11_made.slots) 5 0 0 (mo_ S M) 13 [(4, .int (nI p)), (3, .int b), (2, .int (nI t)), (0, .ref x), (1, .int (nI w))] [] := by
          intro n_
          induction n_ with
          | zero => intro p b hm_; exact absurd hm_ (Nat.not_lt_zero _)
          | succ n_ ih_ =>
            intro p b hm_ hb
            refine g_iload 0 C dX11_made_13 rfl ?_
            refine g_bipush (v := nI 10) C dX11_made_15 (by decide) ?_
            refine g_ncmp_ge 49 (by omega) (by omega) C dX11_made_17 (by decide) (fun c17 => ?_) (fun c17 => ?_)
            · refine g_iload_n 1 3 C dX11_made_49 rfl rfl ?_
              refine g_if_eq 4 C dX11_made_50 (by decide) (fun c50 => ?_) (fun c50 => ?_)
              · refine g_iload_n 1 3 C dX11_made_4 rfl rfl ?_
                refine g_if_eq 59 C dX11_made_5 (by decide) (fun c5 => ?_) (fun c5 => ?_)
                · have et : madeN (zP Z) = t := madeN_eq hi.2.2 (by have h0 := hb.2; rw [c50, show p = 10 by omega] at h0; exact bI_f h0.symm) hi.2.1
                  refine g_aload_n 3 0 C dX11_made_59 rfl rfl ?_
                  refine gr_m_sort C dX11_made_60 hx.1 wF_X11_20 r_sort ?_
                  refine g_iload_n 2 2 C dX11_made_63 rfl rfl ?_
                  refine g_iload_n 4 1 C dX11_made_64 rfl rfl ?_
                  refine gs_m_sort C dX11_made_65 k_sort (by omega) ?_
                  refine g_aload_n 3 0 C dX11_made_66 rfl rfl ?_
                  refine gr_m_many C dX11_made_67 hx.1 wF_X11_23 r_many ?_
                  refine g_iload_n 2 2 C dX11_made_70 rfl rfl ?_
                  refine g_iconst (v := nI 0) C dX11_made_71 (by decide) ?_
                  refine gs_m_many C dX11_made_72 k_many (by omega) ?_
                  refine g_aload_n 3 0 C dX11_made_73 rfl rfl ?_
                  refine gr_m_bits C dX11_made_74 hx.1 wF_X11_26 r_bits ?_
                  refine g_iload_n 2 2 C dX11_made_77 rfl rfl ?_
                  refine g_iconst (v := nI 0) C dX11_made_78 (by decide) ?_
                  refine gs_m_bits C dX11_made_79 k_bits (by omega) ?_
                  refine g_aload_n 3 0 C dX11_made_80 rfl rfl ?_
                  refine gr_m_edges C dX11_made_81 hx.1 wF_X11_29 r_edges ?_
                  refine g_iload_n 2 2 C dX11_made_84 rfl rfl ?_
                  refine g_iconst (v := nI 0) C dX11_made_85 (by decide) ?_
                  refine gs_m_edges C dX11_made_86 k_edges (by omega) ?_
                  refine g_aload_n 3 0 C dX11_made_87 rfl rfl ?_
                  refine gr_m_letters C dX11_made_88 hx.1 wF_X11_32 r_letters ?_
                  refine g_iload_n 2 2 C dX11_made_91 rfl rfl ?_
                  refine g_iconst (v := nI 0) C dX11_made_92 (by decide) ?_
                  refine gs_m_letters C dX11_made_93 k_letters (by omega) ?_
                  refine g_aload_n 3 0 C dX11_made_94 rfl rfl ?_
                  refine gr_m_marks C dX11_made_95 hx.1 wF_X11_35 r_marks ?_
                  refine g_iload_n 2 2 C dX11_made_98 rfl rfl ?_
                  refine g_iconst (v := nI 0) C dX11_made_99 (by decide) ?_
                  refine gs_m_marks C dX11_made_100 k_marks (by omega) ?_
                  refine g_aload_n 3 0 C dX11_made_101 rfl rfl ?_
                  refine gr_m_lost C dX11_made_102 hx.1 wF_X11_38 r_lost ?_
                  refine g_iconst (v := nI 2) C dX11_made_105 (by decide) ?_
                  refine g_iload_n 2 2 C dX11_made_106 rfl rfl ?_
                  refine g_imul C dX11_made_107 ?_
                  refine g_topi (pk_mul _ _ : _ = nI (2 * t)) ?_
                  refine g_iconst (v := nI 0) C dX11_made_108 (by decide) ?_
                  refine gs_m_lost C dX11_made_109 k_lost (by omega) (by decide) ?_
                  refine g_aload_n 3 0 C dX11_made_110 rfl rfl ?_
                  refine gr_m_lost C dX11_made_111 hx.1 wF_X11_38 r_lost ?_
                  refine g_iconst (v := nI 2) C dX11_made_114 (by decide) ?_
                  refine g_iload_n 2 2 C dX11_made_115 rfl rfl ?_
                  refine g_imul C dX11_made_116 ?_
                  refine g_topi (pk_mul _ _ : _ = nI (2 * t)) ?_
                  refine g_iconst (v := nI 1) C dX11_made_117 (by decide) ?_
                  refine g_iadd C dX11_made_118 ?_
                  refine g_topi (nI_add _ _ : _ = nI (2 * t + 1)) ?_
                  refine g_iconst (v := nI 0) C dX11_made_119 (by decide) ?_
                  refine gs_m_lost C dX11_made_120 k_lost (by omega) (by decide) ?_
                  refine g_iload_n 2 2 C dX11_made_121 rfl rfl ?_
                  exact g_iret C dX11_made_122 (by decide) (by decide) (⟨by rw [et], by rw [et]; rfl⟩)
                · exact absurd c50 c5
              · have hu1 : ∀ q, q < t + 1 → usd (zP Z) q 10 = true := fun q hq => by
                  by_cases e : q = t
                  · rw [e]
                    have h0 := hb.2
                    rw [show p = 10 by omega] at h0
                    exact bI_t (h0 ▸ c50)
                  · exact hi.2.2 q (by omega)
                refine g_iinc (v := nI (t + 1)) (lv' := [(2, .int (nI (t + 1))), (4, .int (nI p)), (3, .int b), (0, .ref x), (1, .int (nI w))]) 2 C dX11_made_53 rfl (nI_add _ 1) (by decide) rfl ?_
                refine g_goto 4 C dX11_made_56 (by decide) ?_
                refine Go.pick (lv' := [(3, .int b), (2, .int (nI (t + 1))), (0, .ref x), (1, .int (nI w))]) [2, 0, 3, 4] rfl ?_
                exact iho_ (t + 1) _ (by omega) ⟨c50, used_le hu1, hu1⟩
            · refine g_iload_n 1 3 C dX11_made_20 rfl rfl ?_
              refine g_if_ne 37 C dX11_made_21 (by decide) (fun c21 => ?_) (fun c21 => ?_)
              · refine g_iconst (v := nI 1) C dX11_made_37 (by decide) ?_
                refine g_goto 42 C dX11_made_38 (by decide) ?_
                refine g_istore_n (lv' := [(3, .int (nI 1)), (4, .int (nI p)), (2, .int (nI t)), (0, .ref x), (1, .int (nI w))]) C dX11_made_42 rfl (by decide) rfl ?_
                refine g_iinc (v := nI (p + 1)) (lv' := [(4, .int (nI (p + 1))), (3, .int (nI 1)), (2, .int (nI t)), (0, .ref x), (1, .int (nI w))]) 1 C dX11_made_43 rfl (nI_add _ 1) (by decide) rfl ?_
                refine g_goto 13 C dX11_made_46 (by decide) ?_
                exact ih_ (p + 1) _ (by omega) ⟨by omega, by rw [usd_iff.mpr (by obtain ⟨q, h1, h2⟩ := usd_iff.mp (bI_t (hb.2 ▸ c21)); exact ⟨q, by omega, h2⟩)]; rfl⟩
              · have hz := hZ.2.1 p (by omega)
                refine g_aload_n 3 0 C dX11_made_24 rfl rfl ?_
                refine gr_m_place C dX11_made_25 hx.1 wF_X11_17 r_place ?_
                refine g_iload 0 C dX11_made_28 rfl ?_
                refine ga_m_place C dX11_made_30 k_place (by omega) ?_
                refine g_topi (hR.2.1 p (by omega)) ?_
                refine g_iload_n 2 2 C dX11_made_31 rfl rfl ?_
                refine g_iconst (v := nI 1) C dX11_made_32 (by decide) ?_
                refine g_iadd C dX11_made_33 ?_
                refine g_topi (nI_add _ _ : _ = nI (t + 1)) ?_
                refine g_ncmp_ne 41 (by omega) (by omega) C dX11_made_34 (by decide) (fun c34 => ?_) (fun c34 => ?_)
                · refine g_iconst (v := nI 0) C dX11_made_41 (by decide) ?_
                  refine g_istore_n (lv' := [(3, .int (nI 0)), (4, .int (nI p)), (2, .int (nI t)), (0, .ref x), (1, .int (nI w))]) C dX11_made_42 rfl (by decide) rfl ?_
                  refine g_iinc (v := nI (p + 1)) (lv' := [(4, .int (nI (p + 1))), (3, .int (nI 0)), (2, .int (nI t)), (0, .ref x), (1, .int (nI w))]) 1 C dX11_made_43 rfl (nI_add _ 1) (by decide) rfl ?_
                  refine g_goto 13 C dX11_made_46 (by decide) ?_
                  have hf : usd (zP Z) t (p + 1) = false := Bool.eq_false_iff.mpr (fun h => by
                    obtain ⟨q, h1, h2⟩ := usd_iff.mp h
                    by_cases e : q = p
                    · rw [e] at h2; exact c34 h2
                    · have h0 := bI_f (hb.2.symm.trans c21)
                      rw [usd_iff.mpr ⟨q, by omega, h2⟩] at h0
                      cases h0)
                  exact ih_ (p + 1) _ (by omega) ⟨by omega, by rw [hf]; rfl⟩
                · refine g_iconst (v := nI 1) C dX11_made_37 (by decide) ?_
                  refine g_goto 42 C dX11_made_38 (by decide) ?_
                  refine g_istore_n (lv' := [(3, .int (nI 1)), (4, .int (nI p)), (2, .int (nI t)), (0, .ref x), (1, .int (nI w))]) C dX11_made_42 rfl (by decide) rfl ?_
                  refine g_iinc (v := nI (p + 1)) (lv' := [(4, .int (nI (p + 1))), (3, .int (nI 1)), (2, .int (nI t)), (0, .ref x), (1, .int (nI w))]) 1 C dX11_made_43 rfl (nI_add _ 1) (by decide) rfl ?_
                  refine g_goto 13 C dX11_made_46 (by decide) ?_
                  exact ih_ (p + 1) _ (by omega) ⟨by omega, by rw [usd_iff.mpr ⟨p, by omega, c34⟩]; rfl⟩
        exact lp2 11 0 (nI 0) (by omega) ⟨by omega, rfl⟩
  exact lp 13 0 (nI 1) (by omega) ⟨by decide, by omega, fun q hq => absurd hq (Nat.not_lt_zero _)⟩
