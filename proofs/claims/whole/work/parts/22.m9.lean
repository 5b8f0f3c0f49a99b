def nameP (M : MoT) (p : Nat) (bs : List Nat) : Prop := m_size M p = nI bs.length ∧ ∀ i, i < bs.length → m_bytes M (24 * p + i) = nI (bs.getD i 0)
/-- an entry at a place of the model's rows -/
def entP (M : MoT) (p : Nat) (e : Ent) : Prop := okN e.1 ∧ nameP M p e.1 ∧ m_value M p = e.2
def ent (l : List Ent) (k : Nat) : Ent := l.getD k ([], 0)
theorem namesM_iff {M : MoT} {t : Nat} {l : List Ent} : namesM M t l ↔ l.length ≤ 100 ∧ m_many M t = nI l.length ∧ ∀ k, k < l.length → entP M (100 * t + k) (ent l k) := Iff.rfl
/-- 24 bytes, or the first n of them, from entry a to entry b -/
def cpB (f : Nat → Int32) (a b n : Nat) : Nat → Int32 := fun i => if 24 * b ≤ i ∧ i < 24 * b + n then f (24 * a + (i - 24 * b)) else f i
theorem cpB_0 (f : Nat → Int32) (a b : Nat) : cpB f a b 0 = f := by funext i; unfold cpB; rw [if_neg (by omega)]
theorem cpB_src {f : Nat → Int32} {a b n i : Nat} (hab : a ≠ b) (hn : n ≤ 24) (hi : i < 24) : cpB f a b n (24 * a + i) = f (24 * a + i) := by unfold cpB; rw [if_neg (by omega)]
theorem cpB_step {f : Nat → Int32} {a b i : Nat} : upd (cpB f a b i) (24 * b + i) (f (24 * a + i)) = cpB f a b (i + 1) := by
  funext q
  unfold upd cpB
  by_cases h : q = 24 * b + i
  · rw [if_pos h, if_pos (by omega), h, show 24 * b + i - 24 * b = i by omega]
  · rw [if_neg h]
    by_cases g : 24 * b ≤ q ∧ q < 24 * b + i
    · rw [if_pos g, if_pos (by omega)]
    · rw [if_neg g, if_neg (by omega)]
def cpM (M : MoT) (a b : Nat) : MoT := m_value_ (m_bytes_ (m_size_ M (upd (m_size M) b (m_size M a))) (cpB (m_bytes M) a b 24)) (vp_updL (m_value M) b (m_value M a))
theorem entP.cp_to {M : MoT} {a b : Nat} {e : Ent} (h : entP M a e) : entP (cpM M a b) b e := by
  refine ⟨h.1, ⟨?_, fun i hi => ?_⟩, ?_⟩
  · show upd (m_size M) b (m_size M a) b = _
    rw [pk_us]; exact h.2.1.1
  · have := h.1.2.1
    show cpB (m_bytes M) a b 24 (24 * b + i) = _
    unfold cpB
    rw [if_pos (by omega), show 24 * b + i - 24 * b = i by omega]
    exact h.2.1.2 i hi
  · show vp_updL (m_value M) b (m_value M a) b = _
    rw [pk_uLs]; exact h.2.2
theorem entP.cp_ne {M : MoT} {a b p : Nat} {e : Ent} (h : entP M p e) (hp : p ≠ b) : entP (cpM M a b) p e := by
  refine ⟨h.1, ⟨?_, fun i hi => ?_⟩, ?_⟩
  · show upd (m_size M) b (m_size M a) p = _
    rw [pk_un hp]; exact h.2.1.1
  · have := h.1.2.1
    show cpB (m_bytes M) a b 24 (24 * p + i) = _
    unfold cpB
    rw [if_neg (by omega)]
    exact h.2.1.2 i hi
  · show vp_updL (m_value M) b (m_value M a) p = _
    rw [pk_uLn hp]; exact h.2.2
set_option maxRecDepth 100000 in
set_option maxHeartbeats 400000 in
theorem c_M_copy {l : Launch} {G : Gx} {S : PS} {M : MoT} {x : Nat} (hx : MoOk S M x) {fr k to j : Nat} (h1 : fr < 12) (h2 : k < 100) (h3 : to < 12) (h4 : j < 100) (hab : 100 * fr + k ≠ 100 * to + j) : Ct l yX11_copy cX11_copy 6 (Option.none : Option Jvm.ClassFile.FieldType) rm_X11_copy G [.ref x, .int (nI fr), .int (nI k), .int (nI to), .int (nI j)] (mo_ S M) (fun r S' => r = none ∧ S' = mo_ S (cpM M (100 * fr + k) (100 * to + j))) := by
  obtain ⟨q_size, r_size, k_size⟩ := hx.2 10 (by decide)
  obtain ⟨q_bytes, r_bytes, k_bytes⟩ := hx.2 11 (by decide)
  obtain ⟨q_value, r_value, k_value⟩ := hx.2 12 (by decide)
  refine Ct.mk RX11 "copy" hy_X11_copy (Nat.le_of_ble_eq_true rfl) (fun X hX C => ?_)
  change Go X G _ 6 0 0 (mo_ S M) 0 [(0, .ref x), (1, .int (nI fr)), (2, .int (nI k)), (3, .int (nI to)), (4, .int (nI j))] []
  refine g_aload_n 0 0 C dX11_copy_0 rfl rfl ?_
  refine gr_m_size C dX11_copy_1 hx.1 wF_X11_46 r_size ?_
  refine g_bipush (v := nI 100) C dX11_copy_4 (by decide) ?_
  refine g_iload_n 3 3 C dX11_copy_6 rfl rfl ?_
  refine g_imul C dX11_copy_7 ?_
  refine g_topi (pk_mul _ _ : _ = nI (100 * to)) ?_
  refine g_iload 4 C dX11_copy_8 rfl ?_
  refine g_iadd C dX11_copy_10 ?_
  refine g_topi (nI_add _ _ : _ = nI (100 * to + j)) ?_
  refine g_aload_n 0 0 C dX11_copy_11 rfl rfl ?_
  refine gr_m_size C dX11_copy_12 hx.1 wF_X11_46 r_size ?_
  refine g_bipush (v := nI 100) C dX11_copy_15 (by decide) ?_
  refine g_iload_n 1 1 C dX11_copy_17 rfl rfl ?_
  refine g_imul C dX11_copy_18 ?_
  refine g_topi (pk_mul _ _ : _ = nI (100 * fr)) ?_
  refine g_iload_n 2 2 C dX11_copy_19 rfl rfl ?_
  refine g_iadd C dX11_copy_20 ?_
  refine g_topi (nI_add _ _ : _ = nI (100 * fr + k)) ?_
  refine ga_m_size C dX11_copy_21 k_size (by omega) ?_
  refine gs_m_size C dX11_copy_22 k_size (by omega) ?_
  refine g_iconst (v := nI 0) C dX11_copy_23 (by decide) ?_
  refine g_istore (lv' := [(5, .int (nI 0)), (0, .ref x), (1, .int (nI fr)), (2, .int (nI k)), (3, .int (nI to)), (4, .int (nI j))]) C dX11_copy_24 (by decide) rfl ?_
  have lp : ∀ (n_ : Nat) (i : Nat), 24 - i < n_ → (i ≤ 24) → Go X G (Qe X G (fun r S' => r = none ∧ S' = mo_ S (cpM M (100 * fr + k) (100 * to + j))) rm_X11_copy.cells rm_X11_copy.slots) 6 0 0 (mo_ S (m_bytes_ (m_size_ M (upd (m_size M) (100 * to + j) (m_size M (100 * fr + k)))) (cpB (m_bytes M) (100 * fr + k) (100 * to + j) i))) 26 [(5, .int (nI i)), (0, .ref x), (1, .int (nI fr)), (2, .int (nI k)), (3, .int (nI to)), (4, .int (nI j))] [] := by
    intro n_
    induction n_ with
    | zero => intro i hm_; exact absurd hm_ (Nat.not_lt_zero _)
    | succ n_ ih_ =>
      intro i hm_ hi
      refine g_iload 0 C dX11_copy_26 rfl ?_
      refine g_bipush (v := nI 24) C dX11_copy_28 (by decide) ?_
      refine g_ncmp_ge 74 (by omega) (by omega) C dX11_copy_30 (by decide) (fun c30 => ?_) (fun c30 => ?_)
      · refine g_aload_n 1 0 C dX11_copy_74 rfl rfl ?_
        refine gr_m_value C dX11_copy_75 hx.1 wF_X11_52 r_value ?_
        refine g_bipush (v := nI 100) C dX11_copy_78 (by decide) ?_
        refine g_iload_n 4 3 C dX11_copy_80 rfl rfl ?_
        refine g_imul C dX11_copy_81 ?_
        refine g_topi (pk_mul _ _ : _ = nI (100 * to)) ?_
        refine g_iload 5 C dX11_copy_82 rfl ?_
        refine g_iadd C dX11_copy_84 ?_
        refine g_topi (nI_add _ _ : _ = nI (100 * to + j)) ?_
        refine g_aload_n 1 0 C dX11_copy_85 rfl rfl ?_
        refine gr_m_value C dX11_copy_86 hx.1 wF_X11_52 r_value ?_
        refine g_bipush (v := nI 100) C dX11_copy_89 (by decide) ?_
        refine g_iload_n 2 1 C dX11_copy_91 rfl rfl ?_
        refine g_imul C dX11_copy_92 ?_
        refine g_topi (pk_mul _ _ : _ = nI (100 * fr)) ?_
        refine g_iload_n 3 2 C dX11_copy_93 rfl rfl ?_
        refine g_iadd C dX11_copy_94 ?_
        refine g_topi (nI_add _ _ : _ = nI (100 * fr + k)) ?_
        refine ga_m_value C dX11_copy_95 k_value (by omega) ?_
        refine gs_m_value C dX11_copy_96 k_value (by omega) ?_
        exact g_vret C dX11_copy_97 (by decide) (by decide) (⟨rfl, by rw [show i = 24 by omega]; rfl⟩)
      · refine g_aload_n 1 0 C dX11_copy_33 rfl rfl ?_
        refine gr_m_bytes C dX11_copy_34 hx.1 wF_X11_49 r_bytes ?_
        refine g_bipush (v := nI 24) C dX11_copy_37 (by decide) ?_
        refine g_bipush (v := nI 100) C dX11_copy_39 (by decide) ?_
        refine g_iload_n 4 3 C dX11_copy_41 rfl rfl ?_
        refine g_imul C dX11_copy_42 ?_
        refine g_topi (pk_mul _ _ : _ = nI (100 * to)) ?_
        refine g_iload 5 C dX11_copy_43 rfl ?_
        refine g_iadd C dX11_copy_45 ?_
        refine g_topi (nI_add _ _ : _ = nI (100 * to + j)) ?_
        refine g_imul C dX11_copy_46 ?_
        refine g_topi (pk_mul _ _ : _ = nI (24 * (100 * to + j))) ?_
        refine g_iload 0 C dX11_copy_47 rfl ?_
        refine g_iadd C dX11_copy_49 ?_
        refine g_topi (nI_add _ _ : _ = nI (24 * (100 * to + j) + i)) ?_
        refine g_aload_n 1 0 C dX11_copy_50 rfl rfl ?_
        refine gr_m_bytes C dX11_copy_51 hx.1 wF_X11_49 r_bytes ?_
        refine g_bipush (v := nI 24) C dX11_copy_54 (by decide) ?_
        refine g_bipush (v := nI 100) C dX11_copy_56 (by decide) ?_
        refine g_iload_n 2 1 C dX11_copy_58 rfl rfl ?_
        refine g_imul C dX11_copy_59 ?_
        refine g_topi (pk_mul _ _ : _ = nI (100 * fr)) ?_
        refine g_iload_n 3 2 C dX11_copy_60 rfl rfl ?_
        refine g_iadd C dX11_copy_61 ?_
        refine g_topi (nI_add _ _ : _ = nI (100 * fr + k)) ?_
        refine g_imul C dX11_copy_62 ?_
        refine g_topi (pk_mul _ _ : _ = nI (24 * (100 * fr + k))) ?_
        refine g_iload 0 C dX11_copy_63 rfl ?_
        refine g_iadd C dX11_copy_65 ?_
        refine g_topi (nI_add _ _ : _ = nI (24 * (100 * fr + k) + i)) ?_
        refine ga_m_bytes C dX11_copy_66 k_bytes (by omega) ?_
        refine g_topi (cpB_src hab (by omega) (by omega)) ?_
        refine gs_m_bytes C dX11_copy_67 k_bytes (by omega) ?_
        refine g_iinc (v := nI (i + 1)) (lv' := [(5, .int (nI (i + 1))), (0, .ref x), (1, .int (nI fr)), (2, .int (nI k)), (3, .int (nI to)), (4, .int (nI j))]) 0 C dX11_copy_68 rfl (nI_add _ 1) (by decide) rfl ?_
        refine g_goto 26 C dX11_copy_71 (by decide) ?_
        refine g_st (congrArg (fun f => mo_ S (m_bytes_ (m_size_ M (upd (m_size M) (100 * to + j) (m_size M (100 * fr + k)))) f)) (cpB_step (f := m_bytes M) (a := (100 * fr + k)) (b := (100 * to + j)) (i := i))) ?_
        exact ih_ (i + 1) (by omega) (by omega)
  refine g_st (congrArg (fun f => mo_ S (m_bytes_ (m_size_ M (upd (m_size M) (100 * to + j) (m_size M (100 * fr + k)))) f)) (cpB_0 (m_bytes M) (100 * fr + k) (100 * to + j)).symm) ?_
  exact lp 25 0 (by omega) (by omega)
/-- the names of thing t change, and nothing else -/
def LF (t : Nat) (M M' : MoT) : Prop := ∃ (fs fb : Nat → Int32) (fv : Nat → Int64) (fm : Nat → Int32), M' = m_many_ (m_value_ (m_bytes_ (m_size_ M fs) fb) fv) fm ∧ (∀ p e, (p < 100 * t ∨ 100 * t + 100 ≤ p) → entP M p e → entP M' p e) ∧ (∀ q, q ≠ t → fm q = m_many M q)
theorem LF.refl (t : Nat) (M : MoT) : LF t M M := ⟨m_size M, m_bytes M, m_value M, m_many M, rfl, fun _ _ _ h => h, fun _ _ => rfl⟩
theorem LF.trans {t : Nat} {M M1 M2 : MoT} (h1 : LF t M M1) (h2 : LF t M1 M2) : LF t M M2 := by
  obtain ⟨_, _, _, _, rfl, b1, c1⟩ := h1
  obtain ⟨fs, fb, fv, fm, rfl, b2, c2⟩ := h2
  exact ⟨fs, fb, fv, fm, rfl, fun p e hp h => b2 p e hp (b1 p e hp h), fun q hq => (c2 q hq).trans (c1 q hq)⟩
theorem LF.cp {M : MoT} {a b t : Nat} (h1 : 100 * t ≤ b) (h2 : b < 100 * t + 100) : LF t M (cpM M a b) := ⟨_, _, _, m_many M, rfl, fun p e hp h => h.cp_ne (by omega), fun _ _ => rfl⟩
theorem LF.names {t q : Nat} {M M' : MoT} {l : List Ent} (h : LF t M M') (hq : q ≠ t) (hn : namesM M q l) : namesM M' q l := by
  obtain ⟨fs, fb, fv, fm, rfl, h2, h3⟩ := h
  exact ⟨hn.1, (h3 q hq).trans hn.2.1, fun k hk => h2 (100 * q + k) (ent l k) (by have := hn.1; omega) (hn.2.2 k hk)⟩
def insL (l : List Ent) (k : Nat) (e : Ent) : List Ent := l.take k ++ e :: l.drop k
theorem insL_len (l : List Ent) (k : Nat) (e : Ent) : (insL l k e).length = l.length + 1 := by
  unfold insL
  rw [List.length_append, List.length_cons, List.length_take, List.length_drop]
  omega
theorem ent_ins {l : List Ent} {k : Nat} {e : Ent} (hk : k ≤ l.length) (q : Nat) : ent (insL l k e) q = if q < k then ent l q else if q = k then e else ent l (q - 1) := by
  unfold ent insL
  rw [List.getD_eq_getElem?_getD, List.getD_eq_getElem?_getD, List.getD_eq_getElem?_getD]
  by_cases h1 : q < k
  · rw [if_pos h1, List.getElem?_append_left (by rw [List.length_take]; omega), List.getElem?_take_of_lt h1]
  · rw [if_neg h1, List.getElem?_append_right (by rw [List.length_take]; omega), List.length_take, Nat.min_eq_left hk]
    by_cases h2 : q = k
    · rw [if_pos h2, show q - k = 0 by omega]; rfl
    · rw [if_neg h2, show q - k = (q - k - 1) + 1 by omega, List.getElem?_cons_succ, List.getElem?_drop, show k + (q - k - 1) = q - 1 by omega]
theorem LF.mo_r {t : Nat} {M M' : MoT} (h : LF t M M') : mo_r M' = mo_r M := by obtain ⟨_, _, _, _, rfl, -, -⟩ := h; rfl
theorem LF.cur {t : Nat} {M M' : MoT} {cur : List Nat} (h : LF t M M') (hc : curM M cur) : curM M' cur := by obtain ⟨_, _, _, _, rfl, -, -⟩ := h; exact hc
def insM (M : MoT) (t k n : Nat) (fb : Nat → Int32) (v : Int64) (c : Int32) : MoT := m_many_ (m_value_ (m_bytes_ (m_size_ M (upd (m_size M) (100 * t + k) (nI n))) fb) (vp_updL (m_value M) (100 * t + k) v)) (upd (m_many M) t c)
theorem insM_ne {M : MoT} {t k n p : Nat} {fb : Nat → Int32} {v : Int64} {c : Int32} {e : Ent} (hfb : ∀ i, i < 24 * (100 * t + k) ∨ 24 * (100 * t + k) + n ≤ i → fb i = m_bytes M i) (hn : n ≤ 24) (hp : p ≠ 100 * t + k) (h : entP M p e) : entP (insM M t k n fb v c) p e := by
  refine ⟨h.1, ⟨?_, fun i hi => ?_⟩, ?_⟩
  · show upd (m_size M) (100 * t + k) (nI n) p = _
    rw [pk_un hp]; exact h.2.1.1
  · have := h.1.2.1
    show fb (24 * p + i) = _
    rw [hfb _ (by omega)]; exact h.2.1.2 i hi
  · show vp_updL (m_value M) (100 * t + k) v p = _
    rw [pk_uLn hp]; exact h.2.2
theorem insM_names {M : MoT} {t k : Nat} {fb : Nat → Int32} {v : Int64} {cur : List Nat} {ls : List Ent} (hc0 : okN cur) (hk : k ≤ ls.length) (hl : ls.length < 100) (hfb : ∀ i, i < 24 * (100 * t + k) ∨ 24 * (100 * t + k) + cur.length ≤ i → fb i = m_bytes M i) (hfc : ∀ i, i < cur.length → fb (24 * (100 * t + k) + i) = nI (cur.getD i 0))
    (h1 : ∀ q, q < k → q < ls.length → entP M (100 * t + q) (ent ls q)) (h2 : ∀ q, k < q → q ≤ ls.length → entP M (100 * t + q) (ent ls (q - 1))) : namesM (insM M t k cur.length fb v (nI (ls.length + 1))) t (insL ls k (cur, v)) ∧ LF t M (insM M t k cur.length fb v (nI (ls.length + 1))) := by
  refine ⟨namesM_iff.mpr ⟨by rw [insL_len]; omega, ?_, fun q hq => ?_⟩, _, _, _, _, rfl, fun p e hp h => insM_ne hfb hc0.2.1 (by omega) h, fun q hq => pk_un hq⟩
  · show upd (m_many M) t _ t = _
    rw [pk_us, insL_len]
  · rw [insL_len] at hq
    rw [ent_ins hk]
    by_cases g1 : q < k
    · rw [if_pos g1]; exact insM_ne hfb hc0.2.1 (by omega) (h1 q g1 (by omega))
    · rw [if_neg g1]
      by_cases g2 : q = k
      · rw [if_pos g2, g2]
        exact ⟨hc0, ⟨pk_us, hfc⟩, pk_uLs⟩
      · rw [if_neg g2]; exact insM_ne hfb hc0.2.1 (by omega) (h2 q (by omega) (by omega))
set_option maxRecDepth 100000 in
set_option maxHeartbeats 400000 in
theorem c_M_insert {l : Launch} {G : Gx} {S : PS} {M : MoT} {x : Nat} (hx : MoOk S M x) {t k : Nat} {v : Int64} {ls : List Ent} {cur : List Nat} (ht : t < 12) (hk : k ≤ ls.length) (hl100 : ls.length < 100) (hl : namesM M t ls) (hc : curM M cur) (hc0 : okN cur) : Ct l yX11_insert cX11_insert 6 (Option.none : Option Jvm.ClassFile.FieldType) rm_X11_insert G [.ref x, .int (nI t), .int (nI k), .long v] (mo_ S M) (fun r S' => ∃ M', r = none ∧ S' = mo_ S M' ∧ LF t M M' ∧ namesM M' t (insL ls k (cur, v))) := by
  obtain ⟨q_many, r_many, k_many⟩ := hx.2 3 (by decide)
  obtain ⟨q_size, r_size, k_size⟩ := hx.2 10 (by decide)
  obtain ⟨q_bytes, r_bytes, k_bytes⟩ := hx.2 11 (by decide)
  obtain ⟨q_name, r_name, k_name⟩ := hx.2 13 (by decide)
  obtain ⟨q_value, r_value, k_value⟩ := hx.2 12 (by decide)
  have hcl := hc0.2.1
  refine Ct.mk RX11 "insert" hy_X11_insert (Nat.le_of_ble_eq_true rfl) (fun X hX C => ?_)
  change Go X G _ 6 0 0 (mo_ S M) 0 [(0, .ref x), (1, .int (nI t)), (2, .int (nI k)), (3, .long v)] []
  refine g_aload_n 0 0 C dX11_insert_0 rfl rfl ?_
  refine gr_m_many C dX11_insert_1 hx.1 wF_X11_23 r_many ?_
  refine g_iload_n 1 1 C dX11_insert_4 rfl rfl ?_
  refine ga_m_many C dX11_insert_5 k_many (by omega) ?_
  refine g_topi (hl.2.1) ?_
  refine g_istore (lv' := [(5, .int (nI (ls.length))), (0, .ref x), (1, .int (nI t)), (2, .int (nI k)), (3, .long v)]) C dX11_insert_6 (by decide) rfl ?_
  have lp : ∀ (n_ : Nat) (j : Nat) (M1 : MoT), j - k < n_ → (k ≤ j ∧ j ≤ ls.length ∧ LF t M M1 ∧ m_many M1 t = nI ls.length ∧ (∀ q, q < j → q < ls.length → entP M1 (100 * t + q) (ent ls q)) ∧ ∀ q, j < q → q ≤ ls.length → entP M1 (100 * t + q) (ent ls (q - 1))) → Go X G (Qe X G (fun r S' => ∃ M', r = none ∧ S' = mo_ S M' ∧ LF t M M' ∧ namesM M' t (insL ls k (cur, v))) rm_X11_insert.cells rm_X11_insert.slots) 6 0 0 (mo_ S M1) 8 [(5, .int (nI j)), (0, .ref x), (1, .int (nI t)), (2, .int (nI k)), (3, .long v)] [] := by
    intro n_
    induction n_ with
    | zero => intro j M1 hm_; exact absurd hm_ (Nat.not_lt_zero _)
    | succ n_ ih_ =>
      intro j M1 hm_ hi
      have hx1 := hx.of hi.2.2.1.mo_r
      have hc1 := hi.2.2.1.cur hc
      obtain ⟨q_many, r_many, k_many⟩ := hx1.2 3 (by decide)
      obtain ⟨q_size, r_size, k_size⟩ := hx1.2 10 (by decide)
      obtain ⟨q_bytes, r_bytes, k_bytes⟩ := hx1.2 11 (by decide)
      obtain ⟨q_name, r_name, k_name⟩ := hx1.2 13 (by decide)
      obtain ⟨q_value, r_value, k_value⟩ := hx1.2 12 (by decide)
      refine g_iload 0 C dX11_insert_8 rfl ?_
      refine g_iload_n 3 2 C dX11_insert_10 rfl rfl ?_
      refine g_ncmp_le 32 (by omega) (by omega) C dX11_insert_11 (by decide) (fun c11 => ?_) (fun c11 => ?_)
      · refine g_aload_n 1 0 C dX11_insert_32 rfl rfl ?_
        refine gr_m_size C dX11_insert_33 hx.1 wF_X11_46 r_size ?_
        refine g_bipush (v := nI 100) C dX11_insert_36 (by decide) ?_
        refine g_iload_n 2 1 C dX11_insert_38 rfl rfl ?_
        refine g_imul C dX11_insert_39 ?_
        refine g_topi (pk_mul _ _ : _ = nI (100 * t)) ?_
        refine g_iload_n 3 2 C dX11_insert_40 rfl rfl ?_
        refine g_iadd C dX11_insert_41 ?_
        refine g_topi (nI_add _ _ : _ = nI (100 * t + k)) ?_
        refine g_aload_n 1 0 C dX11_insert_42 rfl rfl ?_
        refine gf_m_length C dX11_insert_43 hx.1 wF_X11_59 ?_
        refine g_topi (hc1.1) ?_
        refine gs_m_size C dX11_insert_46 k_size (by omega) ?_
        refine g_iconst (v := nI 0) C dX11_insert_47 (by decide) ?_
        refine g_istore (lv' := [(5, .int (nI 0)), (0, .ref x), (1, .int (nI t)), (2, .int (nI k)), (3, .long v)]) C dX11_insert_48 (by decide) rfl ?_
        have lp2 : ∀ (n_ : Nat) (i : Nat) (fb : Nat → Int32), cur.length - i < n_ → (i ≤ cur.length ∧ (∀ q, q < i → fb (24 * (100 * t + k) + q) = nI (cur.getD q 0)) ∧ ∀ q, q < 24 * (100 * t + k) ∨ 24 * (100 * t + k) + i ≤ q → fb q = m_bytes M1 q) → Go X G (Qe X G (fun r S' => ∃ M', r = none ∧ S' = mo_ S M' ∧ LF t M M' ∧ namesM M' t (insL ls k (cur, v))) rm_X11_insert.cells rm_X11_insert.slots) 6 0 0 (mo_ S (m_bytes_ (m_size_ M1 (upd (m_size M1) (100 * t + k) (nI cur.length))) fb)) 50 [(5, .int (nI i)), (0, .ref x), (1, .int (nI t)), (2, .int (nI k)), (3, .long v)] [] := by
          intro n_
          induction n_ with
          | zero => intro i fb hm_; exact absurd hm_ (Nat.not_lt_zero _)
          | succ n_ ih_ =>
            intro i fb hm_ hb
            refine g_iload 0 C dX11_insert_50 rfl ?_
            refine g_aload_n 1 0 C dX11_insert_52 rfl rfl ?_
            refine gf_m_length C dX11_insert_53 hx.1 wF_X11_59 ?_
            refine g_topi (hc1.1) ?_
            refine g_ncmp_ge 89 (by omega) (by omega) C dX11_insert_56 (by decide) (fun c56 => ?_) (fun c56 => ?_)
            · refine g_aload_n 1 0 C dX11_insert_89 rfl rfl ?_
              refine gr_m_value C dX11_insert_90 hx.1 wF_X11_52 r_value ?_
              refine g_bipush (v := nI 100) C dX11_insert_93 (by decide) ?_
              refine g_iload_n 2 1 C dX11_insert_95 rfl rfl ?_
              refine g_imul C dX11_insert_96 ?_
              refine g_topi (pk_mul _ _ : _ = nI (100 * t)) ?_
              refine g_iload_n 3 2 C dX11_insert_97 rfl rfl ?_
              refine g_iadd C dX11_insert_98 ?_
              refine g_topi (nI_add _ _ : _ = nI (100 * t + k)) ?_
              refine g_lload_n 4 3 C dX11_insert_99 rfl rfl ?_
              refine gs_m_value C dX11_insert_100 k_value (by omega) ?_
              refine g_aload_n 1 0 C dX11_insert_101 rfl rfl ?_
              refine gr_m_many C dX11_insert_102 hx.1 wF_X11_23 r_many ?_
              refine g_iload_n 2 1 C dX11_insert_105 rfl rfl ?_
              refine g_dup2_11 C dX11_insert_106 rfl rfl ?_
              refine ga_m_many C dX11_insert_107 k_many (by omega) ?_
              refine g_topi (hi.2.2.2.1) ?_
              refine g_iconst (v := nI 1) C dX11_insert_108 (by decide) ?_
              refine g_iadd C dX11_insert_109 ?_
              refine g_topi (nI_add _ _ : _ = nI (ls.length + 1)) ?_
              refine gs_m_many C dX11_insert_110 k_many (by omega) ?_
              exact g_vret C dX11_insert_111 (by decide) (by decide) ⟨insM M1 t k cur.length fb v (nI (ls.length + 1)), rfl, rfl, hi.2.2.1.trans (insM_names hc0 hk (by omega) (fun q hq => hb.2.2 q (by omega)) (fun q hq => hb.2.1 q (by omega)) (fun q h1 h2 => hi.2.2.2.2.1 q (by omega) h2) (fun q h1 h2 => hi.2.2.2.2.2 q (by omega) h2)).2, (insM_names hc0 hk (by omega) (fun q hq => hb.2.2 q (by omega)) (fun q hq => hb.2.1 q (by omega)) (fun q h1 h2 => hi.2.2.2.2.1 q (by omega) h2) (fun q h1 h2 => hi.2.2.2.2.2 q (by omega) h2)).1⟩
            · refine g_aload_n 1 0 C dX11_insert_59 rfl rfl ?_
              refine gr_m_bytes C dX11_insert_60 hx.1 wF_X11_49 r_bytes ?_
              refine g_bipush (v := nI 24) C dX11_insert_63 (by decide) ?_
              refine g_bipush (v := nI 100) C dX11_insert_65 (by decide) ?_
              refine g_iload_n 2 1 C dX11_insert_67 rfl rfl ?_
              refine g_imul C dX11_insert_68 ?_
              refine g_topi (pk_mul _ _ : _ = nI (100 * t)) ?_
              refine g_iload_n 3 2 C dX11_insert_69 rfl rfl ?_
              refine g_iadd C dX11_insert_70 ?_
              refine g_topi (nI_add _ _ : _ = nI (100 * t + k)) ?_
              refine g_imul C dX11_insert_71 ?_
              refine g_topi (pk_mul _ _ : _ = nI (24 * (100 * t + k))) ?_
              refine g_iload 0 C dX11_insert_72 rfl ?_
              refine g_iadd C dX11_insert_74 ?_
              refine g_topi (nI_add _ _ : _ = nI (24 * (100 * t + k) + i)) ?_
              refine g_aload_n 1 0 C dX11_insert_75 rfl rfl ?_
              refine gr_m_name C dX11_insert_76 hx.1 wF_X11_56 r_name ?_
              refine g_iload 0 C dX11_insert_79 rfl ?_
              refine ga_m_name C dX11_insert_81 k_name (by omega) ?_
              refine g_topi (hc1.2 i (by omega)) ?_
              refine gs_m_bytes C dX11_insert_82 k_bytes (by omega) ?_
              refine g_iinc (v := nI (i + 1)) (lv' := [(5, .int (nI (i + 1))), (0, .ref x), (1, .int (nI t)), (2, .int (nI k)), (3, .long v)]) 0 C dX11_insert_83 rfl (nI_add _ 1) (by decide) rfl ?_
              refine g_goto 50 C dX11_insert_86 (by decide) ?_
              exact ih_ (i + 1) _ (by omega) ⟨by omega, fun q hq => by
                by_cases e : q = i
                · rw [e]; exact pk_us
                · exact (pk_un (by omega)).trans (hb.2.1 q (by omega)), fun q hq => (pk_un (by omega)).trans (hb.2.2 q (by omega))⟩
        exact lp2 (cur.length + 1) 0 (m_bytes M1) (by omega) ⟨by omega, fun q hq => absurd hq (Nat.not_lt_zero _), fun q _ => rfl⟩
      · refine g_aload_n 1 0 C dX11_insert_14 rfl rfl ?_
        refine g_iload_n 2 1 C dX11_insert_15 rfl rfl ?_
        refine g_iload 0 C dX11_insert_16 rfl ?_
        refine g_iconst (v := nI 1) C dX11_insert_18 (by decide) ?_
        refine g_isub C dX11_insert_19 ?_
        refine g_topi (pk_sub (by omega) : _ = nI (j - 1)) ?_
        refine g_iload_n 2 1 C dX11_insert_20 rfl rfl ?_
        refine g_iload 0 C dX11_insert_21 rfl ?_
        refine g_callV (As := [.int (nI t), .int (nI (j - 1)), .int (nI t), .int (nI j)]) (rest := []) C dX11_insert_23 (c_M_copy hx1 ht (by omega) ht (by omega) (by omega)) wC_X11_copy wM_X11_119 wI_X11_copy wS_X11_copy wN_X11 (kne hx.1) (pf_11 hx.1) rfl hd_X11_copy ⟨by decide, by decide, by decide, by decide⟩ (Nat.le_of_ble_eq_true rfl) (fun r_ S_ h_ => ?_)
        obtain ⟨rfl, rfl⟩ := h_
        change Go X G _ 6 _ _ (mo_ S (cpM M1 (100 * t + (j - 1)) (100 * t + j))) 26 [(5, .int (nI j)), (0, .ref x), (1, .int (nI t)), (2, .int (nI k)), (3, .long v)] []
        refine g_iinc (v := nI (j - 1)) (lv' := [(5, .int (nI (j - 1))), (0, .ref x), (1, .int (nI t)), (2, .int (nI k)), (3, .long v)]) 0 C dX11_insert_26 rfl (sb_m1 (by omega)) (by decide) rfl ?_
        refine g_goto 8 C dX11_insert_29 (by decide) ?_
        exact ih_ (j - 1) _ (by omega) ⟨by omega, by omega, hi.2.2.1.trans (LF.cp (by omega) (by omega)), hi.2.2.2.1, fun q h1 h2 => (hi.2.2.2.2.1 q (by omega) h2).cp_ne (by omega), fun q h1 h2 => by
          by_cases e : q = j
          · rw [e]; exact (hi.2.2.2.2.1 (j - 1) (by omega) (by omega)).cp_to
          · exact (hi.2.2.2.2.2 q (by omega) h2).cp_ne (by omega)⟩
  exact lp (ls.length + 1) ls.length M (by omega) ⟨by omega, by omega, LF.refl t M, hl.2.1, fun q h1 h2 => hl.2.2 q h2, fun q h1 h2 => absurd h1 (by omega)⟩
