/-- a name on the tape, and a value there -/
def nmAt (tp : List Nat) (i n : Nat) : List Nat := (List.range n).map fun q => tp.getD (i + q) 0
theorem nmAt_len (tp : List Nat) (i n : Nat) : (nmAt tp i n).length = n := by unfold nmAt; rw [List.length_map, List.length_range]
theorem nmAt_get {tp : List Nat} {i n q : Nat} (h : q < n) : (nmAt tp i n).getD q 0 = tp.getD (i + q) 0 := by
  unfold nmAt
  rw [List.getD_eq_getElem?_getD, List.getElem?_map, List.getElem?_range h]; rfl
def vlAt (tp : List Nat) (i : Nat) : Nat → Int64
  | 0 => (nI (tp.getD i 0)).toInt8.toInt32.toInt64
  | k + 1 => (vlAt tp i k <<< ((nI 8).toInt64 &&& 63)) ||| (nI (tp.getD (i + (k + 1)) 0)).toInt64
def ldOk (tp : List Nat) (e w i : Nat) (l : List Ent) : Prop := i < e ∧ 1 ≤ tp.getD i 0 ∧ tp.getD i 0 ≤ 24 ∧ i + 1 + tp.getD i 0 + w ≤ e ∧ (∀ q, q < tp.getD i 0 → tp.getD (i + 1 + q) 0 ≠ 0) ∧ (l.length = 0 ∨ less (nm l (l.length - 1)) (nmAt tp (i + 1) (tp.getD i 0)) = true)
noncomputable def ldS (tp : List Nat) (w e : Nat) : Nat → Option (Nat × List Ent)
  | 0 => some (2, [])
  | k + 1 => match ldS tp w e k with
    | none => none
    | some (i, l) => @ite _ (ldOk tp e w i l) (Classical.propDecidable _) (some (i + 1 + tp.getD i 0 + w, l ++ [(nmAt tp (i + 1) (tp.getD i 0), vlAt tp (i + 1 + tp.getD i 0) (w - 1))])) none
theorem ld_no {tp : List Nat} {w e k i : Nat} {l : List Ent} (h : ldS tp w e k = some (i, l)) (h2 : ¬ ldOk tp e w i l) : ldS tp w e (k + 1) = none := by
  show (match ldS tp w e k with | none => none | some (i, l) => _ : Option (Nat × List Ent)) = none
  rw [h]
  exact if_neg h2
theorem ld_go {tp : List Nat} {w e k i : Nat} {l : List Ent} (h : ldS tp w e k = some (i, l)) (h2 : ldOk tp e w i l) : ldS tp w e (k + 1) = some (i + 1 + tp.getD i 0 + w, l ++ [(nmAt tp (i + 1) (tp.getD i 0), vlAt tp (i + 1 + tp.getD i 0) (w - 1))]) := by
  show (match ldS tp w e k with | none => none | some (i, l) => _ : Option (Nat × List Ent)) = _
  rw [h]
  exact if_pos h2
theorem ld_none {tp : List Nat} {w e k : Nat} (h : ldS tp w e k = none) : ∀ d, ldS tp w e (k + d) = none := by
  intro d
  induction d with
  | zero => exact h
  | succ d ih =>
    show (match ldS tp w e (k + d) with | none => none | some (i, l) => _ : Option (Nat × List Ent)) = none
    rw [ih]
noncomputable def parseN (tp : List Nat) : Option (List Ent) :=
  if 6 ≤ tp.length ∧ 1 ≤ tp.getD 0 0 ∧ tp.getD 0 0 ≤ 5 ∧ 1 ≤ tp.getD 1 0 ∧ tp.getD 1 0 ≤ 100 ∧ sumB tp tp.length % 256 = 0 ∧ (tp.getD (tp.length - 2) 0 = 1 ∨ tp.getD (tp.length - 2) 0 = 2 ∨ tp.getD (tp.length - 2) 0 = 4 ∨ tp.getD (tp.length - 2) 0 = 8) then
    match ldS tp (tp.getD (tp.length - 2) 0) (tp.length - 2) (tp.getD 1 0) with
    | some (i, l) => if i = tp.length - 2 ∧ widthN l = tp.getD (tp.length - 2) 0 ∧ fitsN l (tp.getD 0 0) = true then some l else none
    | none => none
  else none
theorem parse_no {tp : List Nat} {w k : Nat} (hw : w = tp.getD (tp.length - 2) 0) (hk : k ≤ tp.getD 1 0) (h : ldS tp w (tp.length - 2) k = none) : parseN tp = none := by
  unfold parseN
  rw [hw] at h
  have h2 := ld_none h (tp.getD 1 0 - k)
  rw [show k + (tp.getD 1 0 - k) = tp.getD 1 0 by omega] at h2
  rw [h2]
  split <;> rfl
theorem parse_end {tp : List Nat} {w i : Nat} {l : List Ent} (hw : w = tp.getD (tp.length - 2) 0) (hW : w = 1 ∨ w = 2 ∨ w = 4 ∨ w = 8) (h6 : 6 ≤ tp.length ∧ 1 ≤ tp.getD 0 0 ∧ tp.getD 0 0 ≤ 5 ∧ 1 ≤ tp.getD 1 0 ∧ tp.getD 1 0 ≤ 100 ∧ sumB tp tp.length % 256 = 0) (h : ldS tp w (tp.length - 2) (tp.getD 1 0) = some (i, l)) : parseN tp = if i = tp.length - 2 ∧ widthN l = w ∧ fitsN l (tp.getD 0 0) = true then some l else none := by
  unfold parseN
  rw [← hw, if_pos ⟨h6.1, h6.2.1, h6.2.2.1, h6.2.2.2.1, h6.2.2.2.2.1, h6.2.2.2.2.2, hW⟩, h]
theorem insL_end (l : List Ent) (e : Ent) : insL l l.length e = l ++ [e] := by unfold insL; rw [List.take_length, List.drop_length]
noncomputable def A_load (Z : ZT) (p : Int32) : Int32 := if p < 0 ∨ nI 10 ≤ p then -2 else match parseN (zT Z) with
  | none => -5
  | some l => nI l.length
noncomputable def N_load (Z : ZT) (p : Int32) : ZT := if p < 0 ∨ nI 10 ≤ p then Z else match parseN (zT Z) with
  | none => zT_ Z []
  | some l => newZ (zT_ Z []) p (bookT ((zT Z).getD 0 0) l)
theorem cur_ok {tp : List Nat} {i len q : Nat} {fn : Nat → Int32} (hq : ∀ u, u < q → fn u = nI (tp.getD (i + u) 0) ∧ tp.getD (i + u) 0 ≠ 0) (h1 : q = len) (h2 : 1 ≤ len ∧ len ≤ 24) (h255 : ∀ i, i < tp.length → tp.getD i 0 ≤ 255) (hb : i + len ≤ tp.length) : okN (nmAt tp i len) := by
  refine ⟨by rw [nmAt_len]; exact h2.1, by rw [nmAt_len]; exact h2.2, fun u hu => ?_⟩
  rw [nmAt_len] at hu
  rw [nmAt_get hu]
  have := (hq u (by omega)).2
  have := h255 (i + u) (by omega)
  omega
set_option maxRecDepth 100000 in
set_option maxHeartbeats 4000000 in
theorem c_M_isImage {l : Launch} {G : Gx} {S : PS} {M : MoT} {x : Nat} (hx : MoOk S M x) {t : Nat} {tp : List Nat} (ht : t < 12) (hf : tpF (m_tape M) tp) (h255 : ∀ i, i < tp.length → tp.getD i 0 ≤ 255) (hlen0 : tp.length ≤ 1000) (hn : namesM M t []) : Ct l yX11_isImage cX11_isImage 10 (Option.some Jvm.ClassFile.FieldType.boolean) rm_X11_isImage G [.ref x, .int (nI t), .int (nI (tp.length))] (mo_ S M) (fun r S' => ∃ M', r = some (.int (bI (parseN tp).isSome)) ∧ S' = mo_ S M' ∧ NF t M M' ∧ ∀ l, parseN tp = some l → namesM M' t l) := by
  obtain ⟨q_tape, r_tape, k_tape⟩ := hx.2 0 (by decide)
  obtain ⟨q_name, r_name, k_name⟩ := hx.2 13 (by decide)
  refine Ct.mk RX11 "isImage" hy_X11_isImage (Nat.le_of_ble_eq_true rfl) (fun X hX C => ?_)
  change Go X G _ 10 0 0 (mo_ S M) 0 [(0, .ref x), (1, .int (nI t)), (2, .int (nI (tp.length)))] []
  have tail : ∀ (n_ : Nat) (w s : Nat), 0 < n_ → (w = tp.getD (tp.length - 2) 0 ∧ (w = 1 ∨ w = 2 ∨ w = 4 ∨ w = 8) ∧ (6 ≤ tp.length ∧ 1 ≤ tp.getD 0 0 ∧ tp.getD 0 0 ≤ 5 ∧ 1 ≤ tp.getD 1 0 ∧ tp.getD 1 0 ≤ 100 ∧ sumB tp tp.length % 256 = 0)) → Go X G (Qe X G (fun r S' => ∃ M', r = some (.int (bI (parseN tp).isSome)) ∧ S' = mo_ S M' ∧ NF t M M' ∧ ∀ l, parseN tp = some l → namesM M' t l) rm_X11_isImage.cells rm_X11_isImage.slots) 10 0 0 (mo_ S M) 121 [(4, .int (nI w)), (3, .int (nI s)), (0, .ref x), (1, .int (nI t)), (2, .int (nI (tp.length)))] [] := by
    intro n_
    induction n_ with
    | zero => intro w s hm_; exact absurd hm_ (Nat.not_lt_zero _)
    | succ n_ ih_ =>
      intro w s hm_ ⟨hw, hW, h6⟩
      have hb0 := h255 0 (by omega)
      have hb1 := h255 1 (by omega)
      refine g_iconst (v := nI 2) C dX11_isImage_121 (by decide) ?_
      refine g_istore (lv' := [(5, .int (nI 2)), (4, .int (nI w)), (3, .int (nI s)), (0, .ref x), (1, .int (nI t)), (2, .int (nI (tp.length)))]) C dX11_isImage_122 (by decide) rfl ?_
      refine g_iconst (v := nI 0) C dX11_isImage_124 (by decide) ?_
      refine g_istore (lv' := [(6, .int (nI 0)), (5, .int (nI 2)), (4, .int (nI w)), (3, .int (nI s)), (0, .ref x), (1, .int (nI t)), (2, .int (nI (tp.length)))]) C dX11_isImage_125 (by decide) rfl ?_
      have lp6 : ∀ (n_ : Nat) (i : Nat) (l : List Ent) (M3 : MoT), tp.getD 1 0 - l.length < n_ → (l.length ≤ tp.getD 1 0 ∧ ldS tp w (tp.length - 2) l.length = some (i, l) ∧ 2 ≤ i ∧ i ≤ (tp.length - 2) ∧ NF t M M3 ∧ namesM M3 t l) → Go X G (Qe X G (fun r S' => ∃ M', r = some (.int (bI (parseN tp).isSome)) ∧ S' = mo_ S M' ∧ NF t M M' ∧ ∀ l, parseN tp = some l → namesM M' t l) rm_X11_isImage.cells rm_X11_isImage.slots) 10 0 0 (mo_ S M3) 127 [(6, .int (nI (l.length))), (5, .int (nI i)), (4, .int (nI w)), (3, .int (nI s)), (0, .ref x), (1, .int (nI t)), (2, .int (nI (tp.length)))] [] := by
        intro n_
        induction n_ with
        | zero => intro i l M3 hm_; exact absurd hm_ (Nat.not_lt_zero _)
        | succ n_ iho_ =>
          intro i l M3 hm_ h3
          obtain ⟨hl1, hld, hi2, hie, hnf, hn3⟩ := h3
          have hx3 := hx.of hnf.mo_r
          have hf3 : tpF (m_tape M3) tp := by rw [hnf.tape.1]; exact hf
          obtain ⟨q_tape, r_tape, k_tape⟩ := hx3.2 0 (by decide)
          obtain ⟨q_name, r_name, k_name⟩ := hx3.2 13 (by decide)
          refine g_iload 0 C dX11_isImage_127 rfl ?_
          refine g_aload_n 4 0 C dX11_isImage_129 rfl rfl ?_
          refine gr_m_tape C dX11_isImage_130 hx.1 wF_X11_7 r_tape ?_
          refine g_iconst (v := nI 1) C dX11_isImage_133 (by decide) ?_
          refine ga_m_tape C dX11_isImage_134 k_tape (by omega) ?_
          refine g_topi (hf3 _ (by omega)) ?_
          refine g_ncmp_ge 342 (by omega) (by omega) C dX11_isImage_135 (by decide) (fun c135 => ?_) (fun c135 => ?_)
          · have e1 : l.length = tp.getD 1 0 := by omega
            have hpe := parse_end hw hW h6 (by rw [← e1]; exact hld)
            have hw8 := widthN_8 l
            refine g_iload 1 C dX11_isImage_342 rfl ?_
            refine g_iload_n 6 2 C dX11_isImage_344 rfl rfl ?_
            refine g_iconst (v := nI 2) C dX11_isImage_345 (by decide) ?_
            refine g_isub C dX11_isImage_346 ?_
            refine g_topi (pk_sub (by omega) : _ = nI (tp.length - 2)) ?_
            refine g_ncmp_ne 378 (by omega) (by omega) C dX11_isImage_347 (by decide) (fun c347 => ?_) (fun c347 => ?_)
            · have e9 : parseN tp = none := by rw [hpe]; exact if_neg (fun z => c347 z.1)
              refine g_iconst (v := nI 0) C dX11_isImage_378 (by decide) ?_
              exact g_zret C dX11_isImage_379 (by decide) (by decide) (Or.inl rfl) (⟨M3, by rw [e9]; rfl, rfl, hnf, fun l h => by rw [e9] at h; cases h⟩)
            · refine g_aload_n 4 0 C dX11_isImage_350 rfl rfl ?_
              refine g_iload_n 5 1 C dX11_isImage_351 rfl rfl ?_
              refine g_callV (As := [.int (nI t)]) (rest := []) C dX11_isImage_352 (c_M_width hx3 ht hn3) wC_X11_width wM_X11_211 wI_X11_width wS_X11_width wN_X11 (kne hx.1) (pf_11 hx.1) rfl hd_X11_width ⟨by decide, by decide, by decide, by decide⟩ (Nat.le_of_ble_eq_true rfl) (fun r_ S_ h_ => ?_)
              obtain ⟨rfl, rfl⟩ := h_
              change Go X G _ 10 _ _ (mo_ S M3) 355 [(6, .int (nI (l.length))), (5, .int (nI i)), (4, .int (nI w)), (3, .int (nI s)), (0, .ref x), (1, .int (nI t)), (2, .int (nI (tp.length)))] [.int (nI (widthN l))]
              refine g_iload 2 C dX11_isImage_355 rfl ?_
              refine g_ncmp_ne 378 (by omega) (by omega) C dX11_isImage_357 (by decide) (fun c357 => ?_) (fun c357 => ?_)
              · have e9 : parseN tp = none := by rw [hpe]; exact if_neg (fun z => c357 z.2.1)
                refine g_iconst (v := nI 0) C dX11_isImage_378 (by decide) ?_
                exact g_zret C dX11_isImage_379 (by decide) (by decide) (Or.inl rfl) (⟨M3, by rw [e9]; rfl, rfl, hnf, fun l h => by rw [e9] at h; cases h⟩)
              · refine g_aload_n 4 0 C dX11_isImage_360 rfl rfl ?_
                refine g_iload_n 5 1 C dX11_isImage_361 rfl rfl ?_
                refine g_aload_n 4 0 C dX11_isImage_362 rfl rfl ?_
                refine gr_m_tape C dX11_isImage_363 hx.1 wF_X11_7 r_tape ?_
                refine g_iconst (v := nI 0) C dX11_isImage_366 (by decide) ?_
                refine ga_m_tape C dX11_isImage_367 k_tape (by omega) ?_
                refine g_topi (hf3 _ (by omega)) ?_
                refine g_callV (As := [.int (nI t), .int (nI (tp.getD 0 0))]) (rest := []) C dX11_isImage_368 (c_M_fits hx3 ht hn3 (by omega)) wC_X11_fits wM_X11_169 wI_X11_fits wS_X11_fits wN_X11 (kne hx.1) (pf_11 hx.1) rfl hd_X11_fits ⟨by decide, by decide, by decide, by decide⟩ (Nat.le_of_ble_eq_true rfl) (fun r_ S_ h_ => ?_)
                obtain ⟨rfl, rfl⟩ := h_
                change Go X G _ 10 _ _ (mo_ S M3) 371 [(6, .int (nI (l.length))), (5, .int (nI i)), (4, .int (nI w)), (3, .int (nI s)), (0, .ref x), (1, .int (nI t)), (2, .int (nI (tp.length)))] [.int (bI (fitsN l (tp.getD 0 0)))]
                refine g_if_eq 378 C dX11_isImage_371 (by decide) (fun c371 => ?_) (fun c371 => ?_)
                · have e9 : parseN tp = none := by rw [hpe]; exact if_neg (fun z => by rw [bI_f c371] at z; exact absurd z.2.2 (by decide))
                  refine g_iconst (v := nI 0) C dX11_isImage_378 (by decide) ?_
                  exact g_zret C dX11_isImage_379 (by decide) (by decide) (Or.inl rfl) (⟨M3, by rw [e9]; rfl, rfl, hnf, fun l h => by rw [e9] at h; cases h⟩)
                · refine g_iconst (v := nI 1) C dX11_isImage_374 (by decide) ?_
                  refine g_goto 379 C dX11_isImage_375 (by decide) ?_
                  exact g_zret C dX11_isImage_379 (by decide) (by decide) (Or.inr rfl) (⟨M3, by rw [hpe, if_pos ⟨c347, c357, bI_t c371⟩]; rfl, rfl, hnf, fun l' h => by rw [hpe, if_pos ⟨c347, c357, bI_t c371⟩] at h; cases h; exact hn3⟩)
          · refine g_iload 1 C dX11_isImage_138 rfl ?_
            refine g_iload_n 6 2 C dX11_isImage_140 rfl rfl ?_
            refine g_iconst (v := nI 2) C dX11_isImage_141 (by decide) ?_
            refine g_isub C dX11_isImage_142 ?_
            refine g_topi (pk_sub (by omega) : _ = nI (tp.length - 2)) ?_
            refine g_ncmp_lt 148 (by omega) (by omega) C dX11_isImage_143 (by decide) (fun c143 => ?_) (fun c143 => ?_)
            · obtain ⟨len, hlen⟩ : ∃ len, len = tp.getD i 0 := ⟨_, rfl⟩
              have hbi := h255 i (by omega)
              rw [← hlen] at hbi
              refine g_aload_n 4 0 C dX11_isImage_148 rfl rfl ?_
              refine g_aload_n 4 0 C dX11_isImage_149 rfl rfl ?_
              refine gr_m_tape C dX11_isImage_150 hx.1 wF_X11_7 r_tape ?_
              refine g_iload 1 C dX11_isImage_153 rfl ?_
              refine ga_m_tape C dX11_isImage_155 k_tape (by omega) ?_
              refine g_topi ((show m_tape M3 i = nI len by rw [hlen]; exact hf3 i (by omega))) ?_
              refine pp_m_length C dX11_isImage_156 hx.1 wF_X11_59 (Or.inl rfl) ?_
              refine g_aload_n 4 0 C dX11_isImage_159 rfl rfl ?_
              refine gf_m_length C dX11_isImage_160 hx.1 wF_X11_59 ?_
              refine g_topi (rfl) ?_
              refine g_iconst (v := nI 1) C dX11_isImage_163 (by decide) ?_
              refine g_ncmp_lt 194 (by omega) (by omega) C dX11_isImage_164 (by decide) (fun c164 => ?_) (fun c164 => ?_)
              · have e9 : parseN tp = none := parse_no (k := l.length + 1) hw (by omega) (ld_no hld (fun z => by
                  unfold ldOk at z
                  rw [← hlen] at z
                  omega))
                refine g_iconst (v := nI 0) C dX11_isImage_194 (by decide) ?_
                exact g_zret C dX11_isImage_195 (by decide) (by decide) (Or.inl rfl) (⟨_, by rw [e9]; rfl, rfl, hnf.trans (NF.nm (fn := m_name M3)), fun l h => by rw [e9] at h; cases h⟩)
              · refine g_aload_n 4 0 C dX11_isImage_167 rfl rfl ?_
                refine gf_m_length C dX11_isImage_168 hx.1 wF_X11_59 ?_
                refine g_topi (rfl) ?_
                refine g_bipush (v := nI 24) C dX11_isImage_171 (by decide) ?_
                refine g_ncmp_gt 194 (by omega) (by omega) C dX11_isImage_173 (by decide) (fun c173 => ?_) (fun c173 => ?_)
                · have e9 : parseN tp = none := parse_no (k := l.length + 1) hw (by omega) (ld_no hld (fun z => by
                    unfold ldOk at z
                    rw [← hlen] at z
                    omega))
                  refine g_iconst (v := nI 0) C dX11_isImage_194 (by decide) ?_
                  exact g_zret C dX11_isImage_195 (by decide) (by decide) (Or.inl rfl) (⟨_, by rw [e9]; rfl, rfl, hnf.trans (NF.nm (fn := m_name M3)), fun l h => by rw [e9] at h; cases h⟩)
                · refine g_iload 1 C dX11_isImage_176 rfl ?_
                  refine g_iconst (v := nI 1) C dX11_isImage_178 (by decide) ?_
                  refine g_iadd C dX11_isImage_179 ?_
                  refine g_topi (nI_add _ _ : _ = nI (i + 1)) ?_
                  refine g_aload_n 4 0 C dX11_isImage_180 rfl rfl ?_
                  refine gf_m_length C dX11_isImage_181 hx.1 wF_X11_59 ?_
                  refine g_topi (rfl) ?_
                  refine g_iadd C dX11_isImage_184 ?_
                  refine g_topi (nI_add _ _ : _ = nI (i + 1 + len)) ?_
                  refine g_iload 2 C dX11_isImage_185 rfl ?_
                  refine g_iadd C dX11_isImage_187 ?_
                  refine g_topi (nI_add _ _ : _ = nI (i + 1 + len + w)) ?_
                  refine g_iload_n 6 2 C dX11_isImage_188 rfl rfl ?_
                  refine g_iconst (v := nI 2) C dX11_isImage_189 (by decide) ?_
                  refine g_isub C dX11_isImage_190 ?_
                  refine g_topi (pk_sub (by omega) : _ = nI (tp.length - 2)) ?_
                  refine g_ncmp_le 196 (by omega) (by omega) C dX11_isImage_191 (by decide) (fun c191 => ?_) (fun c191 => ?_)
                  · refine g_iinc (v := nI (i + 1)) (lv' := [(5, .int (nI (i + 1))), (6, .int (nI (l.length))), (4, .int (nI w)), (3, .int (nI s)), (0, .ref x), (1, .int (nI t)), (2, .int (nI (tp.length)))]) 1 C dX11_isImage_196 rfl (nI_add _ 1) (by decide) rfl ?_
                    refine g_iconst (v := nI 0) C dX11_isImage_199 (by decide) ?_
                    refine g_istore (lv' := [(7, .int (nI 0)), (5, .int (nI (i + 1))), (6, .int (nI (l.length))), (4, .int (nI w)), (3, .int (nI s)), (0, .ref x), (1, .int (nI t)), (2, .int (nI (tp.length)))]) C dX11_isImage_200 (by decide) rfl ?_
                    have lp7 : ∀ (n_ : Nat) (q : Nat) (fn : Nat → Int32), len - q < n_ → (q ≤ len ∧ ∀ u, u < q → fn u = nI (tp.getD (i + 1 + u) 0) ∧ tp.getD (i + 1 + u) 0 ≠ 0) → Go X G (Qe X G (fun r S' => ∃ M', r = some (.int (bI (parseN tp).isSome)) ∧ S' = mo_ S M' ∧ NF t M M' ∧ ∀ l, parseN tp = some l → namesM M' t l) rm_X11_isImage.cells rm_X11_isImage.slots) 10 0 0 (mo_ S (m_name_ (m_length_ M3 (nI len)) fn)) 202 [(7, .int (nI q)), (6, .int (nI (l.length))), (5, .int (nI (i + 1))), (4, .int (nI w)), (3, .int (nI s)), (0, .ref x), (1, .int (nI t)), (2, .int (nI (tp.length)))] [] := by
                      intro n_
                      induction n_ with
                      | zero => intro q fn hm_; exact absurd hm_ (Nat.not_lt_zero _)
                      | succ n_ ih_ =>
                        intro q fn hm_ hq
                        obtain ⟨hq1, hq2⟩ := hq
                        refine g_iload 0 C dX11_isImage_202 rfl ?_
                        refine g_aload_n 5 0 C dX11_isImage_204 rfl rfl ?_
                        refine gf_m_length C dX11_isImage_205 hx.1 wF_X11_59 ?_
                        refine g_topi (rfl) ?_
                        refine g_ncmp_ge 246 (by omega) (by omega) C dX11_isImage_208 (by decide) (fun c208 => ?_) (fun c208 => ?_)
                        · refine g_iload 2 C dX11_isImage_246 rfl ?_
                          refine g_aload_n 5 0 C dX11_isImage_248 rfl rfl ?_
                          refine gf_m_length C dX11_isImage_249 hx.1 wF_X11_59 ?_
                          refine g_topi (rfl) ?_
                          refine g_iadd C dX11_isImage_252 ?_
                          refine g_topi (nI_add _ _ : _ = nI (i + 1 + len)) ?_
                          refine g_istore (lv' := [(5, .int (nI (i + 1 + len))), (7, .int (nI q)), (6, .int (nI (l.length))), (4, .int (nI w)), (3, .int (nI s)), (0, .ref x), (1, .int (nI t)), (2, .int (nI (tp.length)))]) C dX11_isImage_253 (by decide) rfl ?_
                          refine g_iload 2 C dX11_isImage_255 rfl ?_
                          refine g_nif_le 274 (by omega) C dX11_isImage_257 (by decide) (fun c257 => ?_) (fun c257 => ?_)
                          · have hcur : curM (m_name_ (m_length_ M3 (nI len)) fn) (nmAt tp (i + 1) len) := ⟨by rw [nmAt_len], fun u hu => by rw [nmAt_len] at hu; rw [nmAt_get hu]; exact (hq2 u (by omega)).1⟩
                            have hok : okN (nmAt tp (i + 1) len) := cur_ok hq2 (by omega) (by omega) h255 (by omega)
                            have hlO : ldOk tp (tp.length - 2) w i l := ⟨by omega, by rw [← hlen]; omega, by rw [← hlen]; omega, by rw [← hlen]; omega, fun u hu => (hq2 u (by omega)).2, Or.inl (by omega)⟩
                            have hgo := ld_go hld hlO
                            rw [← hlen] at hgo
                            refine g_aload_n 5 0 C dX11_isImage_274 rfl rfl ?_
                            refine gr_m_tape C dX11_isImage_275 hx.1 wF_X11_7 r_tape ?_
                            refine g_iload 0 C dX11_isImage_278 rfl ?_
                            refine ga_m_tape C dX11_isImage_280 k_tape (by omega) ?_
                            refine g_topi (hf3 _ (by omega)) ?_
                            refine g_i2b C dX11_isImage_281 ?_
                            refine g_i2l C dX11_isImage_282 ?_
                            refine g_lstore (lv' := [(7, .long (((nI (tp.getD (i + 1 + len) 0)).toInt8.toInt32).toInt64)), (5, .int (nI (i + 1 + len))), (6, .int (nI (l.length))), (4, .int (nI w)), (3, .int (nI s)), (0, .ref x), (1, .int (nI t)), (2, .int (nI (tp.length)))]) C dX11_isImage_283 (by decide) rfl ?_
                            refine g_iconst (v := nI 1) C dX11_isImage_285 (by decide) ?_
                            refine g_istore (lv' := [(9, .int (nI 1)), (7, .long (((nI (tp.getD (i + 1 + len) 0)).toInt8.toInt32).toInt64)), (5, .int (nI (i + 1 + len))), (6, .int (nI (l.length))), (4, .int (nI w)), (3, .int (nI s)), (0, .ref x), (1, .int (nI t)), (2, .int (nI (tp.length)))]) C dX11_isImage_286 (by decide) rfl ?_
                            have lp9 : ∀ (n_ : Nat) (j : Nat), w - j < n_ → (j + 1 ≤ w) → Go X G (Qe X G (fun r S' => ∃ M', r = some (.int (bI (parseN tp).isSome)) ∧ S' = mo_ S M' ∧ NF t M M' ∧ ∀ l, parseN tp = some l → namesM M' t l) rm_X11_isImage.cells rm_X11_isImage.slots) 10 0 0 (mo_ S (m_name_ (m_length_ M3 (nI len)) fn)) 288 [(9, .int (nI (j + 1))), (7, .long (vlAt tp (i + 1 + len) j)), (6, .int (nI (l.length))), (5, .int (nI (i + 1 + len))), (4, .int (nI w)), (3, .int (nI s)), (0, .ref x), (1, .int (nI t)), (2, .int (nI (tp.length)))] [] := by
                              intro n_
                              induction n_ with
                              | zero => intro j hm_; exact absurd hm_ (Nat.not_lt_zero _)
                              | succ n_ ih_ =>
                                intro j hm_ hj9
                                refine g_iload 0 C dX11_isImage_288 rfl ?_
                                refine g_iload 4 C dX11_isImage_290 rfl ?_
                                refine g_ncmp_ge 320 (by omega) (by omega) C dX11_isImage_292 (by decide) (fun c292 => ?_) (fun c292 => ?_)
                                · have ej : j = w - 1 := by omega
                                  rw [ej]
                                  refine g_iload 3 C dX11_isImage_320 rfl ?_
                                  refine g_iload 4 C dX11_isImage_322 rfl ?_
                                  refine g_iadd C dX11_isImage_324 ?_
                                  refine g_topi (nI_add _ _ : _ = nI (i + 1 + len + w)) ?_
                                  refine g_istore (lv' := [(5, .int (nI (i + 1 + len + w))), (9, .int (nI (w - 1 + 1))), (7, .long (vlAt tp (i + 1 + len) (w - 1))), (6, .int (nI (l.length))), (4, .int (nI w)), (3, .int (nI s)), (0, .ref x), (1, .int (nI t)), (2, .int (nI (tp.length)))]) C dX11_isImage_325 (by decide) rfl ?_
                                  refine g_aload_n 6 0 C dX11_isImage_327 rfl rfl ?_
                                  refine g_iload_n 7 1 C dX11_isImage_328 rfl rfl ?_
                                  refine g_iload 3 C dX11_isImage_329 rfl ?_
                                  refine g_lload 2 C dX11_isImage_331 rfl ?_
                                  refine g_callV (As := [.int (nI t), .int (nI (l.length)), .long (vlAt tp (i + 1 + len) (w - 1))]) (rest := []) C dX11_isImage_333 (c_M_insert (M := (m_name_ (m_length_ M3 (nI len)) fn)) hx3 ht (Nat.le_refl _) (by omega) hn3 hcur hok) wC_X11_insert wM_X11_137 wI_X11_insert wS_X11_insert wN_X11 (kne hx.1) (pf_11 hx.1) rfl hd_X11_insert ⟨by decide, by decide, by decide, by decide⟩ (Nat.le_of_ble_eq_true rfl) (fun r_ S_ h_ => ?_)
                                  obtain ⟨M6, rfl, rfl, hlf, hnn⟩ := h_
                                  change Go X G _ 10 _ _ (mo_ S M6) 336 [(5, .int (nI (i + 1 + len + w))), (9, .int (nI (w - 1 + 1))), (7, .long (vlAt tp (i + 1 + len) (w - 1))), (6, .int (nI (l.length))), (4, .int (nI w)), (3, .int (nI s)), (0, .ref x), (1, .int (nI t)), (2, .int (nI (tp.length)))] []
                                  refine g_iinc (v := nI (l.length + 1)) (lv' := [(6, .int (nI (l.length + 1))), (5, .int (nI (i + 1 + len + w))), (9, .int (nI (w - 1 + 1))), (7, .long (vlAt tp (i + 1 + len) (w - 1))), (4, .int (nI w)), (3, .int (nI s)), (0, .ref x), (1, .int (nI t)), (2, .int (nI (tp.length)))]) 3 C dX11_isImage_336 rfl (nI_add _ 1) (by decide) rfl ?_
                                  refine g_goto 127 C dX11_isImage_339 (by decide) ?_
                                  refine Go.pick (lv' := [(6, .int (nI (l.length + 1))), (5, .int (nI (i + 1 + len + w))), (4, .int (nI w)), (3, .int (nI s)), (0, .ref x), (1, .int (nI t)), (2, .int (nI (tp.length)))]) [0, 1, 4, 5, 6, 7, 8] rfl ?_
                                  rw [insL_end] at hnn
                                  have elen : l.length + 1 = (l ++ [((nmAt tp (i + 1) len), vlAt tp (i + 1 + len) (w - 1))]).length := by rw [List.length_append]; rfl
                                  rw [elen]
                                  exact iho_ _ _ M6 (by rw [← elen]; omega) ⟨by rw [← elen]; omega, by rw [← elen]; exact hgo, by omega, by omega, (hnf.trans (NF.nm (fn := fn) (v := nI len))).trans (NF.lf hlf), hnn⟩
                                · refine g_lload 1 C dX11_isImage_295 rfl ?_
                                  refine g_bipush (v := nI 8) C dX11_isImage_297 (by decide) ?_
                                  refine g_lshl C dX11_isImage_299 ?_
                                  refine g_aload_n 6 0 C dX11_isImage_300 rfl rfl ?_
                                  refine gr_m_tape C dX11_isImage_301 hx.1 wF_X11_7 r_tape ?_
                                  refine g_iload 3 C dX11_isImage_304 rfl ?_
                                  refine g_iload 0 C dX11_isImage_306 rfl ?_
                                  refine g_iadd C dX11_isImage_308 ?_
                                  refine g_topi (nI_add _ _ : _ = nI (i + 1 + len + (j + 1))) ?_
                                  refine ga_m_tape C dX11_isImage_309 k_tape (by omega) ?_
                                  refine g_topi (hf3 _ (by omega)) ?_
                                  refine g_i2l C dX11_isImage_310 ?_
                                  refine g_lor C dX11_isImage_311 ?_
                                  refine g_lstore (lv' := [(7, .long (((vlAt tp (i + 1 + len) j) <<< ((nI 8).toInt64 &&& 63)) ||| ((nI (tp.getD (i + 1 + len + (j + 1)) 0)).toInt64))), (9, .int (nI (j + 1))), (6, .int (nI (l.length))), (5, .int (nI (i + 1 + len))), (4, .int (nI w)), (3, .int (nI s)), (0, .ref x), (1, .int (nI t)), (2, .int (nI (tp.length)))]) C dX11_isImage_312 (by decide) rfl ?_
                                  refine g_iinc (v := nI (j + 1 + 1)) (lv' := [(9, .int (nI (j + 1 + 1))), (7, .long (((vlAt tp (i + 1 + len) j) <<< ((nI 8).toInt64 &&& 63)) ||| ((nI (tp.getD (i + 1 + len + (j + 1)) 0)).toInt64))), (6, .int (nI (l.length))), (5, .int (nI (i + 1 + len))), (4, .int (nI w)), (3, .int (nI s)), (0, .ref x), (1, .int (nI t)), (2, .int (nI (tp.length)))]) 1 C dX11_isImage_314 rfl (nI_add _ 1) (by decide) rfl ?_
                                  refine g_goto 288 C dX11_isImage_317 (by decide) ?_
                                  exact ih_ (j + 1) (by omega) (by omega)
                            refine Go.pick (lv' := [(9, .int (nI 1)), (7, .long (((nI (tp.getD (i + 1 + len) 0)).toInt8.toInt32).toInt64)), (6, .int (nI (l.length))), (5, .int (nI (i + 1 + len))), (4, .int (nI w)), (3, .int (nI s)), (0, .ref x), (1, .int (nI t)), (2, .int (nI (tp.length)))]) [0, 1, 3, 2, 4, 5, 6, 7, 8] rfl ?_
                            exact lp9 (w + 1) 0 (by omega) (by omega)
                          · refine g_aload_n 5 0 C dX11_isImage_260 rfl rfl ?_
                            refine g_iload_n 6 1 C dX11_isImage_261 rfl rfl ?_
                            refine g_iload 2 C dX11_isImage_262 rfl ?_
                            refine g_iconst (v := nI 1) C dX11_isImage_264 (by decide) ?_
                            refine g_isub C dX11_isImage_265 ?_
                            refine g_topi (pk_sub (by omega) : _ = nI (l.length - 1)) ?_
                            have hcur : curM (m_name_ (m_length_ M3 (nI len)) fn) (nmAt tp (i + 1) len) := ⟨by rw [nmAt_len], fun u hu => by rw [nmAt_len] at hu; rw [nmAt_get hu]; exact (hq2 u (by omega)).1⟩
                            have hok : okN (nmAt tp (i + 1) len) := cur_ok hq2 (by omega) (by omega) h255 (by omega)
                            have hl9 := hn3.2.2 (l.length - 1) (by omega)
                            refine g_callV (As := [.int (nI t), .int (nI (l.length - 1))]) (rest := []) C dX11_isImage_266 (c_M_order (M := (m_name_ (m_length_ M3 (nI len)) fn)) hx3 ht (by omega) hcur hok hl9.2.1 hl9.1) wC_X11_order wM_X11_115 wI_X11_order wS_X11_order wN_X11 (kne hx.1) (pf_11 hx.1) rfl hd_X11_order ⟨by decide, by decide, by decide, by decide⟩ (Nat.le_of_ble_eq_true rfl) (fun r_ S_ h_ => ?_)
                            obtain ⟨rfl, rfl⟩ := h_
                            change Go X G _ 10 _ _ (mo_ S (m_name_ (m_length_ M3 (nI len)) fn)) 269 [(5, .int (nI (i + 1 + len))), (7, .int (nI q)), (6, .int (nI (l.length))), (4, .int (nI w)), (3, .int (nI s)), (0, .ref x), (1, .int (nI t)), (2, .int (nI (tp.length)))] [.int (ordV (nmAt tp (i + 1) len) (nm l (l.length - 1)))]
                            refine g_if_gt 274 C dX11_isImage_269 (by decide) (fun c269 => ?_) (fun c269 => ?_)
                            · have hlO : ldOk tp (tp.length - 2) w i l := ⟨by omega, by rw [← hlen]; omega, by rw [← hlen]; omega, by rw [← hlen]; omega, fun u hu => (hq2 u (by omega)).2, Or.inr (by rw [← hlen]; exact (ordV_pos hok hl9.1).mp c269)⟩
                              have hgo := ld_go hld hlO
                              rw [← hlen] at hgo
                              refine g_aload_n 5 0 C dX11_isImage_274 rfl rfl ?_
                              refine gr_m_tape C dX11_isImage_275 hx.1 wF_X11_7 r_tape ?_
                              refine g_iload 0 C dX11_isImage_278 rfl ?_
                              refine ga_m_tape C dX11_isImage_280 k_tape (by omega) ?_
                              refine g_topi (hf3 _ (by omega)) ?_
                              refine g_i2b C dX11_isImage_281 ?_
                              refine g_i2l C dX11_isImage_282 ?_
                              refine g_lstore (lv' := [(7, .long (((nI (tp.getD (i + 1 + len) 0)).toInt8.toInt32).toInt64)), (5, .int (nI (i + 1 + len))), (6, .int (nI (l.length))), (4, .int (nI w)), (3, .int (nI s)), (0, .ref x), (1, .int (nI t)), (2, .int (nI (tp.length)))]) C dX11_isImage_283 (by decide) rfl ?_
                              refine g_iconst (v := nI 1) C dX11_isImage_285 (by decide) ?_
                              refine g_istore (lv' := [(9, .int (nI 1)), (7, .long (((nI (tp.getD (i + 1 + len) 0)).toInt8.toInt32).toInt64)), (5, .int (nI (i + 1 + len))), (6, .int (nI (l.length))), (4, .int (nI w)), (3, .int (nI s)), (0, .ref x), (1, .int (nI t)), (2, .int (nI (tp.length)))]) C dX11_isImage_286 (by decide) rfl ?_
                              have lp9 : ∀ (n_ : Nat) (j : Nat), w - j < n_ → (j + 1 ≤ w) → Go X G (Qe X G (fun r S' => ∃ M', r = some (.int (bI (parseN tp).isSome)) ∧ S' = mo_ S M' ∧ NF t M M' ∧ ∀ l, parseN tp = some l → namesM M' t l) rm_X11_isImage.cells rm_X11_isImage.slots) 10 0 0 (mo_ S (m_name_ (m_length_ M3 (nI len)) fn)) 288 [(9, .int (nI (j + 1))), (7, .long (vlAt tp (i + 1 + len) j)), (6, .int (nI (l.length))), (5, .int (nI (i + 1 + len))), (4, .int (nI w)), (3, .int (nI s)), (0, .ref x), (1, .int (nI t)), (2, .int (nI (tp.length)))] [] := by
                                intro n_
                                induction n_ with
                                | zero => intro j hm_; exact absurd hm_ (Nat.not_lt_zero _)
                                | succ n_ ih_ =>
                                  intro j hm_ hj9
                                  refine g_iload 0 C dX11_isImage_288 rfl ?_
                                  refine g_iload 4 C dX11_isImage_290 rfl ?_
                                  refine g_ncmp_ge 320 (by omega) (by omega) C dX11_isImage_292 (by decide) (fun c292 => ?_) (fun c292 => ?_)
                                  · have ej : j = w - 1 := by omega
                                    rw [ej]
                                    refine g_iload 3 C dX11_isImage_320 rfl ?_
                                    refine g_iload 4 C dX11_isImage_322 rfl ?_
                                    refine g_iadd C dX11_isImage_324 ?_
                                    refine g_topi (nI_add _ _ : _ = nI (i + 1 + len + w)) ?_
                                    refine g_istore (lv' := [(5, .int (nI (i + 1 + len + w))), (9, .int (nI (w - 1 + 1))), (7, .long (vlAt tp (i + 1 + len) (w - 1))), (6, .int (nI (l.length))), (4, .int (nI w)), (3, .int (nI s)), (0, .ref x), (1, .int (nI t)), (2, .int (nI (tp.length)))]) C dX11_isImage_325 (by decide) rfl ?_
                                    refine g_aload_n 6 0 C dX11_isImage_327 rfl rfl ?_
                                    refine g_iload_n 7 1 C dX11_isImage_328 rfl rfl ?_
                                    refine g_iload 3 C dX11_isImage_329 rfl ?_
                                    refine g_lload 2 C dX11_isImage_331 rfl ?_
                                    refine g_callV (As := [.int (nI t), .int (nI (l.length)), .long (vlAt tp (i + 1 + len) (w - 1))]) (rest := []) C dX11_isImage_333 (c_M_insert (M := (m_name_ (m_length_ M3 (nI len)) fn)) hx3 ht (Nat.le_refl _) (by omega) hn3 hcur hok) wC_X11_insert wM_X11_137 wI_X11_insert wS_X11_insert wN_X11 (kne hx.1) (pf_11 hx.1) rfl hd_X11_insert ⟨by decide, by decide, by decide, by decide⟩ (Nat.le_of_ble_eq_true rfl) (fun r_ S_ h_ => ?_)
                                    obtain ⟨M6, rfl, rfl, hlf, hnn⟩ := h_
                                    change Go X G _ 10 _ _ (mo_ S M6) 336 [(5, .int (nI (i + 1 + len + w))), (9, .int (nI (w - 1 + 1))), (7, .long (vlAt tp (i + 1 + len) (w - 1))), (6, .int (nI (l.length))), (4, .int (nI w)), (3, .int (nI s)), (0, .ref x), (1, .int (nI t)), (2, .int (nI (tp.length)))] []
                                    refine g_iinc (v := nI (l.length + 1)) (lv' := [(6, .int (nI (l.length + 1))), (5, .int (nI (i + 1 + len + w))), (9, .int (nI (w - 1 + 1))), (7, .long (vlAt tp (i + 1 + len) (w - 1))), (4, .int (nI w)), (3, .int (nI s)), (0, .ref x), (1, .int (nI t)), (2, .int (nI (tp.length)))]) 3 C dX11_isImage_336 rfl (nI_add _ 1) (by decide) rfl ?_
                                    refine g_goto 127 C dX11_isImage_339 (by decide) ?_
                                    refine Go.pick (lv' := [(6, .int (nI (l.length + 1))), (5, .int (nI (i + 1 + len + w))), (4, .int (nI w)), (3, .int (nI s)), (0, .ref x), (1, .int (nI t)), (2, .int (nI (tp.length)))]) [0, 1, 4, 5, 6, 7, 8] rfl ?_
                                    rw [insL_end] at hnn
                                    have elen : l.length + 1 = (l ++ [((nmAt tp (i + 1) len), vlAt tp (i + 1 + len) (w - 1))]).length := by rw [List.length_append]; rfl
                                    rw [elen]
                                    exact iho_ _ _ M6 (by rw [← elen]; omega) ⟨by rw [← elen]; omega, by rw [← elen]; exact hgo, by omega, by omega, (hnf.trans (NF.nm (fn := fn) (v := nI len))).trans (NF.lf hlf), hnn⟩
                                  · refine g_lload 1 C dX11_isImage_295 rfl ?_
                                    refine g_bipush (v := nI 8) C dX11_isImage_297 (by decide) ?_
                                    refine g_lshl C dX11_isImage_299 ?_
                                    refine g_aload_n 6 0 C dX11_isImage_300 rfl rfl ?_
                                    refine gr_m_tape C dX11_isImage_301 hx.1 wF_X11_7 r_tape ?_
                                    refine g_iload 3 C dX11_isImage_304 rfl ?_
                                    refine g_iload 0 C dX11_isImage_306 rfl ?_
                                    refine g_iadd C dX11_isImage_308 ?_
                                    refine g_topi (nI_add _ _ : _ = nI (i + 1 + len + (j + 1))) ?_
                                    refine ga_m_tape C dX11_isImage_309 k_tape (by omega) ?_
                                    refine g_topi (hf3 _ (by omega)) ?_
                                    refine g_i2l C dX11_isImage_310 ?_
                                    refine g_lor C dX11_isImage_311 ?_
                                    refine g_lstore (lv' := [(7, .long (((vlAt tp (i + 1 + len) j) <<< ((nI 8).toInt64 &&& 63)) ||| ((nI (tp.getD (i + 1 + len + (j + 1)) 0)).toInt64))), (9, .int (nI (j + 1))), (6, .int (nI (l.length))), (5, .int (nI (i + 1 + len))), (4, .int (nI w)), (3, .int (nI s)), (0, .ref x), (1, .int (nI t)), (2, .int (nI (tp.length)))]) C dX11_isImage_312 (by decide) rfl ?_
                                    refine g_iinc (v := nI (j + 1 + 1)) (lv' := [(9, .int (nI (j + 1 + 1))), (7, .long (((vlAt tp (i + 1 + len) j) <<< ((nI 8).toInt64 &&& 63)) ||| ((nI (tp.getD (i + 1 + len + (j + 1)) 0)).toInt64))), (6, .int (nI (l.length))), (5, .int (nI (i + 1 + len))), (4, .int (nI w)), (3, .int (nI s)), (0, .ref x), (1, .int (nI t)), (2, .int (nI (tp.length)))]) 1 C dX11_isImage_314 rfl (nI_add _ 1) (by decide) rfl ?_
                                    refine g_goto 288 C dX11_isImage_317 (by decide) ?_
                                    exact ih_ (j + 1) (by omega) (by omega)
                              refine Go.pick (lv' := [(9, .int (nI 1)), (7, .long (((nI (tp.getD (i + 1 + len) 0)).toInt8.toInt32).toInt64)), (6, .int (nI (l.length))), (5, .int (nI (i + 1 + len))), (4, .int (nI w)), (3, .int (nI s)), (0, .ref x), (1, .int (nI t)), (2, .int (nI (tp.length)))]) [0, 1, 3, 2, 4, 5, 6, 7, 8] rfl ?_
                              exact lp9 (w + 1) 0 (by omega) (by omega)
                            · have e9 : parseN tp = none := parse_no (k := l.length + 1) hw (by omega) (ld_no hld (fun z => by
                                unfold ldOk at z
                                rw [← hlen] at z
                                rcases z.2.2.2.2.2 with z | z
                                · omega
                                · exact c269 ((ordV_pos hok hl9.1).mpr z)))
                              refine g_iconst (v := nI 0) C dX11_isImage_272 (by decide) ?_
                              exact g_zret C dX11_isImage_273 (by decide) (by decide) (Or.inl rfl) (⟨_, by rw [e9]; rfl, rfl, hnf.trans NF.nm, fun l h => by rw [e9] at h; cases h⟩)
                        · have hbq := h255 (i + 1 + q) (by omega)
                          refine g_aload_n 5 0 C dX11_isImage_211 rfl rfl ?_
                          refine gr_m_name C dX11_isImage_212 hx.1 wF_X11_56 r_name ?_
                          refine g_iload 0 C dX11_isImage_215 rfl ?_
                          refine g_aload_n 5 0 C dX11_isImage_217 rfl rfl ?_
                          refine gr_m_tape C dX11_isImage_218 hx.1 wF_X11_7 r_tape ?_
                          refine g_iload 2 C dX11_isImage_221 rfl ?_
                          refine g_iload 0 C dX11_isImage_223 rfl ?_
                          refine g_iadd C dX11_isImage_225 ?_
                          refine g_topi (nI_add _ _ : _ = nI (i + 1 + q)) ?_
                          refine ga_m_tape C dX11_isImage_226 k_tape (by omega) ?_
                          refine g_topi (hf3 _ (by omega)) ?_
                          refine gs_m_name C dX11_isImage_227 k_name (by omega) ?_
                          refine g_aload_n 5 0 C dX11_isImage_228 rfl rfl ?_
                          refine gr_m_name C dX11_isImage_229 hx.1 wF_X11_56 r_name ?_
                          refine g_iload 0 C dX11_isImage_232 rfl ?_
                          refine ga_m_name C dX11_isImage_234 k_name (by omega) ?_
                          refine g_topi (pk_us) ?_
                          refine g_nif_ne 240 (by omega) C dX11_isImage_235 (by decide) (fun c235 => ?_) (fun c235 => ?_)
                          · refine g_iinc (v := nI (q + 1)) (lv' := [(7, .int (nI (q + 1))), (6, .int (nI (l.length))), (5, .int (nI (i + 1))), (4, .int (nI w)), (3, .int (nI s)), (0, .ref x), (1, .int (nI t)), (2, .int (nI (tp.length)))]) 0 C dX11_isImage_240 rfl (nI_add _ 1) (by decide) rfl ?_
                            refine g_goto 202 C dX11_isImage_243 (by decide) ?_
                            exact ih_ (q + 1) _ (by omega) ⟨by omega, fun u hu => by
                              by_cases e : u = q
                              · rw [e]; exact ⟨pk_us, c235⟩
                              · exact ⟨(pk_un e).trans (hq2 u (by omega)).1, (hq2 u (by omega)).2⟩⟩
                          · have e9 : parseN tp = none := parse_no (k := l.length + 1) hw (by omega) (ld_no hld (fun z => by
                              unfold ldOk at z
                              rw [← hlen] at z
                              exact z.2.2.2.2.1 q (by omega) c235))
                            refine g_iconst (v := nI 0) C dX11_isImage_238 (by decide) ?_
                            exact g_zret C dX11_isImage_239 (by decide) (by decide) (Or.inl rfl) (⟨_, by rw [e9]; rfl, rfl, hnf.trans NF.nm, fun l h => by rw [e9] at h; cases h⟩)
                    refine Go.pick (lv' := [(7, .int (nI 0)), (6, .int (nI (l.length))), (5, .int (nI (i + 1))), (4, .int (nI w)), (3, .int (nI s)), (0, .ref x), (1, .int (nI t)), (2, .int (nI (tp.length)))]) [0, 2, 1, 3, 4, 5, 6, 7] rfl ?_
                    exact lp7 (len + 1) 0 (m_name (m_length_ M3 (nI len))) (by omega) ⟨Nat.zero_le _, fun u hu => absurd hu (Nat.not_lt_zero _)⟩
                  · have e9 : parseN tp = none := parse_no (k := l.length + 1) hw (by omega) (ld_no hld (fun z => by
                      unfold ldOk at z
                      rw [← hlen] at z
                      omega))
                    refine g_iconst (v := nI 0) C dX11_isImage_194 (by decide) ?_
                    exact g_zret C dX11_isImage_195 (by decide) (by decide) (Or.inl rfl) (⟨_, by rw [e9]; rfl, rfl, hnf.trans (NF.nm (fn := m_name M3)), fun l h => by rw [e9] at h; cases h⟩)
            · have e9 : parseN tp = none := parse_no (k := l.length + 1) hw (by omega) (ld_no hld (fun z => by have := z.1; omega))
              refine g_iconst (v := nI 0) C dX11_isImage_146 (by decide) ?_
              exact g_zret C dX11_isImage_147 (by decide) (by decide) (Or.inl rfl) (⟨M3, by rw [e9]; rfl, rfl, hnf, fun l h => by rw [e9] at h; cases h⟩)
      exact lp6 (tp.getD 1 0 + 1) 2 [] M (by omega) ⟨Nat.zero_le _, rfl, by omega, by omega, NF.lf (LF.refl t M), hn⟩
  refine g_iload_n 2 2 C dX11_isImage_0 rfl rfl ?_
  refine g_bipush (v := nI 6) C dX11_isImage_1 (by decide) ?_
  refine g_ncmp_lt 47 (by omega) (by omega) C dX11_isImage_3 (by decide) (fun c3 => ?_) (fun c3 => ?_)
  · have e9 : parseN tp = none := by unfold parseN; exact if_neg (fun z => by omega)
    refine g_iconst (v := nI 0) C dX11_isImage_47 (by decide) ?_
    exact g_zret C dX11_isImage_48 (by decide) (by decide) (Or.inl rfl) (⟨M, by rw [e9]; rfl, rfl, NF.lf (LF.refl t M), fun l h => by rw [e9] at h; cases h⟩)
  · have hb0 := h255 0 (by omega)
    have hb1 := h255 1 (by omega)
    refine g_aload_n 0 0 C dX11_isImage_6 rfl rfl ?_
    refine gr_m_tape C dX11_isImage_7 hx.1 wF_X11_7 r_tape ?_
    refine g_iconst (v := nI 0) C dX11_isImage_10 (by decide) ?_
    refine ga_m_tape C dX11_isImage_11 k_tape (by omega) ?_
    refine g_topi (hf _ (by omega)) ?_
    refine g_iconst (v := nI 1) C dX11_isImage_12 (by decide) ?_
    refine g_ncmp_lt 47 (by omega) (by omega) C dX11_isImage_13 (by decide) (fun c13 => ?_) (fun c13 => ?_)
    · have e9 : parseN tp = none := by unfold parseN; exact if_neg (fun z => by omega)
      refine g_iconst (v := nI 0) C dX11_isImage_47 (by decide) ?_
      exact g_zret C dX11_isImage_48 (by decide) (by decide) (Or.inl rfl) (⟨M, by rw [e9]; rfl, rfl, NF.lf (LF.refl t M), fun l h => by rw [e9] at h; cases h⟩)
    · refine g_aload_n 0 0 C dX11_isImage_16 rfl rfl ?_
      refine gr_m_tape C dX11_isImage_17 hx.1 wF_X11_7 r_tape ?_
      refine g_iconst (v := nI 0) C dX11_isImage_20 (by decide) ?_
      refine ga_m_tape C dX11_isImage_21 k_tape (by omega) ?_
      refine g_topi (hf _ (by omega)) ?_
      refine g_iconst (v := nI 5) C dX11_isImage_22 (by decide) ?_
      refine g_ncmp_gt 47 (by omega) (by omega) C dX11_isImage_23 (by decide) (fun c23 => ?_) (fun c23 => ?_)
      · have e9 : parseN tp = none := by unfold parseN; exact if_neg (fun z => by omega)
        refine g_iconst (v := nI 0) C dX11_isImage_47 (by decide) ?_
        exact g_zret C dX11_isImage_48 (by decide) (by decide) (Or.inl rfl) (⟨M, by rw [e9]; rfl, rfl, NF.lf (LF.refl t M), fun l h => by rw [e9] at h; cases h⟩)
      · refine g_aload_n 0 0 C dX11_isImage_26 rfl rfl ?_
        refine gr_m_tape C dX11_isImage_27 hx.1 wF_X11_7 r_tape ?_
        refine g_iconst (v := nI 1) C dX11_isImage_30 (by decide) ?_
        refine ga_m_tape C dX11_isImage_31 k_tape (by omega) ?_
        refine g_topi (hf _ (by omega)) ?_
        refine g_iconst (v := nI 1) C dX11_isImage_32 (by decide) ?_
        refine g_ncmp_lt 47 (by omega) (by omega) C dX11_isImage_33 (by decide) (fun c33 => ?_) (fun c33 => ?_)
        · have e9 : parseN tp = none := by unfold parseN; exact if_neg (fun z => by omega)
          refine g_iconst (v := nI 0) C dX11_isImage_47 (by decide) ?_
          exact g_zret C dX11_isImage_48 (by decide) (by decide) (Or.inl rfl) (⟨M, by rw [e9]; rfl, rfl, NF.lf (LF.refl t M), fun l h => by rw [e9] at h; cases h⟩)
        · refine g_aload_n 0 0 C dX11_isImage_36 rfl rfl ?_
          refine gr_m_tape C dX11_isImage_37 hx.1 wF_X11_7 r_tape ?_
          refine g_iconst (v := nI 1) C dX11_isImage_40 (by decide) ?_
          refine ga_m_tape C dX11_isImage_41 k_tape (by omega) ?_
          refine g_topi (hf _ (by omega)) ?_
          refine g_bipush (v := nI 100) C dX11_isImage_42 (by decide) ?_
          refine g_ncmp_le 49 (by omega) (by omega) C dX11_isImage_44 (by decide) (fun c44 => ?_) (fun c44 => ?_)
          · refine g_iconst (v := nI 0) C dX11_isImage_49 (by decide) ?_
            refine g_istore_n (lv' := [(3, .int (nI 0)), (0, .ref x), (1, .int (nI t)), (2, .int (nI (tp.length)))]) C dX11_isImage_50 rfl (by decide) rfl ?_
            refine g_iconst (v := nI 0) C dX11_isImage_51 (by decide) ?_
            refine g_istore (lv' := [(4, .int (nI 0)), (3, .int (nI 0)), (0, .ref x), (1, .int (nI t)), (2, .int (nI (tp.length)))]) C dX11_isImage_52 (by decide) rfl ?_
            have lps : ∀ (n_ : Nat) (k : Nat), tp.length - k < n_ → (k ≤ tp.length) → Go X G (Qe X G (fun r S' => ∃ M', r = some (.int (bI (parseN tp).isSome)) ∧ S' = mo_ S M' ∧ NF t M M' ∧ ∀ l, parseN tp = some l → namesM M' t l) rm_X11_isImage.cells rm_X11_isImage.slots) 10 0 0 (mo_ S M) 54 [(4, .int (nI k)), (3, .int (nI (sumB tp k))), (0, .ref x), (1, .int (nI t)), (2, .int (nI (tp.length)))] [] := by
              intro n_
              induction n_ with
              | zero => intro k hm_; exact absurd hm_ (Nat.not_lt_zero _)
              | succ n_ ih_ =>
                intro k hm_ hk
                have hs := sumB_le h255 k hk
                refine g_iload 0 C dX11_isImage_54 rfl ?_
                refine g_iload_n 4 2 C dX11_isImage_56 rfl rfl ?_
                refine g_ncmp_ge 76 (by omega) (by omega) C dX11_isImage_57 (by decide) (fun c57 => ?_) (fun c57 => ?_)
                · obtain ⟨w, hw⟩ : ∃ w, w = tp.getD (tp.length - 2) 0 := ⟨_, rfl⟩
                  have hfw : m_tape M (tp.length - 2) = nI w := by rw [hw]; exact hf _ (by omega)
                  have hbw := h255 (tp.length - 2) (by omega)
                  rw [← hw] at hbw
                  have ek : k = tp.length := by omega
                  refine g_aload_n 2 0 C dX11_isImage_76 rfl rfl ?_
                  refine gr_m_tape C dX11_isImage_77 hx.1 wF_X11_7 r_tape ?_
                  refine g_iload_n 4 2 C dX11_isImage_80 rfl rfl ?_
                  refine g_iconst (v := nI 2) C dX11_isImage_81 (by decide) ?_
                  refine g_isub C dX11_isImage_82 ?_
                  refine g_topi (pk_sub (by omega) : _ = nI (tp.length - 2)) ?_
                  refine ga_m_tape C dX11_isImage_83 k_tape (by omega) ?_
                  refine g_topi (hfw) ?_
                  refine g_istore (lv' := [(4, .int (nI w)), (3, .int (nI (sumB tp k))), (0, .ref x), (1, .int (nI t)), (2, .int (nI (tp.length)))]) C dX11_isImage_84 (by decide) rfl ?_
                  refine g_iload_n 1 3 C dX11_isImage_86 rfl rfl ?_
                  refine g_sipush (v := nI 256) C dX11_isImage_87 (by decide) ?_
                  refine g_irem C dX11_isImage_90 (by decide) ?_
                  refine g_topi (pk_rem (by omega) (by omega) (by omega) : _ = nI ((sumB tp k) % 256)) ?_
                  refine g_nif_ne 119 (by omega) C dX11_isImage_91 (by decide) (fun c91 => ?_) (fun c91 => ?_)
                  · have e9 : parseN tp = none := by unfold parseN; exact if_neg (fun z => by rw [ek] at c91; exact c91 z.2.2.2.2.2.1)
                    refine g_iconst (v := nI 0) C dX11_isImage_119 (by decide) ?_
                    exact g_zret C dX11_isImage_120 (by decide) (by decide) (Or.inl rfl) (⟨M, by rw [e9]; rfl, rfl, NF.lf (LF.refl t M), fun l h => by rw [e9] at h; cases h⟩)
                  · rw [ek] at c91
                    refine g_iload 0 C dX11_isImage_94 rfl ?_
                    refine g_iconst (v := nI 1) C dX11_isImage_96 (by decide) ?_
                    refine g_ncmp_eq 121 (by omega) (by omega) C dX11_isImage_97 (by decide) (fun c97 => ?_) (fun c97 => ?_)
                    · exact tail 1 w _ (by omega) ⟨hw, by omega, by omega⟩
                    · refine g_iload 0 C dX11_isImage_100 rfl ?_
                      refine g_iconst (v := nI 2) C dX11_isImage_102 (by decide) ?_
                      refine g_ncmp_eq 121 (by omega) (by omega) C dX11_isImage_103 (by decide) (fun c103 => ?_) (fun c103 => ?_)
                      · exact tail 1 w _ (by omega) ⟨hw, by omega, by omega⟩
                      · refine g_iload 0 C dX11_isImage_106 rfl ?_
                        refine g_iconst (v := nI 4) C dX11_isImage_108 (by decide) ?_
                        refine g_ncmp_eq 121 (by omega) (by omega) C dX11_isImage_109 (by decide) (fun c109 => ?_) (fun c109 => ?_)
                        · exact tail 1 w _ (by omega) ⟨hw, by omega, by omega⟩
                        · refine g_iload 0 C dX11_isImage_112 rfl ?_
                          refine g_bipush (v := nI 8) C dX11_isImage_114 (by decide) ?_
                          refine g_ncmp_eq 121 (by omega) (by omega) C dX11_isImage_116 (by decide) (fun c116 => ?_) (fun c116 => ?_)
                          · exact tail 1 w _ (by omega) ⟨hw, by omega, by omega⟩
                          · have e9 : parseN tp = none := by unfold parseN; exact if_neg (fun z => by rw [← hw] at z; omega)
                            refine g_iconst (v := nI 0) C dX11_isImage_119 (by decide) ?_
                            exact g_zret C dX11_isImage_120 (by decide) (by decide) (Or.inl rfl) (⟨M, by rw [e9]; rfl, rfl, NF.lf (LF.refl t M), fun l h => by rw [e9] at h; cases h⟩)
                · have hbk := h255 k (by omega)
                  refine g_iload_n 1 3 C dX11_isImage_60 rfl rfl ?_
                  refine g_aload_n 2 0 C dX11_isImage_61 rfl rfl ?_
                  refine gr_m_tape C dX11_isImage_62 hx.1 wF_X11_7 r_tape ?_
                  refine g_iload 0 C dX11_isImage_65 rfl ?_
                  refine ga_m_tape C dX11_isImage_67 k_tape (by omega) ?_
                  refine g_topi (hf _ (by omega)) ?_
                  refine g_iadd C dX11_isImage_68 ?_
                  refine g_topi (nI_add _ _ : _ = nI (sumB tp k + (tp.getD k 0))) ?_
                  refine g_istore_n (lv' := [(3, .int (nI (sumB tp k + (tp.getD k 0)))), (4, .int (nI k)), (0, .ref x), (1, .int (nI t)), (2, .int (nI (tp.length)))]) C dX11_isImage_69 rfl (by decide) rfl ?_
                  refine g_iinc (v := nI (k + 1)) (lv' := [(4, .int (nI (k + 1))), (3, .int (nI (sumB tp k + (tp.getD k 0)))), (0, .ref x), (1, .int (nI t)), (2, .int (nI (tp.length)))]) 1 C dX11_isImage_70 rfl (nI_add _ 1) (by decide) rfl ?_
                  refine g_goto 54 C dX11_isImage_73 (by decide) ?_
                  exact ih_ (k + 1) (by omega) (by omega)
            exact lps (tp.length + 1) 0 (by omega) (Nat.zero_le _)
          · have e9 : parseN tp = none := by unfold parseN; exact if_neg (fun z => by omega)
            refine g_iconst (v := nI 0) C dX11_isImage_47 (by decide) ?_
            exact g_zret C dX11_isImage_48 (by decide) (by decide) (Or.inl rfl) (⟨M, by rw [e9]; rfl, rfl, NF.lf (LF.refl t M), fun l h => by rw [e9] at h; cases h⟩)
set_option maxRecDepth 100000 in
set_option maxHeartbeats 4000000 in
theorem c_M_load_out {l : Launch} {G : Gx} {S : PS} {M : MoT} {x : Nat} (hx : MoOk S M x) {Z : ZT} (hR : RM M Z) (hZ : okZ Z) {p : Int32} (hp : p < 0 ∨ nI 10 ≤ p) : Ct l yX11_load cX11_load 4 (Option.some Jvm.ClassFile.FieldType.int) rm_X11_load G [.ref x, .int p] (mo_ S M) (fun r S' => ∃ M', r = some (.int (A_load Z p)) ∧ S' = mo_ S M' ∧ mo_r M' = mo_r M ∧ RM M' (N_load Z p)) := by
  obtain ⟨q_tape, r_tape, k_tape⟩ := hx.2 0 (by decide)
  obtain ⟨q_place, r_place, k_place⟩ := hx.2 1 (by decide)
  obtain ⟨q_many, r_many, k_many⟩ := hx.2 3 (by decide)
  refine Ct.mk RX11 "load" hy_X11_load (Nat.le_of_ble_eq_true rfl) (fun X hX C => ?_)
  change Go X G _ 4 0 0 (mo_ S M) 0 [(0, .ref x), (1, .int p)] []
  refine g_aload_n 0 0 C dX11_load_0 rfl rfl ?_
  refine g_iload_n 1 1 C dX11_load_1 rfl rfl ?_
  refine g_callV (As := [.int p]) (rest := []) C dX11_load_2 (c_M_isPlace_out hp) wC_X11_isPlace wM_X11_97 wI_X11_isPlace wS_X11_isPlace wN_X11 (kne hx.1) (pf_11 hx.1) rfl hd_X11_isPlace ⟨by decide, by decide, by decide, by decide⟩ (Nat.le_of_ble_eq_true rfl) (fun r_ S_ h_ => ?_)
  obtain ⟨rfl, rfl⟩ := h_
  change Go X G _ 4 _ _ (mo_ S M) 5 [(0, .ref x), (1, .int p)] [.int (nI 0)]
  refine g_nif_ne 11 (by decide) C dX11_load_5 (by decide) (fun c => absurd c (by decide)) (fun _ => ?_)
  refine g_bipush (v := -2) C dX11_load_8 (by decide) ?_
  exact g_iret C dX11_load_10 (by decide) (by decide) (⟨M, by unfold A_load; rw [if_pos hp], rfl, rfl, by unfold N_load; rw [if_pos hp]; exact hR⟩)
theorem parse_some {tp : List Nat} {l : List Ent} (h : parseN tp = some l) (h255 : ∀ i, i < tp.length → tp.getD i 0 ≤ 255) (h1000 : tp.length ≤ 1000) : (2 ≤ tp.length ∧ 1 ≤ tp.getD 0 0 ∧ tp.getD 0 0 ≤ 5) ∧ fitsN l (tp.getD 0 0) = true ∧ okL l ∧ 0 < l.length := by
  unfold parseN at h
  split at h
  · rename_i h6
    split at h
    · rename_i i l' hl
      split at h
      · rename_i h7
        cases h
        have key : ∀ k, k ≤ 100 → ∀ i l, ldS tp (tp.getD (tp.length - 2) 0) (tp.length - 2) k = some (i, l) → l.length = k ∧ okL l := by
          intro k
          induction k with
          | zero => intro _ i l h; cases h; exact ⟨rfl, by decide, fun k hk => absurd hk (Nat.not_lt_zero _), fun i j _ hj => absurd hj (Nat.not_lt_zero _)⟩
          | succ k ih =>
            intro hk i2 l2 h2
            cases hq : ldS tp (tp.getD (tp.length - 2) 0) (tp.length - 2) k with
            | none => rw [show ldS tp (tp.getD (tp.length - 2) 0) (tp.length - 2) (k + 1) = none from ld_none hq 1] at h2; cases h2
            | some r =>
              obtain ⟨i1, l1⟩ := r
              obtain ⟨e1, e2⟩ := ih (by omega) i1 l1 hq
              by_cases hO : ldOk tp (tp.length - 2) (tp.getD (tp.length - 2) 0) i1 l1
              · rw [ld_go hq hO] at h2
                cases h2
                obtain ⟨o1, o2, o3, o4, o5, o6⟩ := hO
                refine ⟨by rw [List.length_append, e1]; rfl, by rw [List.length_append]; show _ + 1 ≤ _; omega, fun q hq => ?_, fun a b hab hb => ?_⟩
                · rw [List.length_append] at hq
                  have hq' : q < l1.length + 1 := hq
                  show okN ((l1 ++ _).getD q _).1
                  rw [getD_app]
                  split
                  · exact e2.2.1 q (by assumption)
                  · rw [show q - l1.length = 0 by omega]
                    exact cur_ok (fn := fun u => nI (tp.getD (i1 + 1 + u) 0)) (q := tp.getD i1 0) (fun u hu => ⟨rfl, o5 u hu⟩) rfl ⟨o2, o3⟩ h255 (by omega)
                · rw [List.length_append] at hb
                  have hb' : b < l1.length + 1 := hb
                  show less ((l1 ++ _).getD a _).1 ((l1 ++ _).getD b _).1 = true
                  rw [getD_app, getD_app, if_pos (show a < l1.length by omega)]
                  split
                  · exact e2.2.2 a b hab (by assumption)
                  · rw [show b - l1.length = 0 by omega]
                    rcases o6 with o6 | o6
                    · omega
                    · by_cases e : a = l1.length - 1
                      · rw [e]; exact o6
                      · exact less_trans (e2.2.2 a (l1.length - 1) (by omega) (by omega)) o6
              · rw [ld_no hq hO] at h2; cases h2
        have := key _ h6.2.2.2.2.1 _ _ hl
        exact ⟨⟨by omega, h6.2.1, h6.2.2.1⟩, h7.2.2, this.2, fitsN_pos h7.2.2⟩
      · cases h
    · cases h
  · cases h
set_option maxRecDepth 100000 in
set_option maxHeartbeats 4000000 in
theorem c_M_load_in {l : Launch} {G : Gx} {S : PS} {M : MoT} {x : Nat} (hx : MoOk S M x) {Z : ZT} (hR : RM M Z) (hZ : okZ Z) {j : Nat} (hj : j < 10) : Ct l yX11_load cX11_load 4 (Option.some Jvm.ClassFile.FieldType.int) rm_X11_load G [.ref x, .int (nI j)] (mo_ S M) (fun r S' => ∃ M', r = some (.int (A_load Z (nI j))) ∧ S' = mo_ S M' ∧ mo_r M' = mo_r M ∧ RM M' (N_load Z (nI j))) := by
  obtain ⟨q_tape, r_tape, k_tape⟩ := hx.2 0 (by decide)
  obtain ⟨q_place, r_place, k_place⟩ := hx.2 1 (by decide)
  obtain ⟨q_many, r_many, k_many⟩ := hx.2 3 (by decide)
  have hm := madeN_le (zP Z)
  have hz1 := hZ.1.1
  refine Ct.mk RX11 "load" hy_X11_load (Nat.le_of_ble_eq_true rfl) (fun X hX C => ?_)
  change Go X G _ 4 0 0 (mo_ S M) 0 [(0, .ref x), (1, .int (nI j))] []
  refine g_aload_n 0 0 C dX11_load_0 rfl rfl ?_
  refine g_iload_n 1 1 C dX11_load_1 rfl rfl ?_
  refine g_callV (As := [.int (nI j)]) (rest := []) C dX11_load_2 (c_M_isPlace_in hj) wC_X11_isPlace wM_X11_97 wI_X11_isPlace wS_X11_isPlace wN_X11 (kne hx.1) (pf_11 hx.1) rfl hd_X11_isPlace ⟨by decide, by decide, by decide, by decide⟩ (Nat.le_of_ble_eq_true rfl) (fun r_ S_ h_ => ?_)
  obtain ⟨rfl, rfl⟩ := h_
  change Go X G _ 4 _ _ (mo_ S M) 5 [(0, .ref x), (1, .int (nI j))] [.int (nI 1)]
  refine g_nif_ne 11 (by decide) C dX11_load_5 (by decide) (fun _ => ?_) (fun c => absurd c (by decide))
  refine g_aload_n 0 0 C dX11_load_11 rfl rfl ?_
  refine gf_m_taped C dX11_load_12 hx.1 wF_X11_13 ?_
  refine g_topi (hR.1.1) ?_
  refine g_istore_n (lv' := [(2, .int (nI ((zT Z).length))), (0, .ref x), (1, .int (nI j))]) C dX11_load_15 rfl (by decide) rfl ?_
  refine g_aload_n 1 0 C dX11_load_16 rfl rfl ?_
  refine g_iconst (v := nI 0) C dX11_load_17 (by decide) ?_
  refine pp_m_taped C dX11_load_18 hx.1 wF_X11_13 (Or.inl rfl) ?_
  refine g_aload_n 1 0 C dX11_load_21 rfl rfl ?_
  refine g_bipush (v := nI 6) C dX11_load_22 (by decide) ?_
  refine g_callV (As := [.int (nI 6)]) (rest := []) C dX11_load_24 (c_M_made (M := (m_taped_ M (nI 0))) hx (Z := zT_ Z []) ⟨⟨rfl, fun i hi => absurd hi (Nat.not_lt_zero _)⟩, hR.2.1, hR.2.2.1, hR.2.2.2⟩ ⟨⟨Nat.zero_le _, fun i hi => absurd hi (Nat.not_lt_zero _)⟩, hZ.2⟩) wC_X11_made wM_X11_101 wI_X11_made wS_X11_made wN_X11 (kne hx.1) (pf_11 hx.1) rfl hd_X11_made ⟨by decide, by decide, by decide, by decide⟩ (Nat.le_of_ble_eq_true rfl) (fun r_ S_ h_ => ?_)
  obtain ⟨rfl, rfl⟩ := h_
  change Go X G _ 4 _ _ (mo_ S (mkM (m_taped_ M (nI 0)) (madeN (zP Z)) 6)) 27 [(2, .int (nI ((zT Z).length))), (0, .ref x), (1, .int (nI j))] [.int (nI (madeN (zP Z)))]
  refine g_istore_n (lv' := [(3, .int (nI (madeN (zP Z)))), (2, .int (nI ((zT Z).length))), (0, .ref x), (1, .int (nI j))]) C dX11_load_27 rfl (by decide) rfl ?_
  refine g_aload_n 2 0 C dX11_load_28 rfl rfl ?_
  refine g_iload_n 0 3 C dX11_load_29 rfl rfl ?_
  refine g_iload_n 1 2 C dX11_load_30 rfl rfl ?_
  refine g_callV (As := [.int (nI (madeN (zP Z))), .int (nI ((zT Z).length))]) (rest := []) C dX11_load_31 (c_M_isImage (M := (mkM (m_taped_ M (nI 0)) (madeN (zP Z)) 6)) hx (by omega) hR.1.2 hZ.1.2 hZ.1.1 mkM_new.2.1) wC_X11_isImage wM_X11_228 wI_X11_isImage wS_X11_isImage wN_X11 (kne hx.1) (pf_11 hx.1) rfl hd_X11_isImage ⟨by decide, by decide, by decide, by decide⟩ (Nat.le_of_ble_eq_true rfl) (fun r_ S_ h_ => ?_)
  obtain ⟨M3, rfl, rfl, hnf, hps⟩ := h_
  change Go X G _ 4 _ _ (mo_ S M3) 34 [(3, .int (nI (madeN (zP Z)))), (2, .int (nI ((zT Z).length))), (0, .ref x), (1, .int (nI j))] [.int (bI (parseN (zT Z)).isSome)]
  have hx3 := (show MoOk S (mkM (m_taped_ M (nI 0)) (madeN (zP Z)) 6) x from hx).of hnf.mo_r
  obtain ⟨fn9, v9, hlf9⟩ := hnf.mk
  have hR1 : RM (m_taped_ M (nI 0)) (zT_ Z []) := ⟨⟨rfl, fun i hi => absurd hi (Nat.not_lt_zero _)⟩, hR.2.1, hR.2.2.1, hR.2.2.2⟩
  have hZ1 : okZ (zT_ Z []) := ⟨⟨Nat.zero_le _, fun i hi => absurd hi (Nat.not_lt_zero _)⟩, hZ.2⟩
  obtain ⟨q_tape, r_tape, k_tape⟩ := hx3.2 0 (by decide)
  obtain ⟨q_place, r_place, k_place⟩ := hx3.2 1 (by decide)
  obtain ⟨q_many, r_many, k_many⟩ := hx3.2 3 (by decide)
  refine g_if_ne 40 C dX11_load_34 (by decide) (fun c34 => ?_) (fun c34 => ?_)
  · have hse := bI_t c34
    obtain ⟨l9, hl9⟩ := Option.isSome_iff_exists.mp hse
    have hn9 := hps l9 hl9
    obtain ⟨hp1, hp2, hp3, hp4⟩ := parse_some hl9 hZ.1.2 hZ.1.1
    refine g_aload_n 2 0 C dX11_load_40 rfl rfl ?_
    refine g_iload_n 0 3 C dX11_load_41 rfl rfl ?_
    refine g_aload_n 2 0 C dX11_load_42 rfl rfl ?_
    refine gr_m_tape C dX11_load_43 hx.1 wF_X11_7 r_tape ?_
    refine g_iconst (v := nI 0) C dX11_load_46 (by decide) ?_
    refine ga_m_tape C dX11_load_47 k_tape (by omega) ?_
    refine g_topi ((show m_tape M3 0 = nI ((zT Z).getD 0 0) by rw [hnf.tape.1]; exact hR.1.2 0 (by omega))) ?_
    refine g_callV (As := [.int (nI (madeN (zP Z))), .int (nI ((zT Z).getD 0 0))]) (rest := []) C dX11_load_48 (c_M_sealed hx3 (by omega) hn9 hp3 hp4 (zero_nf hnf) hp1.2.1 hp1.2.2) wC_X11_sealed wM_X11_172 wI_X11_sealed wS_X11_sealed wN_X11 (kne hx.1) (pf_11 hx.1) rfl hd_X11_sealed ⟨by decide, by decide, by decide, by decide⟩ (Nat.le_of_ble_eq_true rfl) (fun r_ S_ h_ => ?_)
    obtain ⟨M6, rfl, rfl, hbf, hse2⟩ := h_
    change Go X G _ 4 _ _ (mo_ S M6) 51 [(3, .int (nI (madeN (zP Z)))), (2, .int (nI ((zT Z).length))), (0, .ref x), (1, .int (nI j))] []
    have hx6 := hx3.of hbf.mo_r
    obtain ⟨q_tape, r_tape, k_tape⟩ := hx6.2 0 (by decide)
    obtain ⟨q_place, r_place, k_place⟩ := hx6.2 1 (by decide)
    obtain ⟨q_many, r_many, k_many⟩ := hx6.2 3 (by decide)
    refine g_aload_n 2 0 C dX11_load_51 rfl rfl ?_
    refine gr_m_place C dX11_load_52 hx.1 wF_X11_17 r_place ?_
    refine g_iload_n 3 1 C dX11_load_55 rfl rfl ?_
    refine g_iload_n 0 3 C dX11_load_56 rfl rfl ?_
    refine g_iconst (v := nI 1) C dX11_load_57 (by decide) ?_
    refine g_iadd C dX11_load_58 ?_
    refine g_topi (nI_add _ _ : _ = nI (madeN (zP Z) + 1)) ?_
    refine gs_m_place C dX11_load_59 k_place (by omega) ?_
    refine g_aload_n 2 0 C dX11_load_60 rfl rfl ?_
    refine gr_m_many C dX11_load_61 hx.1 wF_X11_23 r_many ?_
    refine g_iload_n 0 3 C dX11_load_64 rfl rfl ?_
    refine ga_m_many C dX11_load_65 k_many (by omega) ?_
    refine g_topi ((hbf.names hn9).2.1) ?_
    exact g_iret C dX11_load_66 (by decide) (by decide) (⟨_, by unfold A_load; rw [if_neg (nI_in10 hj), hl9], rfl, hbf.mo_r.trans hnf.mo_r, by
      unfold N_load newZ; rw [if_neg (nI_in10 hj), hl9]; simp only []; rw [nI_clamp (by omega)]
      have hb9 := rm_build (hR1.name (fn := fn9) (v := v9)) hZ1 rfl hlf9 hbf hn9 hse2
      exact rm_newT hb9.1 (madeN_new _) hb9.2⟩)
  · have hse := bI_f c34
    have hl9 : parseN (zT Z) = none := by cases h : parseN (zT Z) with | none => rfl | some l => rw [h] at hse; cases hse
    refine g_bipush (v := -5) C dX11_load_37 (by decide) ?_
    exact g_iret C dX11_load_39 (by decide) (by decide) (⟨_, by unfold A_load; rw [if_neg (nI_in10 hj), hl9], rfl, hnf.mo_r, by unfold N_load; rw [if_neg (nI_in10 hj), hl9]; exact rm_old (hR1.name (fn := fn9) (v := v9)) rfl hlf9⟩)
theorem c_M_load {l : Launch} {G : Gx} {S : PS} {M : MoT} {x : Nat} (hx : MoOk S M x) {Z : ZT} (hR : RM M Z) (hZ : okZ Z) {p : Int32} : Ct l yX11_load cX11_load 4 (Option.some Jvm.ClassFile.FieldType.int) rm_X11_load G [.ref x, .int p] (mo_ S M) (fun r S' => ∃ M', r = some (.int (A_load Z p)) ∧ S' = mo_ S M' ∧ mo_r M' = mo_r M ∧ RM M' (N_load Z p)) := by
  rcases look_cases Z p with h | ⟨j, hj, rfl, -⟩
  · exact c_M_load_out hx hR hZ h
  · exact c_M_load_in hx hR hZ hj
