set_option maxRecDepth 100000 in
set_option maxHeartbeats 4000000 in
theorem c_T_readImage {lX : Launch} {G : Gx} {S : PS} {t tb : Nat} {tp : List Nat} (hT : tapeC S t tb tp) {p np vp : Nat} {l0 : List Ent} (hp : listC S p np vp 100 l0) : Ct lX yX7_readImage cX7_readImage 8 (Option.some Jvm.ClassFile.FieldType.int) rm_X7_readImage G [.ref t, .ref p] S (fun r S' => ∃ pl, r = some (.int (match rdN tp with | none => -5 | some _ => nI (tp.getD 0 0))) ∧ Fr S S' (A3 p np vp) ∧ mu S' = mu S ∧ listC S' p np vp 100 pl ∧ ∀ l, rdN tp = some l → pl = l) := by
  have hT0 := hT
  obtain ⟨⟨kt, rb, kb⟩, hu, hl1, hf, h255⟩ := hT
  have f1 : Fr S (ls_size_ S (va_up (ls_size S) p (nI 0))) (A3 p np vp) := (Fr.refl S _).u_ls_size (Fb.of hp.1.1 (Or.inl rfl))
  have h00 : listC (ls_size_ S (va_up (ls_size S) p (nI 0))) p np vp 100 [] := by
    have := hp.up (l' := []) (fn := nr_a S np) (fv := vl_a S vp) (Nat.zero_le _) (fun k hk => absurd hk (Nat.not_lt_zero _))
    rwa [show szS S p np vp (nr_a S np) (vl_a S vp) (nI ([] : List Ent).length) = ls_size_ S (va_up (ls_size S) p (nI 0)) from by show ls_size_ (lsS S np vp (nr_a S np) (vl_a S vp)) _ = _; rw [lsS_0]; rfl] at this
  refine Ct.mk RX7 "readImage" hy_X7_readImage (Nat.le_of_ble_eq_true rfl) (fun X hX C => ?_)
  change Go X G _ 8 0 0 S 0 [(0, .ref t), (1, .ref p)] []
  have tail : ∀ (n_ : Nat) (w : Nat), 0 < n_ → (w = tp.getD (tp.length - 2) 0 ∧ (w = 1 ∨ w = 2 ∨ w = 4 ∨ w = 8) ∧ 7 ≤ tp.length ∧ sumB tp tp.length % 256 = 0) → Go X G (Qe X G (fun r S' => ∃ pl, r = some (.int (match rdN tp with | none => -5 | some _ => nI (tp.getD 0 0))) ∧ Fr S S' (A3 p np vp) ∧ mu S' = mu S ∧ listC S' p np vp 100 pl ∧ ∀ l, rdN tp = some l → pl = l) rm_X7_readImage.cells rm_X7_readImage.slots) 8 0 0 (ls_size_ S (va_up (ls_size S) p (nI 0))) 60 [(2, .int (nI w)), (0, .ref t), (1, .ref p)] [] := by
    intro n_
    induction n_ with
    | zero => intro w hm_; exact absurd hm_ (Nat.not_lt_zero _)
    | succ n_ ih_ =>
      intro w hm_ ⟨hw, hW, h7, hsm⟩
      refine g_aload_n 1 0 C dX7_readImage_60 rfl rfl ?_
      refine gf_tp_used C dX7_readImage_61 kt wF_X7_15 ?_
      refine g_topi (hu) ?_
      refine g_iconst (v := nI 2) C dX7_readImage_64 (by decide) ?_
      refine g_isub C dX7_readImage_65 ?_
      refine g_topi (pk_sub (by omega) : _ = nI (tp.length - 2)) ?_
      refine g_istore_n (lv' := [(3, .int (nI (tp.length - 2))), (2, .int (nI w)), (0, .ref t), (1, .ref p)]) C dX7_readImage_66 rfl (by decide) rfl ?_
      refine g_iconst (v := nI 2) C dX7_readImage_67 (by decide) ?_
      refine g_istore (lv' := [(4, .int (nI 2)), (3, .int (nI (tp.length - 2))), (2, .int (nI w)), (0, .ref t), (1, .ref p)]) C dX7_readImage_68 (by decide) rfl ?_
      refine g_iconst (v := nI 0) C dX7_readImage_70 (by decide) ?_
      refine g_istore (lv' := [(5, .int (nI 0)), (4, .int (nI 2)), (3, .int (nI (tp.length - 2))), (2, .int (nI w)), (0, .ref t), (1, .ref p)]) C dX7_readImage_71 (by decide) rfl ?_
      have lp : ∀ (n_ : Nat) (i : Nat) (pl : List Ent) (S2 : PS), tp.getD 1 0 - pl.length < n_ → (pl.length ≤ tp.getD 1 0 ∧ ldS tp w (tp.length - 2) pl.length = some (i, pl) ∧ 2 ≤ i ∧ i ≤ (tp.length - 2) ∧ Fr S S2 (A3 p np vp) ∧ mu S2 = mu S ∧ listC S2 p np vp 100 pl) → Go X G (Qe X G (fun r S' => ∃ pl, r = some (.int (match rdN tp with | none => -5 | some _ => nI (tp.getD 0 0))) ∧ Fr S S' (A3 p np vp) ∧ mu S' = mu S ∧ listC S' p np vp 100 pl ∧ ∀ l, rdN tp = some l → pl = l) rm_X7_readImage.cells rm_X7_readImage.slots) 8 (2 * pl.length) (25 * pl.length) S2 73 [(5, .int (nI (pl.length))), (4, .int (nI i)), (3, .int (nI (tp.length - 2))), (2, .int (nI w)), (0, .ref t), (1, .ref p)] [] := by
        intro n_
        induction n_ with
        | zero => intro i pl S2 hm_; exact absurd hm_ (Nat.not_lt_zero _)
        | succ n_ ih_ =>
          intro i pl S2 hm_ hh
          obtain ⟨hpl, hld, hi2, hie, hf2, hmu2, hp2⟩ := hh
          have hT2 := hT0.fr hf2 hmu2
          obtain ⟨⟨kt, rb, kb⟩, hu, hl1, hf, h255⟩ := id hT2
          have hpm : pl.length ≤ 100 := hp2.2.2.2.2.1
          have hb1 := h255 1 (by omega)
          refine g_iload 0 C dX7_readImage_73 rfl ?_
          refine g_aload_n 4 0 C dX7_readImage_75 rfl rfl ?_
          refine gr_tp_bytes C dX7_readImage_76 kt wF_X7_9 rb ?_
          refine g_iconst (v := nI 1) C dX7_readImage_79 (by decide) ?_
          refine ga_tp_a C dX7_readImage_80 kb (by omega) ?_
          refine g_topi (hf _ (by omega)) ?_
          refine g_ncmp_ge 171 (by omega) (by omega) C dX7_readImage_81 (by decide) (fun c81 => ?_) (fun c81 => ?_)
          · have e1 : pl.length = tp.getD 1 0 := by omega
            have hple : pl.length ≤ 100 := hp2.2.2.2.2.1
            have hpe := rd_end hw hW ⟨h7, by omega, hsm⟩ (by rw [← e1]; exact hld)
            have hw8 := widthN_8 pl
            refine g_iload 1 C dX7_readImage_171 rfl ?_
            refine g_iload_n 2 3 C dX7_readImage_173 rfl rfl ?_
            refine g_ncmp_ne 194 (by omega) (by omega) C dX7_readImage_174 (by decide) (fun c174 => ?_) (fun c174 => ?_)
            · have e9 : rdN tp = none := by rw [hpe]; exact if_neg (fun z => c174 z.1)
              refine g_bipush (v := -5) C dX7_readImage_194 (by decide) ?_
              exact g_iret C dX7_readImage_196 (by show (_ : Nat) ≤ 202; omega) (by show (_ : Nat) ≤ 2525; omega) ⟨pl, by rw [e9], hf2, hmu2, hp2, fun l h => by rw [e9] at h; cases h⟩
            · refine g_aload_n 5 1 C dX7_readImage_177 rfl rfl ?_
              refine g_callV (As := []) (rest := []) C dX7_readImage_178 (c_L_width hp2) wC_X4_width wM_X7_39 wI_X4_width wS_X4_width wN_X4 (kne (by first | exact hp3.1.1 | exact hp2.1.1)) (pf_5 (by first | exact hp3.1.1 | exact hp2.1.1)) rfl hd_X4_width ⟨by decide, by decide, by show (2 * pl.length) + 0 ≤ 202; omega, by show (25 * pl.length) + 0 ≤ 2525; omega⟩ (Nat.le_of_ble_eq_true rfl) (fun r_ S_ h_ => ?_)
              obtain ⟨rfl, rfl⟩ := h_
              change Go X G _ 8 _ _ S2 181 [(5, .int (nI (pl.length))), (4, .int (nI i)), (3, .int (nI (tp.length - 2))), (2, .int (nI w)), (0, .ref t), (1, .ref p)] [.int (nI (widthN pl))]
              refine Go.wide (k2 := (2 * pl.length)) (n2 := (25 * pl.length)) (Nat.le_refl _) (Nat.le_refl _) ?_
              refine g_iload_n 3 2 C dX7_readImage_181 rfl rfl ?_
              refine g_ncmp_ne 194 (by omega) (by omega) C dX7_readImage_182 (by decide) (fun c182 => ?_) (fun c182 => ?_)
              · have e9 : rdN tp = none := by rw [hpe]; exact if_neg (fun z => c182 z.2)
                refine g_bipush (v := -5) C dX7_readImage_194 (by decide) ?_
                exact g_iret C dX7_readImage_196 (by show (_ : Nat) ≤ 202; omega) (by show (_ : Nat) ≤ 2525; omega) ⟨pl, by rw [e9], hf2, hmu2, hp2, fun l h => by rw [e9] at h; cases h⟩
              · refine g_aload_n 4 0 C dX7_readImage_185 rfl rfl ?_
                refine gr_tp_bytes C dX7_readImage_186 kt wF_X7_9 rb ?_
                refine g_iconst (v := nI 0) C dX7_readImage_189 (by decide) ?_
                refine ga_tp_a C dX7_readImage_190 kb (by omega) ?_
                refine g_topi (hf _ (by omega)) ?_
                refine g_goto 196 C dX7_readImage_191 (by decide) ?_
                have e8 : rdN tp = some pl := by rw [hpe, if_pos ⟨c174, c182⟩]
                exact g_iret C dX7_readImage_196 (by show (_ : Nat) ≤ 202; omega) (by show (_ : Nat) ≤ 2525; omega) ⟨pl, by rw [e8], hf2, hmu2, hp2, fun l h => by rw [e8] at h; cases h; rfl⟩
          · refine g_iload 1 C dX7_readImage_84 rfl ?_
            refine g_iload_n 2 3 C dX7_readImage_86 rfl rfl ?_
            refine g_ncmp_ge 108 (by omega) (by omega) C dX7_readImage_87 (by decide) (fun c87 => ?_) (fun c87 => ?_)
            · have e9 : rdN tp = none := rd_no (k := pl.length + 1) hw (by omega) (ld_no hld (fun z => by
                have := z.1; omega))
              refine g_null C dX7_readImage_108 ?_
              refine g_astoreN (lv' := [(6, .null), (5, .int (nI (pl.length))), (4, .int (nI i)), (3, .int (nI (tp.length - 2))), (2, .int (nI w)), (0, .ref t), (1, .ref p)]) C dX7_readImage_109 (by decide) rfl ?_
              refine g_aloadN 0 C dX7_readImage_111 rfl ?_
              refine g_ifnonnullN C dX7_readImage_113 ?_
              refine g_bipush (v := -5) C dX7_readImage_116 (by decide) ?_
              exact g_iret C dX7_readImage_118 (by show (_ : Nat) ≤ 202; omega) (by show (_ : Nat) ≤ 2525; omega) ⟨pl, by rw [e9], hf2, hmu2, hp2, fun l h => by rw [e9] at h; cases h⟩
            · refine g_aload_n 4 0 C dX7_readImage_90 rfl rfl ?_
              refine g_iload 1 C dX7_readImage_91 rfl ?_
              refine g_iconst (v := nI 1) C dX7_readImage_93 (by decide) ?_
              refine g_iadd C dX7_readImage_94 ?_
              refine g_topi (nI_add _ _ : _ = nI (i + 1)) ?_
              refine g_aload_n 4 0 C dX7_readImage_95 rfl rfl ?_
              refine gr_tp_bytes C dX7_readImage_96 kt wF_X7_9 rb ?_
              refine g_iload 1 C dX7_readImage_99 rfl ?_
              refine ga_tp_a C dX7_readImage_101 kb (by omega) ?_
              refine g_topi (hf _ (by omega)) ?_
              have hbi := h255 i (by omega)
              obtain ⟨len, hlen⟩ : ∃ len, len = tp.getD i 0 := ⟨_, rfl⟩
              rw [← hlen] at hbi ⊢
              refine g_callV (As := [.int (nI (i + 1)), .int (nI len)]) (rest := []) C dX7_readImage_102 (c_T_nameAt hT2 (by omega) (by omega)) wC_X7_nameAt wM_X7_26 wI_X7_nameAt wS_X7_nameAt wN_X7 (kne kt) (pf_8 kt) rfl hd_X7_nameAt ⟨by decide, by decide, by show (2 * pl.length) + 2 ≤ 202; omega, by show (25 * pl.length) + 25 ≤ 2525; omega⟩ (Nat.le_of_ble_eq_true rfl) (fun r_ Sa h_ => ?_)
              rcases h_ with ⟨hok, m_, rfl, hf3, hmu3, hnm, hm0⟩ | ⟨hok, rfl, hf3, hmu3⟩
              · change Go X G _ 8 _ _ Sa 105 [(5, .int (nI (pl.length))), (4, .int (nI i)), (3, .int (nI (tp.length - 2))), (2, .int (nI w)), (0, .ref t), (1, .ref p)] [.ref m_]
                refine Go.wide (k2 := ((2 * pl.length) + 2)) (n2 := ((25 * pl.length) + 25)) (Nat.le_refl _) (Nat.le_refl _) ?_
                have f3 := hf2.trans hf3 (fun _ _ h => h.elim)
                have hmu4 := hmu3.trans hmu2
                have hT3 := hT2.fr hf3 hmu3
                obtain ⟨⟨kt, rb, kb⟩, hu, hl1, hf, h255⟩ := id hT3
                have hp3 := hp2.fr hf3 id id id
                obtain ⟨g1, b_, g2, g3, g4, g5⟩ := id hnm
                rw [nmAt_len] at g4
                have hokn : okN (nmAt tp (i + 1) len) := cur_ok (fn := fun u => nI (tp.getD (i + 1 + u) 0)) (q := len) (fun u hu => ⟨rfl, hok.2.2.2 u hu⟩) rfl ⟨hok.1, hok.2.1⟩ h255 (by have := hok.2.2.1; omega)
                have hol := hok.2.1
                have hol2 := hok.2.2.1
                refine g_goto 109 C dX7_readImage_105 (by decide) ?_
                refine g_astore (lv' := [(6, .ref m_), (5, .int (nI (pl.length))), (4, .int (nI i)), (3, .int (nI (tp.length - 2))), (2, .int (nI w)), (0, .ref t), (1, .ref p)]) C dX7_readImage_109 (by decide) rfl ?_
                refine g_aload 0 C dX7_readImage_111 rfl ?_
                refine g_ifnonnull 119 C dX7_readImage_113 (by decide) ?_
                refine g_iload 2 C dX7_readImage_119 rfl ?_
                refine g_iconst (v := nI 1) C dX7_readImage_121 (by decide) ?_
                refine g_iadd C dX7_readImage_122 ?_
                refine g_topi (nI_add _ _ : _ = nI (i + 1)) ?_
                refine g_aload 0 C dX7_readImage_123 rfl ?_
                refine gr_nm_bytes C dX7_readImage_125 g1 wF_X7_23 g2 ?_
                refine gl_nb_a C dX7_readImage_128 g3 ?_
                refine g_topi (congrArg nI g4) ?_
                refine g_iadd C dX7_readImage_129 ?_
                refine g_topi (nI_add _ _ : _ = nI (i + 1 + len)) ?_
                refine g_istore (lv' := [(7, .int (nI (i + 1 + len))), (6, .ref m_), (5, .int (nI (pl.length))), (4, .int (nI i)), (3, .int (nI (tp.length - 2))), (2, .int (nI w)), (0, .ref t), (1, .ref p)]) C dX7_readImage_130 (by decide) rfl ?_
                refine g_iload 0 C dX7_readImage_132 rfl ?_
                refine g_iload_n 5 2 C dX7_readImage_134 rfl rfl ?_
                refine g_iadd C dX7_readImage_135 ?_
                refine g_topi (nI_add _ _ : _ = nI (i + 1 + len + w)) ?_
                refine g_iload_n 4 3 C dX7_readImage_136 rfl rfl ?_
                refine g_ncmp_gt 156 (by omega) (by omega) C dX7_readImage_137 (by decide) (fun c137 => ?_) (fun c137 => ?_)
                · have e9 : rdN tp = none := rd_no (k := pl.length + 1) hw (by omega) (ld_no hld (fun z => by
                    have z4 := z.2.2.2.1; rw [← hlen] at z4; omega))
                  refine g_bipush (v := -5) C dX7_readImage_156 (by decide) ?_
                  exact g_iret C dX7_readImage_158 (by show (_ : Nat) ≤ 202; omega) (by show (_ : Nat) ≤ 2525; omega) ⟨pl, by rw [e9], f3, hmu4, hp3, fun l h => by rw [e9] at h; cases h⟩
                · refine g_aload_n 7 1 C dX7_readImage_140 rfl rfl ?_
                  refine g_aload 1 C dX7_readImage_141 rfl ?_
                  refine g_aload_n 6 0 C dX7_readImage_143 rfl rfl ?_
                  refine g_iload 0 C dX7_readImage_144 rfl ?_
                  refine g_iload_n 5 2 C dX7_readImage_146 rfl rfl ?_
                  refine g_callV (As := [.int (nI (i + 1 + len)), .int (nI w)]) (rest := [.ref m_, .ref p]) C dX7_readImage_147 (c_T_signed hT3 hW (by omega)) wC_X7_signedAt wM_X7_70 wI_X7_signedAt wS_X7_signedAt wN_X7 (kne kt) (pf_8 kt) rfl hd_X7_signedAt ⟨by decide, by decide, by show ((2 * pl.length) + 2) + 0 ≤ 202; omega, by show ((25 * pl.length) + 25) + 0 ≤ 2525; omega⟩ (Nat.le_of_ble_eq_true rfl) (fun r_ S_ h_ => ?_)
                  obtain ⟨rfl, rfl⟩ := h_
                  change Go X G _ 8 _ _ Sa 150 [(7, .int (nI (i + 1 + len))), (6, .ref m_), (5, .int (nI (pl.length))), (4, .int (nI i)), (3, .int (nI (tp.length - 2))), (2, .int (nI w)), (0, .ref t), (1, .ref p)] [.long (vlAt tp (i + 1 + len) (w - 1)), .ref m_, .ref p]
                  refine Go.wide (k2 := ((2 * pl.length) + 2)) (n2 := ((25 * pl.length) + 25)) (Nat.le_refl _) (Nat.le_refl _) ?_
                  refine g_callV (As := [.ref m_, .long (vlAt tp (i + 1 + len) (w - 1))]) (rest := []) C dX7_readImage_150 (c_L_append (v := vlAt tp (i + 1 + len) (w - 1)) hp3 hnm hokn) wC_X4_append wM_X7_74 wI_X4_append wS_X4_append wN_X4 (kne (by first | exact hp3.1.1 | exact hp2.1.1)) (pf_5 (by first | exact hp3.1.1 | exact hp2.1.1)) rfl hd_X4_append ⟨by decide, by decide, by show ((2 * pl.length) + 2) + 0 ≤ 202; omega, by show ((25 * pl.length) + 25) + 0 ≤ 2525; omega⟩ (Nat.le_of_ble_eq_true rfl) (fun r_ S4 h_ => ?_)
                  obtain ⟨rfl, hf4, hmu5, hp4⟩ := h_
                  change Go X G _ 8 _ _ S4 153 [(7, .int (nI (i + 1 + len))), (6, .ref m_), (5, .int (nI (pl.length))), (4, .int (nI i)), (3, .int (nI (tp.length - 2))), (2, .int (nI w)), (0, .ref t), (1, .ref p)] [.int (bI (appB pl 100 (nmAt tp (i + 1) len)))]
                  refine Go.wide (k2 := ((2 * pl.length) + 2)) (n2 := ((25 * pl.length) + 25)) (Nat.le_refl _) (Nat.le_refl _) ?_
                  refine g_if_ne 159 C dX7_readImage_153 (by decide) (fun c153 => ?_) (fun c153 => ?_)
                  · have ea := bI_t c153
                    rw [ea, if_pos rfl] at hp4
                    have hfu : pl.length < 100 := by unfold appB at ea; rw [Bool.and_eq_true] at ea; exact of_decide_eq_true ea.1
                    have hlO : ldOk tp (tp.length - 2) w i pl := ⟨by omega, by rw [← hlen]; exact hok.1, by rw [← hlen]; exact hok.2.1, by rw [← hlen]; omega, fun q hq => hok.2.2.2 q (by omega), by
                      unfold appB at ea
                      rw [Bool.and_eq_true, Bool.or_eq_true] at ea
                      rcases ea.2 with z | z
                      · exact Or.inl (of_decide_eq_true z)
                      · exact Or.inr (by rw [← hlen]; exact z)⟩
                    have hgo := ld_go hld hlO
                    rw [← hlen] at hgo
                    have elen : (pl ++ [(nmAt tp (i + 1) len, vlAt tp (i + 1 + len) (w - 1))]).length = pl.length + 1 := by rw [List.length_append]; rfl
                    refine g_iload 0 C dX7_readImage_159 rfl ?_
                    refine g_iload_n 5 2 C dX7_readImage_161 rfl rfl ?_
                    refine g_iadd C dX7_readImage_162 ?_
                    refine g_topi (nI_add _ _ : _ = nI (i + 1 + len + w)) ?_
                    refine g_istore (lv' := [(4, .int (nI (i + 1 + len + w))), (7, .int (nI (i + 1 + len))), (6, .ref m_), (5, .int (nI (pl.length))), (3, .int (nI (tp.length - 2))), (2, .int (nI w)), (0, .ref t), (1, .ref p)]) C dX7_readImage_163 (by decide) rfl ?_
                    refine g_iinc (v := nI (pl.length + 1)) (lv' := [(5, .int (nI (pl.length + 1))), (4, .int (nI (i + 1 + len + w))), (7, .int (nI (i + 1 + len))), (6, .ref m_), (3, .int (nI (tp.length - 2))), (2, .int (nI w)), (0, .ref t), (1, .ref p)]) 3 C dX7_readImage_165 rfl (nI_add _ 1) (by decide) rfl ?_
                    refine g_goto 73 C dX7_readImage_168 (by decide) ?_
                    refine Go.pick (lv' := [(5, .int (nI (pl.length + 1))), (4, .int (nI (i + 1 + len + w))), (3, .int (nI (tp.length - 2))), (2, .int (nI w)), (0, .ref t), (1, .ref p)]) [0, 1, 4, 5, 6, 7] rfl ?_
                    rw [← elen]
                    refine Go.wide (k2 := 2 * (pl ++ [(nmAt tp (i + 1) len, vlAt tp (i + 1 + len) (w - 1))]).length) (n2 := 25 * (pl ++ [(nmAt tp (i + 1) len, vlAt tp (i + 1 + len) (w - 1))]).length) (by rw [elen]; omega) (by rw [elen]; omega) ?_
                    exact ih_ _ _ S4 (by rw [elen]; omega) ⟨by rw [elen]; omega, by rw [elen]; exact hgo, by omega, by omega, f3.trans hf4 (fun _ _ h => h), hmu5.trans hmu4, hp4⟩
                  · have ea := bI_f c153
                    rw [ea, if_neg (by decide)] at hp4
                    have e9 : rdN tp = none := by
                      by_cases hfu : pl.length < 100
                      · exact rd_no (k := pl.length + 1) hw (by omega) (ld_no hld (fun z => by
                          have z6 := z.2.2.2.2.2
                          rw [← hlen] at z6
                          unfold appB at ea
                          rw [decide_eq_true hfu, Bool.true_and] at ea
                          rcases z6 with z6 | z6
                          · rw [decide_eq_true z6] at ea; cases ea
                          · rw [z6, Bool.or_true] at ea; cases ea))
                      · unfold rdN; exact if_neg (fun z => by have := z.2.1; omega)
                    refine g_bipush (v := -5) C dX7_readImage_156 (by decide) ?_
                    exact g_iret C dX7_readImage_158 (by show (_ : Nat) ≤ 202; omega) (by show (_ : Nat) ≤ 2525; omega) ⟨pl, by rw [e9], f3.trans hf4 (fun _ _ h => h), hmu5.trans hmu4, hp4, fun l h => by rw [e9] at h; cases h⟩
              · change Go X G _ 8 _ _ Sa 105 [(5, .int (nI (pl.length))), (4, .int (nI i)), (3, .int (nI (tp.length - 2))), (2, .int (nI w)), (0, .ref t), (1, .ref p)] [.null]
                refine Go.wide (k2 := ((2 * pl.length) + 2)) (n2 := ((25 * pl.length) + 25)) (Nat.le_refl _) (Nat.le_refl _) ?_
                have hp3 := hp2.fr hf3 id id id
                have f3 := hf2.trans hf3 (fun _ _ h => h.elim)
                have hmu4 := hmu3.trans hmu2
                have e9 : rdN tp = none := rd_no (k := pl.length + 1) hw (by omega) (ld_no hld (fun z => by
                  exact hok (by rw [hlen]; exact z.nm (by omega))))
                refine g_goto 109 C dX7_readImage_105 (by decide) ?_
                refine g_astoreN (lv' := [(6, .null), (5, .int (nI (pl.length))), (4, .int (nI i)), (3, .int (nI (tp.length - 2))), (2, .int (nI w)), (0, .ref t), (1, .ref p)]) C dX7_readImage_109 (by decide) rfl ?_
                refine g_aloadN 0 C dX7_readImage_111 rfl ?_
                refine g_ifnonnullN C dX7_readImage_113 ?_
                refine g_bipush (v := -5) C dX7_readImage_116 (by decide) ?_
                exact g_iret C dX7_readImage_118 (by show (_ : Nat) ≤ 202; omega) (by show (_ : Nat) ≤ 2525; omega) ⟨pl, by rw [e9], f3, hmu4, hp3, fun l h => by rw [e9] at h; cases h⟩
      exact lp (tp.getD 1 0 + 1) 2 [] _ (by omega) ⟨Nat.zero_le _, rfl, by omega, by omega, f1, rfl, h00⟩
  refine g_aload_n 1 1 C dX7_readImage_0 rfl rfl ?_
  refine g_iconst (v := nI 0) C dX7_readImage_1 (by decide) ?_
  refine pp_ls_size C dX7_readImage_2 hp.1.1 wF_X7_48 (Or.inl rfl) ?_
  refine g_aload_n 0 0 C dX7_readImage_5 rfl rfl ?_
  refine gf_tp_used C dX7_readImage_6 kt wF_X7_15 ?_
  refine g_topi (hu) ?_
  refine g_bipush (v := nI 7) C dX7_readImage_9 (by decide) ?_
  refine g_ncmp_lt 21 (by omega) (by omega) C dX7_readImage_11 (by decide) (fun c11 => ?_) (fun c11 => ?_)
  · have e9 : rdN tp = none := by unfold rdN; exact if_neg (fun z => by omega)
    refine g_bipush (v := -5) C dX7_readImage_21 (by decide) ?_
    have e9b := e9
    exact g_iret C dX7_readImage_23 (by decide) (by decide) ⟨[], by rw [e9], f1, rfl, h00, fun l h => by rw [e9] at h; cases h⟩
  · refine g_aload_n 0 0 C dX7_readImage_14 rfl rfl ?_
    refine g_st (S' := tpC (ls_size_ S (va_up (ls_size S) p (nI 0))) (tp_a S) tp) (by rw [show tpC (ls_size_ S (va_up (ls_size S) p (nI 0))) (tp_a S) tp = tp_used_ (ls_size_ S (va_up (ls_size S) p (nI 0))) (nI tp.length) from rfl, ← hu]) ?_
    refine g_callV (As := []) (rest := []) C dX7_readImage_15 (c_T_sum (S := ls_size_ S (va_up (ls_size S) p (nI 0))) (f := tp_a S) (tp := tp) kt rb kb hl1 hf h255) wC_X7_sum wM_X7_67 wI_X7_sum wS_X7_sum wN_X7 (kne kt) (pf_8 kt) rfl hd_X7_sum ⟨by decide, by decide, by decide, by decide⟩ (Nat.le_of_ble_eq_true rfl) (fun r_ S_ h_ => ?_)
    obtain ⟨rfl, rfl⟩ := h_
    change Go X G _ 8 _ _ (tpC (ls_size_ S (va_up (ls_size S) p (nI 0))) (tp_a S) tp) 18 [(0, .ref t), (1, .ref p)] [.int (nI (sumB tp tp.length % 256))]
    refine g_st (S' := ls_size_ S (va_up (ls_size S) p (nI 0))) (by rw [show tpC (ls_size_ S (va_up (ls_size S) p (nI 0))) (tp_a S) tp = tp_used_ (ls_size_ S (va_up (ls_size S) p (nI 0))) (nI tp.length) from rfl, ← hu]) ?_
    refine g_nif_eq 24 (by omega) C dX7_readImage_18 (by decide) (fun c18 => ?_) (fun c18 => ?_)
    · have hsm : sumB tp tp.length % 256 = 0 := c18
      obtain ⟨w, hw⟩ : ∃ w, w = tp.getD (tp.length - 2) 0 := ⟨_, rfl⟩
      have hfw : tp_a S (tp.length - 2) = nI w := by rw [hw]; exact hf _ (by omega)
      have hbw := h255 (tp.length - 2) (by omega)
      rw [← hw] at hbw
      refine g_aload_n 0 0 C dX7_readImage_24 rfl rfl ?_
      refine gr_tp_bytes C dX7_readImage_25 kt wF_X7_9 rb ?_
      refine g_aload_n 0 0 C dX7_readImage_28 rfl rfl ?_
      refine gf_tp_used C dX7_readImage_29 kt wF_X7_15 ?_
      refine g_topi (hu) ?_
      refine g_iconst (v := nI 2) C dX7_readImage_32 (by decide) ?_
      refine g_isub C dX7_readImage_33 ?_
      refine g_topi (pk_sub (by omega) : _ = nI (tp.length - 2)) ?_
      refine ga_tp_a C dX7_readImage_34 kb (by omega) ?_
      refine g_topi (hfw) ?_
      refine g_istore_n (lv' := [(2, .int (nI w)), (0, .ref t), (1, .ref p)]) C dX7_readImage_35 rfl (by decide) rfl ?_
      refine g_iload_n 0 2 C dX7_readImage_36 rfl rfl ?_
      refine g_iconst (v := nI 1) C dX7_readImage_37 (by decide) ?_
      refine g_ncmp_eq 60 (by omega) (by omega) C dX7_readImage_38 (by decide) (fun c38 => ?_) (fun c38 => ?_)
      · exact tail 1 w (by omega) ⟨hw, by omega, by omega, hsm⟩
      · refine g_iload_n 0 2 C dX7_readImage_41 rfl rfl ?_
        refine g_iconst (v := nI 2) C dX7_readImage_42 (by decide) ?_
        refine g_ncmp_eq 60 (by omega) (by omega) C dX7_readImage_43 (by decide) (fun c43 => ?_) (fun c43 => ?_)
        · exact tail 1 w (by omega) ⟨hw, by omega, by omega, hsm⟩
        · refine g_iload_n 0 2 C dX7_readImage_46 rfl rfl ?_
          refine g_iconst (v := nI 4) C dX7_readImage_47 (by decide) ?_
          refine g_ncmp_eq 60 (by omega) (by omega) C dX7_readImage_48 (by decide) (fun c48 => ?_) (fun c48 => ?_)
          · exact tail 1 w (by omega) ⟨hw, by omega, by omega, hsm⟩
          · refine g_iload_n 0 2 C dX7_readImage_51 rfl rfl ?_
            refine g_bipush (v := nI 8) C dX7_readImage_52 (by decide) ?_
            refine g_ncmp_eq 60 (by omega) (by omega) C dX7_readImage_54 (by decide) (fun c54 => ?_) (fun c54 => ?_)
            · exact tail 1 w (by omega) ⟨hw, by omega, by omega, hsm⟩
            · have e9 : rdN tp = none := by unfold rdN; exact if_neg (fun z => by rw [← hw] at z; omega)
              refine g_bipush (v := -5) C dX7_readImage_57 (by decide) ?_
              have e9b := e9
              exact g_iret C dX7_readImage_59 (by decide) (by decide) ⟨[], by rw [e9], f1, rfl, h00, fun l h => by rw [e9] at h; cases h⟩
    · have e9 : rdN tp = none := by unfold rdN; exact if_neg (fun z => c18 z.2.2.1)
      refine g_bipush (v := -5) C dX7_readImage_21 (by decide) ?_
      have e9b := e9
      exact g_iret C dX7_readImage_23 (by decide) (by decide) ⟨[], by rw [e9], f1, rfl, h00, fun l h => by rw [e9] at h; cases h⟩
theorem parse_rd {tp : List Nat} : parseN tp = (match rdN tp with | some l => if 1 ≤ tp.getD 0 0 ∧ tp.getD 0 0 ≤ 5 ∧ fitsN l (tp.getD 0 0) = true then some l else none | none => none) := by
  have hlen : ∀ w e k i l, ldS tp w e k = some (i, l) → l.length = k := by
    intro w e k
    induction k with
    | zero => intro i l h; cases h; rfl
    | succ k ih =>
      intro i l h
      cases hq : ldS tp w e k with
      | none => rw [show ldS tp w e (k + 1) = none from ld_none hq 1] at h; cases h
      | some r =>
        obtain ⟨i1, l1⟩ := r
        by_cases hO : ldOk tp e w i1 l1
        · rw [ld_go hq hO] at h; cases h; rw [List.length_append, ih _ _ hq]; rfl
        · rw [ld_no hq hO] at h; cases h
  by_cases h : 6 ≤ tp.length ∧ 1 ≤ tp.getD 0 0 ∧ tp.getD 0 0 ≤ 5 ∧ 1 ≤ tp.getD 1 0 ∧ tp.getD 1 0 ≤ 100 ∧ sumB tp tp.length % 256 = 0 ∧ (tp.getD (tp.length - 2) 0 = 1 ∨ tp.getD (tp.length - 2) 0 = 2 ∨ tp.getD (tp.length - 2) 0 = 4 ∨ tp.getD (tp.length - 2) 0 = 8)
  · by_cases h7 : 7 ≤ tp.length
    · unfold parseN rdN
      rw [if_pos h, if_pos ⟨h7, h.2.2.2.2.1, h.2.2.2.2.2.1, h.2.2.2.2.2.2⟩]
      cases hl : ldS tp (tp.getD (tp.length - 2) 0) (tp.length - 2) (tp.getD 1 0) with
      | none => rfl
      | some r =>
        obtain ⟨i, l⟩ := r
        show (if _ then _ else _ : Option (List Ent)) = match (if _ then _ else _ : Option (List Ent)) with | some l => _ | none => _
        by_cases g : i = tp.length - 2 ∧ widthN l = tp.getD (tp.length - 2) 0
        · rw [if_pos g]
          show _ = (if _ then _ else _ : Option (List Ent))
          by_cases g2 : fitsN l (tp.getD 0 0) = true
          · rw [if_pos ⟨g.1, g.2, g2⟩, if_pos ⟨h.2.1, h.2.2.1, g2⟩]
          · rw [if_neg (fun z => g2 z.2.2), if_neg (fun z => g2 z.2.2)]
        · rw [if_neg g, if_neg (fun z => g ⟨z.1, z.2.1⟩)]
    · have hn : ldS tp (tp.getD (tp.length - 2) 0) (tp.length - 2) 1 = none := ld_no (k := 0) (i := 2) (l := []) rfl (fun z => by
        have z1 := z.2.1
        have z4 := z.2.2.2.1
        omega)
      rw [parse_no (k := 1) rfl h.2.2.2.1 hn]
      rw [show rdN tp = none from by unfold rdN; exact if_neg (fun z => h7 z.1)]
  · rw [show parseN tp = none from by unfold parseN; exact if_neg h]
    by_cases g : 7 ≤ tp.length ∧ tp.getD 1 0 ≤ 100 ∧ sumB tp tp.length % 256 = 0 ∧ (tp.getD (tp.length - 2) 0 = 1 ∨ tp.getD (tp.length - 2) 0 = 2 ∨ tp.getD (tp.length - 2) 0 = 4 ∨ tp.getD (tp.length - 2) 0 = 8)
    · cases hr : rdN tp with
      | none => rfl
      | some l =>
        show none = (if _ then _ else _ : Option (List Ent))
        rw [if_neg]
        intro z
        refine h ⟨by omega, z.1, z.2.1, ?_, g.2.1, g.2.2.1, g.2.2.2⟩
        have hp := fitsN_pos z.2.2
        unfold rdN at hr
        rw [if_pos g] at hr
        cases hl : ldS tp (tp.getD (tp.length - 2) 0) (tp.length - 2) (tp.getD 1 0) with
        | none => rw [hl] at hr; cases hr
        | some r =>
          obtain ⟨i, l'⟩ := r
          rw [hl] at hr
          have h9 := hlen _ _ _ _ _ hl
          simp only [] at hr
          split at hr
          · cases hr; omega
          · cases hr
    · rw [show rdN tp = none from by unfold rdN; exact if_neg g]
