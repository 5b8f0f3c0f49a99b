theorem rd_ok {tp : List Nat} {l : List Ent} (h : rdN tp = some l) (h255 : ∀ i, i < tp.length → tp.getD i 0 ≤ 255) (h1000 : tp.length ≤ 1000) : okL l := by
  unfold rdN at h
  split at h
  · rename_i h6
    split at h
    · rename_i i l' hl
      split at h
      · rename_i h7
        cases h
        have key : ∀ k, k ≤ 100 → ∀ i l, ldS tp (tp.getD (tp.length - 2) 0) (tp.length - 2) k = some (i, l) → l.length = k ∧ okL l := by
          intro k
          induction k with
          | zero => intro _ i l h; cases h; exact ⟨rfl, by decide, fun k hk => absurd hk (Nat.not_lt_zero _), fun i j _ hj => absurd hj (Nat.not_lt_zero _)⟩
          | succ k ih =>
            intro hk i2 l2 h2
            cases hq : ldS tp (tp.getD (tp.length - 2) 0) (tp.length - 2) k with
            | none => rw [show ldS tp (tp.getD (tp.length - 2) 0) (tp.length - 2) (k + 1) = none from ld_none hq 1] at h2; cases h2
            | some r =>
              obtain ⟨i1, l1⟩ := r
              obtain ⟨e1, e2⟩ := ih (by omega) i1 l1 hq
              by_cases hO : ldOk tp (tp.length - 2) (tp.getD (tp.length - 2) 0) i1 l1
              · rw [ld_go hq hO] at h2
                cases h2
                obtain ⟨o1, o2, o3, o4, o5, o6⟩ := hO
                refine ⟨by rw [List.length_append, e1]; rfl, by rw [List.length_append]; show _ + 1 ≤ _; omega, fun q hq => ?_, fun a b hab hb => ?_⟩
                · rw [List.length_append] at hq
                  have hq' : q < l1.length + 1 := hq
                  show okN ((l1 ++ _).getD q _).1
                  rw [getD_app]
                  split
                  · exact e2.2.1 q (by assumption)
                  · rw [show q - l1.length = 0 by omega]
                    exact cur_ok (fn := fun u => nI (tp.getD (i1 + 1 + u) 0)) (q := tp.getD i1 0) (fun u hu => ⟨rfl, o5 u hu⟩) rfl ⟨o2, o3⟩ h255 (by omega)
                · rw [List.length_append] at hb
                  have hb' : b < l1.length + 1 := hb
                  show less ((l1 ++ _).getD a _).1 ((l1 ++ _).getD b _).1 = true
                  rw [getD_app, getD_app, if_pos (show a < l1.length by omega)]
                  split
                  · exact e2.2.2 a b hab (by assumption)
                  · rw [show b - l1.length = 0 by omega]
                    rcases o6 with o6 | o6
                    · omega
                    · by_cases e : a = l1.length - 1
                      · rw [e]; exact o6
                      · exact less_trans (e2.2.2 a (l1.length - 1) (by omega) (by omega)) o6
              · rw [ld_no hq hO] at h2; cases h2
        exact (key _ h6.2.1 _ _ hl).2
      · cases h
    · cases h
  · cases h
theorem kdB_le {k : Int32} (h : kdB k = true) : 1 ≤ k.toNatClampNeg ∧ k.toNatClampNeg ≤ 5 := by
  by_cases h1 : k < nI 1
  · rw [kd_lo h1] at h; cases h
  · by_cases h2 : nI 5 < k
    · rw [kd_hi h2] at h; cases h
    · obtain ⟨i, a1, a2, rfl, -⟩ := kd_in h1 h2
      rw [nI_clamp (by omega)]; exact ⟨a1, a2⟩
theorem thC_book {S : PS} {d : Nat → Nat} {w : Nat} {l : List Ent} (hw : w ≤ 5) (h : bookC S d (bookT w l)) : thC S d (bookT w l) := ⟨fun _ => h, fun e => absurd (show w = 6 from e) (by omega), fun e => absurd (show w = 7 from e) (by omega)⟩
/-- the pending list and the tape change -/
theorem RCD.pend {S S' : PS} {Z : ZT} {x : Nat} {c : Nat → Nat} {D : Nat → Nat → Nat} {L : List Ent} {tp : List Nat} (h : RCD S Z x c D) (hf : Fr S S' (A3 (c 13) (c 14) (c 15))) (hl : listC S' (c 13) (c 14) (c 15) 100 L) (hT : tapeC S' (c 1) (c 2) tp) (hpl : pl_a S' = pl_a S) (hs : ba_refusal S' = ba_refusal S) : RCD S' (zT_ Z tp) x c D := by
  obtain ⟨h1, h2, h3, h4, h5, h6, ⟨w, h7⟩, ⟨l, h8⟩, h9⟩ := h
  have hd : ∀ t, usedP (zP Z) t → ∀ i, i < 9 → ¬ A3 (c 13) (c 14) (c 15) (D t i) := fun t ht i hi z => by
    rcases z with e | e | e
    · exact (h9.2.1 t ht i hi).2 13 (by unfold fixI; decide) e
    · exact (h9.2.1 t ht i hi).2 14 (by unfold fixI; decide) e
    · exact (h9.2.1 t ht i hi).2 15 (by unfold fixI; decide) e
  have hk : ∀ a, (kd S a ≠ 5 ∧ kd S a ≠ 19 ∧ kd S a ≠ 18) → ¬ A3 (c 13) (c 14) (c 15) a := fun a ha z => by
    rcases z with e | e | e
    · rw [e] at ha; exact ha.1 h8.1.1
    · rw [e] at ha; exact ha.2.1 h8.2.1.1
    · rw [e] at ha; exact ha.2.2 h8.2.2.1.1
  refine ⟨h1.fr hf, hT, by rw [hpl]; exact h3, fun t ht => (h4 t ht).fr hf (hd t ht), hs.trans h5, h6.fr hf (hk _ (by rw [h6.1.1]; decide)) (hk _ (by rw [h6.2.1.1]; decide)), ⟨w, h7.fr hf (hk _ (by rw [h7.1.1]; decide)) (hk _ (by rw [h7.2.1.1]; decide))⟩, ⟨L, hl⟩, h9.fr hf⟩
theorem pend_no {S : PS} {Z : ZT} {x : Nat} {c : Nat → Nat} {D : Nat → Nat → Nat} (h : RCD S Z x c D) {t i : Nat} (ht : usedP (zP Z) t) (hi : i < 9) : ¬ A3 (c 13) (c 14) (c 15) (D t i) := fun z => by
  rcases z with e | e | e
  · exact (h.2.2.2.2.2.2.2.2.2.1 t ht i hi).2 13 (by unfold fixI; decide) e
  · exact (h.2.2.2.2.2.2.2.2.2.1 t ht i hi).2 14 (by unfold fixI; decide) e
  · exact (h.2.2.2.2.2.2.2.2.2.1 t ht i hi).2 15 (by unfold fixI; decide) e
theorem Fk.trans {S S1 S2 : PS} (h1 : Fk S S1) (h2 : Fk S1 S2) : Fk S S2 := ⟨h2.1.trans h1.1, fun a ha => (h2.2 a (by rw [h1.2 a ha]; exact ha)).trans (h1.2 a ha)⟩
set_option maxRecDepth 100000 in
set_option maxHeartbeats 400000 in
theorem c_C_shelve_no {lX : Launch} {G : Gx} {S : PS} {x : Nat} {c : Nat → Nat} (hC : CoC S x c) {p : Int32} : Ct lX yX10_shelve cX10_shelve 3 (Option.some Jvm.ClassFile.FieldType.int) rm_X10_shelve G [.ref x, .int p, .null] S (fun r S' => r = some (.int (-5)) ∧ S = S') := by
  refine Ct.mk RX10 "shelve" hy_X10_shelve (Nat.le_of_ble_eq_true rfl) (fun X hX C => ?_)
  change Go X G _ 3 0 0 S 0 [(0, .ref x), (1, .int p), (2, .null)] []
  refine g_aload_nN 2 2 C dX10_shelve_0 rfl rfl ?_
  refine g_ifnullN 11 C dX10_shelve_1 (by decide) ?_
  refine g_bipush (v := -5) C dX10_shelve_11 (by decide) ?_
  exact g_iret C dX10_shelve_13 (by decide) (by decide) (⟨rfl, rfl⟩)
set_option maxRecDepth 100000 in
set_option maxHeartbeats 400000 in
theorem c_C_shelve_at {lX : Launch} {G : Gx} {S : PS} {x : Nat} {c : Nat → Nat} (hC : CoC S x c) {j : Nat} (hj : j < 10) {d : Nat → Nat} {T : Th} (hb : bookC S d T) : Ct lX yX10_shelve cX10_shelve 3 (Option.some Jvm.ClassFile.FieldType.int) rm_X10_shelve G [.ref x, .int (nI j), .ref ((d 0))] S (fun r S' => r = some (.int (nI (tL T).length)) ∧ S' = (pl_a_ S (va_up (pl_a S) j (some (d 0))))) := by
  refine Ct.mk RX10 "shelve" hy_X10_shelve (Nat.le_of_ble_eq_true rfl) (fun X hX C => ?_)
  change Go X G _ 3 0 0 S 0 [(0, .ref x), (1, .int (nI j)), (2, .ref ((d 0)))] []
  refine g_aload_n 2 2 C dX10_shelve_0 rfl rfl ?_
  refine g_ifnull C dX10_shelve_1 ?_
  refine g_iload_n 1 1 C dX10_shelve_4 rfl rfl ?_
  refine g_callS (As := [.int (nI j)]) (rest := []) C dX10_shelve_5 (c_C_beyond_in hj) wC_X10_isBeyond wM_X10_63 wZ_X10_isBeyond wN_X10 hd_X10_isBeyond.2 ⟨by decide, by decide, by decide, by decide⟩ (Nat.le_of_ble_eq_true rfl) (fun r_ S_ h_ => ?_)
  obtain ⟨rfl, rfl⟩ := h_
  change Go X G _ 3 _ _ S 8 [(0, .ref x), (1, .int (nI j)), (2, .ref ((d 0)))] [.int (nI 0)]
  refine g_nif_eq 14 (by decide) C dX10_shelve_8 (by decide) (fun _ => ?_) (fun c => absurd c (by decide))
  refine g_aload_n 0 0 C dX10_shelve_14 rfl rfl ?_
  refine gr_ba_places C dX10_shelve_15 hC.1.1 wF_X10_11 hC.1.2.1 ?_
  refine g_iload_n 1 1 C dX10_shelve_18 rfl rfl ?_
  refine g_aload_n 2 2 C dX10_shelve_19 rfl rfl ?_
  refine gs_pl (r := (RX2, TX2, 6)) C dX10_shelve_20 hC.1.2.2 (by omega) (kne hb.1.1) (pf_3 hb.1.1) rfl C.2.2.2.2.2.1.2.2.2.1.2.1 ?_
  refine g_aload_n 2 2 C dX10_shelve_21 rfl rfl ?_
  refine gr_bk_list C dX10_shelve_22 hb.1.1 wF_X10_124 hb.1.2.2 ?_
  refine gf_ls_size C dX10_shelve_25 hb.2.1.1.1 wF_X10_129 ?_
  refine g_topi (hb.2.1.2.2.2.1) ?_
  exact g_iret C dX10_shelve_28 (by decide) (by decide) (⟨rfl, rfl⟩)
set_option maxRecDepth 100000 in
set_option maxHeartbeats 400000 in
theorem c_C_seal_o1 {lX : Launch} {G : Gx} {S : PS} {x : Nat} {c : Nat → Nat} {D : Nat → Nat → Nat} {Z : ZT} (hr : RCD S Z x c D) (hZ : okZ Z) {p q k : Int32} (hp : p < 0 ∨ nI 10 ≤ p) : Ct lX yX10_seal cX10_seal 5 (Option.some Jvm.ClassFile.FieldType.int) rm_X10_seal G [.ref x, .int p, .int q, .int k] S (fun r S' => r = some (.int (A_seal Z p q k)) ∧ RC S' (N_seal Z p q k) x ∧ Fk S S') := by
  obtain ⟨⟨⟨kx, r0, k0⟩, r1, r3, r5, ⟨r7, k7⟩, ⟨r8, k8⟩, ⟨r9, k9⟩, ⟨r10, k10⟩, ⟨r11, k11⟩, ⟨r12, k12⟩, r13⟩, hT, hP, hH, hRf, hW, hA, hL, hSep⟩ := id hr
  obtain ⟨⟨k1, r2, k2⟩, hu, htl, htf, ht255⟩ := id hT
  obtain ⟨⟨k3, r4⟩, ⟨k4, l4⟩, ws, wl, wv⟩ := id hW
  refine Ct.mk RX10 "seal" hy_X10_seal (Nat.le_of_ble_eq_true rfl) (fun X hX C => ?_)
  change Go X G _ 5 0 0 S 0 [(0, .ref x), (1, .int p), (2, .int q), (3, .int k)] []
  refine g_iload_n 1 1 C dX10_seal_0 rfl rfl ?_
  refine g_callS (As := [.int p]) (rest := []) C dX10_seal_1 (c_C_beyond_out hp) wC_X10_isBeyond wM_X10_63 wZ_X10_isBeyond wN_X10 hd_X10_isBeyond.2 ⟨by decide, by decide, by decide, by decide⟩ (Nat.le_of_ble_eq_true rfl) (fun r_ S_ h_ => ?_)
  obtain ⟨rfl, rfl⟩ := h_
  change Go X G _ 5 _ _ S 4 [(0, .ref x), (1, .int p), (2, .int q), (3, .int k)] [.int (nI 1)]
  refine g_nif_ne 14 (by decide) C dX10_seal_4 (by decide) (fun _ => ?_) (fun c => absurd c (by decide))
  refine g_bipush (v := -2) C dX10_seal_14 (by decide) ?_
  exact g_iret C dX10_seal_16 (by decide) (by decide) (⟨by unfold A_seal; rw [if_pos (Or.inl hp)], ⟨c, D, by unfold N_seal; rw [if_pos (Or.inl hp)]; exact hr⟩, Fk.refl S⟩)
set_option maxRecDepth 100000 in
set_option maxHeartbeats 400000 in
theorem c_C_seal_o2 {lX : Launch} {G : Gx} {S : PS} {x : Nat} {c : Nat → Nat} {D : Nat → Nat → Nat} {Z : ZT} (hr : RCD S Z x c D) (hZ : okZ Z) {j : Nat} {q k : Int32} (hj : j < 10) (hp : q < 0 ∨ nI 10 ≤ q) : Ct lX yX10_seal cX10_seal 5 (Option.some Jvm.ClassFile.FieldType.int) rm_X10_seal G [.ref x, .int (nI j), .int q, .int k] S (fun r S' => r = some (.int (A_seal Z (nI j) q k)) ∧ RC S' (N_seal Z (nI j) q k) x ∧ Fk S S') := by
  obtain ⟨⟨⟨kx, r0, k0⟩, r1, r3, r5, ⟨r7, k7⟩, ⟨r8, k8⟩, ⟨r9, k9⟩, ⟨r10, k10⟩, ⟨r11, k11⟩, ⟨r12, k12⟩, r13⟩, hT, hP, hH, hRf, hW, hA, hL, hSep⟩ := id hr
  obtain ⟨⟨k1, r2, k2⟩, hu, htl, htf, ht255⟩ := id hT
  obtain ⟨⟨k3, r4⟩, ⟨k4, l4⟩, ws, wl, wv⟩ := id hW
  refine Ct.mk RX10 "seal" hy_X10_seal (Nat.le_of_ble_eq_true rfl) (fun X hX C => ?_)
  change Go X G _ 5 0 0 S 0 [(0, .ref x), (1, .int (nI j)), (2, .int q), (3, .int k)] []
  refine g_iload_n 1 1 C dX10_seal_0 rfl rfl ?_
  refine g_callS (As := [.int (nI j)]) (rest := []) C dX10_seal_1 (c_C_beyond_in hj) wC_X10_isBeyond wM_X10_63 wZ_X10_isBeyond wN_X10 hd_X10_isBeyond.2 ⟨by decide, by decide, by decide, by decide⟩ (Nat.le_of_ble_eq_true rfl) (fun r_ S_ h_ => ?_)
  obtain ⟨rfl, rfl⟩ := h_
  change Go X G _ 5 _ _ S 4 [(0, .ref x), (1, .int (nI j)), (2, .int q), (3, .int k)] [.int (nI 0)]
  refine g_nif_ne 14 (by decide) C dX10_seal_4 (by decide) (fun c => absurd c (by decide)) (fun _ => ?_)
  refine g_iload_n 2 2 C dX10_seal_7 rfl rfl ?_
  refine g_callS (As := [.int q]) (rest := []) C dX10_seal_8 (c_C_beyond_out hp) wC_X10_isBeyond wM_X10_63 wZ_X10_isBeyond wN_X10 hd_X10_isBeyond.2 ⟨by decide, by decide, by decide, by decide⟩ (Nat.le_of_ble_eq_true rfl) (fun r_ S_ h_ => ?_)
  obtain ⟨rfl, rfl⟩ := h_
  change Go X G _ 5 _ _ S 11 [(0, .ref x), (1, .int (nI j)), (2, .int q), (3, .int k)] [.int (nI 1)]
  refine g_nif_eq 17 (by decide) C dX10_seal_11 (by decide) (fun c => absurd c (by decide)) (fun _ => ?_)
  refine g_bipush (v := -2) C dX10_seal_14 (by decide) ?_
  exact g_iret C dX10_seal_16 (by decide) (by decide) (⟨by unfold A_seal; rw [if_pos (Or.inr hp)], ⟨c, D, by unfold N_seal; rw [if_pos (Or.inr hp)]; exact hr⟩, Fk.refl S⟩)
set_option maxRecDepth 100000 in
set_option maxHeartbeats 400000 in
theorem c_C_seal_err {lX : Launch} {G : Gx} {S : PS} {x : Nat} {c : Nat → Nat} {D : Nat → Nat → Nat} {Z : ZT} (hr : RCD S Z x c D) (hZ : okZ Z) {j i : Nat} {e k : Int32} (hj : j < 10) (hi : i < 10) (he : draftE Z (nI j) = .inl e) : Ct lX yX10_seal cX10_seal 5 (Option.some Jvm.ClassFile.FieldType.int) rm_X10_seal G [.ref x, .int (nI j), .int (nI i), .int k] S (fun r S' => r = some (.int (A_seal Z (nI j) (nI i) k)) ∧ RC S' (N_seal Z (nI j) (nI i) k) x ∧ Fk S S') := by
  obtain ⟨⟨⟨kx, r0, k0⟩, r1, r3, r5, ⟨r7, k7⟩, ⟨r8, k8⟩, ⟨r9, k9⟩, ⟨r10, k10⟩, ⟨r11, k11⟩, ⟨r12, k12⟩, r13⟩, hT, hP, hH, hRf, hW, hA, hL, hSep⟩ := id hr
  obtain ⟨⟨k1, r2, k2⟩, hu, htl, htf, ht255⟩ := id hT
  obtain ⟨⟨k3, r4⟩, ⟨k4, l4⟩, ws, wl, wv⟩ := id hW
  refine Ct.mk RX10 "seal" hy_X10_seal (Nat.le_of_ble_eq_true rfl) (fun X hX C => ?_)
  change Go X G _ 5 0 0 S 0 [(0, .ref x), (1, .int (nI j)), (2, .int (nI i)), (3, .int k)] []
  refine g_iload_n 1 1 C dX10_seal_0 rfl rfl ?_
  refine g_callS (As := [.int (nI j)]) (rest := []) C dX10_seal_1 (c_C_beyond_in hj) wC_X10_isBeyond wM_X10_63 wZ_X10_isBeyond wN_X10 hd_X10_isBeyond.2 ⟨by decide, by decide, by decide, by decide⟩ (Nat.le_of_ble_eq_true rfl) (fun r_ S_ h_ => ?_)
  obtain ⟨rfl, rfl⟩ := h_
  change Go X G _ 5 _ _ S 4 [(0, .ref x), (1, .int (nI j)), (2, .int (nI i)), (3, .int k)] [.int (nI 0)]
  refine g_nif_ne 14 (by decide) C dX10_seal_4 (by decide) (fun c => absurd c (by decide)) (fun _ => ?_)
  refine g_iload_n 2 2 C dX10_seal_7 rfl rfl ?_
  refine g_callS (As := [.int (nI i)]) (rest := []) C dX10_seal_8 (c_C_beyond_in hi) wC_X10_isBeyond wM_X10_63 wZ_X10_isBeyond wN_X10 hd_X10_isBeyond.2 ⟨by decide, by decide, by decide, by decide⟩ (Nat.le_of_ble_eq_true rfl) (fun r_ S_ h_ => ?_)
  obtain ⟨rfl, rfl⟩ := h_
  change Go X G _ 5 _ _ S 11 [(0, .ref x), (1, .int (nI j)), (2, .int (nI i)), (3, .int k)] [.int (nI 0)]
  refine g_nif_eq 17 (by decide) C dX10_seal_11 (by decide) (fun _ => ?_) (fun c => absurd c (by decide))
  refine g_aload_n 0 0 C dX10_seal_17 rfl rfl ?_
  refine g_iload_n 1 1 C dX10_seal_18 rfl rfl ?_
  refine g_callV (As := [.int (nI j)]) (rest := []) C dX10_seal_19 (c_C_draftAt_err hr hZ he) wC_X10_draftAt wM_X10_84 wI_X10_draftAt wS_X10_draftAt wN_X10 (kne kx) (pf_10 kx) rfl hd_X10_draftAt ⟨by decide, by decide, by decide, by decide⟩ (Nat.le_of_ble_eq_true rfl) (fun r_ S_ h_ => ?_)
  obtain ⟨rfl, rfl⟩ := h_
  change Go X G _ 5 _ _ S 22 [(0, .ref x), (1, .int (nI j)), (2, .int (nI i)), (3, .int k)] [.null]
  refine g_astoreN (lv' := [(4, .null), (0, .ref x), (1, .int (nI j)), (2, .int (nI i)), (3, .int k)]) C dX10_seal_22 (by decide) rfl ?_
  refine g_aloadN 0 C dX10_seal_24 rfl ?_
  refine g_ifnonnullN C dX10_seal_26 ?_
  refine g_aload_n 1 0 C dX10_seal_29 rfl rfl ?_
  refine g_iload_n 2 1 C dX10_seal_30 rfl rfl ?_
  refine g_callV (As := [.int (nI j)]) (rest := []) C dX10_seal_31 (c_C_ref hr hZ) wC_X10_refusalAt wM_X10_88 wI_X10_refusalAt wS_X10_refusalAt wN_X10 (kne kx) (pf_10 kx) rfl hd_X10_refusalAt ⟨by decide, by decide, by decide, by decide⟩ (Nat.le_of_ble_eq_true rfl) (fun r_ S_ h_ => ?_)
  obtain ⟨rfl, rfl⟩ := h_
  change Go X G _ 5 _ _ S 34 [(4, .null), (0, .ref x), (1, .int (nI j)), (2, .int (nI i)), (3, .int k)] [.int (reA Z (nI j))]
  exact g_iret C dX10_seal_34 (by decide) (by decide) (⟨by unfold A_seal; rw [if_neg (fun z => z.elim (nI_in10 hj) (nI_in10 hi)), he, ref_draft he], ⟨c, D, by unfold N_seal; rw [if_neg (fun z => z.elim (nI_in10 hj) (nI_in10 hi)), he]; exact hr⟩, Fk.refl S⟩)
set_option maxRecDepth 100000 in
set_option maxHeartbeats 400000 in
theorem c_C_seal_ok {lX : Launch} {G : Gx} {S : PS} {x : Nat} {c : Nat → Nat} {D : Nat → Nat → Nat} {Z : ZT} (hr : RCD S Z x c D) (hZ : okZ Z) {j t i : Nat} {k : Int32} (hj : j < 10) (hi : i < 10) (hp : zP Z j = t + 1) (he : draftE Z (nI j) = .inr t) : Ct lX yX10_seal cX10_seal 5 (Option.some Jvm.ClassFile.FieldType.int) rm_X10_seal G [.ref x, .int (nI j), .int (nI i), .int k] S (fun r S' => r = some (.int (A_seal Z (nI j) (nI i) k)) ∧ RC S' (N_seal Z (nI j) (nI i) k) x ∧ Fk S S') := by
  obtain ⟨⟨⟨kx, r0, k0⟩, r1, r3, r5, ⟨r7, k7⟩, ⟨r8, k8⟩, ⟨r9, k9⟩, ⟨r10, k10⟩, ⟨r11, k11⟩, ⟨r12, k12⟩, r13⟩, hT, hP, hH, hRf, hW, hA, hL, hSep⟩ := id hr
  obtain ⟨⟨k1, r2, k2⟩, hu, htl, htf, ht255⟩ := id hT
  obtain ⟨⟨k3, r4⟩, ⟨k4, l4⟩, ws, wl, wv⟩ := id hW
  have hok := (hZ.th hj hp).1
  have hk6 : tK (zH Z t) = 6 := by obtain ⟨j2, _, e2, h2, h3⟩ := draftE_inr he; exact h3
  have hdr := (hH t ⟨j, hj, hp⟩).2.1 hk6
  refine Ct.mk RX10 "seal" hy_X10_seal (Nat.le_of_ble_eq_true rfl) (fun X hX C => ?_)
  change Go X G _ 5 0 0 S 0 [(0, .ref x), (1, .int (nI j)), (2, .int (nI i)), (3, .int k)] []
  refine g_iload_n 1 1 C dX10_seal_0 rfl rfl ?_
  refine g_callS (As := [.int (nI j)]) (rest := []) C dX10_seal_1 (c_C_beyond_in hj) wC_X10_isBeyond wM_X10_63 wZ_X10_isBeyond wN_X10 hd_X10_isBeyond.2 ⟨by decide, by decide, by decide, by decide⟩ (Nat.le_of_ble_eq_true rfl) (fun r_ S_ h_ => ?_)
  obtain ⟨rfl, rfl⟩ := h_
  change Go X G _ 5 _ _ S 4 [(0, .ref x), (1, .int (nI j)), (2, .int (nI i)), (3, .int k)] [.int (nI 0)]
  refine g_nif_ne 14 (by decide) C dX10_seal_4 (by decide) (fun c => absurd c (by decide)) (fun _ => ?_)
  refine g_iload_n 2 2 C dX10_seal_7 rfl rfl ?_
  refine g_callS (As := [.int (nI i)]) (rest := []) C dX10_seal_8 (c_C_beyond_in hi) wC_X10_isBeyond wM_X10_63 wZ_X10_isBeyond wN_X10 hd_X10_isBeyond.2 ⟨by decide, by decide, by decide, by decide⟩ (Nat.le_of_ble_eq_true rfl) (fun r_ S_ h_ => ?_)
  obtain ⟨rfl, rfl⟩ := h_
  change Go X G _ 5 _ _ S 11 [(0, .ref x), (1, .int (nI j)), (2, .int (nI i)), (3, .int k)] [.int (nI 0)]
  refine g_nif_eq 17 (by decide) C dX10_seal_11 (by decide) (fun _ => ?_) (fun c => absurd c (by decide))
  refine g_aload_n 0 0 C dX10_seal_17 rfl rfl ?_
  refine g_iload_n 1 1 C dX10_seal_18 rfl rfl ?_
  refine g_callV (As := [.int (nI j)]) (rest := []) C dX10_seal_19 (c_C_draftAt_ok hr hZ hj hp he) wC_X10_draftAt wM_X10_84 wI_X10_draftAt wS_X10_draftAt wN_X10 (kne kx) (pf_10 kx) rfl hd_X10_draftAt ⟨by decide, by decide, by decide, by decide⟩ (Nat.le_of_ble_eq_true rfl) (fun r_ S_ h_ => ?_)
  obtain ⟨rfl, rfl⟩ := h_
  change Go X G _ 5 _ _ S 22 [(0, .ref x), (1, .int (nI j)), (2, .int (nI i)), (3, .int k)] [.ref ((D t 0))]
  refine g_astore (lv' := [(4, .ref ((D t 0))), (0, .ref x), (1, .int (nI j)), (2, .int (nI i)), (3, .int k)]) C dX10_seal_22 (by decide) rfl ?_
  refine g_aload 0 C dX10_seal_24 rfl ?_
  refine g_ifnonnull 35 C dX10_seal_26 (by decide) ?_
  refine g_aload_n 1 0 C dX10_seal_35 rfl rfl ?_
  refine g_iload_n 3 2 C dX10_seal_36 rfl rfl ?_
  refine g_aload_n 1 0 C dX10_seal_37 rfl rfl ?_
  refine gr_ba_binder C dX10_seal_38 kx wF_X10_35 r7 ?_
  refine g_aload 0 C dX10_seal_41 rfl ?_
  refine gr_dr_list C dX10_seal_43 hdr.1.1 wF_X10_95 hdr.1.2.2 ?_
  refine g_iload_n 4 3 C dX10_seal_46 rfl rfl ?_
  refine g_callV (As := [.ref ((D t 1)), .int k]) (rest := [.int (nI i), .ref x]) C dX10_seal_47 (c_B_bind hr.1 hdr.2 hok.2.2.1) wC_X1_bind wM_X10_106 wI_X1_bind wS_X1_bind wN_X1 (kne k7) (pf_2 k7) rfl hd_X1_bind ⟨by decide, by decide, by decide, by decide⟩ (Nat.le_of_ble_eq_true rfl) (fun r_ Sb h_ => ?_)
  rcases h_ with ⟨hfit, d, rfl, fb, hmb, hbk, hd0, hd1⟩ | ⟨hfit, rfl, rfl⟩
  · change Go X G _ 5 _ _ Sb 50 [(4, .ref ((D t 0))), (0, .ref x), (1, .int (nI j)), (2, .int (nI i)), (3, .int k)] [.ref ((d 0)), .int (nI i), .ref x]
    refine g_callV (As := [.int (nI i), .ref ((d 0))]) (rest := []) C dX10_seal_50 (c_C_shelve_at (S := Sb) (d := d) (hr.1.fr fb) hi hbk) wC_X10_shelve wM_X10_110 wI_X10_shelve wS_X10_shelve wN_X10 (kne (fb.kd_ kx)) (pf_10 (fb.kd_ kx)) rfl hd_X10_shelve ⟨by decide, by decide, by decide, by decide⟩ (Nat.le_of_ble_eq_true rfl) (fun r_ S_ h_ => ?_)
    obtain ⟨rfl, rfl⟩ := h_
    change Go X G _ 5 _ _ (pl_a_ Sb (va_up (pl_a Sb) i (some (d 0)))) 53 [(4, .ref ((D t 0))), (0, .ref x), (1, .int (nI j)), (2, .int (nI i)), (3, .int k)] [.int (nI ((tL (zH Z t)).length))]
    have hw5 := (kdB_le (Bool.and_eq_true _ _ ▸ hfit |>.1 : kdB k = true)).2
    have hnew := hr.new (j := i) (d := d) (T := bookT k.toNatClampNeg (tL (zH Z t))) fb hd0 hd1 (thC_book hw5 hbk) hmb
    exact g_iret C dX10_seal_53 (by decide) (by decide) ⟨by unfold A_seal; rw [if_neg (fun z => z.elim (nI_in10 hj) (nI_in10 hi)), he]; simp only []; rw [if_pos hfit], ⟨c, _, by unfold N_seal newZ; rw [if_neg (fun z => z.elim (nI_in10 hj) (nI_in10 hi)), he]; simp only []; rw [if_pos hfit, nI_clamp (by omega)]; exact hnew⟩, fb.fk⟩
  · change Go X G _ 5 _ _ S 50 [(4, .ref ((D t 0))), (0, .ref x), (1, .int (nI j)), (2, .int (nI i)), (3, .int k)] [.null, .int (nI i), .ref x]
    refine g_callV (As := [.int (nI i), .null]) (rest := []) C dX10_seal_50 (c_C_shelve_no (S := S) hr.1) wC_X10_shelve wM_X10_110 wI_X10_shelve wS_X10_shelve wN_X10 (kne kx) (pf_10 kx) rfl hd_X10_shelve ⟨by decide, by decide, by decide, by decide⟩ (Nat.le_of_ble_eq_true rfl) (fun r_ S_ h_ => ?_)
    obtain ⟨rfl, rfl⟩ := h_
    change Go X G _ 5 _ _ S 53 [(4, .ref ((D t 0))), (0, .ref x), (1, .int (nI j)), (2, .int (nI i)), (3, .int k)] [.int (-5)]
    exact g_iret C dX10_seal_53 (by decide) (by decide) ⟨by unfold A_seal; rw [if_neg (fun z => z.elim (nI_in10 hj) (nI_in10 hi)), he]; simp only []; rw [hfit, if_neg (by decide)], ⟨c, D, by unfold N_seal; rw [if_neg (fun z => z.elim (nI_in10 hj) (nI_in10 hi)), he]; simp only []; rw [hfit, if_neg (by decide)]; exact hr⟩, Fk.refl S⟩
theorem c_C_seal {lX : Launch} {G : Gx} {S : PS} {x : Nat} {c : Nat → Nat} {D : Nat → Nat → Nat} {Z : ZT} (hr : RCD S Z x c D) (hZ : okZ Z) {p q k : Int32} : Ct lX yX10_seal cX10_seal 5 (Option.some Jvm.ClassFile.FieldType.int) rm_X10_seal G [.ref x, .int p, .int q, .int k] S (fun r S' => r = some (.int (A_seal Z p q k)) ∧ RC S' (N_seal Z p q k) x ∧ Fk S S') := by
  rcases look_cases Z p with h | ⟨j, hj, rfl, -⟩
  · exact c_C_seal_o1 hr hZ h
  · rcases look_cases Z q with h' | ⟨i, hi, rfl, -⟩
    · exact c_C_seal_o2 hr hZ hj h'
    · cases he : draftE Z (nI j) with
      | inl e => exact c_C_seal_err hr hZ hj hi he
      | inr t =>
        obtain ⟨j', hj', e', hp, -⟩ := draftE_inr he
        have : j' = j := ((nI_eq (by omega) (by omega)).mp e').symm
        subst this
        exact c_C_seal_ok hr hZ hj hi hp he
set_option maxRecDepth 100000 in
set_option maxHeartbeats 400000 in
theorem c_C_load_out {lX : Launch} {G : Gx} {S : PS} {x : Nat} {c : Nat → Nat} {D : Nat → Nat → Nat} {Z : ZT} (hr : RCD S Z x c D) (hZ : okZ Z) {p : Int32} (hp : p < 0 ∨ nI 10 ≤ p) : Ct lX yX10_load cX10_load 3 (Option.some Jvm.ClassFile.FieldType.int) rm_X10_load G [.ref x, .int p] S (fun r S' => r = some (.int (A_load Z p)) ∧ RC S' (N_load Z p) x ∧ Fk S S') := by
  obtain ⟨⟨⟨kx, r0, k0⟩, r1, r3, r5, ⟨r7, k7⟩, ⟨r8, k8⟩, ⟨r9, k9⟩, ⟨r10, k10⟩, ⟨r11, k11⟩, ⟨r12, k12⟩, r13⟩, hT, hP, hH, hRf, hW, hA, hL, hSep⟩ := id hr
  obtain ⟨⟨k1, r2, k2⟩, hu, htl, htf, ht255⟩ := id hT
  obtain ⟨⟨k3, r4⟩, ⟨k4, l4⟩, ws, wl, wv⟩ := id hW
  refine Ct.mk RX10 "load" hy_X10_load (Nat.le_of_ble_eq_true rfl) (fun X hX C => ?_)
  change Go X G _ 3 0 0 S 0 [(0, .ref x), (1, .int p)] []
  refine g_iload_n 1 1 C dX10_load_0 rfl rfl ?_
  refine g_callS (As := [.int p]) (rest := []) C dX10_load_1 (c_C_beyond_out hp) wC_X10_isBeyond wM_X10_63 wZ_X10_isBeyond wN_X10 hd_X10_isBeyond.2 ⟨by decide, by decide, by decide, by decide⟩ (Nat.le_of_ble_eq_true rfl) (fun r_ S_ h_ => ?_)
  obtain ⟨rfl, rfl⟩ := h_
  change Go X G _ 3 _ _ S 4 [(0, .ref x), (1, .int p)] [.int (nI 1)]
  refine g_nif_eq 10 (by decide) C dX10_load_4 (by decide) (fun c => absurd c (by decide)) (fun _ => ?_)
  refine g_bipush (v := -2) C dX10_load_7 (by decide) ?_
  exact g_iret C dX10_load_9 (by decide) (by decide) (⟨by unfold A_load; rw [if_pos hp], ⟨c, D, by unfold N_load; rw [if_pos hp]; exact hr⟩, Fk.refl S⟩)
set_option maxRecDepth 100000 in
set_option maxHeartbeats 400000 in
theorem c_C_load_bad {lX : Launch} {G : Gx} {S : PS} {x : Nat} {c : Nat → Nat} {D : Nat → Nat → Nat} {Z : ZT} (hr : RCD S Z x c D) (hZ : okZ Z) {j : Nat} (hj : j < 10) (hrd : rdN (zT Z) = none) : Ct lX yX10_load cX10_load 3 (Option.some Jvm.ClassFile.FieldType.int) rm_X10_load G [.ref x, .int (nI j)] S (fun r S' => r = some (.int (A_load Z (nI j))) ∧ RC S' (N_load Z (nI j)) x ∧ Fk S S') := by
  obtain ⟨⟨⟨kx, r0, k0⟩, r1, r3, r5, ⟨r7, k7⟩, ⟨r8, k8⟩, ⟨r9, k9⟩, ⟨r10, k10⟩, ⟨r11, k11⟩, ⟨r12, k12⟩, r13⟩, hT, hP, hH, hRf, hW, hA, hL, hSep⟩ := id hr
  obtain ⟨⟨k1, r2, k2⟩, hu, htl, htf, ht255⟩ := id hT
  obtain ⟨⟨k3, r4⟩, ⟨k4, l4⟩, ws, wl, wv⟩ := id hW
  obtain ⟨lp_, hLp⟩ := hL
  have hkp := hLp.1.1
  refine Ct.mk RX10 "load" hy_X10_load (Nat.le_of_ble_eq_true rfl) (fun X hX C => ?_)
  change Go X G _ 3 0 0 S 0 [(0, .ref x), (1, .int (nI j))] []
  refine g_iload_n 1 1 C dX10_load_0 rfl rfl ?_
  refine g_callS (As := [.int (nI j)]) (rest := []) C dX10_load_1 (c_C_beyond_in hj) wC_X10_isBeyond wM_X10_63 wZ_X10_isBeyond wN_X10 hd_X10_isBeyond.2 ⟨by decide, by decide, by decide, by decide⟩ (Nat.le_of_ble_eq_true rfl) (fun r_ S_ h_ => ?_)
  obtain ⟨rfl, rfl⟩ := h_
  change Go X G _ 3 _ _ S 4 [(0, .ref x), (1, .int (nI j))] [.int (nI 0)]
  refine g_nif_eq 10 (by decide) C dX10_load_4 (by decide) (fun _ => ?_) (fun c => absurd c (by decide))
  refine g_aload_n 0 0 C dX10_load_10 rfl rfl ?_
  refine gr_ba_reel C dX10_load_11 kx wF_X10_18 r1 ?_
  refine g_aload_n 0 0 C dX10_load_14 rfl rfl ?_
  refine gr_ba_pending C dX10_load_15 kx wF_X10_44 r13 ?_
  refine g_callV (As := [.ref ((c 13))]) (rest := []) C dX10_load_18 ((c_T_readImage hT hLp).mono (fun r_ S_ h_ => by rw [hrd] at h_; exact h_)) wC_X7_readImage wM_X10_276 wI_X7_readImage wS_X7_readImage wN_X7 (kne k1) (pf_8 k1) rfl hd_X7_readImage ⟨by decide, by decide, by decide, by decide⟩ (Nat.le_of_ble_eq_true rfl) (fun r_ S1 h_ => ?_)
  obtain ⟨pl_, rfl, f1, hm1, hpl1, hpl2⟩ := h_
  change Go X G _ 3 _ _ S1 21 [(0, .ref x), (1, .int (nI j))] [.int (-5)]
  have kx1 := f1.kd_ kx
  have k11 := f1.kd_ k1
  refine g_istore_n (lv' := [(2, .int (-5)), (0, .ref x), (1, .int (nI j))]) C dX10_load_21 rfl (by decide) rfl ?_
  refine g_aload_n 1 0 C dX10_load_22 rfl rfl ?_
  refine gr_ba_reel C dX10_load_23 kx1 wF_X10_18 ((fe_ba_reel f1.2.2).trans r1) ?_
  refine g_iconst (v := nI 0) C dX10_load_26 (by decide) ?_
  refine pp_tp_used C dX10_load_27 k11 wF_X10_52 (Or.inl rfl) ?_
  refine g_iload_n 0 2 C dX10_load_30 rfl rfl ?_
  refine g_bipush (v := -5) C dX10_load_31 (by decide) ?_
  refine g_icmp_ne 41 C dX10_load_33 (by decide) (fun c33 => ?_) (fun c33 => ?_)
  · exact absurd rfl c33
  · refine g_bipush (v := -5) C dX10_load_36 (by decide) ?_
    refine g_goto 58 C dX10_load_38 (by decide) ?_
    have hT2 : tapeC (tp_used_ S1 (nI 0)) (c 1) (c 2) [] := (hT.fr f1 hm1).empty ((Fr.refl S1 No).s_tp_used) ⟨rfl, rfl, rfl, rfl⟩
    have f2 : Fr S (tp_used_ S1 (nI 0)) (A3 (c 13) (c 14) (c 15)) := f1.s_tp_used
    have hr2 : RCD (tp_used_ S1 (nI 0)) (zT_ Z []) x c D := hr.pend (S' := (tp_used_ S1 (nI 0))) f2 hpl1 hT2 (congrArg (fun q => q.2.2.1) hm1) (congrArg (fun q => q.1) hm1)
    exact g_iret C dX10_load_58 (by decide) (by decide) ⟨by unfold A_load; rw [if_neg (nI_in10 hj), parse_rd, hrd], ⟨c, D, by unfold N_load; rw [if_neg (nI_in10 hj), parse_rd, hrd]; exact hr2⟩, f2.fk⟩
set_option maxRecDepth 100000 in
set_option maxHeartbeats 400000 in
theorem c_C_load_ok {lX : Launch} {G : Gx} {S : PS} {x : Nat} {c : Nat → Nat} {D : Nat → Nat → Nat} {Z : ZT} (hr : RCD S Z x c D) (hZ : okZ Z) {j : Nat} {l : List Ent} (hj : j < 10) (hrd : rdN (zT Z) = some l) : Ct lX yX10_load cX10_load 3 (Option.some Jvm.ClassFile.FieldType.int) rm_X10_load G [.ref x, .int (nI j)] S (fun r S' => r = some (.int (A_load Z (nI j))) ∧ RC S' (N_load Z (nI j)) x ∧ Fk S S') := by
  obtain ⟨⟨⟨kx, r0, k0⟩, r1, r3, r5, ⟨r7, k7⟩, ⟨r8, k8⟩, ⟨r9, k9⟩, ⟨r10, k10⟩, ⟨r11, k11⟩, ⟨r12, k12⟩, r13⟩, hT, hP, hH, hRf, hW, hA, hL, hSep⟩ := id hr
  obtain ⟨⟨k1, r2, k2⟩, hu, htl, htf, ht255⟩ := id hT
  obtain ⟨⟨k3, r4⟩, ⟨k4, l4⟩, ws, wl, wv⟩ := id hW
  obtain ⟨lp_, hLp⟩ := hL
  have hkp := hLp.1.1
  have hol := rd_ok hrd ht255 htl
  have hb0 : ((zT Z).getD 0 0) ≤ 255 := by
    rcases Nat.eq_zero_or_pos (zT Z).length with z | z
    · rw [List.getD_eq_getElem?_getD, List.getElem?_eq_none (by omega)]; exact Nat.zero_le _
    · exact ht255 0 z
  have ec : (nI ((zT Z).getD 0 0)).toNatClampNeg = ((zT Z).getD 0 0) := nI_clamp (by omega)
  refine Ct.mk RX10 "load" hy_X10_load (Nat.le_of_ble_eq_true rfl) (fun X hX C => ?_)
  change Go X G _ 3 0 0 S 0 [(0, .ref x), (1, .int (nI j))] []
  refine g_iload_n 1 1 C dX10_load_0 rfl rfl ?_
  refine g_callS (As := [.int (nI j)]) (rest := []) C dX10_load_1 (c_C_beyond_in hj) wC_X10_isBeyond wM_X10_63 wZ_X10_isBeyond wN_X10 hd_X10_isBeyond.2 ⟨by decide, by decide, by decide, by decide⟩ (Nat.le_of_ble_eq_true rfl) (fun r_ S_ h_ => ?_)
  obtain ⟨rfl, rfl⟩ := h_
  change Go X G _ 3 _ _ S 4 [(0, .ref x), (1, .int (nI j))] [.int (nI 0)]
  refine g_nif_eq 10 (by decide) C dX10_load_4 (by decide) (fun _ => ?_) (fun c => absurd c (by decide))
  refine g_aload_n 0 0 C dX10_load_10 rfl rfl ?_
  refine gr_ba_reel C dX10_load_11 kx wF_X10_18 r1 ?_
  refine g_aload_n 0 0 C dX10_load_14 rfl rfl ?_
  refine gr_ba_pending C dX10_load_15 kx wF_X10_44 r13 ?_
  refine g_callV (As := [.ref ((c 13))]) (rest := []) C dX10_load_18 ((c_T_readImage hT hLp).mono (fun r_ S_ h_ => by rw [hrd] at h_; exact h_)) wC_X7_readImage wM_X10_276 wI_X7_readImage wS_X7_readImage wN_X7 (kne k1) (pf_8 k1) rfl hd_X7_readImage ⟨by decide, by decide, by decide, by decide⟩ (Nat.le_of_ble_eq_true rfl) (fun r_ S1 h_ => ?_)
  obtain ⟨pl_, rfl, f1, hm1, hpl1, hpl2⟩ := h_
  change Go X G _ 3 _ _ S1 21 [(0, .ref x), (1, .int (nI j))] [.int (nI (((zT Z).getD 0 0)))]
  have el := hpl2 l rfl
  rw [el] at hpl1
  have kx1 := f1.kd_ kx
  have k11 := f1.kd_ k1
  have k71 := f1.kd_ k7
  refine g_istore_n (lv' := [(2, .int (nI (((zT Z).getD 0 0)))), (0, .ref x), (1, .int (nI j))]) C dX10_load_21 rfl (by decide) rfl ?_
  refine g_aload_n 1 0 C dX10_load_22 rfl rfl ?_
  refine gr_ba_reel C dX10_load_23 kx1 wF_X10_18 ((fe_ba_reel f1.2.2).trans r1) ?_
  refine g_iconst (v := nI 0) C dX10_load_26 (by decide) ?_
  refine pp_tp_used C dX10_load_27 k11 wF_X10_52 (Or.inl rfl) ?_
  have hT2 : tapeC (tp_used_ S1 (nI 0)) (c 1) (c 2) [] := (hT.fr f1 hm1).empty ((Fr.refl S1 No).s_tp_used) ⟨rfl, rfl, rfl, rfl⟩
  have f2 : Fr S (tp_used_ S1 (nI 0)) (A3 (c 13) (c 14) (c 15)) := f1.s_tp_used
  have hr2 : RCD (tp_used_ S1 (nI 0)) (zT_ Z []) x c D := hr.pend (S' := (tp_used_ S1 (nI 0))) f2 hpl1 hT2 (congrArg (fun q => q.2.2.1) hm1) (congrArg (fun q => q.1) hm1)
  refine g_iload_n 0 2 C dX10_load_30 rfl rfl ?_
  refine g_bipush (v := -5) C dX10_load_31 (by decide) ?_
  refine g_icmp_ne 41 C dX10_load_33 (by decide) (fun c33 => ?_) (fun c33 => ?_)
  · refine g_aload_n 1 0 C dX10_load_41 rfl rfl ?_
    refine g_iload_n 2 1 C dX10_load_42 rfl rfl ?_
    refine g_aload_n 1 0 C dX10_load_43 rfl rfl ?_
    refine gr_ba_binder C dX10_load_44 kx1 wF_X10_35 ((fe_ba_binder f1.2.2).trans r7) ?_
    refine g_aload_n 1 0 C dX10_load_47 rfl rfl ?_
    refine gr_ba_pending C dX10_load_48 kx1 wF_X10_44 ((fe_ba_pending f1.2.2).trans r13) ?_
    refine g_iload_n 0 2 C dX10_load_51 rfl rfl ?_
    refine g_callV (As := [.ref ((c 13)), .int (nI (((zT Z).getD 0 0)))]) (rest := [.int (nI j), .ref x]) C dX10_load_52 (c_B_bind (S := (tp_used_ S1 (nI 0))) hr2.1 (show listC (tp_used_ S1 (nI 0)) (c 13) (c 14) (c 15) 100 l from hpl1) hol) wC_X1_bind wM_X10_106 wI_X1_bind wS_X1_bind wN_X1 (kne k71) (pf_2 k71) rfl hd_X1_bind ⟨by decide, by decide, by decide, by decide⟩ (Nat.le_of_ble_eq_true rfl) (fun r_ Sb h_ => ?_)
    rcases h_ with ⟨hfit, d, rfl, fb, hmb, hbk, hd0, hd1⟩ | ⟨hfit, rfl, rfl⟩
    · change Go X G _ 3 _ _ Sb 55 [(2, .int (nI (((zT Z).getD 0 0)))), (0, .ref x), (1, .int (nI j))] [.ref ((d 0)), .int (nI j), .ref x]
      refine g_callV (As := [.int (nI j), .ref ((d 0))]) (rest := []) C dX10_load_55 (c_C_shelve_at (S := Sb) (d := d) (hr2.1.fr fb) hj hbk) wC_X10_shelve wM_X10_110 wI_X10_shelve wS_X10_shelve wN_X10 (kne (fb.kd_ kx1)) (pf_10 (fb.kd_ kx1)) rfl hd_X10_shelve ⟨by decide, by decide, by decide, by decide⟩ (Nat.le_of_ble_eq_true rfl) (fun r_ S_ h_ => ?_)
      obtain ⟨rfl, rfl⟩ := h_
      change Go X G _ 3 _ _ (pl_a_ Sb (va_up (pl_a Sb) j (some (d 0)))) 58 [(2, .int (nI (((zT Z).getD 0 0)))), (0, .ref x), (1, .int (nI j))] [.int (nI (l.length))]
      have hf3 := (Bool.and_eq_true _ _ ▸ hfit : kdB (nI ((zT Z).getD 0 0)) = true ∧ fitsN l (nI ((zT Z).getD 0 0)).toNatClampNeg = true)
      have hw5 := kdB_le hf3.1
      rw [ec] at hf3 hw5 hbk
      have ep : parseN (zT Z) = some l := by rw [parse_rd, hrd]; exact if_pos ⟨hw5.1, hw5.2, hf3.2⟩
      have hnew := hr2.new (j := j) (d := d) (T := bookT ((zT Z).getD 0 0) l) fb hd0 hd1 (thC_book hw5.2 hbk) hmb
      exact g_iret C dX10_load_58 (by decide) (by decide) ⟨by unfold A_load; rw [if_neg (nI_in10 hj), ep], ⟨c, _, by unfold N_load newZ; rw [if_neg (nI_in10 hj), ep, nI_clamp (by omega)]; exact hnew⟩, f2.fk.trans fb.fk⟩
    · change Go X G _ 3 _ _ (tp_used_ S1 (nI 0)) 55 [(2, .int (nI (((zT Z).getD 0 0)))), (0, .ref x), (1, .int (nI j))] [.null, .int (nI j), .ref x]
      refine g_callV (As := [.int (nI j), .null]) (rest := []) C dX10_load_55 (c_C_shelve_no (S := (tp_used_ S1 (nI 0))) hr2.1) wC_X10_shelve wM_X10_110 wI_X10_shelve wS_X10_shelve wN_X10 (kne kx1) (pf_10 kx1) rfl hd_X10_shelve ⟨by decide, by decide, by decide, by decide⟩ (Nat.le_of_ble_eq_true rfl) (fun r_ S_ h_ => ?_)
      obtain ⟨rfl, rfl⟩ := h_
      change Go X G _ 3 _ _ (tp_used_ S1 (nI 0)) 58 [(2, .int (nI (((zT Z).getD 0 0)))), (0, .ref x), (1, .int (nI j))] [.int (-5)]
      have ep : parseN (zT Z) = none := by
        rw [parse_rd, hrd]
        refine if_neg (fun z => ?_)
        rw [ec, z.2.2, kdB_lit z.1 z.2.1] at hfit
        cases hfit
      exact g_iret C dX10_load_58 (by decide) (by decide) ⟨by unfold A_load; rw [if_neg (nI_in10 hj), ep], ⟨c, D, by unfold N_load; rw [if_neg (nI_in10 hj), ep]; exact hr2⟩, f2.fk⟩
  · exact absurd (congrArg Int32.toInt c33) (by rw [nI_toInt (by omega)]; intro z; have z2 : ((((zT Z).getD 0 0) : Nat) : Int) = -5 := z; omega)
theorem c_C_load {lX : Launch} {G : Gx} {S : PS} {x : Nat} {c : Nat → Nat} {D : Nat → Nat → Nat} {Z : ZT} (hr : RCD S Z x c D) (hZ : okZ Z) {p : Int32} : Ct lX yX10_load cX10_load 3 (Option.some Jvm.ClassFile.FieldType.int) rm_X10_load G [.ref x, .int p] S (fun r S' => r = some (.int (A_load Z p)) ∧ RC S' (N_load Z p) x ∧ Fk S S') := by
  rcases look_cases Z p with h | ⟨j, hj, rfl, -⟩
  · exact c_C_load_out hr hZ h
  · cases h : rdN (zT Z) with
    | none => exact c_C_load_bad hr hZ hj h
    | some l => exact c_C_load_ok hr hZ hj h
set_option maxRecDepth 100000 in
set_option maxHeartbeats 400000 in
theorem c_C_merge_o1 {lX : Launch} {G : Gx} {S : PS} {x : Nat} {c : Nat → Nat} {D : Nat → Nat → Nat} {Z : ZT} (hr : RCD S Z x c D) (hZ : okZ Z) {p q r_ w k : Int32} (hp : p < 0 ∨ nI 10 ≤ p) : Ct lX yX10_merge cX10_merge 8 (Option.some Jvm.ClassFile.FieldType.int) rm_X10_merge G [.ref x, .int p, .int q, .int r_, .int w, .int k] S (fun r S' => r = some (.int (A_merge Z p q r_ w k)) ∧ RC S' (N_merge Z p q r_ w k) x ∧ Fk S S') := by
  obtain ⟨⟨⟨kx, r0, k0⟩, r1, r3, r5, ⟨r7, k7⟩, ⟨r8, k8⟩, ⟨r9, k9⟩, ⟨r10, k10⟩, ⟨r11, k11⟩, ⟨r12, k12⟩, r13⟩, hT, hP, hH, hRf, hW, hA, hL, hSep⟩ := id hr
  obtain ⟨⟨k1, r2, k2⟩, hu, htl, htf, ht255⟩ := id hT
  obtain ⟨⟨k3, r4⟩, ⟨k4, l4⟩, ws, wl, wv⟩ := id hW
  refine Ct.mk RX10 "merge" hy_X10_merge (Nat.le_of_ble_eq_true rfl) (fun X hX C => ?_)
  change Go X G _ 8 0 0 S 0 [(0, .ref x), (1, .int p), (2, .int q), (3, .int r_), (4, .int w), (5, .int k)] []
  refine g_iload_n 1 1 C dX10_merge_0 rfl rfl ?_
  refine g_callS (As := [.int p]) (rest := []) C dX10_merge_1 (c_C_beyond_out hp) wC_X10_isBeyond wM_X10_63 wZ_X10_isBeyond wN_X10 hd_X10_isBeyond.2 ⟨by decide, by decide, by decide, by decide⟩ (Nat.le_of_ble_eq_true rfl) (fun r_ S_ h_ => ?_)
  obtain ⟨rfl, rfl⟩ := h_
  change Go X G _ 8 _ _ S 4 [(0, .ref x), (1, .int p), (2, .int q), (3, .int r_), (4, .int w), (5, .int k)] [.int (nI 1)]
  refine g_nif_ne 21 (by decide) C dX10_merge_4 (by decide) (fun _ => ?_) (fun c => absurd c (by decide))
  refine g_bipush (v := -2) C dX10_merge_21 (by decide) ?_
  exact g_iret C dX10_merge_23 (by decide) (by decide) (⟨by unfold A_merge; rw [if_pos (Or.inl (Or.inl hp))], ⟨c, D, by unfold N_merge; rw [if_pos (Or.inl (Or.inl hp))]; exact hr⟩, Fk.refl S⟩)
set_option maxRecDepth 100000 in
set_option maxHeartbeats 400000 in
theorem c_C_merge_o2 {lX : Launch} {G : Gx} {S : PS} {x : Nat} {c : Nat → Nat} {D : Nat → Nat → Nat} {Z : ZT} (hr : RCD S Z x c D) (hZ : okZ Z) {j : Nat} {q r_ w k : Int32} (hj : j < 10) (hp : q < 0 ∨ nI 10 ≤ q) : Ct lX yX10_merge cX10_merge 8 (Option.some Jvm.ClassFile.FieldType.int) rm_X10_merge G [.ref x, .int (nI j), .int q, .int r_, .int w, .int k] S (fun r S' => r = some (.int (A_merge Z (nI j) q r_ w k)) ∧ RC S' (N_merge Z (nI j) q r_ w k) x ∧ Fk S S') := by
  obtain ⟨⟨⟨kx, r0, k0⟩, r1, r3, r5, ⟨r7, k7⟩, ⟨r8, k8⟩, ⟨r9, k9⟩, ⟨r10, k10⟩, ⟨r11, k11⟩, ⟨r12, k12⟩, r13⟩, hT, hP, hH, hRf, hW, hA, hL, hSep⟩ := id hr
  obtain ⟨⟨k1, r2, k2⟩, hu, htl, htf, ht255⟩ := id hT
  obtain ⟨⟨k3, r4⟩, ⟨k4, l4⟩, ws, wl, wv⟩ := id hW
  refine Ct.mk RX10 "merge" hy_X10_merge (Nat.le_of_ble_eq_true rfl) (fun X hX C => ?_)
  change Go X G _ 8 0 0 S 0 [(0, .ref x), (1, .int (nI j)), (2, .int q), (3, .int r_), (4, .int w), (5, .int k)] []
  refine g_iload_n 1 1 C dX10_merge_0 rfl rfl ?_
  refine g_callS (As := [.int (nI j)]) (rest := []) C dX10_merge_1 (c_C_beyond_in hj) wC_X10_isBeyond wM_X10_63 wZ_X10_isBeyond wN_X10 hd_X10_isBeyond.2 ⟨by decide, by decide, by decide, by decide⟩ (Nat.le_of_ble_eq_true rfl) (fun r_ S_ h_ => ?_)
  obtain ⟨rfl, rfl⟩ := h_
  change Go X G _ 8 _ _ S 4 [(0, .ref x), (1, .int (nI j)), (2, .int q), (3, .int r_), (4, .int w), (5, .int k)] [.int (nI 0)]
  refine g_nif_ne 21 (by decide) C dX10_merge_4 (by decide) (fun c => absurd c (by decide)) (fun _ => ?_)
  refine g_iload_n 2 2 C dX10_merge_7 rfl rfl ?_
  refine g_callS (As := [.int q]) (rest := []) C dX10_merge_8 (c_C_beyond_out hp) wC_X10_isBeyond wM_X10_63 wZ_X10_isBeyond wN_X10 hd_X10_isBeyond.2 ⟨by decide, by decide, by decide, by decide⟩ (Nat.le_of_ble_eq_true rfl) (fun r_ S_ h_ => ?_)
  obtain ⟨rfl, rfl⟩ := h_
  change Go X G _ 8 _ _ S 11 [(0, .ref x), (1, .int (nI j)), (2, .int q), (3, .int r_), (4, .int w), (5, .int k)] [.int (nI 1)]
  refine g_nif_ne 21 (by decide) C dX10_merge_11 (by decide) (fun _ => ?_) (fun c => absurd c (by decide))
  refine g_bipush (v := -2) C dX10_merge_21 (by decide) ?_
  exact g_iret C dX10_merge_23 (by decide) (by decide) (⟨by unfold A_merge; rw [if_pos (Or.inl (Or.inr hp))], ⟨c, D, by unfold N_merge; rw [if_pos (Or.inl (Or.inr hp))]; exact hr⟩, Fk.refl S⟩)
set_option maxRecDepth 100000 in
set_option maxHeartbeats 400000 in
theorem c_C_merge_o3 {lX : Launch} {G : Gx} {S : PS} {x : Nat} {c : Nat → Nat} {D : Nat → Nat → Nat} {Z : ZT} (hr : RCD S Z x c D) (hZ : okZ Z) {j i : Nat} {r_ w k : Int32} (hj : j < 10) (hi : i < 10) (hp : r_ < 0 ∨ nI 10 ≤ r_) : Ct lX yX10_merge cX10_merge 8 (Option.some Jvm.ClassFile.FieldType.int) rm_X10_merge G [.ref x, .int (nI j), .int (nI i), .int r_, .int w, .int k] S (fun r S' => r = some (.int (A_merge Z (nI j) (nI i) r_ w k)) ∧ RC S' (N_merge Z (nI j) (nI i) r_ w k) x ∧ Fk S S') := by
  obtain ⟨⟨⟨kx, r0, k0⟩, r1, r3, r5, ⟨r7, k7⟩, ⟨r8, k8⟩, ⟨r9, k9⟩, ⟨r10, k10⟩, ⟨r11, k11⟩, ⟨r12, k12⟩, r13⟩, hT, hP, hH, hRf, hW, hA, hL, hSep⟩ := id hr
  obtain ⟨⟨k1, r2, k2⟩, hu, htl, htf, ht255⟩ := id hT
  obtain ⟨⟨k3, r4⟩, ⟨k4, l4⟩, ws, wl, wv⟩ := id hW
  refine Ct.mk RX10 "merge" hy_X10_merge (Nat.le_of_ble_eq_true rfl) (fun X hX C => ?_)
  change Go X G _ 8 0 0 S 0 [(0, .ref x), (1, .int (nI j)), (2, .int (nI i)), (3, .int r_), (4, .int w), (5, .int k)] []
  refine g_iload_n 1 1 C dX10_merge_0 rfl rfl ?_
  refine g_callS (As := [.int (nI j)]) (rest := []) C dX10_merge_1 (c_C_beyond_in hj) wC_X10_isBeyond wM_X10_63 wZ_X10_isBeyond wN_X10 hd_X10_isBeyond.2 ⟨by decide, by decide, by decide, by decide⟩ (Nat.le_of_ble_eq_true rfl) (fun r_ S_ h_ => ?_)
  obtain ⟨rfl, rfl⟩ := h_
  change Go X G _ 8 _ _ S 4 [(0, .ref x), (1, .int (nI j)), (2, .int (nI i)), (3, .int r_), (4, .int w), (5, .int k)] [.int (nI 0)]
  refine g_nif_ne 21 (by decide) C dX10_merge_4 (by decide) (fun c => absurd c (by decide)) (fun _ => ?_)
  refine g_iload_n 2 2 C dX10_merge_7 rfl rfl ?_
  refine g_callS (As := [.int (nI i)]) (rest := []) C dX10_merge_8 (c_C_beyond_in hi) wC_X10_isBeyond wM_X10_63 wZ_X10_isBeyond wN_X10 hd_X10_isBeyond.2 ⟨by decide, by decide, by decide, by decide⟩ (Nat.le_of_ble_eq_true rfl) (fun r_ S_ h_ => ?_)
  obtain ⟨rfl, rfl⟩ := h_
  change Go X G _ 8 _ _ S 11 [(0, .ref x), (1, .int (nI j)), (2, .int (nI i)), (3, .int r_), (4, .int w), (5, .int k)] [.int (nI 0)]
  refine g_nif_ne 21 (by decide) C dX10_merge_11 (by decide) (fun c => absurd c (by decide)) (fun _ => ?_)
  refine g_iload_n 3 3 C dX10_merge_14 rfl rfl ?_
  refine g_callS (As := [.int r_]) (rest := []) C dX10_merge_15 (c_C_beyond_out hp) wC_X10_isBeyond wM_X10_63 wZ_X10_isBeyond wN_X10 hd_X10_isBeyond.2 ⟨by decide, by decide, by decide, by decide⟩ (Nat.le_of_ble_eq_true rfl) (fun r_ S_ h_ => ?_)
  obtain ⟨rfl, rfl⟩ := h_
  change Go X G _ 8 _ _ S 18 [(0, .ref x), (1, .int (nI j)), (2, .int (nI i)), (3, .int r_), (4, .int w), (5, .int k)] [.int (nI 1)]
  refine g_nif_eq 24 (by decide) C dX10_merge_18 (by decide) (fun c => absurd c (by decide)) (fun _ => ?_)
  refine g_bipush (v := -2) C dX10_merge_21 (by decide) ?_
  exact g_iret C dX10_merge_23 (by decide) (by decide) (⟨by unfold A_merge; rw [if_pos (Or.inr hp)], ⟨c, D, by unfold N_merge; rw [if_pos (Or.inr hp)]; exact hr⟩, Fk.refl S⟩)
set_option maxRecDepth 100000 in
set_option maxHeartbeats 400000 in
theorem c_C_merge_n1 {lX : Launch} {G : Gx} {S : PS} {x : Nat} {c : Nat → Nat} {D : Nat → Nat → Nat} {Z : ZT} (hr : RCD S Z x c D) (hZ : okZ Z) {j i s : Nat} {w k : Int32} (hj : j < 10) (hi : i < 10) (hs : s < 10) (hp : zP Z j = 0) : Ct lX yX10_merge cX10_merge 8 (Option.some Jvm.ClassFile.FieldType.int) rm_X10_merge G [.ref x, .int (nI j), .int (nI i), .int (nI s), .int w, .int k] S (fun r S' => r = some (.int (A_merge Z (nI j) (nI i) (nI s) w k)) ∧ RC S' (N_merge Z (nI j) (nI i) (nI s) w k) x ∧ Fk S S') := by
  obtain ⟨⟨⟨kx, r0, k0⟩, r1, r3, r5, ⟨r7, k7⟩, ⟨r8, k8⟩, ⟨r9, k9⟩, ⟨r10, k10⟩, ⟨r11, k11⟩, ⟨r12, k12⟩, r13⟩, hT, hP, hH, hRf, hW, hA, hL, hSep⟩ := id hr
  obtain ⟨⟨k1, r2, k2⟩, hu, htl, htf, ht255⟩ := id hT
  obtain ⟨⟨k3, r4⟩, ⟨k4, l4⟩, ws, wl, wv⟩ := id hW
  refine Ct.mk RX10 "merge" hy_X10_merge (Nat.le_of_ble_eq_true rfl) (fun X hX C => ?_)
  change Go X G _ 8 0 0 S 0 [(0, .ref x), (1, .int (nI j)), (2, .int (nI i)), (3, .int (nI s)), (4, .int w), (5, .int k)] []
  refine g_iload_n 1 1 C dX10_merge_0 rfl rfl ?_
  refine g_callS (As := [.int (nI j)]) (rest := []) C dX10_merge_1 (c_C_beyond_in hj) wC_X10_isBeyond wM_X10_63 wZ_X10_isBeyond wN_X10 hd_X10_isBeyond.2 ⟨by decide, by decide, by decide, by decide⟩ (Nat.le_of_ble_eq_true rfl) (fun r_ S_ h_ => ?_)
  obtain ⟨rfl, rfl⟩ := h_
  change Go X G _ 8 _ _ S 4 [(0, .ref x), (1, .int (nI j)), (2, .int (nI i)), (3, .int (nI s)), (4, .int w), (5, .int k)] [.int (nI 0)]
  refine g_nif_ne 21 (by decide) C dX10_merge_4 (by decide) (fun c => absurd c (by decide)) (fun _ => ?_)
  refine g_iload_n 2 2 C dX10_merge_7 rfl rfl ?_
  refine g_callS (As := [.int (nI i)]) (rest := []) C dX10_merge_8 (c_C_beyond_in hi) wC_X10_isBeyond wM_X10_63 wZ_X10_isBeyond wN_X10 hd_X10_isBeyond.2 ⟨by decide, by decide, by decide, by decide⟩ (Nat.le_of_ble_eq_true rfl) (fun r_ S_ h_ => ?_)
  obtain ⟨rfl, rfl⟩ := h_
  change Go X G _ 8 _ _ S 11 [(0, .ref x), (1, .int (nI j)), (2, .int (nI i)), (3, .int (nI s)), (4, .int w), (5, .int k)] [.int (nI 0)]
  refine g_nif_ne 21 (by decide) C dX10_merge_11 (by decide) (fun c => absurd c (by decide)) (fun _ => ?_)
  refine g_iload_n 3 3 C dX10_merge_14 rfl rfl ?_
  refine g_callS (As := [.int (nI s)]) (rest := []) C dX10_merge_15 (c_C_beyond_in hs) wC_X10_isBeyond wM_X10_63 wZ_X10_isBeyond wN_X10 hd_X10_isBeyond.2 ⟨by decide, by decide, by decide, by decide⟩ (Nat.le_of_ble_eq_true rfl) (fun r_ S_ h_ => ?_)
  obtain ⟨rfl, rfl⟩ := h_
  change Go X G _ 8 _ _ S 18 [(0, .ref x), (1, .int (nI j)), (2, .int (nI i)), (3, .int (nI s)), (4, .int w), (5, .int k)] [.int (nI 0)]
  refine g_nif_eq 24 (by decide) C dX10_merge_18 (by decide) (fun _ => ?_) (fun c => absurd c (by decide))
  refine g_aload_n 0 0 C dX10_merge_24 rfl rfl ?_
  refine gr_ba_places C dX10_merge_25 kx wF_X10_11 r0 ?_
  refine g_iload_n 1 1 C dX10_merge_28 rfl rfl ?_
  refine ga_pl_a C dX10_merge_29 k0 (by omega) ?_
  refine g_topv (show va_rf ((pl_a S) j) = .null by rw [show pl_a S j = none from by rw [hP j hj, if_pos hp]]; rfl) ?_
  refine g_ifnullN 42 C dX10_merge_30 (by decide) ?_
  refine g_bipush (v := -3) C dX10_merge_42 (by decide) ?_
  exact g_iret C dX10_merge_44 (by decide) (by decide) (⟨by unfold A_merge; rw [if_neg (fun z => z.elim (fun z => z.elim (nI_in10 hj) (nI_in10 hi)) (nI_in10 hs)), look_no hj hp], ⟨c, D, by unfold N_merge; rw [if_neg (fun z => z.elim (fun z => z.elim (nI_in10 hj) (nI_in10 hi)) (nI_in10 hs)), look_no hj hp]; exact hr⟩, Fk.refl S⟩)
set_option maxRecDepth 100000 in
set_option maxHeartbeats 400000 in
theorem c_C_merge_n2 {lX : Launch} {G : Gx} {S : PS} {x : Nat} {c : Nat → Nat} {D : Nat → Nat → Nat} {Z : ZT} (hr : RCD S Z x c D) (hZ : okZ Z) {j i s : Nat} {w k : Int32} (hj : j < 10) (hi : i < 10) (hs : s < 10) {t : Nat} (hp : zP Z j = t + 1) (hp2 : zP Z i = 0) : Ct lX yX10_merge cX10_merge 8 (Option.some Jvm.ClassFile.FieldType.int) rm_X10_merge G [.ref x, .int (nI j), .int (nI i), .int (nI s), .int w, .int k] S (fun r S' => r = some (.int (A_merge Z (nI j) (nI i) (nI s) w k)) ∧ RC S' (N_merge Z (nI j) (nI i) (nI s) w k) x ∧ Fk S S') := by
  obtain ⟨⟨⟨kx, r0, k0⟩, r1, r3, r5, ⟨r7, k7⟩, ⟨r8, k8⟩, ⟨r9, k9⟩, ⟨r10, k10⟩, ⟨r11, k11⟩, ⟨r12, k12⟩, r13⟩, hT, hP, hH, hRf, hW, hA, hL, hSep⟩ := id hr
  obtain ⟨⟨k1, r2, k2⟩, hu, htl, htf, ht255⟩ := id hT
  obtain ⟨⟨k3, r4⟩, ⟨k4, l4⟩, ws, wl, wv⟩ := id hW
  refine Ct.mk RX10 "merge" hy_X10_merge (Nat.le_of_ble_eq_true rfl) (fun X hX C => ?_)
  change Go X G _ 8 0 0 S 0 [(0, .ref x), (1, .int (nI j)), (2, .int (nI i)), (3, .int (nI s)), (4, .int w), (5, .int k)] []
  refine g_iload_n 1 1 C dX10_merge_0 rfl rfl ?_
  refine g_callS (As := [.int (nI j)]) (rest := []) C dX10_merge_1 (c_C_beyond_in hj) wC_X10_isBeyond wM_X10_63 wZ_X10_isBeyond wN_X10 hd_X10_isBeyond.2 ⟨by decide, by decide, by decide, by decide⟩ (Nat.le_of_ble_eq_true rfl) (fun r_ S_ h_ => ?_)
  obtain ⟨rfl, rfl⟩ := h_
  change Go X G _ 8 _ _ S 4 [(0, .ref x), (1, .int (nI j)), (2, .int (nI i)), (3, .int (nI s)), (4, .int w), (5, .int k)] [.int (nI 0)]
  refine g_nif_ne 21 (by decide) C dX10_merge_4 (by decide) (fun c => absurd c (by decide)) (fun _ => ?_)
  refine g_iload_n 2 2 C dX10_merge_7 rfl rfl ?_
  refine g_callS (As := [.int (nI i)]) (rest := []) C dX10_merge_8 (c_C_beyond_in hi) wC_X10_isBeyond wM_X10_63 wZ_X10_isBeyond wN_X10 hd_X10_isBeyond.2 ⟨by decide, by decide, by decide, by decide⟩ (Nat.le_of_ble_eq_true rfl) (fun r_ S_ h_ => ?_)
  obtain ⟨rfl, rfl⟩ := h_
  change Go X G _ 8 _ _ S 11 [(0, .ref x), (1, .int (nI j)), (2, .int (nI i)), (3, .int (nI s)), (4, .int w), (5, .int k)] [.int (nI 0)]
  refine g_nif_ne 21 (by decide) C dX10_merge_11 (by decide) (fun c => absurd c (by decide)) (fun _ => ?_)
  refine g_iload_n 3 3 C dX10_merge_14 rfl rfl ?_
  refine g_callS (As := [.int (nI s)]) (rest := []) C dX10_merge_15 (c_C_beyond_in hs) wC_X10_isBeyond wM_X10_63 wZ_X10_isBeyond wN_X10 hd_X10_isBeyond.2 ⟨by decide, by decide, by decide, by decide⟩ (Nat.le_of_ble_eq_true rfl) (fun r_ S_ h_ => ?_)
  obtain ⟨rfl, rfl⟩ := h_
  change Go X G _ 8 _ _ S 18 [(0, .ref x), (1, .int (nI j)), (2, .int (nI i)), (3, .int (nI s)), (4, .int w), (5, .int k)] [.int (nI 0)]
  refine g_nif_eq 24 (by decide) C dX10_merge_18 (by decide) (fun _ => ?_) (fun c => absurd c (by decide))
  refine g_aload_n 0 0 C dX10_merge_24 rfl rfl ?_
  refine gr_ba_places C dX10_merge_25 kx wF_X10_11 r0 ?_
  refine g_iload_n 1 1 C dX10_merge_28 rfl rfl ?_
  refine gar_pl_a C dX10_merge_29 k0 (by omega) (show pl_a S j = some (D t 0) from by rw [hP j hj, if_neg (by omega), hp]; rfl) ?_
  refine g_ifnull C dX10_merge_30 ?_
  refine g_aload_n 0 0 C dX10_merge_33 rfl rfl ?_
  refine gr_ba_places C dX10_merge_34 kx wF_X10_11 r0 ?_
  refine g_iload_n 2 2 C dX10_merge_37 rfl rfl ?_
  refine ga_pl_a C dX10_merge_38 k0 (by omega) ?_
  refine g_topv (show va_rf ((pl_a S) i) = .null by rw [show pl_a S i = none from by rw [hP i hi, if_pos hp2]]; rfl) ?_
  refine g_ifnonnullN C dX10_merge_39 ?_
  refine g_bipush (v := -3) C dX10_merge_42 (by decide) ?_
  exact g_iret C dX10_merge_44 (by decide) (by decide) (⟨by unfold A_merge; rw [if_neg (fun z => z.elim (fun z => z.elim (nI_in10 hj) (nI_in10 hi)) (nI_in10 hs)), look_at hj hp, look_no hi hp2], ⟨c, D, by unfold N_merge; rw [if_neg (fun z => z.elim (fun z => z.elim (nI_in10 hj) (nI_in10 hi)) (nI_in10 hs)), look_at hj hp, look_no hi hp2]; exact hr⟩, Fk.refl S⟩)
set_option maxRecDepth 100000 in
set_option maxHeartbeats 400000 in
theorem c_C_merge_x00 {lX : Launch} {G : Gx} {S : PS} {x : Nat} {c : Nat → Nat} {D : Nat → Nat → Nat} {Z : ZT} (hr : RCD S Z x c D) (hZ : okZ Z) {j i s : Nat} {w k : Int32} (hj : j < 10) (hi : i < 10) (hs : s < 10) {t u : Nat} (hp : zP Z j = t + 1) (hp2 : zP Z i = u + 1) (ha : ¬ tK (zH Z t) ≤ 5) (hb : ¬ tK (zH Z u) ≤ 5) : Ct lX yX10_merge cX10_merge 8 (Option.some Jvm.ClassFile.FieldType.int) rm_X10_merge G [.ref x, .int (nI j), .int (nI i), .int (nI s), .int w, .int k] S (fun r S' => r = some (.int (A_merge Z (nI j) (nI i) (nI s) w k)) ∧ RC S' (N_merge Z (nI j) (nI i) (nI s) w k) x ∧ Fk S S') := by
  obtain ⟨⟨⟨kx, r0, k0⟩, r1, r3, r5, ⟨r7, k7⟩, ⟨r8, k8⟩, ⟨r9, k9⟩, ⟨r10, k10⟩, ⟨r11, k11⟩, ⟨r12, k12⟩, r13⟩, hT, hP, hH, hRf, hW, hA, hL, hSep⟩ := id hr
  obtain ⟨⟨k1, r2, k2⟩, hu, htl, htf, ht255⟩ := id hT
  obtain ⟨⟨k3, r4⟩, ⟨k4, l4⟩, ws, wl, wv⟩ := id hW
  have he1 : bookE Z (nI j) = .inl (-4) := by unfold bookE; rw [look_at hj hp]; exact if_neg ha
  have he2 : bookE Z (nI i) = .inl (-4) := by unfold bookE; rw [look_at hi hp2]; exact if_neg hb
  refine Ct.mk RX10 "merge" hy_X10_merge (Nat.le_of_ble_eq_true rfl) (fun X hX C => ?_)
  change Go X G _ 8 0 0 S 0 [(0, .ref x), (1, .int (nI j)), (2, .int (nI i)), (3, .int (nI s)), (4, .int w), (5, .int k)] []
  refine g_iload_n 1 1 C dX10_merge_0 rfl rfl ?_
  refine g_callS (As := [.int (nI j)]) (rest := []) C dX10_merge_1 (c_C_beyond_in hj) wC_X10_isBeyond wM_X10_63 wZ_X10_isBeyond wN_X10 hd_X10_isBeyond.2 ⟨by decide, by decide, by decide, by decide⟩ (Nat.le_of_ble_eq_true rfl) (fun r_ S_ h_ => ?_)
  obtain ⟨rfl, rfl⟩ := h_
  change Go X G _ 8 _ _ S 4 [(0, .ref x), (1, .int (nI j)), (2, .int (nI i)), (3, .int (nI s)), (4, .int w), (5, .int k)] [.int (nI 0)]
  refine g_nif_ne 21 (by decide) C dX10_merge_4 (by decide) (fun c => absurd c (by decide)) (fun _ => ?_)
  refine g_iload_n 2 2 C dX10_merge_7 rfl rfl ?_
  refine g_callS (As := [.int (nI i)]) (rest := []) C dX10_merge_8 (c_C_beyond_in hi) wC_X10_isBeyond wM_X10_63 wZ_X10_isBeyond wN_X10 hd_X10_isBeyond.2 ⟨by decide, by decide, by decide, by decide⟩ (Nat.le_of_ble_eq_true rfl) (fun r_ S_ h_ => ?_)
  obtain ⟨rfl, rfl⟩ := h_
  change Go X G _ 8 _ _ S 11 [(0, .ref x), (1, .int (nI j)), (2, .int (nI i)), (3, .int (nI s)), (4, .int w), (5, .int k)] [.int (nI 0)]
  refine g_nif_ne 21 (by decide) C dX10_merge_11 (by decide) (fun c => absurd c (by decide)) (fun _ => ?_)
  refine g_iload_n 3 3 C dX10_merge_14 rfl rfl ?_
  refine g_callS (As := [.int (nI s)]) (rest := []) C dX10_merge_15 (c_C_beyond_in hs) wC_X10_isBeyond wM_X10_63 wZ_X10_isBeyond wN_X10 hd_X10_isBeyond.2 ⟨by decide, by decide, by decide, by decide⟩ (Nat.le_of_ble_eq_true rfl) (fun r_ S_ h_ => ?_)
  obtain ⟨rfl, rfl⟩ := h_
  change Go X G _ 8 _ _ S 18 [(0, .ref x), (1, .int (nI j)), (2, .int (nI i)), (3, .int (nI s)), (4, .int w), (5, .int k)] [.int (nI 0)]
  refine g_nif_eq 24 (by decide) C dX10_merge_18 (by decide) (fun _ => ?_) (fun c => absurd c (by decide))
  refine g_aload_n 0 0 C dX10_merge_24 rfl rfl ?_
  refine gr_ba_places C dX10_merge_25 kx wF_X10_11 r0 ?_
  refine g_iload_n 1 1 C dX10_merge_28 rfl rfl ?_
  refine gar_pl_a C dX10_merge_29 k0 (by omega) (show pl_a S j = some (D t 0) from by rw [hP j hj, if_neg (by omega), hp]; rfl) ?_
  refine g_ifnull C dX10_merge_30 ?_
  refine g_aload_n 0 0 C dX10_merge_33 rfl rfl ?_
  refine gr_ba_places C dX10_merge_34 kx wF_X10_11 r0 ?_
  refine g_iload_n 2 2 C dX10_merge_37 rfl rfl ?_
  refine gar_pl_a C dX10_merge_38 k0 (by omega) (show pl_a S i = some (D u 0) from by rw [hP i hi, if_neg (by omega), hp2]; rfl) ?_
  refine g_ifnonnull 45 C dX10_merge_39 (by decide) ?_
  refine g_aload_n 0 0 C dX10_merge_45 rfl rfl ?_
  refine g_iload_n 1 1 C dX10_merge_46 rfl rfl ?_
  refine g_callV (As := [.int (nI j)]) (rest := []) C dX10_merge_47 (c_C_bookAt_err hr hZ he1) wC_X10_bookAt wM_X10_114 wI_X10_bookAt wS_X10_bookAt wN_X10 (kne kx) (pf_10 kx) rfl hd_X10_bookAt ⟨by decide, by decide, by decide, by decide⟩ (Nat.le_of_ble_eq_true rfl) (fun r_ S_ h_ => ?_)
  obtain ⟨rfl, rfl⟩ := h_
  change Go X G _ 8 _ _ S 50 [(0, .ref x), (1, .int (nI j)), (2, .int (nI i)), (3, .int (nI s)), (4, .int w), (5, .int k)] [.null]
  refine g_astoreN (lv' := [(6, .null), (0, .ref x), (1, .int (nI j)), (2, .int (nI i)), (3, .int (nI s)), (4, .int w), (5, .int k)]) C dX10_merge_50 (by decide) rfl ?_
  refine g_aload_n 1 0 C dX10_merge_52 rfl rfl ?_
  refine g_iload_n 3 2 C dX10_merge_53 rfl rfl ?_
  refine g_callV (As := [.int (nI i)]) (rest := []) C dX10_merge_54 (c_C_bookAt_err hr hZ he2) wC_X10_bookAt wM_X10_114 wI_X10_bookAt wS_X10_bookAt wN_X10 (kne kx) (pf_10 kx) rfl hd_X10_bookAt ⟨by decide, by decide, by decide, by decide⟩ (Nat.le_of_ble_eq_true rfl) (fun r_ S_ h_ => ?_)
  obtain ⟨rfl, rfl⟩ := h_
  change Go X G _ 8 _ _ S 57 [(6, .null), (0, .ref x), (1, .int (nI j)), (2, .int (nI i)), (3, .int (nI s)), (4, .int w), (5, .int k)] [.null]
  refine g_astoreN (lv' := [(7, .null), (6, .null), (0, .ref x), (1, .int (nI j)), (2, .int (nI i)), (3, .int (nI s)), (4, .int w), (5, .int k)]) C dX10_merge_57 (by decide) rfl ?_
  refine g_aloadN 1 C dX10_merge_59 rfl ?_
  refine g_ifnullN 69 C dX10_merge_61 (by decide) ?_
  refine g_bipush (v := -4) C dX10_merge_69 (by decide) ?_
  exact g_iret C dX10_merge_71 (by decide) (by decide) (⟨by unfold A_merge; rw [if_neg (fun z => z.elim (fun z => z.elim (nI_in10 hj) (nI_in10 hi)) (nI_in10 hs)), look_at hj hp, look_at hi hp2]; simp only []; rw [if_neg (fun z => ha z.1)], ⟨c, D, by unfold N_merge; rw [if_neg (fun z => z.elim (fun z => z.elim (nI_in10 hj) (nI_in10 hi)) (nI_in10 hs)), look_at hj hp, look_at hi hp2]; simp only []; rw [if_neg (fun z => ha z.1)]; exact hr⟩, Fk.refl S⟩)
set_option maxRecDepth 100000 in
set_option maxHeartbeats 400000 in
theorem c_C_merge_x01 {lX : Launch} {G : Gx} {S : PS} {x : Nat} {c : Nat → Nat} {D : Nat → Nat → Nat} {Z : ZT} (hr : RCD S Z x c D) (hZ : okZ Z) {j i s : Nat} {w k : Int32} (hj : j < 10) (hi : i < 10) (hs : s < 10) {t u : Nat} (hp : zP Z j = t + 1) (hp2 : zP Z i = u + 1) (ha : ¬ tK (zH Z t) ≤ 5) (hb : tK (zH Z u) ≤ 5) : Ct lX yX10_merge cX10_merge 8 (Option.some Jvm.ClassFile.FieldType.int) rm_X10_merge G [.ref x, .int (nI j), .int (nI i), .int (nI s), .int w, .int k] S (fun r S' => r = some (.int (A_merge Z (nI j) (nI i) (nI s) w k)) ∧ RC S' (N_merge Z (nI j) (nI i) (nI s) w k) x ∧ Fk S S') := by
  obtain ⟨⟨⟨kx, r0, k0⟩, r1, r3, r5, ⟨r7, k7⟩, ⟨r8, k8⟩, ⟨r9, k9⟩, ⟨r10, k10⟩, ⟨r11, k11⟩, ⟨r12, k12⟩, r13⟩, hT, hP, hH, hRf, hW, hA, hL, hSep⟩ := id hr
  obtain ⟨⟨k1, r2, k2⟩, hu, htl, htf, ht255⟩ := id hT
  obtain ⟨⟨k3, r4⟩, ⟨k4, l4⟩, ws, wl, wv⟩ := id hW
  have he1 : bookE Z (nI j) = .inl (-4) := by unfold bookE; rw [look_at hj hp]; exact if_neg ha
  have he2 : bookE Z (nI i) = .inr u := by unfold bookE; rw [look_at hi hp2]; exact if_pos hb
  refine Ct.mk RX10 "merge" hy_X10_merge (Nat.le_of_ble_eq_true rfl) (fun X hX C => ?_)
  change Go X G _ 8 0 0 S 0 [(0, .ref x), (1, .int (nI j)), (2, .int (nI i)), (3, .int (nI s)), (4, .int w), (5, .int k)] []
  refine g_iload_n 1 1 C dX10_merge_0 rfl rfl ?_
  refine g_callS (As := [.int (nI j)]) (rest := []) C dX10_merge_1 (c_C_beyond_in hj) wC_X10_isBeyond wM_X10_63 wZ_X10_isBeyond wN_X10 hd_X10_isBeyond.2 ⟨by decide, by decide, by decide, by decide⟩ (Nat.le_of_ble_eq_true rfl) (fun r_ S_ h_ => ?_)
  obtain ⟨rfl, rfl⟩ := h_
  change Go X G _ 8 _ _ S 4 [(0, .ref x), (1, .int (nI j)), (2, .int (nI i)), (3, .int (nI s)), (4, .int w), (5, .int k)] [.int (nI 0)]
  refine g_nif_ne 21 (by decide) C dX10_merge_4 (by decide) (fun c => absurd c (by decide)) (fun _ => ?_)
  refine g_iload_n 2 2 C dX10_merge_7 rfl rfl ?_
  refine g_callS (As := [.int (nI i)]) (rest := []) C dX10_merge_8 (c_C_beyond_in hi) wC_X10_isBeyond wM_X10_63 wZ_X10_isBeyond wN_X10 hd_X10_isBeyond.2 ⟨by decide, by decide, by decide, by decide⟩ (Nat.le_of_ble_eq_true rfl) (fun r_ S_ h_ => ?_)
  obtain ⟨rfl, rfl⟩ := h_
  change Go X G _ 8 _ _ S 11 [(0, .ref x), (1, .int (nI j)), (2, .int (nI i)), (3, .int (nI s)), (4, .int w), (5, .int k)] [.int (nI 0)]
  refine g_nif_ne 21 (by decide) C dX10_merge_11 (by decide) (fun c => absurd c (by decide)) (fun _ => ?_)
  refine g_iload_n 3 3 C dX10_merge_14 rfl rfl ?_
  refine g_callS (As := [.int (nI s)]) (rest := []) C dX10_merge_15 (c_C_beyond_in hs) wC_X10_isBeyond wM_X10_63 wZ_X10_isBeyond wN_X10 hd_X10_isBeyond.2 ⟨by decide, by decide, by decide, by decide⟩ (Nat.le_of_ble_eq_true rfl) (fun r_ S_ h_ => ?_)
  obtain ⟨rfl, rfl⟩ := h_
  change Go X G _ 8 _ _ S 18 [(0, .ref x), (1, .int (nI j)), (2, .int (nI i)), (3, .int (nI s)), (4, .int w), (5, .int k)] [.int (nI 0)]
  refine g_nif_eq 24 (by decide) C dX10_merge_18 (by decide) (fun _ => ?_) (fun c => absurd c (by decide))
  refine g_aload_n 0 0 C dX10_merge_24 rfl rfl ?_
  refine gr_ba_places C dX10_merge_25 kx wF_X10_11 r0 ?_
  refine g_iload_n 1 1 C dX10_merge_28 rfl rfl ?_
  refine gar_pl_a C dX10_merge_29 k0 (by omega) (show pl_a S j = some (D t 0) from by rw [hP j hj, if_neg (by omega), hp]; rfl) ?_
  refine g_ifnull C dX10_merge_30 ?_
  refine g_aload_n 0 0 C dX10_merge_33 rfl rfl ?_
  refine gr_ba_places C dX10_merge_34 kx wF_X10_11 r0 ?_
  refine g_iload_n 2 2 C dX10_merge_37 rfl rfl ?_
  refine gar_pl_a C dX10_merge_38 k0 (by omega) (show pl_a S i = some (D u 0) from by rw [hP i hi, if_neg (by omega), hp2]; rfl) ?_
  refine g_ifnonnull 45 C dX10_merge_39 (by decide) ?_
  refine g_aload_n 0 0 C dX10_merge_45 rfl rfl ?_
  refine g_iload_n 1 1 C dX10_merge_46 rfl rfl ?_
  refine g_callV (As := [.int (nI j)]) (rest := []) C dX10_merge_47 (c_C_bookAt_err hr hZ he1) wC_X10_bookAt wM_X10_114 wI_X10_bookAt wS_X10_bookAt wN_X10 (kne kx) (pf_10 kx) rfl hd_X10_bookAt ⟨by decide, by decide, by decide, by decide⟩ (Nat.le_of_ble_eq_true rfl) (fun r_ S_ h_ => ?_)
  obtain ⟨rfl, rfl⟩ := h_
  change Go X G _ 8 _ _ S 50 [(0, .ref x), (1, .int (nI j)), (2, .int (nI i)), (3, .int (nI s)), (4, .int w), (5, .int k)] [.null]
  refine g_astoreN (lv' := [(6, .null), (0, .ref x), (1, .int (nI j)), (2, .int (nI i)), (3, .int (nI s)), (4, .int w), (5, .int k)]) C dX10_merge_50 (by decide) rfl ?_
  refine g_aload_n 1 0 C dX10_merge_52 rfl rfl ?_
  refine g_iload_n 3 2 C dX10_merge_53 rfl rfl ?_
  refine g_callV (As := [.int (nI i)]) (rest := []) C dX10_merge_54 (c_C_bookAt_ok hr hZ hi hp2 he2) wC_X10_bookAt wM_X10_114 wI_X10_bookAt wS_X10_bookAt wN_X10 (kne kx) (pf_10 kx) rfl hd_X10_bookAt ⟨by decide, by decide, by decide, by decide⟩ (Nat.le_of_ble_eq_true rfl) (fun r_ S_ h_ => ?_)
  obtain ⟨rfl, rfl⟩ := h_
  change Go X G _ 8 _ _ S 57 [(6, .null), (0, .ref x), (1, .int (nI j)), (2, .int (nI i)), (3, .int (nI s)), (4, .int w), (5, .int k)] [.ref ((D u 0))]
  refine g_astore (lv' := [(7, .ref ((D u 0))), (6, .null), (0, .ref x), (1, .int (nI j)), (2, .int (nI i)), (3, .int (nI s)), (4, .int w), (5, .int k)]) C dX10_merge_57 (by decide) rfl ?_
  refine g_aloadN 1 C dX10_merge_59 rfl ?_
  refine g_ifnullN 69 C dX10_merge_61 (by decide) ?_
  refine g_bipush (v := -4) C dX10_merge_69 (by decide) ?_
  exact g_iret C dX10_merge_71 (by decide) (by decide) (⟨by unfold A_merge; rw [if_neg (fun z => z.elim (fun z => z.elim (nI_in10 hj) (nI_in10 hi)) (nI_in10 hs)), look_at hj hp, look_at hi hp2]; simp only []; rw [if_neg (fun z => ha z.1)], ⟨c, D, by unfold N_merge; rw [if_neg (fun z => z.elim (fun z => z.elim (nI_in10 hj) (nI_in10 hi)) (nI_in10 hs)), look_at hj hp, look_at hi hp2]; simp only []; rw [if_neg (fun z => ha z.1)]; exact hr⟩, Fk.refl S⟩)
set_option maxRecDepth 100000 in
set_option maxHeartbeats 400000 in
theorem c_C_merge_x10 {lX : Launch} {G : Gx} {S : PS} {x : Nat} {c : Nat → Nat} {D : Nat → Nat → Nat} {Z : ZT} (hr : RCD S Z x c D) (hZ : okZ Z) {j i s : Nat} {w k : Int32} (hj : j < 10) (hi : i < 10) (hs : s < 10) {t u : Nat} (hp : zP Z j = t + 1) (hp2 : zP Z i = u + 1) (ha : tK (zH Z t) ≤ 5) (hb : ¬ tK (zH Z u) ≤ 5) : Ct lX yX10_merge cX10_merge 8 (Option.some Jvm.ClassFile.FieldType.int) rm_X10_merge G [.ref x, .int (nI j), .int (nI i), .int (nI s), .int w, .int k] S (fun r S' => r = some (.int (A_merge Z (nI j) (nI i) (nI s) w k)) ∧ RC S' (N_merge Z (nI j) (nI i) (nI s) w k) x ∧ Fk S S') := by
  obtain ⟨⟨⟨kx, r0, k0⟩, r1, r3, r5, ⟨r7, k7⟩, ⟨r8, k8⟩, ⟨r9, k9⟩, ⟨r10, k10⟩, ⟨r11, k11⟩, ⟨r12, k12⟩, r13⟩, hT, hP, hH, hRf, hW, hA, hL, hSep⟩ := id hr
  obtain ⟨⟨k1, r2, k2⟩, hu, htl, htf, ht255⟩ := id hT
  obtain ⟨⟨k3, r4⟩, ⟨k4, l4⟩, ws, wl, wv⟩ := id hW
  have he1 : bookE Z (nI j) = .inr t := by unfold bookE; rw [look_at hj hp]; exact if_pos ha
  have he2 : bookE Z (nI i) = .inl (-4) := by unfold bookE; rw [look_at hi hp2]; exact if_neg hb
  refine Ct.mk RX10 "merge" hy_X10_merge (Nat.le_of_ble_eq_true rfl) (fun X hX C => ?_)
  change Go X G _ 8 0 0 S 0 [(0, .ref x), (1, .int (nI j)), (2, .int (nI i)), (3, .int (nI s)), (4, .int w), (5, .int k)] []
  refine g_iload_n 1 1 C dX10_merge_0 rfl rfl ?_
  refine g_callS (As := [.int (nI j)]) (rest := []) C dX10_merge_1 (c_C_beyond_in hj) wC_X10_isBeyond wM_X10_63 wZ_X10_isBeyond wN_X10 hd_X10_isBeyond.2 ⟨by decide, by decide, by decide, by decide⟩ (Nat.le_of_ble_eq_true rfl) (fun r_ S_ h_ => ?_)
  obtain ⟨rfl, rfl⟩ := h_
  change Go X G _ 8 _ _ S 4 [(0, .ref x), (1, .int (nI j)), (2, .int (nI i)), (3, .int (nI s)), (4, .int w), (5, .int k)] [.int (nI 0)]
  refine g_nif_ne 21 (by decide) C dX10_merge_4 (by decide) (fun c => absurd c (by decide)) (fun _ => ?_)
  refine g_iload_n 2 2 C dX10_merge_7 rfl rfl ?_
  refine g_callS (As := [.int (nI i)]) (rest := []) C dX10_merge_8 (c_C_beyond_in hi) wC_X10_isBeyond wM_X10_63 wZ_X10_isBeyond wN_X10 hd_X10_isBeyond.2 ⟨by decide, by decide, by decide, by decide⟩ (Nat.le_of_ble_eq_true rfl) (fun r_ S_ h_ => ?_)
  obtain ⟨rfl, rfl⟩ := h_
  change Go X G _ 8 _ _ S 11 [(0, .ref x), (1, .int (nI j)), (2, .int (nI i)), (3, .int (nI s)), (4, .int w), (5, .int k)] [.int (nI 0)]
  refine g_nif_ne 21 (by decide) C dX10_merge_11 (by decide) (fun c => absurd c (by decide)) (fun _ => ?_)
  refine g_iload_n 3 3 C dX10_merge_14 rfl rfl ?_
  refine g_callS (As := [.int (nI s)]) (rest := []) C dX10_merge_15 (c_C_beyond_in hs) wC_X10_isBeyond wM_X10_63 wZ_X10_isBeyond wN_X10 hd_X10_isBeyond.2 ⟨by decide, by decide, by decide, by decide⟩ (Nat.le_of_ble_eq_true rfl) (fun r_ S_ h_ => ?_)
  obtain ⟨rfl, rfl⟩ := h_
  change Go X G _ 8 _ _ S 18 [(0, .ref x), (1, .int (nI j)), (2, .int (nI i)), (3, .int (nI s)), (4, .int w), (5, .int k)] [.int (nI 0)]
  refine g_nif_eq 24 (by decide) C dX10_merge_18 (by decide) (fun _ => ?_) (fun c => absurd c (by decide))
  refine g_aload_n 0 0 C dX10_merge_24 rfl rfl ?_
  refine gr_ba_places C dX10_merge_25 kx wF_X10_11 r0 ?_
  refine g_iload_n 1 1 C dX10_merge_28 rfl rfl ?_
  refine gar_pl_a C dX10_merge_29 k0 (by omega) (show pl_a S j = some (D t 0) from by rw [hP j hj, if_neg (by omega), hp]; rfl) ?_
  refine g_ifnull C dX10_merge_30 ?_
  refine g_aload_n 0 0 C dX10_merge_33 rfl rfl ?_
  refine gr_ba_places C dX10_merge_34 kx wF_X10_11 r0 ?_
  refine g_iload_n 2 2 C dX10_merge_37 rfl rfl ?_
  refine gar_pl_a C dX10_merge_38 k0 (by omega) (show pl_a S i = some (D u 0) from by rw [hP i hi, if_neg (by omega), hp2]; rfl) ?_
  refine g_ifnonnull 45 C dX10_merge_39 (by decide) ?_
  refine g_aload_n 0 0 C dX10_merge_45 rfl rfl ?_
  refine g_iload_n 1 1 C dX10_merge_46 rfl rfl ?_
  refine g_callV (As := [.int (nI j)]) (rest := []) C dX10_merge_47 (c_C_bookAt_ok hr hZ hj hp he1) wC_X10_bookAt wM_X10_114 wI_X10_bookAt wS_X10_bookAt wN_X10 (kne kx) (pf_10 kx) rfl hd_X10_bookAt ⟨by decide, by decide, by decide, by decide⟩ (Nat.le_of_ble_eq_true rfl) (fun r_ S_ h_ => ?_)
  obtain ⟨rfl, rfl⟩ := h_
  change Go X G _ 8 _ _ S 50 [(0, .ref x), (1, .int (nI j)), (2, .int (nI i)), (3, .int (nI s)), (4, .int w), (5, .int k)] [.ref ((D t 0))]
  refine g_astore (lv' := [(6, .ref ((D t 0))), (0, .ref x), (1, .int (nI j)), (2, .int (nI i)), (3, .int (nI s)), (4, .int w), (5, .int k)]) C dX10_merge_50 (by decide) rfl ?_
  refine g_aload_n 1 0 C dX10_merge_52 rfl rfl ?_
  refine g_iload_n 3 2 C dX10_merge_53 rfl rfl ?_
  refine g_callV (As := [.int (nI i)]) (rest := []) C dX10_merge_54 (c_C_bookAt_err hr hZ he2) wC_X10_bookAt wM_X10_114 wI_X10_bookAt wS_X10_bookAt wN_X10 (kne kx) (pf_10 kx) rfl hd_X10_bookAt ⟨by decide, by decide, by decide, by decide⟩ (Nat.le_of_ble_eq_true rfl) (fun r_ S_ h_ => ?_)
  obtain ⟨rfl, rfl⟩ := h_
  change Go X G _ 8 _ _ S 57 [(6, .ref ((D t 0))), (0, .ref x), (1, .int (nI j)), (2, .int (nI i)), (3, .int (nI s)), (4, .int w), (5, .int k)] [.null]
  refine g_astoreN (lv' := [(7, .null), (6, .ref ((D t 0))), (0, .ref x), (1, .int (nI j)), (2, .int (nI i)), (3, .int (nI s)), (4, .int w), (5, .int k)]) C dX10_merge_57 (by decide) rfl ?_
  refine g_aload 1 C dX10_merge_59 rfl ?_
  refine g_ifnull C dX10_merge_61 ?_
  refine g_aloadN 0 C dX10_merge_64 rfl ?_
  refine g_ifnonnullN C dX10_merge_66 ?_
  refine g_bipush (v := -4) C dX10_merge_69 (by decide) ?_
  exact g_iret C dX10_merge_71 (by decide) (by decide) (⟨by unfold A_merge; rw [if_neg (fun z => z.elim (fun z => z.elim (nI_in10 hj) (nI_in10 hi)) (nI_in10 hs)), look_at hj hp, look_at hi hp2]; simp only []; rw [if_neg (fun z => hb z.2)], ⟨c, D, by unfold N_merge; rw [if_neg (fun z => z.elim (fun z => z.elim (nI_in10 hj) (nI_in10 hi)) (nI_in10 hs)), look_at hj hp, look_at hi hp2]; simp only []; rw [if_neg (fun z => hb z.2)]; exact hr⟩, Fk.refl S⟩)
theorem c_C_isBK {lX : Launch} {G : Gx} {S : PS} {k : Int32} : Ct lX yX10_isBookKind cX10_isBookKind 1 (Option.some Jvm.ClassFile.FieldType.boolean) rm_X10_isBookKind G [.int k] S (fun r S' => r = some (.int (bI (kdB k))) ∧ S = S') := by
  cases h : kdB k with
  | false => exact c_C_isBK_no h
  | true =>
    by_cases h1 : k < nI 1
    · rw [kd_lo h1] at h; cases h
    · by_cases h2 : nI 5 < k
      · rw [kd_hi h2] at h; cases h
      · obtain ⟨i, a1, a2, rfl, -⟩ := kd_in h1 h2
        exact c_C_isBK_in a1 a2
set_option maxRecDepth 100000 in
set_option maxHeartbeats 400000 in
theorem c_C_merge_ok {lX : Launch} {G : Gx} {S : PS} {x : Nat} {c : Nat → Nat} {D : Nat → Nat → Nat} {Z : ZT} (hr : RCD S Z x c D) (hZ : okZ Z) {j i s : Nat} {w k : Int32} (hj : j < 10) (hi : i < 10) (hs : s < 10) {t u : Nat} (hp : zP Z j = t + 1) (hp2 : zP Z i = u + 1) (ha : tK (zH Z t) ≤ 5) (hb : tK (zH Z u) ≤ 5) : Ct lX yX10_merge cX10_merge 8 (Option.some Jvm.ClassFile.FieldType.int) rm_X10_merge G [.ref x, .int (nI j), .int (nI i), .int (nI s), .int w, .int k] S (fun r S' => r = some (.int (A_merge Z (nI j) (nI i) (nI s) w k)) ∧ RC S' (N_merge Z (nI j) (nI i) (nI s) w k) x ∧ Fk S S') := by
  obtain ⟨⟨⟨kx, r0, k0⟩, r1, r3, r5, ⟨r7, k7⟩, ⟨r8, k8⟩, ⟨r9, k9⟩, ⟨r10, k10⟩, ⟨r11, k11⟩, ⟨r12, k12⟩, r13⟩, hT, hP, hH, hRf, hW, hA, hL, hSep⟩ := id hr
  obtain ⟨⟨k1, r2, k2⟩, hu, htl, htf, ht255⟩ := id hT
  obtain ⟨⟨k3, r4⟩, ⟨k4, l4⟩, ws, wl, wv⟩ := id hW
  obtain ⟨lp_, hLp⟩ := hL
  have he1 : bookE Z (nI j) = .inr t := by unfold bookE; rw [look_at hj hp]; exact if_pos ha
  have he2 : bookE Z (nI i) = .inr u := by unfold bookE; rw [look_at hi hp2]; exact if_pos hb
  have ut : usedP (zP Z) t := ⟨j, hj, hp⟩
  have uu : usedP (zP Z) u := ⟨i, hi, hp2⟩
  have hok := (hZ.th hj hp).1
  have hok2 := (hZ.th hi hp2).1
  have hbk := (hH t ut).1 ha
  have hb2 := (hH u uu).1 hb
  refine Ct.mk RX10 "merge" hy_X10_merge (Nat.le_of_ble_eq_true rfl) (fun X hX C => ?_)
  change Go X G _ 8 0 0 S 0 [(0, .ref x), (1, .int (nI j)), (2, .int (nI i)), (3, .int (nI s)), (4, .int w), (5, .int k)] []
  refine g_iload_n 1 1 C dX10_merge_0 rfl rfl ?_
  refine g_callS (As := [.int (nI j)]) (rest := []) C dX10_merge_1 (c_C_beyond_in hj) wC_X10_isBeyond wM_X10_63 wZ_X10_isBeyond wN_X10 hd_X10_isBeyond.2 ⟨by decide, by decide, by decide, by decide⟩ (Nat.le_of_ble_eq_true rfl) (fun r_ S_ h_ => ?_)
  obtain ⟨rfl, rfl⟩ := h_
  change Go X G _ 8 _ _ S 4 [(0, .ref x), (1, .int (nI j)), (2, .int (nI i)), (3, .int (nI s)), (4, .int w), (5, .int k)] [.int (nI 0)]
  refine g_nif_ne 21 (by decide) C dX10_merge_4 (by decide) (fun c => absurd c (by decide)) (fun _ => ?_)
  refine g_iload_n 2 2 C dX10_merge_7 rfl rfl ?_
  refine g_callS (As := [.int (nI i)]) (rest := []) C dX10_merge_8 (c_C_beyond_in hi) wC_X10_isBeyond wM_X10_63 wZ_X10_isBeyond wN_X10 hd_X10_isBeyond.2 ⟨by decide, by decide, by decide, by decide⟩ (Nat.le_of_ble_eq_true rfl) (fun r_ S_ h_ => ?_)
  obtain ⟨rfl, rfl⟩ := h_
  change Go X G _ 8 _ _ S 11 [(0, .ref x), (1, .int (nI j)), (2, .int (nI i)), (3, .int (nI s)), (4, .int w), (5, .int k)] [.int (nI 0)]
  refine g_nif_ne 21 (by decide) C dX10_merge_11 (by decide) (fun c => absurd c (by decide)) (fun _ => ?_)
  refine g_iload_n 3 3 C dX10_merge_14 rfl rfl ?_
  refine g_callS (As := [.int (nI s)]) (rest := []) C dX10_merge_15 (c_C_beyond_in hs) wC_X10_isBeyond wM_X10_63 wZ_X10_isBeyond wN_X10 hd_X10_isBeyond.2 ⟨by decide, by decide, by decide, by decide⟩ (Nat.le_of_ble_eq_true rfl) (fun r_ S_ h_ => ?_)
  obtain ⟨rfl, rfl⟩ := h_
  change Go X G _ 8 _ _ S 18 [(0, .ref x), (1, .int (nI j)), (2, .int (nI i)), (3, .int (nI s)), (4, .int w), (5, .int k)] [.int (nI 0)]
  refine g_nif_eq 24 (by decide) C dX10_merge_18 (by decide) (fun _ => ?_) (fun c => absurd c (by decide))
  refine g_aload_n 0 0 C dX10_merge_24 rfl rfl ?_
  refine gr_ba_places C dX10_merge_25 kx wF_X10_11 r0 ?_
  refine g_iload_n 1 1 C dX10_merge_28 rfl rfl ?_
  refine gar_pl_a C dX10_merge_29 k0 (by omega) (show pl_a S j = some (D t 0) from by rw [hP j hj, if_neg (by omega), hp]; rfl) ?_
  refine g_ifnull C dX10_merge_30 ?_
  refine g_aload_n 0 0 C dX10_merge_33 rfl rfl ?_
  refine gr_ba_places C dX10_merge_34 kx wF_X10_11 r0 ?_
  refine g_iload_n 2 2 C dX10_merge_37 rfl rfl ?_
  refine gar_pl_a C dX10_merge_38 k0 (by omega) (show pl_a S i = some (D u 0) from by rw [hP i hi, if_neg (by omega), hp2]; rfl) ?_
  refine g_ifnonnull 45 C dX10_merge_39 (by decide) ?_
  refine g_aload_n 0 0 C dX10_merge_45 rfl rfl ?_
  refine g_iload_n 1 1 C dX10_merge_46 rfl rfl ?_
  refine g_callV (As := [.int (nI j)]) (rest := []) C dX10_merge_47 (c_C_bookAt_ok hr hZ hj hp he1) wC_X10_bookAt wM_X10_114 wI_X10_bookAt wS_X10_bookAt wN_X10 (kne kx) (pf_10 kx) rfl hd_X10_bookAt ⟨by decide, by decide, by decide, by decide⟩ (Nat.le_of_ble_eq_true rfl) (fun r_ S_ h_ => ?_)
  obtain ⟨rfl, rfl⟩ := h_
  change Go X G _ 8 _ _ S 50 [(0, .ref x), (1, .int (nI j)), (2, .int (nI i)), (3, .int (nI s)), (4, .int w), (5, .int k)] [.ref ((D t 0))]
  refine g_astore (lv' := [(6, .ref ((D t 0))), (0, .ref x), (1, .int (nI j)), (2, .int (nI i)), (3, .int (nI s)), (4, .int w), (5, .int k)]) C dX10_merge_50 (by decide) rfl ?_
  refine g_aload_n 1 0 C dX10_merge_52 rfl rfl ?_
  refine g_iload_n 3 2 C dX10_merge_53 rfl rfl ?_
  refine g_callV (As := [.int (nI i)]) (rest := []) C dX10_merge_54 (c_C_bookAt_ok hr hZ hi hp2 he2) wC_X10_bookAt wM_X10_114 wI_X10_bookAt wS_X10_bookAt wN_X10 (kne kx) (pf_10 kx) rfl hd_X10_bookAt ⟨by decide, by decide, by decide, by decide⟩ (Nat.le_of_ble_eq_true rfl) (fun r_ S_ h_ => ?_)
  obtain ⟨rfl, rfl⟩ := h_
  change Go X G _ 8 _ _ S 57 [(6, .ref ((D t 0))), (0, .ref x), (1, .int (nI j)), (2, .int (nI i)), (3, .int (nI s)), (4, .int w), (5, .int k)] [.ref ((D u 0))]
  refine g_astore (lv' := [(7, .ref ((D u 0))), (6, .ref ((D t 0))), (0, .ref x), (1, .int (nI j)), (2, .int (nI i)), (3, .int (nI s)), (4, .int w), (5, .int k)]) C dX10_merge_57 (by decide) rfl ?_
  refine g_aload 1 C dX10_merge_59 rfl ?_
  refine g_ifnull C dX10_merge_61 ?_
  refine g_aload 0 C dX10_merge_64 rfl ?_
  refine g_ifnonnull 72 C dX10_merge_66 (by decide) ?_
  refine g_iload 6 C dX10_merge_72 rfl ?_
  refine g_if_lt 91 C dX10_merge_74 (by decide) (fun c74 => ?_) (fun c74 => ?_)
  · have ew : (inR w 3 && kdB k) = false := by rw [inR_neg c74]; rfl
    refine g_bipush (v := -5) C dX10_merge_91 (by decide) ?_
    exact g_iret C dX10_merge_93 (by decide) (by decide) (⟨by unfold A_merge; rw [if_neg (fun z => z.elim (fun z => z.elim (nI_in10 hj) (nI_in10 hi)) (nI_in10 hs)), look_at hj hp, look_at hi hp2]; simp only []; rw [if_pos ⟨ha, hb⟩, ew, if_neg (by decide)], ⟨c, D, by unfold N_merge; rw [if_neg (fun z => z.elim (fun z => z.elim (nI_in10 hj) (nI_in10 hi)) (nI_in10 hs)), look_at hj hp, look_at hi hp2]; simp only []; rw [if_pos ⟨ha, hb⟩, ew, if_neg (by decide)]; exact hr⟩, Fk.refl S⟩)
  · refine g_iload 6 C dX10_merge_77 rfl ?_
    refine g_iconst (v := nI 2) C dX10_merge_79 (by decide) ?_
    refine g_icmp_gt 91 C dX10_merge_80 (by decide) (fun c80 => ?_) (fun c80 => ?_)
    · have ew : (inR w 3 && kdB k) = false := by rw [inR_big1 (n := 2) (by decide) (Int32.not_le.mpr c80)]; rfl
      refine g_bipush (v := -5) C dX10_merge_91 (by decide) ?_
      exact g_iret C dX10_merge_93 (by decide) (by decide) (⟨by unfold A_merge; rw [if_neg (fun z => z.elim (fun z => z.elim (nI_in10 hj) (nI_in10 hi)) (nI_in10 hs)), look_at hj hp, look_at hi hp2]; simp only []; rw [if_pos ⟨ha, hb⟩, ew, if_neg (by decide)], ⟨c, D, by unfold N_merge; rw [if_neg (fun z => z.elim (fun z => z.elim (nI_in10 hj) (nI_in10 hi)) (nI_in10 hs)), look_at hj hp, look_at hi hp2]; simp only []; rw [if_pos ⟨ha, hb⟩, ew, if_neg (by decide)]; exact hr⟩, Fk.refl S⟩)
    · have ei := inR_in1 (n := 2) (by decide) c74 (Int32.not_lt.mp c80)
      obtain ⟨w0, hw0, rfl⟩ := inR_spec ei (by decide)
      refine g_iload 7 C dX10_merge_83 rfl ?_
      refine g_callS (As := [.int k]) (rest := []) C dX10_merge_85 (c_C_isBK) wC_X10_isBookKind wM_X10_132 wZ_X10_isBookKind wN_X10 hd_X10_isBookKind.2 ⟨by decide, by decide, by decide, by decide⟩ (Nat.le_of_ble_eq_true rfl) (fun r_ S_ h_ => ?_)
      obtain ⟨rfl, rfl⟩ := h_
      change Go X G _ 8 _ _ S 88 [(7, .ref ((D u 0))), (6, .ref ((D t 0))), (0, .ref x), (1, .int (nI j)), (2, .int (nI i)), (3, .int (nI s)), (4, .int (nI w0)), (5, .int k)] [.int (bI (kdB k))]
      refine g_if_ne 94 C dX10_merge_88 (by decide) (fun c88 => ?_) (fun c88 => ?_)
      · have hk := bI_t c88
        have ew : (inR (nI w0) 3 && kdB k) = true := by rw [ei, hk]; rfl
        have ec : (nI w0).toNatClampNeg = w0 := nI_clamp (by omega)
        refine g_aload 1 C dX10_merge_94 rfl ?_
        refine g_callV (As := []) (rest := []) C dX10_merge_96 (c_K_lacks hbk hok) wC_X2_lacksTable wM_X10_118 wI_X2_lacksTable wS_X2_lacksTable wN_X2 (kne hbk.1.1) (pf_3 hbk.1.1) rfl hd_X2_lacksTable ⟨by decide, by decide, by decide, by decide⟩ (Nat.le_of_ble_eq_true rfl) (fun r_ S_ h_ => ?_)
        obtain ⟨rfl, rfl⟩ := h_
        change Go X G _ 8 _ _ S 99 [(7, .ref ((D u 0))), (6, .ref ((D t 0))), (0, .ref x), (1, .int (nI j)), (2, .int (nI i)), (3, .int (nI s)), (4, .int (nI w0)), (5, .int k)] [.int (bI (missT (zH Z t)))]
        refine g_if_ne 110 C dX10_merge_99 (by decide) (fun c99 => ?_) (fun c99 => ?_)
        · have em : (missT (zH Z t) || missT (zH Z u)) = true := by rw [bI_t c99]; rfl
          refine g_bipush (v := -6) C dX10_merge_110 (by decide) ?_
          exact g_iret C dX10_merge_112 (by decide) (by decide) (⟨by unfold A_merge; rw [if_neg (fun z => z.elim (fun z => z.elim (nI_in10 hj) (nI_in10 hi)) (nI_in10 hs)), look_at hj hp, look_at hi hp2]; simp only []; rw [if_pos ⟨ha, hb⟩, ew, if_pos rfl, em, if_pos rfl], ⟨c, D, by unfold N_merge; rw [if_neg (fun z => z.elim (fun z => z.elim (nI_in10 hj) (nI_in10 hi)) (nI_in10 hs)), look_at hj hp, look_at hi hp2]; simp only []; rw [if_pos ⟨ha, hb⟩, ew, if_pos rfl, em, if_pos rfl]; exact hr⟩, Fk.refl S⟩)
        · refine g_aload 0 C dX10_merge_102 rfl ?_
          refine g_callV (As := []) (rest := []) C dX10_merge_104 (c_K_lacks hb2 hok2) wC_X2_lacksTable wM_X10_118 wI_X2_lacksTable wS_X2_lacksTable wN_X2 (kne hb2.1.1) (pf_3 hb2.1.1) rfl hd_X2_lacksTable ⟨by decide, by decide, by decide, by decide⟩ (Nat.le_of_ble_eq_true rfl) (fun r_ S_ h_ => ?_)
          obtain ⟨rfl, rfl⟩ := h_
          change Go X G _ 8 _ _ S 107 [(7, .ref ((D u 0))), (6, .ref ((D t 0))), (0, .ref x), (1, .int (nI j)), (2, .int (nI i)), (3, .int (nI s)), (4, .int (nI w0)), (5, .int k)] [.int (bI (missT (zH Z u)))]
          refine g_if_eq 113 C dX10_merge_107 (by decide) (fun c107 => ?_) (fun c107 => ?_)
          · have em : (missT (zH Z t) || missT (zH Z u)) = false := by rw [bI_f c99, bI_f c107]; rfl
            refine g_aload_n 2 0 C dX10_merge_113 rfl rfl ?_
            refine gr_ba_pending C dX10_merge_114 kx wF_X10_44 r13 ?_
            refine g_aload 1 C dX10_merge_117 rfl ?_
            refine gr_bk_list C dX10_merge_119 hbk.1.1 wF_X10_124 hbk.1.2.2 ?_
            refine g_aload 0 C dX10_merge_122 rfl ?_
            refine gr_bk_list C dX10_merge_124 hb2.1.1 wF_X10_124 hb2.1.2.2 ?_
            refine g_iload 6 C dX10_merge_127 rfl ?_
            refine g_callV (As := [.ref ((D t 1)), .ref ((D u 1)), .int (nI w0)]) (rest := []) C dX10_merge_129 (c_L_merged (w0 := w0) hLp hbk.2.1 hb2.2.1 hok.2.2.1 hok2.2.2.1 ⟨pend_no hr ut (by decide), pend_no hr ut (by decide), pend_no hr ut (by decide)⟩ ⟨pend_no hr uu (by decide), pend_no hr uu (by decide), pend_no hr uu (by decide)⟩ (by omega)) wC_X4_takeMerged wM_X10_135 wI_X4_takeMerged wS_X4_takeMerged wN_X4 (kne hLp.1.1) (pf_5 hLp.1.1) rfl hd_X4_takeMerged ⟨by decide, by decide, by decide, by decide⟩ (Nat.le_of_ble_eq_true rfl) (fun r_ S1 h_ => ?_)
            obtain ⟨pl_, rfl, f1, hm1, hpl1, hpl2⟩ := h_
            change Go X G _ 8 _ _ S1 132 [(7, .ref ((D u 0))), (6, .ref ((D t 0))), (0, .ref x), (1, .int (nI j)), (2, .int (nI i)), (3, .int (nI s)), (4, .int (nI w0)), (5, .int k)] [.int (bI (decide ((mergeL (tL (zH Z t)) (tL (zH Z u)) w0).length ≤ 100)))]
            have f1k := f1.kd_ kx
            have hT1 := hT.fr f1 hm1
            have hr1 : RCD S1 Z x c D := hr.pend f1 hpl1 hT1 (congrArg (fun q => q.2.2.1) hm1) (congrArg (fun q => q.1) hm1)
            refine g_if_ne 138 C dX10_merge_132 (by decide) (fun c132 => ?_) (fun c132 => ?_)
            · have eT := of_decide_eq_true (bI_t c132)
              rw [hpl2 eT] at hpl1
              have hom := merge_ok hok.2.2.1 hok2.2.2.1 eT
              refine g_aload_n 2 0 C dX10_merge_138 rfl rfl ?_
              refine g_iload_n 5 3 C dX10_merge_139 rfl rfl ?_
              refine g_aload_n 2 0 C dX10_merge_140 rfl rfl ?_
              refine gr_ba_binder C dX10_merge_141 f1k wF_X10_35 ((fe_ba_binder f1.2.2).trans r7) ?_
              refine g_aload_n 2 0 C dX10_merge_144 rfl rfl ?_
              refine gr_ba_pending C dX10_merge_145 f1k wF_X10_44 ((fe_ba_pending f1.2.2).trans r13) ?_
              refine g_iload 7 C dX10_merge_148 rfl ?_
              refine g_callV (As := [.ref ((c 13)), .int k]) (rest := [.int (nI s), .ref x]) C dX10_merge_150 (c_B_bind hr1.1 hpl1 hom) wC_X1_bind wM_X10_106 wI_X1_bind wS_X1_bind wN_X1 (kne (f1.kd_ k7)) (pf_2 (f1.kd_ k7)) rfl hd_X1_bind ⟨by decide, by decide, by decide, by decide⟩ (Nat.le_of_ble_eq_true rfl) (fun r_ Sb h_ => ?_)
              rcases h_ with ⟨hfit, d, rfl, fb, hmb, hbk9, hd0, hd1⟩ | ⟨hfit, rfl, rfl⟩
              · change Go X G _ 8 _ _ Sb 153 [(7, .ref ((D u 0))), (6, .ref ((D t 0))), (0, .ref x), (1, .int (nI j)), (2, .int (nI i)), (3, .int (nI s)), (4, .int (nI w0)), (5, .int k)] [.ref ((d 0)), .int (nI s), .ref x]
                refine g_callV (As := [.int (nI s), .ref ((d 0))]) (rest := []) C dX10_merge_153 (c_C_shelve_at (S := Sb) (d := d) (hr1.1.fr fb) hs hbk9) wC_X10_shelve wM_X10_110 wI_X10_shelve wS_X10_shelve wN_X10 (kne (fb.kd_ f1k)) (pf_10 (fb.kd_ f1k)) rfl hd_X10_shelve ⟨by decide, by decide, by decide, by decide⟩ (Nat.le_of_ble_eq_true rfl) (fun r_ S_ h_ => ?_)
                obtain ⟨rfl, rfl⟩ := h_
                change Go X G _ 8 _ _ (pl_a_ Sb (va_up (pl_a Sb) s (some (d 0)))) 156 [(7, .ref ((D u 0))), (6, .ref ((D t 0))), (0, .ref x), (1, .int (nI j)), (2, .int (nI i)), (3, .int (nI s)), (4, .int (nI w0)), (5, .int k)] [.int (nI ((mergeL (tL (zH Z t)) (tL (zH Z u)) w0).length))]
                rw [hk, Bool.true_and] at hfit
                have hw5 := (kdB_le hk).2
                have hnew := hr1.new (j := s) (d := d) (T := bookT k.toNatClampNeg (mergeL (tL (zH Z t)) (tL (zH Z u)) w0)) fb hd0 hd1 (thC_book hw5 hbk9) hmb
                have ecs : (nI s).toNatClampNeg = s := nI_clamp (by omega)
                exact g_iret C dX10_merge_156 (by decide) (by decide) ⟨by unfold A_merge; rw [if_neg (fun z => z.elim (fun z => z.elim (nI_in10 hj) (nI_in10 hi)) (nI_in10 hs)), look_at hj hp, look_at hi hp2]; simp only []; rw [if_pos ⟨ha, hb⟩, ew, if_pos rfl, em, if_neg (by decide), ec, if_pos eT, if_pos hfit], ⟨c, _, by unfold N_merge newZ; rw [if_neg (fun z => z.elim (fun z => z.elim (nI_in10 hj) (nI_in10 hi)) (nI_in10 hs)), look_at hj hp, look_at hi hp2]; simp only []; rw [if_pos ⟨ha, hb⟩, ew, if_pos rfl, em, if_neg (by decide), ec, if_pos eT, if_pos hfit, ecs]; exact hnew⟩, f1.fk.trans fb.fk⟩
              · change Go X G _ 8 _ _ S1 153 [(7, .ref ((D u 0))), (6, .ref ((D t 0))), (0, .ref x), (1, .int (nI j)), (2, .int (nI i)), (3, .int (nI s)), (4, .int (nI w0)), (5, .int k)] [.null, .int (nI s), .ref x]
                refine g_callV (As := [.int (nI s), .null]) (rest := []) C dX10_merge_153 (c_C_shelve_no (S := S1) hr1.1) wC_X10_shelve wM_X10_110 wI_X10_shelve wS_X10_shelve wN_X10 (kne f1k) (pf_10 f1k) rfl hd_X10_shelve ⟨by decide, by decide, by decide, by decide⟩ (Nat.le_of_ble_eq_true rfl) (fun r_ S1 h_ => ?_)
                obtain ⟨rfl, rfl⟩ := h_
                change Go X G _ 8 _ _ S1 156 [(7, .ref ((D u 0))), (6, .ref ((D t 0))), (0, .ref x), (1, .int (nI j)), (2, .int (nI i)), (3, .int (nI s)), (4, .int (nI w0)), (5, .int k)] [.int (-5)]
                rw [hk, Bool.true_and] at hfit
                exact g_iret C dX10_merge_156 (by decide) (by decide) (⟨by unfold A_merge; rw [if_neg (fun z => z.elim (fun z => z.elim (nI_in10 hj) (nI_in10 hi)) (nI_in10 hs)), look_at hj hp, look_at hi hp2]; simp only []; rw [if_pos ⟨ha, hb⟩, ew, if_pos rfl, em, if_neg (by decide), ec, if_pos eT, hfit, if_neg (by decide)], ⟨c, D, by unfold N_merge; rw [if_neg (fun z => z.elim (fun z => z.elim (nI_in10 hj) (nI_in10 hi)) (nI_in10 hs)), look_at hj hp, look_at hi hp2]; simp only []; rw [if_pos ⟨ha, hb⟩, ew, if_pos rfl, em, if_neg (by decide), ec, if_pos eT, hfit, if_neg (by decide)]; exact hr1⟩, f1.fk⟩)
            · refine g_bipush (v := -7) C dX10_merge_135 (by decide) ?_
              have eF := of_decide_eq_false (bI_f c132)
              exact g_iret C dX10_merge_137 (by decide) (by decide) (⟨by unfold A_merge; rw [if_neg (fun z => z.elim (fun z => z.elim (nI_in10 hj) (nI_in10 hi)) (nI_in10 hs)), look_at hj hp, look_at hi hp2]; simp only []; rw [if_pos ⟨ha, hb⟩, ew, if_pos rfl, em, if_neg (by decide), ec, if_neg eF], ⟨c, D, by unfold N_merge; rw [if_neg (fun z => z.elim (fun z => z.elim (nI_in10 hj) (nI_in10 hi)) (nI_in10 hs)), look_at hj hp, look_at hi hp2]; simp only []; rw [if_pos ⟨ha, hb⟩, ew, if_pos rfl, em, if_neg (by decide), ec, if_neg eF]; exact hr1⟩, f1.fk⟩)
          · have em : (missT (zH Z t) || missT (zH Z u)) = true := by rw [bI_t c107, Bool.or_true]
            refine g_bipush (v := -6) C dX10_merge_110 (by decide) ?_
            exact g_iret C dX10_merge_112 (by decide) (by decide) (⟨by unfold A_merge; rw [if_neg (fun z => z.elim (fun z => z.elim (nI_in10 hj) (nI_in10 hi)) (nI_in10 hs)), look_at hj hp, look_at hi hp2]; simp only []; rw [if_pos ⟨ha, hb⟩, ew, if_pos rfl, em, if_pos rfl], ⟨c, D, by unfold N_merge; rw [if_neg (fun z => z.elim (fun z => z.elim (nI_in10 hj) (nI_in10 hi)) (nI_in10 hs)), look_at hj hp, look_at hi hp2]; simp only []; rw [if_pos ⟨ha, hb⟩, ew, if_pos rfl, em, if_pos rfl]; exact hr⟩, Fk.refl S⟩)
      · have ew : (inR (nI w0) 3 && kdB k) = false := by rw [bI_f c88, Bool.and_false]
        refine g_bipush (v := -5) C dX10_merge_91 (by decide) ?_
        exact g_iret C dX10_merge_93 (by decide) (by decide) (⟨by unfold A_merge; rw [if_neg (fun z => z.elim (fun z => z.elim (nI_in10 hj) (nI_in10 hi)) (nI_in10 hs)), look_at hj hp, look_at hi hp2]; simp only []; rw [if_pos ⟨ha, hb⟩, ew, if_neg (by decide)], ⟨c, D, by unfold N_merge; rw [if_neg (fun z => z.elim (fun z => z.elim (nI_in10 hj) (nI_in10 hi)) (nI_in10 hs)), look_at hj hp, look_at hi hp2]; simp only []; rw [if_pos ⟨ha, hb⟩, ew, if_neg (by decide)]; exact hr⟩, Fk.refl S⟩)
theorem c_C_merge {lX : Launch} {G : Gx} {S : PS} {x : Nat} {c : Nat → Nat} {D : Nat → Nat → Nat} {Z : ZT} (hr : RCD S Z x c D) (hZ : okZ Z) {p q r_ w k : Int32} : Ct lX yX10_merge cX10_merge 8 (Option.some Jvm.ClassFile.FieldType.int) rm_X10_merge G [.ref x, .int p, .int q, .int r_, .int w, .int k] S (fun r S' => r = some (.int (A_merge Z p q r_ w k)) ∧ RC S' (N_merge Z p q r_ w k) x ∧ Fk S S') := by
  rcases look_cases Z p with h | ⟨j, hj, rfl, h1⟩
  · exact c_C_merge_o1 hr hZ h
  · rcases look_cases Z q with h | ⟨i, hi, rfl, h2⟩
    · exact c_C_merge_o2 hr hZ hj h
    · rcases look_cases Z r_ with h | ⟨s, hs, rfl, -⟩
      · exact c_C_merge_o3 hr hZ hj hi h
      · rcases h1 with h1 | ⟨t, h1⟩
        · exact c_C_merge_n1 hr hZ hj hi hs h1
        · rcases h2 with h2 | ⟨u, h2⟩
          · exact c_C_merge_n2 hr hZ hj hi hs h1 h2
          · by_cases ha : tK (zH Z t) ≤ 5
            · by_cases hb : tK (zH Z u) ≤ 5
              · exact c_C_merge_ok hr hZ hj hi hs h1 h2 ha hb
              · exact c_C_merge_x10 hr hZ hj hi hs h1 h2 ha hb
            · by_cases hb : tK (zH Z u) ≤ 5
              · exact c_C_merge_x01 hr hZ hj hi hs h1 h2 ha hb
              · exact c_C_merge_x00 hr hZ hj hi hs h1 h2 ha hb
