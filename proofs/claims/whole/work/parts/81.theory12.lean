/-! every act leaves a shelf that is in order -/
theorem ok_tape {Z : ZT} (h : okZ Z) {tp : List Nat} (h1 : tp.length ≤ 1000) (h2 : ∀ i, i < tp.length → tp.getD i 0 ≤ 255) : okZ (zT_ Z tp) := ⟨⟨h1, h2⟩, h.2⟩
theorem ok_stat {Z : ZT} (h : okZ Z) (v : Int32) : okZ (zS_ Z v) := h
theorem ok_wit {Z : ZT} (h : okZ Z) {w : List Int32} (hw : w.length ≤ 75) : okZ (zW_ Z w) := ⟨h.1, h.2.1, h.2.2.1, hw⟩
theorem ok_setT {Z : ZT} (h : okZ Z) {t : Nat} {T : Th} (hT : okT T) : okZ (setT Z t T) := ⟨h.1, h.2.1, fun q hq => by
  show okT (if q = t then T else zH Z q)
  split
  · exact hT
  · exact h.2.2.1 q hq, h.2.2.2⟩
theorem ok_new {Z : ZT} (h : okZ Z) {p : Int32} {T : Th} (hT : okT T) : okZ (newZ Z p T) := by
  have hm := madeN_le (zP Z)
  refine ⟨h.1, fun q hq => ?_, fun t ⟨q, hq, e⟩ => ?_, h.2.2.2⟩
  · show setP (zP Z) p.toNatClampNeg (madeN (zP Z) + 1) q ≤ 11
    unfold setP
    split
    · omega
    · exact h.2.1 q hq
  · show okT (if t = madeN (zP Z) then T else zH Z t)
    split
    · exact hT
    · rename_i hne
      have e' : setP (zP Z) p.toNatClampNeg (madeN (zP Z) + 1) q = t + 1 := e
      unfold setP at e'
      split at e'
      · omega
      · exact h.2.2.1 t ⟨q, hq, e'⟩
theorem okL_nil : okL [] := ⟨Nat.zero_le _, fun k hk => absurd hk (Nat.not_lt_zero _), fun i j _ hj => absurd hj (Nat.not_lt_zero _)⟩
theorem okT_draft {l : List Ent} (hl : okL l) : okT (6, l, [], false, false) := ⟨show 1 ≤ 6 by decide, show 6 ≤ 7 by decide, hl, Nat.zero_le _, fun i hi => absurd hi (Nat.not_lt_zero _), fun e => absurd e (show ¬ 6 ≤ 5 by decide), fun e => absurd e (show ¬ 6 = 5 by decide), fun e => absurd e (show ¬ 6 = 1 by decide)⟩
theorem okT_row {n : Nat} (hn : n ≤ 4000) : okT (7, [], List.replicate n 0, false, false) := ⟨show 1 ≤ 7 by decide, show 7 ≤ 7 by decide, okL_nil, by show (List.replicate n 0).length ≤ 4802; rw [List.length_replicate]; omega, fun i _ => bit01_rep n 0 (by decide) i, fun e => absurd e (show ¬ 7 ≤ 5 by decide), fun e => absurd e (show ¬ 7 = 5 by decide), fun e => absurd e (show ¬ 7 = 1 by decide)⟩
theorem bitsT_ok {l : List Ent} (hl : okL l) (h0 : 0 < l.length) (pr : Bool) : (bitsT l pr).length ≤ 4802 ∧ bit01 (bitsT l pr) := by
  have h1 := tr_sum hl h0 pr
  have h2 := (tr_ok hl h0 pr).1
  rw [bitsT_run]
  refine ⟨?_, runB_01 _ _⟩
  rw [runB_len]; omega
theorem bitsS_ok {l : List Ent} (hl : okL l) : (bitsS l).length ≤ 4802 ∧ bit01 (bitsS l) := by
  have h2 := hbN_le hl.1
  have h3 : 2 ^ hbN l.length ≤ 2 ^ 7 := Nat.pow_le_pow_right (by decide) h2
  have h4 : (2 : Nat) ^ 7 = 128 := rfl
  have h5 := hl.1
  refine ⟨?_, by rw [← gP_end hl]; exact bit01_pad (gP_01 l _)⟩
  have h6 := spB_len l (2 ^ hbN l.length)
  have h7 : (bitsS l).length = 2 ^ hbN l.length + sumN (fun k => if hiPart l k < 2 ^ hbN l.length then 1 else 0) l.length := h6
  have h8 := (cnt_iff (fun k => hiPart l k < 2 ^ hbN l.length) l.length (fun i j a b h => Nat.lt_of_le_of_lt (hi_mono hl (by omega) b) h)).1
  omega
theorem bitsN_ok {l : List Ent} (hl : okL l) (h0 : 0 < l.length) {w : Nat} : (bitsN w l).length ≤ 4802 ∧ bit01 (bitsN w l) := by
  by_cases e1 : w = 1
  · unfold bitsN; rw [if_pos e1]; exact ⟨Nat.zero_le _, fun i => Nat.zero_le _⟩
  · by_cases e5 : w = 5
    · rw [e5, bitsN_5]; exact bitsS_ok hl
    · rw [bitsN_T l e1 e5 rfl]; exact bitsT_ok hl h0 _
theorem okT_book {l : List Ent} (hl : okL l) {w : Nat} (h1 : 1 ≤ w) (h5 : w ≤ 5) (hf : fitsN l w = true) : okT (bookT w l) := by
  have h0 := fitsN_pos hf
  have hb := bitsN_ok hl h0 (w := w)
  refine ⟨h1, show w ≤ 7 by omega, hl, hb.1, fun i _ => hb.2 i, fun _ => ⟨h0, rfl⟩, fun e => ?_, fun _ => ⟨rfl, rfl⟩⟩
  have e' : w = 5 := e
  unfold fitsN at hf
  rw [e', show decide ((5 : Nat) ≠ 5) = false by decide, Bool.false_or, Bool.and_eq_true] at hf
  exact all8_iff.mp hf.2
theorem okL_same {l l' : List Ent} (hl : okL l) (h1 : l'.length = l.length) (h2 : ∀ k, nm l' k = nm l k) : okL l' := ⟨by rw [h1]; exact hl.1, fun k hk => by rw [h2]; exact hl.2.1 k (by omega), fun i j a b => by rw [h2, h2]; exact hl.2.2 i j a (by omega)⟩
theorem nm_ent (l : List Ent) (k : Nat) : nm l k = (ent l k).1 := rfl
theorem okL_upd {l : List Ent} (hl : okL l) {k : Nat} (hk : k < l.length) (v : Int64) : okL (updE l k v) := by
  refine okL_same hl (by unfold updE; rw [List.length_set]) (fun q => ?_)
  rw [nm_ent, ent_upd hk, nm_ent]
  split
  · rename_i e; rw [e]
  · rfl
theorem okL_del {l : List Ent} (hl : okL l) {k : Nat} (hk : k < l.length) : okL (delL l k) := by
  have h1 := delL_len hk
  have hn : ∀ q, nm (delL l k) q = if q < k then nm l q else nm l (q + 1) := fun q => by
    rw [nm_ent, ent_del hk]
    split <;> rfl
  refine ⟨by rw [h1]; have := hl.1; omega, fun q hq => ?_, fun i j a b => ?_⟩
  · rw [h1] at hq
    rw [hn]
    split
    · exact hl.2.1 q (by omega)
    · exact hl.2.1 (q + 1) (by omega)
  · rw [h1] at b
    rw [hn, hn]
    split
    · split
      · exact hl.2.2 i j a (by omega)
      · exact hl.2.2 i (j + 1) (by omega) (by omega)
    · rw [if_neg (by omega)]
      exact hl.2.2 (i + 1) (j + 1) (by omega) (by omega)
theorem okT_list {T : Th} (h : okT T) (h6 : tK T = 6) {l : List Ent} (hl : okL l) : okT (setLs T l) := by
  have h6' : tK (setLs T l) = 6 := h6
  refine ⟨by rw [h6']; decide, by rw [h6']; decide, hl, h.2.2.2.1, h.2.2.2.2.1, fun e => by rw [h6'] at e; omega, fun e => by rw [h6'] at e; omega, fun e => by rw [h6'] at e; omega⟩
theorem inR_lt {i : Int32} {n : Nat} (h : inR i n = true) (hn : n < 2 ^ 31) : i.toNatClampNeg < n := by
  obtain ⟨j, hj, rfl⟩ := inR_spec h hn
  rw [nI_clamp (by omega)]; exact hj
theorem okZ_ask {Z : ZT} (h : okZ Z) (p : Int32) : okZ (askZ Z p) := by
  unfold askZ; split
  · exact h
  · exact h.ask
theorem okZ_fork {Z : ZT} (h : okZ Z) (p : Int32) : okZ (forkZ Z p) := by
  unfold forkZ; split
  · exact h
  · split
    · exact h.ask
    · exact h
theorem okZ_feed {Z : ZT} (h : okZ Z) (v : Int64) (n : Int32) : okZ (N_feed Z v n) := by
  unfold N_feed
  split
  · split
    · rename_i g
      refine ok_tape h (by rw [List.length_append, bytesL_len]; exact g) (fun i hi => ?_)
      rw [List.length_append, bytesL_len] at hi
      rw [getD_app]
      split
      · exact h.1.2 i (by assumption)
      · rw [bytesL_get _ (by omega)]; exact byteN_le _ _
    · exact h
  · exact h
theorem okZ_cut {Z : ZT} (h : okZ Z) (n : Int32) : okZ (N_cut Z n) := by
  unfold N_cut
  split
  · refine ok_tape h (by rw [List.length_take]; have := h.1.1; omega) (fun i hi => ?_)
    rw [List.length_take] at hi
    rw [getD_take (by omega)]
    exact h.1.2 i (by omega)
  · exact h
theorem okZ_forge {Z : ZT} (h : okZ Z) (i v : Int32) : okZ (N_forge Z i v) := by
  unfold N_forge
  split
  · exact ok_wit h (by rw [List.length_set]; exact h.2.2.2)
  · exact h
theorem okZ_name {Z : ZT} (h : okZ Z) (p k : Int32) : okZ (N_name Z p k) := by
  unfold N_name
  split
  · exact h
  · rename_i t he
    split
    · rename_i g
      rw [Bool.and_eq_true] at g
      obtain ⟨j, hj, -, hp, -⟩ := bookE_inr he
      have hok := (h.th hj hp).1.2.2.1
      have hk := inR_lt g.1 (by have := hok.1; omega)
      have hn := hok.2.1 _ hk
      exact ok_tape h (by have := hn.2.1; omega) (fun i hi => (hn.2.2 i hi).2)
    · exact h
theorem okZ_value {Z : ZT} (h : okZ Z) (p k : Int32) : okZ (N_value Z p k) := by
  unfold N_value
  split
  · exact h
  · split <;> exact h
theorem okZ_clear {Z : ZT} (h : okZ Z) (p : Int32) : okZ (N_clear Z p) := by
  unfold N_clear
  split
  · exact h
  · exact h.place (Or.inl rfl)
theorem okZ_share {Z : ZT} (h : okZ Z) (p q : Int32) : okZ (N_share Z p q) := by
  unfold N_share
  split
  · exact h
  · split
    · exact h
    · rename_i g _
      refine h.place (Or.inr ⟨p.toNatClampNeg, ?_, rfl⟩)
      rcases look_cases Z p with z | ⟨j, hj, e, -⟩
      · exact absurd (Or.inl z) g
      · rw [e, nI_clamp (by omega)]; exact hj
theorem okZ_flip {Z : ZT} (h : okZ Z) (p i : Int32) (one : Bool) : okZ (N_flip Z p i one) := by
  unfold N_flip
  split
  · exact h
  · rename_i t he
    split
    · rename_i h7
      split
      · rename_i g
        refine ok_setT h ?_
        have hu : usedP (zP Z) t := by
          unfold look at he
          split at he
          · cases he
          · split at he
            · cases he
            · rename_i g1 g2
              cases he
              rcases look_cases Z p with z | ⟨j, hj, e, -⟩
              · exact absurd z g1
              · rw [e, nI_clamp (by omega)] at g2 ⊢
                exact ⟨j, hj, by omega⟩
        have hok := h.2.2.1 t hu
        refine ⟨by show 1 ≤ tK (zH Z t); omega, by show tK (zH Z t) ≤ 7; omega, hok.2.2.1, by show ((tB (zH Z t)).set _ _).length ≤ 4802; rw [List.length_set]; exact hok.2.2.2.1, fun q hq => ?_, fun e => absurd (show tK (zH Z t) ≤ 5 from e) (by omega), fun e => absurd (show tK (zH Z t) = 5 from e) (by omega), fun e => absurd (show tK (zH Z t) = 1 from e) (by omega)⟩
        have hq' : q < ((tB (zH Z t)).set i.toNatClampNeg (if one then 1 else 0)).length := hq
        rw [List.length_set] at hq'
        show ((tB (zH Z t)).set i.toNatClampNeg (if one then 1 else 0)).getD q 0 ≤ 1
        rw [getD_set]
        split
        · split <;> decide
        · exact hok.2.2.2.2.1 q hq'
      · exact h
    · exact h
theorem okT_lost {T : Th} (hT : okT T) (hk : tK T ≠ 1) (i : Nat) (v : Bool) : okT (setL T i v) := ⟨hT.1, hT.2.1, hT.2.2.1, hT.2.2.2.1, hT.2.2.2.2.1, hT.2.2.2.2.2.1, hT.2.2.2.2.2.2.1, fun e => absurd e hk⟩
theorem okZ_lose {Z : ZT} (h : okZ Z) (p w : Int32) : okZ (N_lose Z p w) := by
  unfold N_lose
  split
  · exact h
  · rename_i t he
    split
    · obtain ⟨j, hj, -, hp, hk⟩ := rowedE_inr he
      exact ok_setT h (okT_lost (h.th hj hp).1 (fun e => hk (Or.inl e)) _ _)
    · exact h
theorem okZ_mend {Z : ZT} (h : okZ Z) (p : Int32) : okZ (N_mend Z p) := by
  unfold N_mend
  split
  · exact h
  · rename_i t he
    obtain ⟨j, hj, -, hp, hk⟩ := rowedE_inr he
    exact ok_setT h (okT_lost (okT_lost (h.th hj hp).1 (fun e => hk (Or.inl e)) _ _) (fun e => hk (Or.inl e)) _ _)
theorem okZ_draft {Z : ZT} (h : okZ Z) (p : Int32) : okZ (N_draft Z p) := by
  unfold N_draft
  split
  · exact h
  · exact ok_new h (okT_draft okL_nil)
theorem okZ_row {Z : ZT} (h : okZ Z) (p n : Int32) : okZ (N_row Z p n) := by
  unfold N_row
  split
  · exact h
  · split
    · rename_i g
      have := inR_lt g (by decide)
      exact ok_new h (okT_row (by omega))
    · exact h
theorem okZ_put {Z : ZT} (h : okZ Z) (p : Int32) (v : Int64) : okZ (N_put Z p v) := by
  unfold N_put
  split
  · exact h
  · rename_i t he
    obtain ⟨j, hj, -, hp, hk⟩ := draftE_inr he
    have hok := (h.th hj hp).1
    split
    · rename_i hn
      have hc := nameB_ok hn h.1.2
      split
      · rename_i g
        have hlt : aheadN (tL (zH Z t)) (zT Z) < (tL (zH Z t)).length := by
          unfold isAtN at g; rw [Bool.and_eq_true] at g; exact of_decide_eq_true g.1
        exact ok_setT h.ask (okT_list hok hk (okL_upd hok.2.2.1 hlt v))
      · rename_i g
        split
        · exact h.ask
        · exact ok_setT h.ask (okT_list hok hk (ok_ins hok.2.2.1 (by have := hok.2.2.1.1; omega) hc (Bool.eq_false_iff.mpr g)))
    · exact h.ask
theorem okZ_unput {Z : ZT} (h : okZ Z) (p : Int32) : okZ (N_unput Z p) := by
  unfold N_unput
  split
  · exact h
  · rename_i t he
    obtain ⟨j, hj, -, hp, hk⟩ := draftE_inr he
    have hok := (h.th hj hp).1
    split
    · split
      · rename_i g
        have hlt : aheadN (tL (zH Z t)) (zT Z) < (tL (zH Z t)).length := by
          unfold isAtN at g; rw [Bool.and_eq_true] at g; exact of_decide_eq_true g.1
        exact ok_setT h.ask (okT_list hok hk (okL_del hok.2.2.1 hlt))
      · exact h.ask
    · exact h.ask
theorem okZ_unseal {Z : ZT} (h : okZ Z) (p q : Int32) : okZ (N_unseal Z p q) := by
  unfold N_unseal
  split
  · exact h
  · split
    · exact h
    · rename_i t he
      obtain ⟨j, hj, -, hp, hk⟩ := bookE_inr he
      split
      · exact h
      · exact ok_new h (okT_draft (h.th hj hp).1.2.2.1)
theorem okZ_seal {Z : ZT} (h : okZ Z) (p q w : Int32) : okZ (N_seal Z p q w) := by
  unfold N_seal
  split
  · exact h
  · split
    · exact h
    · rename_i t he
      obtain ⟨j, hj, -, hp, hk⟩ := draftE_inr he
      split
      · rename_i g
        rw [Bool.and_eq_true] at g
        exact ok_new h (okT_book (h.th hj hp).1.2.2.1 (kdB_le g.1).1 (kdB_le g.1).2 g.2)
      · exact h
theorem okZ_witness {Z : ZT} (h : okZ Z) (p : Int32) : okZ (N_witness Z p) := by
  unfold N_witness
  split
  · exact okZ_fork h p
  · rename_i t he
    obtain ⟨j, hj, -, hp, -, -, hc, -⟩ := forkE_inr h he
    exact ok_wit h.ask (dnD_len hc.2.1)
theorem okZ_image {Z : ZT} (h : okZ Z) (p : Int32) : okZ (N_image Z p) := by
  unfold N_image
  split
  · exact h
  · rename_i t he
    obtain ⟨j, hj, -, hp, hk⟩ := bookE_inr he
    split
    · exact h
    · split
      · rename_i g
        exact ok_tape h g (img_le (h.th hj hp).1.2.2.1 hk)
      · exact h
theorem used_look {Z : ZT} {p : Int32} {t : Nat} (he : look Z p = .inr t) : usedP (zP Z) t := by
  unfold look at he
  split at he
  · cases he
  · split at he
    · cases he
    · rename_i g1 g2
      cases he
      rcases look_cases Z p with z | ⟨j, hj, e, -⟩
      · exact absurd z g1
      · rw [e, nI_clamp (by omega)] at g2 ⊢
        exact ⟨j, hj, by omega⟩
theorem okZ_merge {Z : ZT} (h : okZ Z) (p q r w k : Int32) : okZ (N_merge Z p q r w k) := by
  unfold N_merge
  split
  · exact h
  · split
    · rename_i a b ha hb
      have oa := (h.2.2.1 a (used_look ha)).2.2.1
      have ob := (h.2.2.1 b (used_look hb)).2.2.1
      split
      · split
        · rename_i g
          rw [Bool.and_eq_true] at g
          split
          · exact h
          · split
            · rename_i g2
              split
              · rename_i g3
                exact ok_new h (okT_book (merge_ok oa ob g2) (kdB_le g.2).1 (kdB_le g.2).2 g3)
              · exact h
            · exact h
        · exact h
      · exact h
    · exact h
theorem okZ_load {Z : ZT} (h : okZ Z) (p : Int32) : okZ (N_load Z p) := by
  unfold N_load
  split
  · exact h
  · split
    · exact h.ask
    · rename_i l he
      obtain ⟨⟨_, h1, h5⟩, hf, ho, -⟩ := parse_some he h.1.2 h.1.1
      exact ok_new h.ask (okT_book ho h1 h5 hf)
theorem okZ_0 : okZ Z0 := ⟨⟨Nat.zero_le _, fun i hi => absurd hi (Nat.not_lt_zero _)⟩, fun _ _ => Nat.zero_le _, fun t ⟨p, _, e⟩ => absurd e (show ¬ (0 : Nat) = t + 1 by omega), Nat.zero_le _⟩
