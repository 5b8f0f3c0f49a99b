/-- all that a cell holds, kind by kind -/
abbrev CelT : Type := (Nat) × (Nat) × (Int32) × (Option Nat) × (Int32) × (Option Nat) × (Option Nat) × (Int32) × (Int32) × (Option Nat) × (Int32) × (Option Nat) × (Option Nat) × (Option Nat) × (Int32) × (Option Nat) × (Int32) × (Option Nat) × (Option Nat) × (Option Nat) × (Int32) × (Int32) × (Int32) × (Option Nat) × (Int32) × (Nat → Int32) × (Nat → Int32) × (Nat → Int32) × (Nat → Int32) × (Nat → Int32) × (Nat → Int64) × (Nat → Int64) × (Nat → Option Nat)
def cel (S : PS) (a : Nat) : CelT := (kd S a, ln S a, br_kind S a, br_row S a, bk_kind S a, bk_list S a, bk_row S a, bk_edges S a, bk_part S a, bk_eb S a, dr_kind S a, dr_list S a, ls_names S a, ls_values S a, ls_size S a, nm_bytes S a, rw_bits S a, rw_words S a, rw_ta S a, rw_tb S a, rw_la S a, rw_lb S a, rw_ones S a, wi_numbers S a, wi_size S a, nb_a S a, ta_a S a, tb_a S a, eb_a S a, wn_a S a, wd_a S a, vl_a S a, nr_a S a)
theorem ce_kd {S S' : PS} {a : Nat} (h : cel S' a = cel S a) : kd S' a = kd S a := congrArg (fun c : CelT => c.1) h
theorem ce_ln {S S' : PS} {a : Nat} (h : cel S' a = cel S a) : ln S' a = ln S a := congrArg (fun c : CelT => c.2.1) h
theorem ce_br_kind {S S' : PS} {a : Nat} (h : cel S' a = cel S a) : br_kind S' a = br_kind S a := congrArg (fun c : CelT => c.2.2.1) h
theorem ce_br_row {S S' : PS} {a : Nat} (h : cel S' a = cel S a) : br_row S' a = br_row S a := congrArg (fun c : CelT => c.2.2.2.1) h
theorem ce_bk_kind {S S' : PS} {a : Nat} (h : cel S' a = cel S a) : bk_kind S' a = bk_kind S a := congrArg (fun c : CelT => c.2.2.2.2.1) h
theorem ce_bk_list {S S' : PS} {a : Nat} (h : cel S' a = cel S a) : bk_list S' a = bk_list S a := congrArg (fun c : CelT => c.2.2.2.2.2.1) h
theorem ce_bk_row {S S' : PS} {a : Nat} (h : cel S' a = cel S a) : bk_row S' a = bk_row S a := congrArg (fun c : CelT => c.2.2.2.2.2.2.1) h
theorem ce_bk_edges {S S' : PS} {a : Nat} (h : cel S' a = cel S a) : bk_edges S' a = bk_edges S a := congrArg (fun c : CelT => c.2.2.2.2.2.2.2.1) h
theorem ce_bk_part {S S' : PS} {a : Nat} (h : cel S' a = cel S a) : bk_part S' a = bk_part S a := congrArg (fun c : CelT => c.2.2.2.2.2.2.2.2.1) h
theorem ce_bk_eb {S S' : PS} {a : Nat} (h : cel S' a = cel S a) : bk_eb S' a = bk_eb S a := congrArg (fun c : CelT => c.2.2.2.2.2.2.2.2.2.1) h
theorem ce_dr_kind {S S' : PS} {a : Nat} (h : cel S' a = cel S a) : dr_kind S' a = dr_kind S a := congrArg (fun c : CelT => c.2.2.2.2.2.2.2.2.2.2.1) h
theorem ce_dr_list {S S' : PS} {a : Nat} (h : cel S' a = cel S a) : dr_list S' a = dr_list S a := congrArg (fun c : CelT => c.2.2.2.2.2.2.2.2.2.2.2.1) h
theorem ce_ls_names {S S' : PS} {a : Nat} (h : cel S' a = cel S a) : ls_names S' a = ls_names S a := congrArg (fun c : CelT => c.2.2.2.2.2.2.2.2.2.2.2.2.1) h
theorem ce_ls_values {S S' : PS} {a : Nat} (h : cel S' a = cel S a) : ls_values S' a = ls_values S a := congrArg (fun c : CelT => c.2.2.2.2.2.2.2.2.2.2.2.2.2.1) h
theorem ce_ls_size {S S' : PS} {a : Nat} (h : cel S' a = cel S a) : ls_size S' a = ls_size S a := congrArg (fun c : CelT => c.2.2.2.2.2.2.2.2.2.2.2.2.2.2.1) h
theorem ce_nm_bytes {S S' : PS} {a : Nat} (h : cel S' a = cel S a) : nm_bytes S' a = nm_bytes S a := congrArg (fun c : CelT => c.2.2.2.2.2.2.2.2.2.2.2.2.2.2.2.1) h
theorem ce_rw_bits {S S' : PS} {a : Nat} (h : cel S' a = cel S a) : rw_bits S' a = rw_bits S a := congrArg (fun c : CelT => c.2.2.2.2.2.2.2.2.2.2.2.2.2.2.2.2.1) h
theorem ce_rw_words {S S' : PS} {a : Nat} (h : cel S' a = cel S a) : rw_words S' a = rw_words S a := congrArg (fun c : CelT => c.2.2.2.2.2.2.2.2.2.2.2.2.2.2.2.2.2.1) h
theorem ce_rw_ta {S S' : PS} {a : Nat} (h : cel S' a = cel S a) : rw_ta S' a = rw_ta S a := congrArg (fun c : CelT => c.2.2.2.2.2.2.2.2.2.2.2.2.2.2.2.2.2.2.1) h
theorem ce_rw_tb {S S' : PS} {a : Nat} (h : cel S' a = cel S a) : rw_tb S' a = rw_tb S a := congrArg (fun c : CelT => c.2.2.2.2.2.2.2.2.2.2.2.2.2.2.2.2.2.2.2.1) h
theorem ce_rw_la {S S' : PS} {a : Nat} (h : cel S' a = cel S a) : rw_la S' a = rw_la S a := congrArg (fun c : CelT => c.2.2.2.2.2.2.2.2.2.2.2.2.2.2.2.2.2.2.2.2.1) h
theorem ce_rw_lb {S S' : PS} {a : Nat} (h : cel S' a = cel S a) : rw_lb S' a = rw_lb S a := congrArg (fun c : CelT => c.2.2.2.2.2.2.2.2.2.2.2.2.2.2.2.2.2.2.2.2.2.1) h
theorem ce_rw_ones {S S' : PS} {a : Nat} (h : cel S' a = cel S a) : rw_ones S' a = rw_ones S a := congrArg (fun c : CelT => c.2.2.2.2.2.2.2.2.2.2.2.2.2.2.2.2.2.2.2.2.2.2.1) h
theorem ce_wi_numbers {S S' : PS} {a : Nat} (h : cel S' a = cel S a) : wi_numbers S' a = wi_numbers S a := congrArg (fun c : CelT => c.2.2.2.2.2.2.2.2.2.2.2.2.2.2.2.2.2.2.2.2.2.2.2.1) h
theorem ce_wi_size {S S' : PS} {a : Nat} (h : cel S' a = cel S a) : wi_size S' a = wi_size S a := congrArg (fun c : CelT => c.2.2.2.2.2.2.2.2.2.2.2.2.2.2.2.2.2.2.2.2.2.2.2.2.1) h
theorem ce_nb_a {S S' : PS} {a : Nat} (h : cel S' a = cel S a) : nb_a S' a = nb_a S a := congrArg (fun c : CelT => c.2.2.2.2.2.2.2.2.2.2.2.2.2.2.2.2.2.2.2.2.2.2.2.2.2.1) h
theorem ce_ta_a {S S' : PS} {a : Nat} (h : cel S' a = cel S a) : ta_a S' a = ta_a S a := congrArg (fun c : CelT => c.2.2.2.2.2.2.2.2.2.2.2.2.2.2.2.2.2.2.2.2.2.2.2.2.2.2.1) h
theorem ce_tb_a {S S' : PS} {a : Nat} (h : cel S' a = cel S a) : tb_a S' a = tb_a S a := congrArg (fun c : CelT => c.2.2.2.2.2.2.2.2.2.2.2.2.2.2.2.2.2.2.2.2.2.2.2.2.2.2.2.1) h
theorem ce_eb_a {S S' : PS} {a : Nat} (h : cel S' a = cel S a) : eb_a S' a = eb_a S a := congrArg (fun c : CelT => c.2.2.2.2.2.2.2.2.2.2.2.2.2.2.2.2.2.2.2.2.2.2.2.2.2.2.2.2.1) h
theorem ce_wn_a {S S' : PS} {a : Nat} (h : cel S' a = cel S a) : wn_a S' a = wn_a S a := congrArg (fun c : CelT => c.2.2.2.2.2.2.2.2.2.2.2.2.2.2.2.2.2.2.2.2.2.2.2.2.2.2.2.2.2.1) h
theorem ce_wd_a {S S' : PS} {a : Nat} (h : cel S' a = cel S a) : wd_a S' a = wd_a S a := congrArg (fun c : CelT => c.2.2.2.2.2.2.2.2.2.2.2.2.2.2.2.2.2.2.2.2.2.2.2.2.2.2.2.2.2.2.1) h
theorem ce_vl_a {S S' : PS} {a : Nat} (h : cel S' a = cel S a) : vl_a S' a = vl_a S a := congrArg (fun c : CelT => c.2.2.2.2.2.2.2.2.2.2.2.2.2.2.2.2.2.2.2.2.2.2.2.2.2.2.2.2.2.2.2.1) h
theorem ce_nr_a {S S' : PS} {a : Nat} (h : cel S' a = cel S a) : nr_a S' a = nr_a S a := congrArg (fun c : CelT => c.2.2.2.2.2.2.2.2.2.2.2.2.2.2.2.2.2.2.2.2.2.2.2.2.2.2.2.2.2.2.2.2) h
/-- what is never changed behind a constructor -/
abbrev FxT : Type := (Option Nat) × (Option Nat) × (Option Nat) × (Option Nat) × (Option Nat) × (Option Nat) × (Option Nat) × (Option Nat) × (Option Nat) × (Option Nat) × (Option Nat) × (Option Nat) × (MoT)
def fx (S : PS) : FxT := (ba_places S, ba_reel S, ba_shown S, ba_asked S, ba_binder S, ba_pending S, tp_bytes S, bi_alike S, bi_first S, bi_depth S, bi_stem S, bi_degree S, mo S)
theorem fe_ba_places {S S' : PS} (h : fx S' = fx S) : ba_places S' = ba_places S := congrArg (fun c : FxT => c.1) h
theorem fe_ba_reel {S S' : PS} (h : fx S' = fx S) : ba_reel S' = ba_reel S := congrArg (fun c : FxT => c.2.1) h
theorem fe_ba_shown {S S' : PS} (h : fx S' = fx S) : ba_shown S' = ba_shown S := congrArg (fun c : FxT => c.2.2.1) h
theorem fe_ba_asked {S S' : PS} (h : fx S' = fx S) : ba_asked S' = ba_asked S := congrArg (fun c : FxT => c.2.2.2.1) h
theorem fe_ba_binder {S S' : PS} (h : fx S' = fx S) : ba_binder S' = ba_binder S := congrArg (fun c : FxT => c.2.2.2.2.1) h
theorem fe_ba_pending {S S' : PS} (h : fx S' = fx S) : ba_pending S' = ba_pending S := congrArg (fun c : FxT => c.2.2.2.2.2.1) h
theorem fe_tp_bytes {S S' : PS} (h : fx S' = fx S) : tp_bytes S' = tp_bytes S := congrArg (fun c : FxT => c.2.2.2.2.2.2.1) h
theorem fe_bi_alike {S S' : PS} (h : fx S' = fx S) : bi_alike S' = bi_alike S := congrArg (fun c : FxT => c.2.2.2.2.2.2.2.1) h
theorem fe_bi_first {S S' : PS} (h : fx S' = fx S) : bi_first S' = bi_first S := congrArg (fun c : FxT => c.2.2.2.2.2.2.2.2.1) h
theorem fe_bi_depth {S S' : PS} (h : fx S' = fx S) : bi_depth S' = bi_depth S := congrArg (fun c : FxT => c.2.2.2.2.2.2.2.2.2.1) h
theorem fe_bi_stem {S S' : PS} (h : fx S' = fx S) : bi_stem S' = bi_stem S := congrArg (fun c : FxT => c.2.2.2.2.2.2.2.2.2.2.1) h
theorem fe_bi_degree {S S' : PS} (h : fx S' = fx S) : bi_degree S' = bi_degree S := congrArg (fun c : FxT => c.2.2.2.2.2.2.2.2.2.2.2.1) h
theorem fe_mo {S S' : PS} (h : fx S' = fx S) : mo S' = mo S := congrArg (fun c : FxT => c.2.2.2.2.2.2.2.2.2.2.2.2) h
def mu (S : PS) : Int32 × Int32 × (Nat → Option Nat) × (Nat → Int32) := (ba_refusal S, tp_used S, pl_a S, tp_a S)
/-- from S to S': nothing that was there has changed but at A, and never a name -/
def Fr (S S' : PS) (A : Nat → Prop) : Prop := (∀ a, kd S a ≠ 0 → kd S' a = kd S a ∧ ln S' a = ln S a) ∧ (∀ a, kd S a ≠ 0 → (¬ A a ∨ kd S a = 6 ∨ kd S a = 12) → cel S' a = cel S a) ∧ fx S' = fx S
abbrev No : Nat → Prop := fun _ => False
theorem Fr.refl (S : PS) (A : Nat → Prop) : Fr S S A := ⟨fun _ _ => ⟨rfl, rfl⟩, fun _ _ _ => rfl, rfl⟩
theorem Fr.kd_ {S S' : PS} {A : Nat → Prop} (h : Fr S S' A) {a k : Nat} (ha : kd S a = k) (hk : k ≠ 0 := by decide) : kd S' a = k := ((h.1 a (by rw [ha]; exact hk)).1).trans ha
theorem Fr.ln_ {S S' : PS} {A : Nat → Prop} (h : Fr S S' A) {a k n : Nat} (h0 : kd S a = k) (ha : ln S a = n) (hk : k ≠ 0 := by decide) : ln S' a = n := ((h.1 a (by rw [h0]; exact hk)).2).trans ha
theorem Fr.trans {S S1 S2 : PS} {A B : Nat → Prop} (h1 : Fr S S1 A) (h2 : Fr S1 S2 B) (hB : ∀ a, kd S a ≠ 0 → B a → A a) : Fr S S2 A := by
  refine ⟨fun a ha => ?_, fun a ha hn => ?_, h2.2.2.trans h1.2.2⟩
  · have e1 := h1.1 a ha
    have e2 := h2.1 a (by rw [e1.1]; exact ha)
    exact ⟨e2.1.trans e1.1, e2.2.trans e1.2⟩
  · have e1 := h1.1 a ha
    refine (h2.2.1 a (by rw [e1.1]; exact ha) ?_).trans (h1.2.1 a ha hn)
    rw [e1.1]
    rcases hn with hn | hn
    · exact Or.inl (fun hb => hn (hB a ha hb))
    · exact Or.inr hn
theorem Fr.mono {S S1 : PS} {A B : Nat → Prop} (h1 : Fr S S1 A) (hB : ∀ a, kd S a ≠ 0 → A a → B a) : Fr S S1 B := (Fr.refl S B).trans h1 hB
theorem Fr.new {S S1 : PS} {A : Nat → Prop} (h1 : Fr S S1 A) {q : Nat} (h : kd S1 q = 0) : kd S q = 0 := Classical.byContradiction fun z => z (((h1.1 q z).1).symm.trans h)
/-- an address that may be changed since S -/
def Fb (S : PS) (A : Nat → Prop) (b : Nat) : Prop := kd S b = 0 ∨ (A b ∧ kd S b ≠ 6 ∧ kd S b ≠ 12)
theorem Fb.ne {S : PS} {A : Nat → Prop} {b a : Nat} (h : Fb S A b) (ha : kd S a ≠ 0) (hn : ¬ A a ∨ kd S a = 6 ∨ kd S a = 12) : a ≠ b := by
  rintro rfl
  rcases h with h | ⟨h1, h2, h3⟩
  · exact ha h
  · rcases hn with hn | hn | hn
    · exact hn h1
    · exact h2 hn
    · exact h3 hn
theorem nq {S : PS} {q a : Nat} (hq : kd S q = 0) (ha : kd S a ≠ 0) : a ≠ q := fun e => ha (by rw [e]; exact hq)
theorem va_up_up {α : Type} (f : Nat → α) (k : Nat) (v w : α) : va_up (va_up f k v) k w = va_up f k w := by
  funext j
  unfold va_up
  split <;> rfl
theorem cu_br_kind {S : PS} {b a : Nat} {v : Int32} (h : a ≠ b) : cel (br_kind_ S (va_up (br_kind S) b v)) a = cel S a := by
  show (kd S a, ln S a, va_up (br_kind S) b v a, br_row S a, bk_kind S a, bk_list S a, bk_row S a, bk_edges S a, bk_part S a, bk_eb S a, dr_kind S a, dr_list S a, ls_names S a, ls_values S a, ls_size S a, nm_bytes S a, rw_bits S a, rw_words S a, rw_ta S a, rw_tb S a, rw_la S a, rw_lb S a, rw_ones S a, wi_numbers S a, wi_size S a, nb_a S a, ta_a S a, tb_a S a, eb_a S a, wn_a S a, wd_a S a, vl_a S a, nr_a S a) = _
  rw [va_up_ne _ _ h]; rfl
theorem Fr.u_br_kind {S0 S : PS} {A : Nat → Prop} {b : Nat} {v : Int32} (h : Fr S0 S A) (hb : Fb S0 A b) : Fr S0 (br_kind_ S (va_up (br_kind S) b v)) A := ⟨h.1, fun a ha hn => (cu_br_kind (hb.ne ha hn)).trans (h.2.1 a ha hn), h.2.2⟩
theorem cu_br_row {S : PS} {b a : Nat} {v : Option Nat} (h : a ≠ b) : cel (br_row_ S (va_up (br_row S) b v)) a = cel S a := by
  show (kd S a, ln S a, br_kind S a, va_up (br_row S) b v a, bk_kind S a, bk_list S a, bk_row S a, bk_edges S a, bk_part S a, bk_eb S a, dr_kind S a, dr_list S a, ls_names S a, ls_values S a, ls_size S a, nm_bytes S a, rw_bits S a, rw_words S a, rw_ta S a, rw_tb S a, rw_la S a, rw_lb S a, rw_ones S a, wi_numbers S a, wi_size S a, nb_a S a, ta_a S a, tb_a S a, eb_a S a, wn_a S a, wd_a S a, vl_a S a, nr_a S a) = _
  rw [va_up_ne _ _ h]; rfl
theorem Fr.u_br_row {S0 S : PS} {A : Nat → Prop} {b : Nat} {v : Option Nat} (h : Fr S0 S A) (hb : Fb S0 A b) : Fr S0 (br_row_ S (va_up (br_row S) b v)) A := ⟨h.1, fun a ha hn => (cu_br_row (hb.ne ha hn)).trans (h.2.1 a ha hn), h.2.2⟩
theorem cu_bk_kind {S : PS} {b a : Nat} {v : Int32} (h : a ≠ b) : cel (bk_kind_ S (va_up (bk_kind S) b v)) a = cel S a := by
  show (kd S a, ln S a, br_kind S a, br_row S a, va_up (bk_kind S) b v a, bk_list S a, bk_row S a, bk_edges S a, bk_part S a, bk_eb S a, dr_kind S a, dr_list S a, ls_names S a, ls_values S a, ls_size S a, nm_bytes S a, rw_bits S a, rw_words S a, rw_ta S a, rw_tb S a, rw_la S a, rw_lb S a, rw_ones S a, wi_numbers S a, wi_size S a, nb_a S a, ta_a S a, tb_a S a, eb_a S a, wn_a S a, wd_a S a, vl_a S a, nr_a S a) = _
  rw [va_up_ne _ _ h]; rfl
theorem Fr.u_bk_kind {S0 S : PS} {A : Nat → Prop} {b : Nat} {v : Int32} (h : Fr S0 S A) (hb : Fb S0 A b) : Fr S0 (bk_kind_ S (va_up (bk_kind S) b v)) A := ⟨h.1, fun a ha hn => (cu_bk_kind (hb.ne ha hn)).trans (h.2.1 a ha hn), h.2.2⟩
theorem cu_bk_list {S : PS} {b a : Nat} {v : Option Nat} (h : a ≠ b) : cel (bk_list_ S (va_up (bk_list S) b v)) a = cel S a := by
  show (kd S a, ln S a, br_kind S a, br_row S a, bk_kind S a, va_up (bk_list S) b v a, bk_row S a, bk_edges S a, bk_part S a, bk_eb S a, dr_kind S a, dr_list S a, ls_names S a, ls_values S a, ls_size S a, nm_bytes S a, rw_bits S a, rw_words S a, rw_ta S a, rw_tb S a, rw_la S a, rw_lb S a, rw_ones S a, wi_numbers S a, wi_size S a, nb_a S a, ta_a S a, tb_a S a, eb_a S a, wn_a S a, wd_a S a, vl_a S a, nr_a S a) = _
  rw [va_up_ne _ _ h]; rfl
theorem Fr.u_bk_list {S0 S : PS} {A : Nat → Prop} {b : Nat} {v : Option Nat} (h : Fr S0 S A) (hb : Fb S0 A b) : Fr S0 (bk_list_ S (va_up (bk_list S) b v)) A := ⟨h.1, fun a ha hn => (cu_bk_list (hb.ne ha hn)).trans (h.2.1 a ha hn), h.2.2⟩
theorem cu_bk_row {S : PS} {b a : Nat} {v : Option Nat} (h : a ≠ b) : cel (bk_row_ S (va_up (bk_row S) b v)) a = cel S a := by
  show (kd S a, ln S a, br_kind S a, br_row S a, bk_kind S a, bk_list S a, va_up (bk_row S) b v a, bk_edges S a, bk_part S a, bk_eb S a, dr_kind S a, dr_list S a, ls_names S a, ls_values S a, ls_size S a, nm_bytes S a, rw_bits S a, rw_words S a, rw_ta S a, rw_tb S a, rw_la S a, rw_lb S a, rw_ones S a, wi_numbers S a, wi_size S a, nb_a S a, ta_a S a, tb_a S a, eb_a S a, wn_a S a, wd_a S a, vl_a S a, nr_a S a) = _
  rw [va_up_ne _ _ h]; rfl
theorem Fr.u_bk_row {S0 S : PS} {A : Nat → Prop} {b : Nat} {v : Option Nat} (h : Fr S0 S A) (hb : Fb S0 A b) : Fr S0 (bk_row_ S (va_up (bk_row S) b v)) A := ⟨h.1, fun a ha hn => (cu_bk_row (hb.ne ha hn)).trans (h.2.1 a ha hn), h.2.2⟩
theorem cu_bk_edges {S : PS} {b a : Nat} {v : Int32} (h : a ≠ b) : cel (bk_edges_ S (va_up (bk_edges S) b v)) a = cel S a := by
  show (kd S a, ln S a, br_kind S a, br_row S a, bk_kind S a, bk_list S a, bk_row S a, va_up (bk_edges S) b v a, bk_part S a, bk_eb S a, dr_kind S a, dr_list S a, ls_names S a, ls_values S a, ls_size S a, nm_bytes S a, rw_bits S a, rw_words S a, rw_ta S a, rw_tb S a, rw_la S a, rw_lb S a, rw_ones S a, wi_numbers S a, wi_size S a, nb_a S a, ta_a S a, tb_a S a, eb_a S a, wn_a S a, wd_a S a, vl_a S a, nr_a S a) = _
  rw [va_up_ne _ _ h]; rfl
theorem Fr.u_bk_edges {S0 S : PS} {A : Nat → Prop} {b : Nat} {v : Int32} (h : Fr S0 S A) (hb : Fb S0 A b) : Fr S0 (bk_edges_ S (va_up (bk_edges S) b v)) A := ⟨h.1, fun a ha hn => (cu_bk_edges (hb.ne ha hn)).trans (h.2.1 a ha hn), h.2.2⟩
theorem cu_bk_part {S : PS} {b a : Nat} {v : Int32} (h : a ≠ b) : cel (bk_part_ S (va_up (bk_part S) b v)) a = cel S a := by
  show (kd S a, ln S a, br_kind S a, br_row S a, bk_kind S a, bk_list S a, bk_row S a, bk_edges S a, va_up (bk_part S) b v a, bk_eb S a, dr_kind S a, dr_list S a, ls_names S a, ls_values S a, ls_size S a, nm_bytes S a, rw_bits S a, rw_words S a, rw_ta S a, rw_tb S a, rw_la S a, rw_lb S a, rw_ones S a, wi_numbers S a, wi_size S a, nb_a S a, ta_a S a, tb_a S a, eb_a S a, wn_a S a, wd_a S a, vl_a S a, nr_a S a) = _
  rw [va_up_ne _ _ h]; rfl
theorem Fr.u_bk_part {S0 S : PS} {A : Nat → Prop} {b : Nat} {v : Int32} (h : Fr S0 S A) (hb : Fb S0 A b) : Fr S0 (bk_part_ S (va_up (bk_part S) b v)) A := ⟨h.1, fun a ha hn => (cu_bk_part (hb.ne ha hn)).trans (h.2.1 a ha hn), h.2.2⟩
theorem cu_bk_eb {S : PS} {b a : Nat} {v : Option Nat} (h : a ≠ b) : cel (bk_eb_ S (va_up (bk_eb S) b v)) a = cel S a := by
  show (kd S a, ln S a, br_kind S a, br_row S a, bk_kind S a, bk_list S a, bk_row S a, bk_edges S a, bk_part S a, va_up (bk_eb S) b v a, dr_kind S a, dr_list S a, ls_names S a, ls_values S a, ls_size S a, nm_bytes S a, rw_bits S a, rw_words S a, rw_ta S a, rw_tb S a, rw_la S a, rw_lb S a, rw_ones S a, wi_numbers S a, wi_size S a, nb_a S a, ta_a S a, tb_a S a, eb_a S a, wn_a S a, wd_a S a, vl_a S a, nr_a S a) = _
  rw [va_up_ne _ _ h]; rfl
theorem Fr.u_bk_eb {S0 S : PS} {A : Nat → Prop} {b : Nat} {v : Option Nat} (h : Fr S0 S A) (hb : Fb S0 A b) : Fr S0 (bk_eb_ S (va_up (bk_eb S) b v)) A := ⟨h.1, fun a ha hn => (cu_bk_eb (hb.ne ha hn)).trans (h.2.1 a ha hn), h.2.2⟩
theorem cu_dr_kind {S : PS} {b a : Nat} {v : Int32} (h : a ≠ b) : cel (dr_kind_ S (va_up (dr_kind S) b v)) a = cel S a := by
  show (kd S a, ln S a, br_kind S a, br_row S a, bk_kind S a, bk_list S a, bk_row S a, bk_edges S a, bk_part S a, bk_eb S a, va_up (dr_kind S) b v a, dr_list S a, ls_names S a, ls_values S a, ls_size S a, nm_bytes S a, rw_bits S a, rw_words S a, rw_ta S a, rw_tb S a, rw_la S a, rw_lb S a, rw_ones S a, wi_numbers S a, wi_size S a, nb_a S a, ta_a S a, tb_a S a, eb_a S a, wn_a S a, wd_a S a, vl_a S a, nr_a S a) = _
  rw [va_up_ne _ _ h]; rfl
theorem Fr.u_dr_kind {S0 S : PS} {A : Nat → Prop} {b : Nat} {v : Int32} (h : Fr S0 S A) (hb : Fb S0 A b) : Fr S0 (dr_kind_ S (va_up (dr_kind S) b v)) A := ⟨h.1, fun a ha hn => (cu_dr_kind (hb.ne ha hn)).trans (h.2.1 a ha hn), h.2.2⟩
theorem cu_dr_list {S : PS} {b a : Nat} {v : Option Nat} (h : a ≠ b) : cel (dr_list_ S (va_up (dr_list S) b v)) a = cel S a := by
  show (kd S a, ln S a, br_kind S a, br_row S a, bk_kind S a, bk_list S a, bk_row S a, bk_edges S a, bk_part S a, bk_eb S a, dr_kind S a, va_up (dr_list S) b v a, ls_names S a, ls_values S a, ls_size S a, nm_bytes S a, rw_bits S a, rw_words S a, rw_ta S a, rw_tb S a, rw_la S a, rw_lb S a, rw_ones S a, wi_numbers S a, wi_size S a, nb_a S a, ta_a S a, tb_a S a, eb_a S a, wn_a S a, wd_a S a, vl_a S a, nr_a S a) = _
  rw [va_up_ne _ _ h]; rfl
theorem Fr.u_dr_list {S0 S : PS} {A : Nat → Prop} {b : Nat} {v : Option Nat} (h : Fr S0 S A) (hb : Fb S0 A b) : Fr S0 (dr_list_ S (va_up (dr_list S) b v)) A := ⟨h.1, fun a ha hn => (cu_dr_list (hb.ne ha hn)).trans (h.2.1 a ha hn), h.2.2⟩
theorem cu_ls_names {S : PS} {b a : Nat} {v : Option Nat} (h : a ≠ b) : cel (ls_names_ S (va_up (ls_names S) b v)) a = cel S a := by
  show (kd S a, ln S a, br_kind S a, br_row S a, bk_kind S a, bk_list S a, bk_row S a, bk_edges S a, bk_part S a, bk_eb S a, dr_kind S a, dr_list S a, va_up (ls_names S) b v a, ls_values S a, ls_size S a, nm_bytes S a, rw_bits S a, rw_words S a, rw_ta S a, rw_tb S a, rw_la S a, rw_lb S a, rw_ones S a, wi_numbers S a, wi_size S a, nb_a S a, ta_a S a, tb_a S a, eb_a S a, wn_a S a, wd_a S a, vl_a S a, nr_a S a) = _
  rw [va_up_ne _ _ h]; rfl
theorem Fr.u_ls_names {S0 S : PS} {A : Nat → Prop} {b : Nat} {v : Option Nat} (h : Fr S0 S A) (hb : Fb S0 A b) : Fr S0 (ls_names_ S (va_up (ls_names S) b v)) A := ⟨h.1, fun a ha hn => (cu_ls_names (hb.ne ha hn)).trans (h.2.1 a ha hn), h.2.2⟩
theorem cu_ls_values {S : PS} {b a : Nat} {v : Option Nat} (h : a ≠ b) : cel (ls_values_ S (va_up (ls_values S) b v)) a = cel S a := by
  show (kd S a, ln S a, br_kind S a, br_row S a, bk_kind S a, bk_list S a, bk_row S a, bk_edges S a, bk_part S a, bk_eb S a, dr_kind S a, dr_list S a, ls_names S a, va_up (ls_values S) b v a, ls_size S a, nm_bytes S a, rw_bits S a, rw_words S a, rw_ta S a, rw_tb S a, rw_la S a, rw_lb S a, rw_ones S a, wi_numbers S a, wi_size S a, nb_a S a, ta_a S a, tb_a S a, eb_a S a, wn_a S a, wd_a S a, vl_a S a, nr_a S a) = _
  rw [va_up_ne _ _ h]; rfl
theorem Fr.u_ls_values {S0 S : PS} {A : Nat → Prop} {b : Nat} {v : Option Nat} (h : Fr S0 S A) (hb : Fb S0 A b) : Fr S0 (ls_values_ S (va_up (ls_values S) b v)) A := ⟨h.1, fun a ha hn => (cu_ls_values (hb.ne ha hn)).trans (h.2.1 a ha hn), h.2.2⟩
theorem cu_ls_size {S : PS} {b a : Nat} {v : Int32} (h : a ≠ b) : cel (ls_size_ S (va_up (ls_size S) b v)) a = cel S a := by
  show (kd S a, ln S a, br_kind S a, br_row S a, bk_kind S a, bk_list S a, bk_row S a, bk_edges S a, bk_part S a, bk_eb S a, dr_kind S a, dr_list S a, ls_names S a, ls_values S a, va_up (ls_size S) b v a, nm_bytes S a, rw_bits S a, rw_words S a, rw_ta S a, rw_tb S a, rw_la S a, rw_lb S a, rw_ones S a, wi_numbers S a, wi_size S a, nb_a S a, ta_a S a, tb_a S a, eb_a S a, wn_a S a, wd_a S a, vl_a S a, nr_a S a) = _
  rw [va_up_ne _ _ h]; rfl
theorem Fr.u_ls_size {S0 S : PS} {A : Nat → Prop} {b : Nat} {v : Int32} (h : Fr S0 S A) (hb : Fb S0 A b) : Fr S0 (ls_size_ S (va_up (ls_size S) b v)) A := ⟨h.1, fun a ha hn => (cu_ls_size (hb.ne ha hn)).trans (h.2.1 a ha hn), h.2.2⟩
theorem cu_nm_bytes {S : PS} {b a : Nat} {v : Option Nat} (h : a ≠ b) : cel (nm_bytes_ S (va_up (nm_bytes S) b v)) a = cel S a := by
  show (kd S a, ln S a, br_kind S a, br_row S a, bk_kind S a, bk_list S a, bk_row S a, bk_edges S a, bk_part S a, bk_eb S a, dr_kind S a, dr_list S a, ls_names S a, ls_values S a, ls_size S a, va_up (nm_bytes S) b v a, rw_bits S a, rw_words S a, rw_ta S a, rw_tb S a, rw_la S a, rw_lb S a, rw_ones S a, wi_numbers S a, wi_size S a, nb_a S a, ta_a S a, tb_a S a, eb_a S a, wn_a S a, wd_a S a, vl_a S a, nr_a S a) = _
  rw [va_up_ne _ _ h]; rfl
theorem Fr.u_nm_bytes {S0 S : PS} {A : Nat → Prop} {b : Nat} {v : Option Nat} (h : Fr S0 S A) (hb : Fb S0 A b) : Fr S0 (nm_bytes_ S (va_up (nm_bytes S) b v)) A := ⟨h.1, fun a ha hn => (cu_nm_bytes (hb.ne ha hn)).trans (h.2.1 a ha hn), h.2.2⟩
theorem cu_rw_bits {S : PS} {b a : Nat} {v : Int32} (h : a ≠ b) : cel (rw_bits_ S (va_up (rw_bits S) b v)) a = cel S a := by
  show (kd S a, ln S a, br_kind S a, br_row S a, bk_kind S a, bk_list S a, bk_row S a, bk_edges S a, bk_part S a, bk_eb S a, dr_kind S a, dr_list S a, ls_names S a, ls_values S a, ls_size S a, nm_bytes S a, va_up (rw_bits S) b v a, rw_words S a, rw_ta S a, rw_tb S a, rw_la S a, rw_lb S a, rw_ones S a, wi_numbers S a, wi_size S a, nb_a S a, ta_a S a, tb_a S a, eb_a S a, wn_a S a, wd_a S a, vl_a S a, nr_a S a) = _
  rw [va_up_ne _ _ h]; rfl
theorem Fr.u_rw_bits {S0 S : PS} {A : Nat → Prop} {b : Nat} {v : Int32} (h : Fr S0 S A) (hb : Fb S0 A b) : Fr S0 (rw_bits_ S (va_up (rw_bits S) b v)) A := ⟨h.1, fun a ha hn => (cu_rw_bits (hb.ne ha hn)).trans (h.2.1 a ha hn), h.2.2⟩
theorem cu_rw_words {S : PS} {b a : Nat} {v : Option Nat} (h : a ≠ b) : cel (rw_words_ S (va_up (rw_words S) b v)) a = cel S a := by
  show (kd S a, ln S a, br_kind S a, br_row S a, bk_kind S a, bk_list S a, bk_row S a, bk_edges S a, bk_part S a, bk_eb S a, dr_kind S a, dr_list S a, ls_names S a, ls_values S a, ls_size S a, nm_bytes S a, rw_bits S a, va_up (rw_words S) b v a, rw_ta S a, rw_tb S a, rw_la S a, rw_lb S a, rw_ones S a, wi_numbers S a, wi_size S a, nb_a S a, ta_a S a, tb_a S a, eb_a S a, wn_a S a, wd_a S a, vl_a S a, nr_a S a) = _
  rw [va_up_ne _ _ h]; rfl
theorem Fr.u_rw_words {S0 S : PS} {A : Nat → Prop} {b : Nat} {v : Option Nat} (h : Fr S0 S A) (hb : Fb S0 A b) : Fr S0 (rw_words_ S (va_up (rw_words S) b v)) A := ⟨h.1, fun a ha hn => (cu_rw_words (hb.ne ha hn)).trans (h.2.1 a ha hn), h.2.2⟩
theorem cu_rw_ta {S : PS} {b a : Nat} {v : Option Nat} (h : a ≠ b) : cel (rw_ta_ S (va_up (rw_ta S) b v)) a = cel S a := by
  show (kd S a, ln S a, br_kind S a, br_row S a, bk_kind S a, bk_list S a, bk_row S a, bk_edges S a, bk_part S a, bk_eb S a, dr_kind S a, dr_list S a, ls_names S a, ls_values S a, ls_size S a, nm_bytes S a, rw_bits S a, rw_words S a, va_up (rw_ta S) b v a, rw_tb S a, rw_la S a, rw_lb S a, rw_ones S a, wi_numbers S a, wi_size S a, nb_a S a, ta_a S a, tb_a S a, eb_a S a, wn_a S a, wd_a S a, vl_a S a, nr_a S a) = _
  rw [va_up_ne _ _ h]; rfl
theorem Fr.u_rw_ta {S0 S : PS} {A : Nat → Prop} {b : Nat} {v : Option Nat} (h : Fr S0 S A) (hb : Fb S0 A b) : Fr S0 (rw_ta_ S (va_up (rw_ta S) b v)) A := ⟨h.1, fun a ha hn => (cu_rw_ta (hb.ne ha hn)).trans (h.2.1 a ha hn), h.2.2⟩
theorem cu_rw_tb {S : PS} {b a : Nat} {v : Option Nat} (h : a ≠ b) : cel (rw_tb_ S (va_up (rw_tb S) b v)) a = cel S a := by
  show (kd S a, ln S a, br_kind S a, br_row S a, bk_kind S a, bk_list S a, bk_row S a, bk_edges S a, bk_part S a, bk_eb S a, dr_kind S a, dr_list S a, ls_names S a, ls_values S a, ls_size S a, nm_bytes S a, rw_bits S a, rw_words S a, rw_ta S a, va_up (rw_tb S) b v a, rw_la S a, rw_lb S a, rw_ones S a, wi_numbers S a, wi_size S a, nb_a S a, ta_a S a, tb_a S a, eb_a S a, wn_a S a, wd_a S a, vl_a S a, nr_a S a) = _
  rw [va_up_ne _ _ h]; rfl
theorem Fr.u_rw_tb {S0 S : PS} {A : Nat → Prop} {b : Nat} {v : Option Nat} (h : Fr S0 S A) (hb : Fb S0 A b) : Fr S0 (rw_tb_ S (va_up (rw_tb S) b v)) A := ⟨h.1, fun a ha hn => (cu_rw_tb (hb.ne ha hn)).trans (h.2.1 a ha hn), h.2.2⟩
theorem cu_rw_la {S : PS} {b a : Nat} {v : Int32} (h : a ≠ b) : cel (rw_la_ S (va_up (rw_la S) b v)) a = cel S a := by
  show (kd S a, ln S a, br_kind S a, br_row S a, bk_kind S a, bk_list S a, bk_row S a, bk_edges S a, bk_part S a, bk_eb S a, dr_kind S a, dr_list S a, ls_names S a, ls_values S a, ls_size S a, nm_bytes S a, rw_bits S a, rw_words S a, rw_ta S a, rw_tb S a, va_up (rw_la S) b v a, rw_lb S a, rw_ones S a, wi_numbers S a, wi_size S a, nb_a S a, ta_a S a, tb_a S a, eb_a S a, wn_a S a, wd_a S a, vl_a S a, nr_a S a) = _
  rw [va_up_ne _ _ h]; rfl
theorem Fr.u_rw_la {S0 S : PS} {A : Nat → Prop} {b : Nat} {v : Int32} (h : Fr S0 S A) (hb : Fb S0 A b) : Fr S0 (rw_la_ S (va_up (rw_la S) b v)) A := ⟨h.1, fun a ha hn => (cu_rw_la (hb.ne ha hn)).trans (h.2.1 a ha hn), h.2.2⟩
theorem cu_rw_lb {S : PS} {b a : Nat} {v : Int32} (h : a ≠ b) : cel (rw_lb_ S (va_up (rw_lb S) b v)) a = cel S a := by
  show (kd S a, ln S a, br_kind S a, br_row S a, bk_kind S a, bk_list S a, bk_row S a, bk_edges S a, bk_part S a, bk_eb S a, dr_kind S a, dr_list S a, ls_names S a, ls_values S a, ls_size S a, nm_bytes S a, rw_bits S a, rw_words S a, rw_ta S a, rw_tb S a, rw_la S a, va_up (rw_lb S) b v a, rw_ones S a, wi_numbers S a, wi_size S a, nb_a S a, ta_a S a, tb_a S a, eb_a S a, wn_a S a, wd_a S a, vl_a S a, nr_a S a) = _
  rw [va_up_ne _ _ h]; rfl
theorem Fr.u_rw_lb {S0 S : PS} {A : Nat → Prop} {b : Nat} {v : Int32} (h : Fr S0 S A) (hb : Fb S0 A b) : Fr S0 (rw_lb_ S (va_up (rw_lb S) b v)) A := ⟨h.1, fun a ha hn => (cu_rw_lb (hb.ne ha hn)).trans (h.2.1 a ha hn), h.2.2⟩
theorem cu_rw_ones {S : PS} {b a : Nat} {v : Int32} (h : a ≠ b) : cel (rw_ones_ S (va_up (rw_ones S) b v)) a = cel S a := by
  show (kd S a, ln S a, br_kind S a, br_row S a, bk_kind S a, bk_list S a, bk_row S a, bk_edges S a, bk_part S a, bk_eb S a, dr_kind S a, dr_list S a, ls_names S a, ls_values S a, ls_size S a, nm_bytes S a, rw_bits S a, rw_words S a, rw_ta S a, rw_tb S a, rw_la S a, rw_lb S a, va_up (rw_ones S) b v a, wi_numbers S a, wi_size S a, nb_a S a, ta_a S a, tb_a S a, eb_a S a, wn_a S a, wd_a S a, vl_a S a, nr_a S a) = _
  rw [va_up_ne _ _ h]; rfl
theorem Fr.u_rw_ones {S0 S : PS} {A : Nat → Prop} {b : Nat} {v : Int32} (h : Fr S0 S A) (hb : Fb S0 A b) : Fr S0 (rw_ones_ S (va_up (rw_ones S) b v)) A := ⟨h.1, fun a ha hn => (cu_rw_ones (hb.ne ha hn)).trans (h.2.1 a ha hn), h.2.2⟩
theorem cu_wi_numbers {S : PS} {b a : Nat} {v : Option Nat} (h : a ≠ b) : cel (wi_numbers_ S (va_up (wi_numbers S) b v)) a = cel S a := by
  show (kd S a, ln S a, br_kind S a, br_row S a, bk_kind S a, bk_list S a, bk_row S a, bk_edges S a, bk_part S a, bk_eb S a, dr_kind S a, dr_list S a, ls_names S a, ls_values S a, ls_size S a, nm_bytes S a, rw_bits S a, rw_words S a, rw_ta S a, rw_tb S a, rw_la S a, rw_lb S a, rw_ones S a, va_up (wi_numbers S) b v a, wi_size S a, nb_a S a, ta_a S a, tb_a S a, eb_a S a, wn_a S a, wd_a S a, vl_a S a, nr_a S a) = _
  rw [va_up_ne _ _ h]; rfl
theorem Fr.u_wi_numbers {S0 S : PS} {A : Nat → Prop} {b : Nat} {v : Option Nat} (h : Fr S0 S A) (hb : Fb S0 A b) : Fr S0 (wi_numbers_ S (va_up (wi_numbers S) b v)) A := ⟨h.1, fun a ha hn => (cu_wi_numbers (hb.ne ha hn)).trans (h.2.1 a ha hn), h.2.2⟩
theorem cu_wi_size {S : PS} {b a : Nat} {v : Int32} (h : a ≠ b) : cel (wi_size_ S (va_up (wi_size S) b v)) a = cel S a := by
  show (kd S a, ln S a, br_kind S a, br_row S a, bk_kind S a, bk_list S a, bk_row S a, bk_edges S a, bk_part S a, bk_eb S a, dr_kind S a, dr_list S a, ls_names S a, ls_values S a, ls_size S a, nm_bytes S a, rw_bits S a, rw_words S a, rw_ta S a, rw_tb S a, rw_la S a, rw_lb S a, rw_ones S a, wi_numbers S a, va_up (wi_size S) b v a, nb_a S a, ta_a S a, tb_a S a, eb_a S a, wn_a S a, wd_a S a, vl_a S a, nr_a S a) = _
  rw [va_up_ne _ _ h]; rfl
theorem Fr.u_wi_size {S0 S : PS} {A : Nat → Prop} {b : Nat} {v : Int32} (h : Fr S0 S A) (hb : Fb S0 A b) : Fr S0 (wi_size_ S (va_up (wi_size S) b v)) A := ⟨h.1, fun a ha hn => (cu_wi_size (hb.ne ha hn)).trans (h.2.1 a ha hn), h.2.2⟩
theorem cu_nb_a {S : PS} {b a : Nat} {v : Nat → Int32} (h : a ≠ b) : cel (nb_a_ S (va_up (nb_a S) b v)) a = cel S a := by
  show (kd S a, ln S a, br_kind S a, br_row S a, bk_kind S a, bk_list S a, bk_row S a, bk_edges S a, bk_part S a, bk_eb S a, dr_kind S a, dr_list S a, ls_names S a, ls_values S a, ls_size S a, nm_bytes S a, rw_bits S a, rw_words S a, rw_ta S a, rw_tb S a, rw_la S a, rw_lb S a, rw_ones S a, wi_numbers S a, wi_size S a, va_up (nb_a S) b v a, ta_a S a, tb_a S a, eb_a S a, wn_a S a, wd_a S a, vl_a S a, nr_a S a) = _
  rw [va_up_ne _ _ h]; rfl
theorem Fr.u_nb_a {S0 S : PS} {A : Nat → Prop} {b : Nat} {v : Nat → Int32} (h : Fr S0 S A) (hb : Fb S0 A b) : Fr S0 (nb_a_ S (va_up (nb_a S) b v)) A := ⟨h.1, fun a ha hn => (cu_nb_a (hb.ne ha hn)).trans (h.2.1 a ha hn), h.2.2⟩
theorem cu_ta_a {S : PS} {b a : Nat} {v : Nat → Int32} (h : a ≠ b) : cel (ta_a_ S (va_up (ta_a S) b v)) a = cel S a := by
  show (kd S a, ln S a, br_kind S a, br_row S a, bk_kind S a, bk_list S a, bk_row S a, bk_edges S a, bk_part S a, bk_eb S a, dr_kind S a, dr_list S a, ls_names S a, ls_values S a, ls_size S a, nm_bytes S a, rw_bits S a, rw_words S a, rw_ta S a, rw_tb S a, rw_la S a, rw_lb S a, rw_ones S a, wi_numbers S a, wi_size S a, nb_a S a, va_up (ta_a S) b v a, tb_a S a, eb_a S a, wn_a S a, wd_a S a, vl_a S a, nr_a S a) = _
  rw [va_up_ne _ _ h]; rfl
theorem Fr.u_ta_a {S0 S : PS} {A : Nat → Prop} {b : Nat} {v : Nat → Int32} (h : Fr S0 S A) (hb : Fb S0 A b) : Fr S0 (ta_a_ S (va_up (ta_a S) b v)) A := ⟨h.1, fun a ha hn => (cu_ta_a (hb.ne ha hn)).trans (h.2.1 a ha hn), h.2.2⟩
theorem cu_tb_a {S : PS} {b a : Nat} {v : Nat → Int32} (h : a ≠ b) : cel (tb_a_ S (va_up (tb_a S) b v)) a = cel S a := by
  show (kd S a, ln S a, br_kind S a, br_row S a, bk_kind S a, bk_list S a, bk_row S a, bk_edges S a, bk_part S a, bk_eb S a, dr_kind S a, dr_list S a, ls_names S a, ls_values S a, ls_size S a, nm_bytes S a, rw_bits S a, rw_words S a, rw_ta S a, rw_tb S a, rw_la S a, rw_lb S a, rw_ones S a, wi_numbers S a, wi_size S a, nb_a S a, ta_a S a, va_up (tb_a S) b v a, eb_a S a, wn_a S a, wd_a S a, vl_a S a, nr_a S a) = _
  rw [va_up_ne _ _ h]; rfl
theorem Fr.u_tb_a {S0 S : PS} {A : Nat → Prop} {b : Nat} {v : Nat → Int32} (h : Fr S0 S A) (hb : Fb S0 A b) : Fr S0 (tb_a_ S (va_up (tb_a S) b v)) A := ⟨h.1, fun a ha hn => (cu_tb_a (hb.ne ha hn)).trans (h.2.1 a ha hn), h.2.2⟩
theorem cu_eb_a {S : PS} {b a : Nat} {v : Nat → Int32} (h : a ≠ b) : cel (eb_a_ S (va_up (eb_a S) b v)) a = cel S a := by
  show (kd S a, ln S a, br_kind S a, br_row S a, bk_kind S a, bk_list S a, bk_row S a, bk_edges S a, bk_part S a, bk_eb S a, dr_kind S a, dr_list S a, ls_names S a, ls_values S a, ls_size S a, nm_bytes S a, rw_bits S a, rw_words S a, rw_ta S a, rw_tb S a, rw_la S a, rw_lb S a, rw_ones S a, wi_numbers S a, wi_size S a, nb_a S a, ta_a S a, tb_a S a, va_up (eb_a S) b v a, wn_a S a, wd_a S a, vl_a S a, nr_a S a) = _
  rw [va_up_ne _ _ h]; rfl
theorem Fr.u_eb_a {S0 S : PS} {A : Nat → Prop} {b : Nat} {v : Nat → Int32} (h : Fr S0 S A) (hb : Fb S0 A b) : Fr S0 (eb_a_ S (va_up (eb_a S) b v)) A := ⟨h.1, fun a ha hn => (cu_eb_a (hb.ne ha hn)).trans (h.2.1 a ha hn), h.2.2⟩
theorem cu_wn_a {S : PS} {b a : Nat} {v : Nat → Int32} (h : a ≠ b) : cel (wn_a_ S (va_up (wn_a S) b v)) a = cel S a := by
  show (kd S a, ln S a, br_kind S a, br_row S a, bk_kind S a, bk_list S a, bk_row S a, bk_edges S a, bk_part S a, bk_eb S a, dr_kind S a, dr_list S a, ls_names S a, ls_values S a, ls_size S a, nm_bytes S a, rw_bits S a, rw_words S a, rw_ta S a, rw_tb S a, rw_la S a, rw_lb S a, rw_ones S a, wi_numbers S a, wi_size S a, nb_a S a, ta_a S a, tb_a S a, eb_a S a, va_up (wn_a S) b v a, wd_a S a, vl_a S a, nr_a S a) = _
  rw [va_up_ne _ _ h]; rfl
theorem Fr.u_wn_a {S0 S : PS} {A : Nat → Prop} {b : Nat} {v : Nat → Int32} (h : Fr S0 S A) (hb : Fb S0 A b) : Fr S0 (wn_a_ S (va_up (wn_a S) b v)) A := ⟨h.1, fun a ha hn => (cu_wn_a (hb.ne ha hn)).trans (h.2.1 a ha hn), h.2.2⟩
theorem cu_wd_a {S : PS} {b a : Nat} {v : Nat → Int64} (h : a ≠ b) : cel (wd_a_ S (va_up (wd_a S) b v)) a = cel S a := by
  show (kd S a, ln S a, br_kind S a, br_row S a, bk_kind S a, bk_list S a, bk_row S a, bk_edges S a, bk_part S a, bk_eb S a, dr_kind S a, dr_list S a, ls_names S a, ls_values S a, ls_size S a, nm_bytes S a, rw_bits S a, rw_words S a, rw_ta S a, rw_tb S a, rw_la S a, rw_lb S a, rw_ones S a, wi_numbers S a, wi_size S a, nb_a S a, ta_a S a, tb_a S a, eb_a S a, wn_a S a, va_up (wd_a S) b v a, vl_a S a, nr_a S a) = _
  rw [va_up_ne _ _ h]; rfl
theorem Fr.u_wd_a {S0 S : PS} {A : Nat → Prop} {b : Nat} {v : Nat → Int64} (h : Fr S0 S A) (hb : Fb S0 A b) : Fr S0 (wd_a_ S (va_up (wd_a S) b v)) A := ⟨h.1, fun a ha hn => (cu_wd_a (hb.ne ha hn)).trans (h.2.1 a ha hn), h.2.2⟩
theorem cu_vl_a {S : PS} {b a : Nat} {v : Nat → Int64} (h : a ≠ b) : cel (vl_a_ S (va_up (vl_a S) b v)) a = cel S a := by
  show (kd S a, ln S a, br_kind S a, br_row S a, bk_kind S a, bk_list S a, bk_row S a, bk_edges S a, bk_part S a, bk_eb S a, dr_kind S a, dr_list S a, ls_names S a, ls_values S a, ls_size S a, nm_bytes S a, rw_bits S a, rw_words S a, rw_ta S a, rw_tb S a, rw_la S a, rw_lb S a, rw_ones S a, wi_numbers S a, wi_size S a, nb_a S a, ta_a S a, tb_a S a, eb_a S a, wn_a S a, wd_a S a, va_up (vl_a S) b v a, nr_a S a) = _
  rw [va_up_ne _ _ h]; rfl
theorem Fr.u_vl_a {S0 S : PS} {A : Nat → Prop} {b : Nat} {v : Nat → Int64} (h : Fr S0 S A) (hb : Fb S0 A b) : Fr S0 (vl_a_ S (va_up (vl_a S) b v)) A := ⟨h.1, fun a ha hn => (cu_vl_a (hb.ne ha hn)).trans (h.2.1 a ha hn), h.2.2⟩
theorem cu_nr_a {S : PS} {b a : Nat} {v : Nat → Option Nat} (h : a ≠ b) : cel (nr_a_ S (va_up (nr_a S) b v)) a = cel S a := by
  show (kd S a, ln S a, br_kind S a, br_row S a, bk_kind S a, bk_list S a, bk_row S a, bk_edges S a, bk_part S a, bk_eb S a, dr_kind S a, dr_list S a, ls_names S a, ls_values S a, ls_size S a, nm_bytes S a, rw_bits S a, rw_words S a, rw_ta S a, rw_tb S a, rw_la S a, rw_lb S a, rw_ones S a, wi_numbers S a, wi_size S a, nb_a S a, ta_a S a, tb_a S a, eb_a S a, wn_a S a, wd_a S a, vl_a S a, va_up (nr_a S) b v a) = _
  rw [va_up_ne _ _ h]; rfl
theorem Fr.u_nr_a {S0 S : PS} {A : Nat → Prop} {b : Nat} {v : Nat → Option Nat} (h : Fr S0 S A) (hb : Fb S0 A b) : Fr S0 (nr_a_ S (va_up (nr_a S) b v)) A := ⟨h.1, fun a ha hn => (cu_nr_a (hb.ne ha hn)).trans (h.2.1 a ha hn), h.2.2⟩
theorem Fr.s_tp_used {S0 S : PS} {A : Nat → Prop} {v : Int32} (h : Fr S0 S A) : Fr S0 (tp_used_ S v) A := ⟨h.1, h.2.1, h.2.2⟩
theorem Fr.s_bi_nodes {S0 S : PS} {A : Nat → Prop} {v : Int32} (h : Fr S0 S A) : Fr S0 (bi_nodes_ S v) A := ⟨h.1, h.2.1, h.2.2⟩
theorem Fr.s_ba_refusal {S0 S : PS} {A : Nat → Prop} {v : Int32} (h : Fr S0 S A) : Fr S0 (ba_refusal_ S v) A := ⟨h.1, h.2.1, h.2.2⟩
theorem Fr.s_pl_a {S0 S : PS} {A : Nat → Prop} {v : Nat → Option Nat} (h : Fr S0 S A) : Fr S0 (pl_a_ S v) A := ⟨h.1, h.2.1, h.2.2⟩
theorem Fr.s_tp_a {S0 S : PS} {A : Nat → Prop} {v : Nat → Int32} (h : Fr S0 S A) : Fr S0 (tp_a_ S v) A := ⟨h.1, h.2.1, h.2.2⟩
theorem Fr.s_al_a {S0 S : PS} {A : Nat → Prop} {v : Nat → Int32} (h : Fr S0 S A) : Fr S0 (al_a_ S v) A := ⟨h.1, h.2.1, h.2.2⟩
theorem Fr.s_fi_a {S0 S : PS} {A : Nat → Prop} {v : Nat → Int32} (h : Fr S0 S A) : Fr S0 (fi_a_ S v) A := ⟨h.1, h.2.1, h.2.2⟩
theorem Fr.s_de_a {S0 S : PS} {A : Nat → Prop} {v : Nat → Int32} (h : Fr S0 S A) : Fr S0 (de_a_ S v) A := ⟨h.1, h.2.1, h.2.2⟩
theorem Fr.s_st_a {S0 S : PS} {A : Nat → Prop} {v : Nat → Int32} (h : Fr S0 S A) : Fr S0 (st_a_ S v) A := ⟨h.1, h.2.1, h.2.2⟩
theorem Fr.s_dg_a {S0 S : PS} {A : Nat → Prop} {v : Nat → Int32} (h : Fr S0 S A) : Fr S0 (dg_a_ S v) A := ⟨h.1, h.2.1, h.2.2⟩
theorem cn_BareRow {S : PS} {q a : Nat} (h : a ≠ q) : cel (nw_BareRow S q) a = cel S a := by
  show (va_up (kd S) q 1 a, ln S a, va_up (br_kind S) q 0 a, va_up (br_row S) q none a, bk_kind S a, bk_list S a, bk_row S a, bk_edges S a, bk_part S a, bk_eb S a, dr_kind S a, dr_list S a, ls_names S a, ls_values S a, ls_size S a, nm_bytes S a, rw_bits S a, rw_words S a, rw_ta S a, rw_tb S a, rw_la S a, rw_lb S a, rw_ones S a, wi_numbers S a, wi_size S a, nb_a S a, ta_a S a, tb_a S a, eb_a S a, wn_a S a, wd_a S a, vl_a S a, nr_a S a) = _
  rw [va_up_ne _ _ h, va_up_ne _ _ h, va_up_ne _ _ h]; rfl
theorem Fr.n_BareRow {S0 S : PS} {A : Nat → Prop} {q : Nat} (h : Fr S0 S A) (h0 : kd S q = 0) : Fr S0 (nw_BareRow S q) A := by
  have hq := h.new h0
  exact ⟨fun a ha => ⟨(va_up_ne _ _ (nq hq ha)).trans (h.1 a ha).1, (h.1 a ha).2⟩, fun a ha hn => (cn_BareRow (nq hq ha)).trans (h.2.1 a ha hn), h.2.2⟩
theorem cn_Book {S : PS} {q a : Nat} (h : a ≠ q) : cel (nw_Book S q) a = cel S a := by
  show (va_up (kd S) q 3 a, ln S a, br_kind S a, br_row S a, va_up (bk_kind S) q 0 a, va_up (bk_list S) q none a, va_up (bk_row S) q none a, va_up (bk_edges S) q 0 a, va_up (bk_part S) q 0 a, va_up (bk_eb S) q none a, dr_kind S a, dr_list S a, ls_names S a, ls_values S a, ls_size S a, nm_bytes S a, rw_bits S a, rw_words S a, rw_ta S a, rw_tb S a, rw_la S a, rw_lb S a, rw_ones S a, wi_numbers S a, wi_size S a, nb_a S a, ta_a S a, tb_a S a, eb_a S a, wn_a S a, wd_a S a, vl_a S a, nr_a S a) = _
  rw [va_up_ne _ _ h, va_up_ne _ _ h, va_up_ne _ _ h, va_up_ne _ _ h, va_up_ne _ _ h, va_up_ne _ _ h, va_up_ne _ _ h]; rfl
theorem Fr.n_Book {S0 S : PS} {A : Nat → Prop} {q : Nat} (h : Fr S0 S A) (h0 : kd S q = 0) : Fr S0 (nw_Book S q) A := by
  have hq := h.new h0
  exact ⟨fun a ha => ⟨(va_up_ne _ _ (nq hq ha)).trans (h.1 a ha).1, (h.1 a ha).2⟩, fun a ha hn => (cn_Book (nq hq ha)).trans (h.2.1 a ha hn), h.2.2⟩
theorem cn_Draft {S : PS} {q a : Nat} (h : a ≠ q) : cel (nw_Draft S q) a = cel S a := by
  show (va_up (kd S) q 4 a, ln S a, br_kind S a, br_row S a, bk_kind S a, bk_list S a, bk_row S a, bk_edges S a, bk_part S a, bk_eb S a, va_up (dr_kind S) q 0 a, va_up (dr_list S) q none a, ls_names S a, ls_values S a, ls_size S a, nm_bytes S a, rw_bits S a, rw_words S a, rw_ta S a, rw_tb S a, rw_la S a, rw_lb S a, rw_ones S a, wi_numbers S a, wi_size S a, nb_a S a, ta_a S a, tb_a S a, eb_a S a, wn_a S a, wd_a S a, vl_a S a, nr_a S a) = _
  rw [va_up_ne _ _ h, va_up_ne _ _ h, va_up_ne _ _ h]; rfl
theorem Fr.n_Draft {S0 S : PS} {A : Nat → Prop} {q : Nat} (h : Fr S0 S A) (h0 : kd S q = 0) : Fr S0 (nw_Draft S q) A := by
  have hq := h.new h0
  exact ⟨fun a ha => ⟨(va_up_ne _ _ (nq hq ha)).trans (h.1 a ha).1, (h.1 a ha).2⟩, fun a ha hn => (cn_Draft (nq hq ha)).trans (h.2.1 a ha hn), h.2.2⟩
theorem cn_Listing {S : PS} {q a : Nat} (h : a ≠ q) : cel (nw_Listing S q) a = cel S a := by
  show (va_up (kd S) q 5 a, ln S a, br_kind S a, br_row S a, bk_kind S a, bk_list S a, bk_row S a, bk_edges S a, bk_part S a, bk_eb S a, dr_kind S a, dr_list S a, va_up (ls_names S) q none a, va_up (ls_values S) q none a, va_up (ls_size S) q 0 a, nm_bytes S a, rw_bits S a, rw_words S a, rw_ta S a, rw_tb S a, rw_la S a, rw_lb S a, rw_ones S a, wi_numbers S a, wi_size S a, nb_a S a, ta_a S a, tb_a S a, eb_a S a, wn_a S a, wd_a S a, vl_a S a, nr_a S a) = _
  rw [va_up_ne _ _ h, va_up_ne _ _ h, va_up_ne _ _ h, va_up_ne _ _ h]; rfl
theorem Fr.n_Listing {S0 S : PS} {A : Nat → Prop} {q : Nat} (h : Fr S0 S A) (h0 : kd S q = 0) : Fr S0 (nw_Listing S q) A := by
  have hq := h.new h0
  exact ⟨fun a ha => ⟨(va_up_ne _ _ (nq hq ha)).trans (h.1 a ha).1, (h.1 a ha).2⟩, fun a ha hn => (cn_Listing (nq hq ha)).trans (h.2.1 a ha hn), h.2.2⟩
theorem cn_Name {S : PS} {q a : Nat} (h : a ≠ q) : cel (nw_Name S q) a = cel S a := by
  show (va_up (kd S) q 6 a, ln S a, br_kind S a, br_row S a, bk_kind S a, bk_list S a, bk_row S a, bk_edges S a, bk_part S a, bk_eb S a, dr_kind S a, dr_list S a, ls_names S a, ls_values S a, ls_size S a, va_up (nm_bytes S) q none a, rw_bits S a, rw_words S a, rw_ta S a, rw_tb S a, rw_la S a, rw_lb S a, rw_ones S a, wi_numbers S a, wi_size S a, nb_a S a, ta_a S a, tb_a S a, eb_a S a, wn_a S a, wd_a S a, vl_a S a, nr_a S a) = _
  rw [va_up_ne _ _ h, va_up_ne _ _ h]; rfl
theorem Fr.n_Name {S0 S : PS} {A : Nat → Prop} {q : Nat} (h : Fr S0 S A) (h0 : kd S q = 0) : Fr S0 (nw_Name S q) A := by
  have hq := h.new h0
  exact ⟨fun a ha => ⟨(va_up_ne _ _ (nq hq ha)).trans (h.1 a ha).1, (h.1 a ha).2⟩, fun a ha hn => (cn_Name (nq hq ha)).trans (h.2.1 a ha hn), h.2.2⟩
theorem cn_Row {S : PS} {q a : Nat} (h : a ≠ q) : cel (nw_Row S q) a = cel S a := by
  show (va_up (kd S) q 7 a, ln S a, br_kind S a, br_row S a, bk_kind S a, bk_list S a, bk_row S a, bk_edges S a, bk_part S a, bk_eb S a, dr_kind S a, dr_list S a, ls_names S a, ls_values S a, ls_size S a, nm_bytes S a, va_up (rw_bits S) q 0 a, va_up (rw_words S) q none a, va_up (rw_ta S) q none a, va_up (rw_tb S) q none a, va_up (rw_la S) q 0 a, va_up (rw_lb S) q 0 a, va_up (rw_ones S) q 0 a, wi_numbers S a, wi_size S a, nb_a S a, ta_a S a, tb_a S a, eb_a S a, wn_a S a, wd_a S a, vl_a S a, nr_a S a) = _
  rw [va_up_ne _ _ h, va_up_ne _ _ h, va_up_ne _ _ h, va_up_ne _ _ h, va_up_ne _ _ h, va_up_ne _ _ h, va_up_ne _ _ h, va_up_ne _ _ h]; rfl
theorem Fr.n_Row {S0 S : PS} {A : Nat → Prop} {q : Nat} (h : Fr S0 S A) (h0 : kd S q = 0) : Fr S0 (nw_Row S q) A := by
  have hq := h.new h0
  exact ⟨fun a ha => ⟨(va_up_ne _ _ (nq hq ha)).trans (h.1 a ha).1, (h.1 a ha).2⟩, fun a ha hn => (cn_Row (nq hq ha)).trans (h.2.1 a ha hn), h.2.2⟩
theorem cn_Witness {S : PS} {q a : Nat} (h : a ≠ q) : cel (nw_Witness S q) a = cel S a := by
  show (va_up (kd S) q 9 a, ln S a, br_kind S a, br_row S a, bk_kind S a, bk_list S a, bk_row S a, bk_edges S a, bk_part S a, bk_eb S a, dr_kind S a, dr_list S a, ls_names S a, ls_values S a, ls_size S a, nm_bytes S a, rw_bits S a, rw_words S a, rw_ta S a, rw_tb S a, rw_la S a, rw_lb S a, rw_ones S a, va_up (wi_numbers S) q none a, va_up (wi_size S) q 0 a, nb_a S a, ta_a S a, tb_a S a, eb_a S a, wn_a S a, wd_a S a, vl_a S a, nr_a S a) = _
  rw [va_up_ne _ _ h, va_up_ne _ _ h, va_up_ne _ _ h]; rfl
theorem Fr.n_Witness {S0 S : PS} {A : Nat → Prop} {q : Nat} (h : Fr S0 S A) (h0 : kd S q = 0) : Fr S0 (nw_Witness S q) A := by
  have hq := h.new h0
  exact ⟨fun a ha => ⟨(va_up_ne _ _ (nq hq ha)).trans (h.1 a ha).1, (h.1 a ha).2⟩, fun a ha hn => (cn_Witness (nq hq ha)).trans (h.2.1 a ha hn), h.2.2⟩
theorem cn_nb_a {S : PS} {q n a : Nat} (h : a ≠ q) : cel (na_nb_a S q n) a = cel S a := by
  show (va_up (kd S) q 12 a, va_up (ln S) q n a, br_kind S a, br_row S a, bk_kind S a, bk_list S a, bk_row S a, bk_edges S a, bk_part S a, bk_eb S a, dr_kind S a, dr_list S a, ls_names S a, ls_values S a, ls_size S a, nm_bytes S a, rw_bits S a, rw_words S a, rw_ta S a, rw_tb S a, rw_la S a, rw_lb S a, rw_ones S a, wi_numbers S a, wi_size S a, va_up (nb_a S) q (fun _ => 0) a, ta_a S a, tb_a S a, eb_a S a, wn_a S a, wd_a S a, vl_a S a, nr_a S a) = _
  rw [va_up_ne _ _ h, va_up_ne _ _ h, va_up_ne _ _ h]; rfl
theorem Fr.a_nb_a {S0 S : PS} {A : Nat → Prop} {q n : Nat} (h : Fr S0 S A) (h0 : kd S q = 0) : Fr S0 (na_nb_a S q n) A := by
  have hq := h.new h0
  exact ⟨fun a ha => ⟨(va_up_ne _ _ (nq hq ha)).trans (h.1 a ha).1, (va_up_ne _ _ (nq hq ha)).trans (h.1 a ha).2⟩, fun a ha hn => (cn_nb_a (nq hq ha)).trans (h.2.1 a ha hn), h.2.2⟩
theorem cn_ta_a {S : PS} {q n a : Nat} (h : a ≠ q) : cel (na_ta_a S q n) a = cel S a := by
  show (va_up (kd S) q 13 a, va_up (ln S) q n a, br_kind S a, br_row S a, bk_kind S a, bk_list S a, bk_row S a, bk_edges S a, bk_part S a, bk_eb S a, dr_kind S a, dr_list S a, ls_names S a, ls_values S a, ls_size S a, nm_bytes S a, rw_bits S a, rw_words S a, rw_ta S a, rw_tb S a, rw_la S a, rw_lb S a, rw_ones S a, wi_numbers S a, wi_size S a, nb_a S a, va_up (ta_a S) q (fun _ => 0) a, tb_a S a, eb_a S a, wn_a S a, wd_a S a, vl_a S a, nr_a S a) = _
  rw [va_up_ne _ _ h, va_up_ne _ _ h, va_up_ne _ _ h]; rfl
theorem Fr.a_ta_a {S0 S : PS} {A : Nat → Prop} {q n : Nat} (h : Fr S0 S A) (h0 : kd S q = 0) : Fr S0 (na_ta_a S q n) A := by
  have hq := h.new h0
  exact ⟨fun a ha => ⟨(va_up_ne _ _ (nq hq ha)).trans (h.1 a ha).1, (va_up_ne _ _ (nq hq ha)).trans (h.1 a ha).2⟩, fun a ha hn => (cn_ta_a (nq hq ha)).trans (h.2.1 a ha hn), h.2.2⟩
theorem cn_tb_a {S : PS} {q n a : Nat} (h : a ≠ q) : cel (na_tb_a S q n) a = cel S a := by
  show (va_up (kd S) q 14 a, va_up (ln S) q n a, br_kind S a, br_row S a, bk_kind S a, bk_list S a, bk_row S a, bk_edges S a, bk_part S a, bk_eb S a, dr_kind S a, dr_list S a, ls_names S a, ls_values S a, ls_size S a, nm_bytes S a, rw_bits S a, rw_words S a, rw_ta S a, rw_tb S a, rw_la S a, rw_lb S a, rw_ones S a, wi_numbers S a, wi_size S a, nb_a S a, ta_a S a, va_up (tb_a S) q (fun _ => 0) a, eb_a S a, wn_a S a, wd_a S a, vl_a S a, nr_a S a) = _
  rw [va_up_ne _ _ h, va_up_ne _ _ h, va_up_ne _ _ h]; rfl
theorem Fr.a_tb_a {S0 S : PS} {A : Nat → Prop} {q n : Nat} (h : Fr S0 S A) (h0 : kd S q = 0) : Fr S0 (na_tb_a S q n) A := by
  have hq := h.new h0
  exact ⟨fun a ha => ⟨(va_up_ne _ _ (nq hq ha)).trans (h.1 a ha).1, (va_up_ne _ _ (nq hq ha)).trans (h.1 a ha).2⟩, fun a ha hn => (cn_tb_a (nq hq ha)).trans (h.2.1 a ha hn), h.2.2⟩
theorem cn_eb_a {S : PS} {q n a : Nat} (h : a ≠ q) : cel (na_eb_a S q n) a = cel S a := by
  show (va_up (kd S) q 15 a, va_up (ln S) q n a, br_kind S a, br_row S a, bk_kind S a, bk_list S a, bk_row S a, bk_edges S a, bk_part S a, bk_eb S a, dr_kind S a, dr_list S a, ls_names S a, ls_values S a, ls_size S a, nm_bytes S a, rw_bits S a, rw_words S a, rw_ta S a, rw_tb S a, rw_la S a, rw_lb S a, rw_ones S a, wi_numbers S a, wi_size S a, nb_a S a, ta_a S a, tb_a S a, va_up (eb_a S) q (fun _ => 0) a, wn_a S a, wd_a S a, vl_a S a, nr_a S a) = _
  rw [va_up_ne _ _ h, va_up_ne _ _ h, va_up_ne _ _ h]; rfl
theorem Fr.a_eb_a {S0 S : PS} {A : Nat → Prop} {q n : Nat} (h : Fr S0 S A) (h0 : kd S q = 0) : Fr S0 (na_eb_a S q n) A := by
  have hq := h.new h0
  exact ⟨fun a ha => ⟨(va_up_ne _ _ (nq hq ha)).trans (h.1 a ha).1, (va_up_ne _ _ (nq hq ha)).trans (h.1 a ha).2⟩, fun a ha hn => (cn_eb_a (nq hq ha)).trans (h.2.1 a ha hn), h.2.2⟩
theorem cn_wn_a {S : PS} {q n a : Nat} (h : a ≠ q) : cel (na_wn_a S q n) a = cel S a := by
  show (va_up (kd S) q 16 a, va_up (ln S) q n a, br_kind S a, br_row S a, bk_kind S a, bk_list S a, bk_row S a, bk_edges S a, bk_part S a, bk_eb S a, dr_kind S a, dr_list S a, ls_names S a, ls_values S a, ls_size S a, nm_bytes S a, rw_bits S a, rw_words S a, rw_ta S a, rw_tb S a, rw_la S a, rw_lb S a, rw_ones S a, wi_numbers S a, wi_size S a, nb_a S a, ta_a S a, tb_a S a, eb_a S a, va_up (wn_a S) q (fun _ => 0) a, wd_a S a, vl_a S a, nr_a S a) = _
  rw [va_up_ne _ _ h, va_up_ne _ _ h, va_up_ne _ _ h]; rfl
theorem Fr.a_wn_a {S0 S : PS} {A : Nat → Prop} {q n : Nat} (h : Fr S0 S A) (h0 : kd S q = 0) : Fr S0 (na_wn_a S q n) A := by
  have hq := h.new h0
  exact ⟨fun a ha => ⟨(va_up_ne _ _ (nq hq ha)).trans (h.1 a ha).1, (va_up_ne _ _ (nq hq ha)).trans (h.1 a ha).2⟩, fun a ha hn => (cn_wn_a (nq hq ha)).trans (h.2.1 a ha hn), h.2.2⟩
theorem cn_wd_a {S : PS} {q n a : Nat} (h : a ≠ q) : cel (na_wd_a S q n) a = cel S a := by
  show (va_up (kd S) q 17 a, va_up (ln S) q n a, br_kind S a, br_row S a, bk_kind S a, bk_list S a, bk_row S a, bk_edges S a, bk_part S a, bk_eb S a, dr_kind S a, dr_list S a, ls_names S a, ls_values S a, ls_size S a, nm_bytes S a, rw_bits S a, rw_words S a, rw_ta S a, rw_tb S a, rw_la S a, rw_lb S a, rw_ones S a, wi_numbers S a, wi_size S a, nb_a S a, ta_a S a, tb_a S a, eb_a S a, wn_a S a, va_up (wd_a S) q (fun _ => 0) a, vl_a S a, nr_a S a) = _
  rw [va_up_ne _ _ h, va_up_ne _ _ h, va_up_ne _ _ h]; rfl
theorem Fr.a_wd_a {S0 S : PS} {A : Nat → Prop} {q n : Nat} (h : Fr S0 S A) (h0 : kd S q = 0) : Fr S0 (na_wd_a S q n) A := by
  have hq := h.new h0
  exact ⟨fun a ha => ⟨(va_up_ne _ _ (nq hq ha)).trans (h.1 a ha).1, (va_up_ne _ _ (nq hq ha)).trans (h.1 a ha).2⟩, fun a ha hn => (cn_wd_a (nq hq ha)).trans (h.2.1 a ha hn), h.2.2⟩
theorem cn_vl_a {S : PS} {q n a : Nat} (h : a ≠ q) : cel (na_vl_a S q n) a = cel S a := by
  show (va_up (kd S) q 18 a, va_up (ln S) q n a, br_kind S a, br_row S a, bk_kind S a, bk_list S a, bk_row S a, bk_edges S a, bk_part S a, bk_eb S a, dr_kind S a, dr_list S a, ls_names S a, ls_values S a, ls_size S a, nm_bytes S a, rw_bits S a, rw_words S a, rw_ta S a, rw_tb S a, rw_la S a, rw_lb S a, rw_ones S a, wi_numbers S a, wi_size S a, nb_a S a, ta_a S a, tb_a S a, eb_a S a, wn_a S a, wd_a S a, va_up (vl_a S) q (fun _ => 0) a, nr_a S a) = _
  rw [va_up_ne _ _ h, va_up_ne _ _ h, va_up_ne _ _ h]; rfl
theorem Fr.a_vl_a {S0 S : PS} {A : Nat → Prop} {q n : Nat} (h : Fr S0 S A) (h0 : kd S q = 0) : Fr S0 (na_vl_a S q n) A := by
  have hq := h.new h0
  exact ⟨fun a ha => ⟨(va_up_ne _ _ (nq hq ha)).trans (h.1 a ha).1, (va_up_ne _ _ (nq hq ha)).trans (h.1 a ha).2⟩, fun a ha hn => (cn_vl_a (nq hq ha)).trans (h.2.1 a ha hn), h.2.2⟩
theorem cn_nr_a {S : PS} {q n a : Nat} (h : a ≠ q) : cel (na_nr_a S q n) a = cel S a := by
  show (va_up (kd S) q 19 a, va_up (ln S) q n a, br_kind S a, br_row S a, bk_kind S a, bk_list S a, bk_row S a, bk_edges S a, bk_part S a, bk_eb S a, dr_kind S a, dr_list S a, ls_names S a, ls_values S a, ls_size S a, nm_bytes S a, rw_bits S a, rw_words S a, rw_ta S a, rw_tb S a, rw_la S a, rw_lb S a, rw_ones S a, wi_numbers S a, wi_size S a, nb_a S a, ta_a S a, tb_a S a, eb_a S a, wn_a S a, wd_a S a, vl_a S a, va_up (nr_a S) q (fun _ => none) a) = _
  rw [va_up_ne _ _ h, va_up_ne _ _ h, va_up_ne _ _ h]; rfl
theorem Fr.a_nr_a {S0 S : PS} {A : Nat → Prop} {q n : Nat} (h : Fr S0 S A) (h0 : kd S q = 0) : Fr S0 (na_nr_a S q n) A := by
  have hq := h.new h0
  exact ⟨fun a ha => ⟨(va_up_ne _ _ (nq hq ha)).trans (h.1 a ha).1, (va_up_ne _ _ (nq hq ha)).trans (h.1 a ha).2⟩, fun a ha hn => (cn_nr_a (nq hq ha)).trans (h.2.1 a ha hn), h.2.2⟩
theorem kup {S : PS} {q u a k : Nat} (h0 : kd S q = 0) (ha : kd S a = k) (hk : k ≠ 0 := by decide) : va_up (kd S) q u a = k := (va_up_ne _ _ (fun e => hk (by rw [← ha, e, h0]))).trans ha
/-- a name, a listing, a row -/
def nameC (S : PS) (n : Nat) (bs : List Nat) : Prop := kd S n = 6 ∧ ∃ b, nm_bytes S n = some b ∧ kd S b = 12 ∧ ln S b = bs.length ∧ ∀ i, i < bs.length → nb_a S b i = nI (bs.getD i 0)
def entC (S : PS) (nr va k : Nat) (e : Ent) : Prop := ∃ n, nr_a S nr k = some n ∧ nameC S n e.1 ∧ okN e.1 ∧ vl_a S va k = e.2
def listC (S : PS) (a nr va room : Nat) (l : List Ent) : Prop := (kd S a = 5 ∧ ls_names S a = some nr ∧ ls_values S a = some va) ∧ (kd S nr = 19 ∧ ln S nr = room) ∧ (kd S va = 18 ∧ ln S va = room) ∧ ls_size S a = nI l.length ∧ l.length ≤ room ∧ room ≤ 100 ∧ ∀ k, k < l.length → entC S nr va k (ent l k)
theorem nameC.fr {S S' : PS} {A : Nat → Prop} {n : Nat} {bs : List Nat} (h : Fr S S' A) (hn : nameC S n bs) : nameC S' n bs := by
  obtain ⟨h1, b, h2, h3, h4, h5⟩ := hn
  have c1 := h.2.1 n (by rw [h1]; decide) (Or.inr (Or.inl h1))
  have c2 := h.2.1 b (by rw [h3]; decide) (Or.inr (Or.inr h3))
  exact ⟨(ce_kd c1).trans h1, b, (ce_nm_bytes c1).trans h2, (ce_kd c2).trans h3, (ce_ln c2).trans h4, fun i hi => by rw [ce_nb_a c2]; exact h5 i hi⟩
theorem entC.fr {S S' : PS} {A : Nat → Prop} {nr va k : Nat} {e : Ent} (h : Fr S S' A) (hn : entC S nr va k e) (h1 : nr_a S' nr k = nr_a S nr k) (h2 : vl_a S' va k = vl_a S va k) : entC S' nr va k e := by
  obtain ⟨n, a1, a2, a3, a4⟩ := hn
  exact ⟨n, h1.trans a1, a2.fr h, a3, h2.trans a4⟩
theorem listC.fr {S S' : PS} {A : Nat → Prop} {a nr va room : Nat} {l : List Ent} (h : Fr S S' A) (hl : listC S a nr va room l) (h1 : ¬ A a) (h2 : ¬ A nr) (h3 : ¬ A va) : listC S' a nr va room l := by
  obtain ⟨⟨a1, a2, a3⟩, ⟨b1, b2⟩, ⟨d1, d2⟩, e1, e2, e3, e4⟩ := hl
  have c1 := h.2.1 a (by rw [a1]; decide) (Or.inl h1)
  have c2 := h.2.1 nr (by rw [b1]; decide) (Or.inl h2)
  have c3 := h.2.1 va (by rw [d1]; decide) (Or.inl h3)
  exact ⟨⟨(ce_kd c1).trans a1, (ce_ls_names c1).trans a2, (ce_ls_values c1).trans a3⟩, ⟨(ce_kd c2).trans b1, (ce_ln c2).trans b2⟩, ⟨(ce_kd c3).trans d1, (ce_ln c3).trans d2⟩, (ce_ls_size c1).trans e1, e2, e3, fun k hk => (e4 k hk).fr h (by rw [ce_nr_a c2]) (by rw [ce_vl_a c3])⟩
