set_option maxRecDepth 100000 in
set_option maxHeartbeats 400000 in
theorem c_M_status {l : Launch} {G : Gx} {S : PS} {M : MoT} {x : Nat} (hx : MoOk S M x) {Z : ZT} (hR : RM M Z) (hZ : okZ Z) : Ct l yX11_status cX11_status 1 (Option.some Jvm.ClassFile.FieldType.int) rm_X11_status G [.ref x] (mo_ S M) (fun r S' => r = some (.int (zS Z)) ∧ S' = mo_ S M) := by
  refine Ct.mk RX11 "status" hy_X11_status (Nat.le_of_ble_eq_true rfl) (fun X hX C => ?_)
  change Go X G _ 1 0 0 (mo_ S M) 0 [(0, .ref x)] []
  refine g_aload_n 0 0 C dX11_status_0 rfl rfl ?_
  refine gf_m_status C dX11_status_1 hx.1 wF_X11_80 ?_
  refine g_topi (hR.2.2.2.1) ?_
  exact g_iret C dX11_status_4 (by decide) (by decide) (⟨rfl, rfl⟩)
set_option maxRecDepth 100000 in
set_option maxHeartbeats 400000 in
theorem c_M_witnessed {l : Launch} {G : Gx} {S : PS} {M : MoT} {x : Nat} (hx : MoOk S M x) {Z : ZT} (hR : RM M Z) (hZ : okZ Z) : Ct l yX11_witnessed cX11_witnessed 1 (Option.some Jvm.ClassFile.FieldType.int) rm_X11_witnessed G [.ref x] (mo_ S M) (fun r S' => r = some (.int (nI (zW Z).length)) ∧ S' = mo_ S M) := by
  refine Ct.mk RX11 "witnessed" hy_X11_witnessed (Nat.le_of_ble_eq_true rfl) (fun X hX C => ?_)
  change Go X G _ 1 0 0 (mo_ S M) 0 [(0, .ref x)] []
  refine g_aload_n 0 0 C dX11_witnessed_0 rfl rfl ?_
  refine gf_m_witnessed C dX11_witnessed_1 hx.1 wF_X11_89 ?_
  refine g_topi (hR.2.2.2.2.1) ?_
  exact g_iret C dX11_witnessed_4 (by decide) (by decide) (⟨rfl, rfl⟩)
def A_told (Z : ZT) (i : Int32) : Int32 := if inR i (zW Z).length then (zW Z).getD i.toNatClampNeg 0 else -2
def A_forge (Z : ZT) (i : Int32) : Int32 := if inR i (zW Z).length then (zW Z).getD i.toNatClampNeg 0 else -5
def N_forge (Z : ZT) (i v : Int32) : ZT := if inR i (zW Z).length then zW_ Z ((zW Z).set i.toNatClampNeg v) else Z
def A_cut (Z : ZT) (n : Int32) : Int32 := if inR n ((zT Z).length + 1) then n else -5
def N_cut (Z : ZT) (n : Int32) : ZT := if inR n ((zT Z).length + 1) then zT_ Z ((zT Z).take n.toNatClampNeg) else Z
def A_tape (Z : ZT) (i : Int32) : Int32 := if inR i (zT Z).length then nI ((zT Z).getD i.toNatClampNeg 0) else -1
theorem inR_big' {k : Int32} {n : Nat} (hn : n < 2 ^ 31) (h : ¬ k < nI n) : inR k n = false := inR_big hn (Int32.not_lt.mp h)
theorem inR_in' {k : Int32} {n : Nat} (hn : n < 2 ^ 31) (h0 : ¬ k < 0) (h : k < nI n) : inR k n = true := inR_in hn h0 (Int32.not_le.mpr h)
theorem inR_big1 {k : Int32} {n : Nat} (hn : n < 2 ^ 30) (h : ¬ k ≤ nI n) : inR k (n + 1) = false := by
  refine inR_big (by omega) ?_
  rw [Int32.le_iff_toInt_le, nI_toInt (by omega)] at h ⊢
  omega
theorem inR_in1 {k : Int32} {n : Nat} (hn : n < 2 ^ 30) (h0 : ¬ k < 0) (h : k ≤ nI n) : inR k (n + 1) = true := by
  refine inR_in (by omega) h0 ?_
  rw [Int32.le_iff_toInt_le, nI_toInt (by omega)] at h ⊢
  omega
theorem getD_set {α : Type} {l : List α} {i j : Nat} {v d : α} : (l.set i v).getD j d = if i = j ∧ j < l.length then v else l.getD j d := by
  rw [List.getD_eq_getElem?_getD, List.getD_eq_getElem?_getD, List.getElem?_set]
  by_cases h : i = j
  · subst h
    by_cases h2 : i < l.length
    · simp [h2]
    · simp [h2]
  · simp [h]
theorem getD_take {α : Type} {l : List α} {i j : Nat} {d : α} (h : j < i) : (l.take i).getD j d = l.getD j d := by
  rw [List.getD_eq_getElem?_getD, List.getD_eq_getElem?_getD, List.getElem?_take_of_lt h]
set_option maxRecDepth 100000 in
set_option maxHeartbeats 400000 in
theorem c_M_told {l : Launch} {G : Gx} {S : PS} {M : MoT} {x : Nat} (hx : MoOk S M x) {Z : ZT} (hR : RM M Z) (hZ : okZ Z) {i : Int32} : Ct l yX11_told cX11_told 2 (Option.some Jvm.ClassFile.FieldType.int) rm_X11_told G [.ref x, .int i] (mo_ S M) (fun r S' => r = some (.int (A_told Z i)) ∧ S' = mo_ S M) := by
  obtain ⟨q_witness, r_witness, k_witness⟩ := hx.2 19 (by decide)
  have hw := hZ.2.2.2
  refine Ct.mk RX11 "told" hy_X11_told (Nat.le_of_ble_eq_true rfl) (fun X hX C => ?_)
  change Go X G _ 2 0 0 (mo_ S M) 0 [(0, .ref x), (1, .int i)] []
  refine g_iload_n 1 1 C dX11_told_0 rfl rfl ?_
  refine g_if_lt 12 C dX11_told_1 (by decide) (fun c1 => ?_) (fun c1 => ?_)
  · have e := inR_neg (n := (zW Z).length) c1
    refine g_bipush (v := -2) C dX11_told_12 (by decide) ?_
    refine g_goto 23 C dX11_told_14 (by decide) ?_
    exact g_iret C dX11_told_23 (by decide) (by decide) (⟨by unfold A_told; rw [e]; rfl, rfl⟩)
  · refine g_iload_n 1 1 C dX11_told_4 rfl rfl ?_
    refine g_aload_n 0 0 C dX11_told_5 rfl rfl ?_
    refine gf_m_witnessed C dX11_told_6 hx.1 wF_X11_89 ?_
    refine g_topi (hR.2.2.2.2.1) ?_
    refine g_icmp_lt 17 C dX11_told_9 (by decide) (fun c9 => ?_) (fun c9 => ?_)
    · have ei := inR_in' (n := (zW Z).length) (by omega) c1 c9
      obtain ⟨i1, hi1, rfl⟩ := inR_spec ei (by omega)
      refine g_aload_n 0 0 C dX11_told_17 rfl rfl ?_
      refine gr_m_witness C dX11_told_18 hx.1 wF_X11_83 r_witness ?_
      refine g_iload_n 1 1 C dX11_told_21 rfl rfl ?_
      refine ga_m_witness C dX11_told_22 k_witness (by omega) ?_
      refine g_topi (hR.2.2.2.2.2 _ (by omega)) ?_
      exact g_iret C dX11_told_23 (by decide) (by decide) (⟨by unfold A_told; rw [ei, nI_clamp (by omega)]; rfl, rfl⟩)
    · have e := inR_big' (n := (zW Z).length) (by omega) c9
      refine g_bipush (v := -2) C dX11_told_12 (by decide) ?_
      refine g_goto 23 C dX11_told_14 (by decide) ?_
      exact g_iret C dX11_told_23 (by decide) (by decide) (⟨by unfold A_told; rw [e]; rfl, rfl⟩)
set_option maxRecDepth 100000 in
set_option maxHeartbeats 400000 in
theorem c_M_forge {l : Launch} {G : Gx} {S : PS} {M : MoT} {x : Nat} (hx : MoOk S M x) {Z : ZT} (hR : RM M Z) (hZ : okZ Z) {i v : Int32} : Ct l yX11_forge cX11_forge 4 (Option.some Jvm.ClassFile.FieldType.int) rm_X11_forge G [.ref x, .int i, .int v] (mo_ S M) (fun r S' => ∃ M', r = some (.int (A_forge Z i)) ∧ S' = mo_ S M' ∧ mo_r M' = mo_r M ∧ RM M' (N_forge Z i v)) := by
  obtain ⟨q_witness, r_witness, k_witness⟩ := hx.2 19 (by decide)
  have hw := hZ.2.2.2
  refine Ct.mk RX11 "forge" hy_X11_forge (Nat.le_of_ble_eq_true rfl) (fun X hX C => ?_)
  change Go X G _ 4 0 0 (mo_ S M) 0 [(0, .ref x), (1, .int i), (2, .int v)] []
  refine g_iload_n 1 1 C dX11_forge_0 rfl rfl ?_
  refine g_if_lt 12 C dX11_forge_1 (by decide) (fun c1 => ?_) (fun c1 => ?_)
  · have e := inR_neg (n := (zW Z).length) c1
    refine g_bipush (v := -5) C dX11_forge_12 (by decide) ?_
    exact g_iret C dX11_forge_14 (by decide) (by decide) (⟨M, by unfold A_forge; rw [e]; rfl, rfl, rfl, by unfold N_forge; rw [e]; exact hR⟩)
  · refine g_iload_n 1 1 C dX11_forge_4 rfl rfl ?_
    refine g_aload_n 0 0 C dX11_forge_5 rfl rfl ?_
    refine gf_m_witnessed C dX11_forge_6 hx.1 wF_X11_89 ?_
    refine g_topi (hR.2.2.2.2.1) ?_
    refine g_icmp_lt 15 C dX11_forge_9 (by decide) (fun c9 => ?_) (fun c9 => ?_)
    · have ei := inR_in' (n := (zW Z).length) (by omega) c1 c9
      obtain ⟨i1, hi1, rfl⟩ := inR_spec ei (by omega)
      refine g_aload_n 0 0 C dX11_forge_15 rfl rfl ?_
      refine gr_m_witness C dX11_forge_16 hx.1 wF_X11_83 r_witness ?_
      refine g_iload_n 1 1 C dX11_forge_19 rfl rfl ?_
      refine ga_m_witness C dX11_forge_20 k_witness (by omega) ?_
      refine g_topi (hR.2.2.2.2.2 _ (by omega)) ?_
      refine g_istore_n (lv' := [(3, .int ((zW Z).getD i1 0)), (0, .ref x), (1, .int (nI i1)), (2, .int v)]) C dX11_forge_21 rfl (by decide) rfl ?_
      refine g_aload_n 1 0 C dX11_forge_22 rfl rfl ?_
      refine gr_m_witness C dX11_forge_23 hx.1 wF_X11_83 r_witness ?_
      refine g_iload_n 2 1 C dX11_forge_26 rfl rfl ?_
      refine g_iload_n 3 2 C dX11_forge_27 rfl rfl ?_
      refine gs_m_witness C dX11_forge_28 k_witness (by omega) ?_
      refine g_iload_n 0 3 C dX11_forge_29 rfl rfl ?_
      exact g_iret C dX11_forge_30 (by decide) (by decide) (⟨_, by unfold A_forge; rw [ei, nI_clamp (by omega)]; rfl, rfl, rfl, by
        unfold N_forge; rw [ei, nI_clamp (by omega)]
        refine ⟨hR.1, hR.2.1, hR.2.2.1, hR.2.2.2.1, by show m_witnessed M = nI ((zW Z).set i1 v).length; rw [List.length_set]; exact hR.2.2.2.2.1, fun q hq => ?_⟩
        show upd (m_witness M) i1 v q = ((zW Z).set i1 v).getD q 0
        have hq : q < ((zW Z).set i1 v).length := hq
        rw [List.length_set] at hq
        rw [getD_set]
        by_cases h : i1 = q
        · subst h; simp [upd, hq]
        · rw [if_neg (fun z => h z.1)]; simp only [upd, if_neg (Ne.symm h)]; exact hR.2.2.2.2.2 q hq⟩)
    · have e := inR_big' (n := (zW Z).length) (by omega) c9
      refine g_bipush (v := -5) C dX11_forge_12 (by decide) ?_
      exact g_iret C dX11_forge_14 (by decide) (by decide) (⟨M, by unfold A_forge; rw [e]; rfl, rfl, rfl, by unfold N_forge; rw [e]; exact hR⟩)
set_option maxRecDepth 100000 in
set_option maxHeartbeats 400000 in
theorem c_M_tape {l : Launch} {G : Gx} {S : PS} {M : MoT} {x : Nat} (hx : MoOk S M x) {Z : ZT} (hR : RM M Z) (hZ : okZ Z) {i : Int32} : Ct l yX11_tape cX11_tape 2 (Option.some Jvm.ClassFile.FieldType.int) rm_X11_tape G [.ref x, .int i] (mo_ S M) (fun r S' => r = some (.int (A_tape Z i)) ∧ S' = mo_ S M) := by
  obtain ⟨q_tape, r_tape, k_tape⟩ := hx.2 0 (by decide)
  have hw := hZ.1.1
  refine Ct.mk RX11 "tape" hy_X11_tape (Nat.le_of_ble_eq_true rfl) (fun X hX C => ?_)
  change Go X G _ 2 0 0 (mo_ S M) 0 [(0, .ref x), (1, .int i)] []
  refine g_iload_n 1 1 C dX11_tape_0 rfl rfl ?_
  refine g_if_lt 12 C dX11_tape_1 (by decide) (fun c1 => ?_) (fun c1 => ?_)
  · have e := inR_neg (n := (zT Z).length) c1
    refine g_iconst (v := -1) C dX11_tape_12 (by decide) ?_
    refine g_goto 22 C dX11_tape_13 (by decide) ?_
    exact g_iret C dX11_tape_22 (by decide) (by decide) (⟨by unfold A_tape; rw [e]; rfl, rfl⟩)
  · refine g_iload_n 1 1 C dX11_tape_4 rfl rfl ?_
    refine g_aload_n 0 0 C dX11_tape_5 rfl rfl ?_
    refine gf_m_taped C dX11_tape_6 hx.1 wF_X11_13 ?_
    refine g_topi (hR.1.1) ?_
    refine g_icmp_lt 16 C dX11_tape_9 (by decide) (fun c9 => ?_) (fun c9 => ?_)
    · have ei := inR_in' (n := (zT Z).length) (by omega) c1 c9
      obtain ⟨i1, hi1, rfl⟩ := inR_spec ei (by omega)
      refine g_aload_n 0 0 C dX11_tape_16 rfl rfl ?_
      refine gr_m_tape C dX11_tape_17 hx.1 wF_X11_7 r_tape ?_
      refine g_iload_n 1 1 C dX11_tape_20 rfl rfl ?_
      refine ga_m_tape C dX11_tape_21 k_tape (by omega) ?_
      refine g_topi (hR.1.2 _ (by omega)) ?_
      exact g_iret C dX11_tape_22 (by decide) (by decide) (⟨by unfold A_tape; rw [ei, nI_clamp (by omega)]; rfl, rfl⟩)
    · have e := inR_big' (n := (zT Z).length) (by omega) c9
      refine g_iconst (v := -1) C dX11_tape_12 (by decide) ?_
      refine g_goto 22 C dX11_tape_13 (by decide) ?_
      exact g_iret C dX11_tape_22 (by decide) (by decide) (⟨by unfold A_tape; rw [e]; rfl, rfl⟩)
set_option maxRecDepth 100000 in
set_option maxHeartbeats 400000 in
theorem c_M_cut {l : Launch} {G : Gx} {S : PS} {M : MoT} {x : Nat} (hx : MoOk S M x) {Z : ZT} (hR : RM M Z) (hZ : okZ Z) {n : Int32} : Ct l yX11_cut cX11_cut 2 (Option.some Jvm.ClassFile.FieldType.int) rm_X11_cut G [.ref x, .int n] (mo_ S M) (fun r S' => ∃ M', r = some (.int (A_cut Z n)) ∧ S' = mo_ S M' ∧ mo_r M' = mo_r M ∧ RM M' (N_cut Z n)) := by
  have hw := hZ.1.1
  refine Ct.mk RX11 "cut" hy_X11_cut (Nat.le_of_ble_eq_true rfl) (fun X hX C => ?_)
  change Go X G _ 2 0 0 (mo_ S M) 0 [(0, .ref x), (1, .int n)] []
  refine g_iload_n 1 1 C dX11_cut_0 rfl rfl ?_
  refine g_if_lt 12 C dX11_cut_1 (by decide) (fun c1 => ?_) (fun c1 => ?_)
  · have e := inR_neg (n := (zT Z).length + 1) c1
    refine g_bipush (v := -5) C dX11_cut_12 (by decide) ?_
    exact g_iret C dX11_cut_14 (by decide) (by decide) (⟨M, by unfold A_cut; rw [e]; rfl, rfl, rfl, by unfold N_cut; rw [e]; exact hR⟩)
  · refine g_iload_n 1 1 C dX11_cut_4 rfl rfl ?_
    refine g_aload_n 0 0 C dX11_cut_5 rfl rfl ?_
    refine gf_m_taped C dX11_cut_6 hx.1 wF_X11_13 ?_
    refine g_topi (hR.1.1) ?_
    refine g_icmp_le 15 C dX11_cut_9 (by decide) (fun c9 => ?_) (fun c9 => ?_)
    · have en := inR_in1 (n := (zT Z).length) (by omega) c1 c9
      obtain ⟨i1, hi1, rfl⟩ := inR_spec en (by omega)
      refine g_aload_n 0 0 C dX11_cut_15 rfl rfl ?_
      refine g_iload_n 1 1 C dX11_cut_16 rfl rfl ?_
      refine pp_m_taped C dX11_cut_17 hx.1 wF_X11_13 (Or.inl rfl) ?_
      refine g_iload_n 1 1 C dX11_cut_20 rfl rfl ?_
      exact g_iret C dX11_cut_21 (by decide) (by decide) (⟨_, by unfold A_cut; rw [en]; rfl, rfl, rfl, by
        unfold N_cut; rw [en, nI_clamp (by omega)]
        refine ⟨⟨by show nI i1 = nI ((zT Z).take i1).length; rw [List.length_take, Nat.min_eq_left (by omega)], fun q hq => ?_⟩, hR.2.1, hR.2.2.1, hR.2.2.2⟩
        have hq : q < ((zT Z).take i1).length := hq
        rw [List.length_take] at hq
        show m_tape M q = nI (((zT Z).take i1).getD q 0)
        rw [getD_take (by omega)]; exact hR.1.2 q (by omega)⟩)
    · have e := inR_big1 (n := (zT Z).length) (by omega) c9
      refine g_bipush (v := -5) C dX11_cut_12 (by decide) ?_
      exact g_iret C dX11_cut_14 (by decide) (by decide) (⟨M, by unfold A_cut; rw [e]; rfl, rfl, rfl, by unfold N_cut; rw [e]; exact hR⟩)
def A_count (Z : ZT) (p : Int32) : Int32 := match look Z p with
  | .inl e => e
  | .inr t => if tK (zH Z t) = 7 then nI (tB (zH Z t)).length else nI (tL (zH Z t)).length
set_option maxRecDepth 100000 in
set_option maxHeartbeats 400000 in
theorem c_M_count_out {l : Launch} {G : Gx} {S : PS} {M : MoT} {x : Nat} (hx : MoOk S M x) {Z : ZT} (hR : RM M Z) (hZ : okZ Z) {p : Int32} (hp : p < 0 ∨ nI 10 ≤ p)  : Ct l yX11_count cX11_count 2 (Option.some Jvm.ClassFile.FieldType.int) rm_X11_count G [.ref x, .int p] (mo_ S M) (fun r S' => r = some (.int (A_count Z p)) ∧ S' = mo_ S M) := by
  obtain ⟨q_place, r_place, k_place⟩ := hx.2 1 (by decide)
  obtain ⟨q_sort, r_sort, k_sort⟩ := hx.2 2 (by decide)
  obtain ⟨q_bits, r_bits, k_bits⟩ := hx.2 4 (by decide)
  obtain ⟨q_many, r_many, k_many⟩ := hx.2 3 (by decide)
  have e_ : A_count Z p = -2 := by unfold A_count; rw [look_out hp]; try rfl
  refine Ct.mk RX11 "count" hy_X11_count (Nat.le_of_ble_eq_true rfl) (fun X hX C => ?_)
  change Go X G _ 2 0 0 (mo_ S M) 0 [(0, .ref x), (1, .int p)] []
  refine g_aload_n 0 0 C dX11_count_0 rfl rfl ?_
  refine g_iload_n 1 1 C dX11_count_1 rfl rfl ?_
  refine g_callV (As := [.int p]) (rest := []) C dX11_count_2 (c_M_isPlace_out hp) wC_X11_isPlace wM_X11_97 wI_X11_isPlace wS_X11_isPlace wN_X11 (kne hx.1) (pf_11 hx.1) rfl hd_X11_isPlace ⟨by decide, by decide, by decide, by decide⟩ (Nat.le_of_ble_eq_true rfl) (fun r_ S_ h_ => ?_)
  obtain ⟨rfl, rfl⟩ := h_
  change Go X G _ 2 _ _ (mo_ S M) 5 [(0, .ref x), (1, .int p)] [.int (nI 0)]
  refine g_nif_ne 11 (by decide) C dX11_count_5 (by decide) (fun c => absurd c (by decide)) (fun _ => ?_)
  refine g_bipush (v := -2) C dX11_count_8 (by decide) ?_
  exact g_iret C dX11_count_10 (by decide) (by decide) (⟨by rw [e_]; try rfl, rfl⟩)
set_option maxRecDepth 100000 in
set_option maxHeartbeats 400000 in
theorem c_M_count_no {l : Launch} {G : Gx} {S : PS} {M : MoT} {x : Nat} (hx : MoOk S M x) {Z : ZT} (hR : RM M Z) (hZ : okZ Z) {j : Nat} (hj : j < 10) (hp : zP Z j = 0)  : Ct l yX11_count cX11_count 2 (Option.some Jvm.ClassFile.FieldType.int) rm_X11_count G [.ref x, .int (nI j)] (mo_ S M) (fun r S' => r = some (.int (A_count Z (nI j))) ∧ S' = mo_ S M) := by
  obtain ⟨q_place, r_place, k_place⟩ := hx.2 1 (by decide)
  obtain ⟨q_sort, r_sort, k_sort⟩ := hx.2 2 (by decide)
  obtain ⟨q_bits, r_bits, k_bits⟩ := hx.2 4 (by decide)
  obtain ⟨q_many, r_many, k_many⟩ := hx.2 3 (by decide)
  have e_ : A_count Z (nI j) = -3 := by unfold A_count; rw [look_no hj hp]; try rfl
  refine Ct.mk RX11 "count" hy_X11_count (Nat.le_of_ble_eq_true rfl) (fun X hX C => ?_)
  change Go X G _ 2 0 0 (mo_ S M) 0 [(0, .ref x), (1, .int (nI j))] []
  refine g_aload_n 0 0 C dX11_count_0 rfl rfl ?_
  refine g_iload_n 1 1 C dX11_count_1 rfl rfl ?_
  refine g_callV (As := [.int (nI j)]) (rest := []) C dX11_count_2 (c_M_isPlace_in hj) wC_X11_isPlace wM_X11_97 wI_X11_isPlace wS_X11_isPlace wN_X11 (kne hx.1) (pf_11 hx.1) rfl hd_X11_isPlace ⟨by decide, by decide, by decide, by decide⟩ (Nat.le_of_ble_eq_true rfl) (fun r_ S_ h_ => ?_)
  obtain ⟨rfl, rfl⟩ := h_
  change Go X G _ 2 _ _ (mo_ S M) 5 [(0, .ref x), (1, .int (nI j))] [.int (nI 1)]
  refine g_nif_ne 11 (by decide) C dX11_count_5 (by decide) (fun _ => ?_) (fun c => absurd c (by decide))
  refine g_aload_n 0 0 C dX11_count_11 rfl rfl ?_
  refine gr_m_place C dX11_count_12 hx.1 wF_X11_17 r_place ?_
  refine g_iload_n 1 1 C dX11_count_15 rfl rfl ?_
  refine ga_m_place C dX11_count_16 k_place (by omega) ?_
  refine g_topi (((hR.2.1 j hj).trans (by rw [hp]))) ?_
  refine g_nif_ne 23 (by decide) C dX11_count_17 (by decide) (fun c => absurd c (by decide)) (fun _ => ?_)
  refine g_bipush (v := -3) C dX11_count_20 (by decide) ?_
  exact g_iret C dX11_count_22 (by decide) (by decide) (⟨by rw [e_]; try rfl, rfl⟩)
set_option maxRecDepth 100000 in
set_option maxHeartbeats 400000 in
theorem c_M_count_at {l : Launch} {G : Gx} {S : PS} {M : MoT} {x : Nat} (hx : MoOk S M x) {Z : ZT} (hR : RM M Z) (hZ : okZ Z) {j t : Nat} (hj : j < 10) (hp : zP Z j = t + 1)  : Ct l yX11_count cX11_count 2 (Option.some Jvm.ClassFile.FieldType.int) rm_X11_count G [.ref x, .int (nI j)] (mo_ S M) (fun r S' => r = some (.int (A_count Z (nI j))) ∧ S' = mo_ S M) := by
  obtain ⟨q_place, r_place, k_place⟩ := hx.2 1 (by decide)
  obtain ⟨q_sort, r_sort, k_sort⟩ := hx.2 2 (by decide)
  obtain ⟨q_bits, r_bits, k_bits⟩ := hx.2 4 (by decide)
  obtain ⟨q_many, r_many, k_many⟩ := hx.2 3 (by decide)
  have hT := hR.th hj hp
  obtain ⟨hO, ht⟩ := hZ.th hj hp
  have hk1 := hO.1
  have hk2 := hO.2.1
  refine Ct.mk RX11 "count" hy_X11_count (Nat.le_of_ble_eq_true rfl) (fun X hX C => ?_)
  change Go X G _ 2 0 0 (mo_ S M) 0 [(0, .ref x), (1, .int (nI j))] []
  refine g_aload_n 0 0 C dX11_count_0 rfl rfl ?_
  refine g_iload_n 1 1 C dX11_count_1 rfl rfl ?_
  refine g_callV (As := [.int (nI j)]) (rest := []) C dX11_count_2 (c_M_isPlace_in hj) wC_X11_isPlace wM_X11_97 wI_X11_isPlace wS_X11_isPlace wN_X11 (kne hx.1) (pf_11 hx.1) rfl hd_X11_isPlace ⟨by decide, by decide, by decide, by decide⟩ (Nat.le_of_ble_eq_true rfl) (fun r_ S_ h_ => ?_)
  obtain ⟨rfl, rfl⟩ := h_
  change Go X G _ 2 _ _ (mo_ S M) 5 [(0, .ref x), (1, .int (nI j))] [.int (nI 1)]
  refine g_nif_ne 11 (by decide) C dX11_count_5 (by decide) (fun _ => ?_) (fun c => absurd c (by decide))
  refine g_aload_n 0 0 C dX11_count_11 rfl rfl ?_
  refine gr_m_place C dX11_count_12 hx.1 wF_X11_17 r_place ?_
  refine g_iload_n 1 1 C dX11_count_15 rfl rfl ?_
  refine ga_m_place C dX11_count_16 k_place (by omega) ?_
  refine g_topi (((hR.2.1 j hj).trans (by rw [hp]))) ?_
  refine g_nif_ne 23 (by omega) C dX11_count_17 (by decide) (fun _ => ?_) (fun c => absurd c (by omega))
  refine g_aload_n 0 0 C dX11_count_23 rfl rfl ?_
  refine gr_m_sort C dX11_count_24 hx.1 wF_X11_20 r_sort ?_
  refine g_aload_n 0 0 C dX11_count_27 rfl rfl ?_
  refine g_iload_n 1 1 C dX11_count_28 rfl rfl ?_
  refine g_callV (As := [.int (nI j)]) (rest := [.ref q_sort]) C dX11_count_29 (c_M_at hx hj ((hR.2.1 j hj).trans (by rw [hp]))) wC_X11_at wM_X11_108 wI_X11_at wS_X11_at wN_X11 (kne hx.1) (pf_11 hx.1) rfl hd_X11_at ⟨by decide, by decide, by decide, by decide⟩ (Nat.le_of_ble_eq_true rfl) (fun r_ S_ h_ => ?_)
  obtain ⟨rfl, rfl⟩ := h_
  change Go X G _ 2 _ _ (mo_ S M) 32 [(0, .ref x), (1, .int (nI j))] [.int (nI t), .ref q_sort]
  refine ga_m_sort C dX11_count_32 k_sort (by omega) ?_
  refine g_topi (hT.1) ?_
  refine g_bipush (v := nI 7) C dX11_count_33 (by decide) ?_
  refine g_ncmp_ne 51 (by omega) (by omega) C dX11_count_35 (by decide) (fun c35 => ?_) (fun c35 => ?_)
  · refine g_aload_n 0 0 C dX11_count_51 rfl rfl ?_
    refine gr_m_many C dX11_count_52 hx.1 wF_X11_23 r_many ?_
    refine g_aload_n 0 0 C dX11_count_55 rfl rfl ?_
    refine g_iload_n 1 1 C dX11_count_56 rfl rfl ?_
    refine g_callV (As := [.int (nI j)]) (rest := [.ref q_many]) C dX11_count_57 (c_M_at hx hj ((hR.2.1 j hj).trans (by rw [hp]))) wC_X11_at wM_X11_108 wI_X11_at wS_X11_at wN_X11 (kne hx.1) (pf_11 hx.1) rfl hd_X11_at ⟨by decide, by decide, by decide, by decide⟩ (Nat.le_of_ble_eq_true rfl) (fun r_ S_ h_ => ?_)
    obtain ⟨rfl, rfl⟩ := h_
    change Go X G _ 2 _ _ (mo_ S M) 60 [(0, .ref x), (1, .int (nI j))] [.int (nI t), .ref q_many]
    refine ga_m_many C dX11_count_60 k_many (by omega) ?_
    refine g_topi (hT.2.1.2.1) ?_
    exact g_iret C dX11_count_61 (by decide) (by decide) (⟨by unfold A_count; rw [look_at hj hp]; simp only []; rw [if_neg c35], rfl⟩)
  · refine g_aload_n 0 0 C dX11_count_38 rfl rfl ?_
    refine gr_m_bits C dX11_count_39 hx.1 wF_X11_26 r_bits ?_
    refine g_aload_n 0 0 C dX11_count_42 rfl rfl ?_
    refine g_iload_n 1 1 C dX11_count_43 rfl rfl ?_
    refine g_callV (As := [.int (nI j)]) (rest := [.ref q_bits]) C dX11_count_44 (c_M_at hx hj ((hR.2.1 j hj).trans (by rw [hp]))) wC_X11_at wM_X11_108 wI_X11_at wS_X11_at wN_X11 (kne hx.1) (pf_11 hx.1) rfl hd_X11_at ⟨by decide, by decide, by decide, by decide⟩ (Nat.le_of_ble_eq_true rfl) (fun r_ S_ h_ => ?_)
    obtain ⟨rfl, rfl⟩ := h_
    change Go X G _ 2 _ _ (mo_ S M) 47 [(0, .ref x), (1, .int (nI j))] [.int (nI t), .ref q_bits]
    refine ga_m_bits C dX11_count_47 k_bits (by omega) ?_
    refine g_topi (hT.2.2.1) ?_
    refine g_goto 61 C dX11_count_48 (by decide) ?_
    exact g_iret C dX11_count_61 (by decide) (by decide) (⟨by unfold A_count; rw [look_at hj hp]; simp only []; rw [if_pos c35], rfl⟩)
theorem c_M_count {l : Launch} {G : Gx} {S : PS} {M : MoT} {x : Nat} (hx : MoOk S M x) {Z : ZT} (hR : RM M Z) (hZ : okZ Z) {p : Int32}  : Ct l yX11_count cX11_count 2 (Option.some Jvm.ClassFile.FieldType.int) rm_X11_count G [.ref x, .int p] (mo_ S M) (fun r S' => r = some (.int (A_count Z p)) ∧ S' = mo_ S M) := by
  rcases look_cases Z p with h | ⟨j, hj, rfl, h | ⟨t, h⟩⟩
  · exact c_M_count_out hx hR hZ h
  · exact c_M_count_no hx hR hZ hj h
  · exact c_M_count_at hx hR hZ hj h
def onesN (b : List Nat) (i : Nat) : Nat := sumN (fun k => b.getD k 0) i
theorem onesN_le {b : List Nat} (h : ∀ i, i < b.length → b.getD i 0 ≤ 1) : ∀ i, onesN b i ≤ i := by
  intro i
  induction i with
  | zero => exact Nat.le_refl _
  | succ n ih =>
    show onesN b n + b.getD n 0 ≤ n + 1
    have : b.getD n 0 ≤ 1 := by
      by_cases hn : n < b.length
      · exact h n hn
      · rw [List.getD_eq_getElem?_getD, List.getElem?_eq_none (by omega)]; decide
    omega
set_option maxRecDepth 100000 in
set_option maxHeartbeats 400000 in
theorem c_M_ones {l : Launch} {G : Gx} {S : PS} {M : MoT} {x : Nat} (hx : MoOk S M x) {t i : Nat} {b : List Nat} (ht : t < 12) (hb : ∀ i, i < b.length → m_row M (4900 * t + i) = nI (b.getD i 0)) (hl : b.length ≤ 4802) (h01 : ∀ i, i < b.length → b.getD i 0 ≤ 1) (hib : i ≤ b.length) : Ct l yX11_ones cX11_ones 5 (Option.some Jvm.ClassFile.FieldType.int) rm_X11_ones G [.ref x, .int (nI t), .int (nI i)] (mo_ S M) (fun r S' => r = some (.int (nI (onesN b i))) ∧ S' = mo_ S M) := by
  obtain ⟨q_row, r_row, k_row⟩ := hx.2 9 (by decide)
  refine Ct.mk RX11 "ones" hy_X11_ones (Nat.le_of_ble_eq_true rfl) (fun X hX C => ?_)
  change Go X G _ 5 0 0 (mo_ S M) 0 [(0, .ref x), (1, .int (nI t)), (2, .int (nI i))] []
  refine g_iconst (v := nI 0) C dX11_ones_0 (by decide) ?_
  refine g_istore_n (lv' := [(3, .int (nI 0)), (0, .ref x), (1, .int (nI t)), (2, .int (nI i))]) C dX11_ones_1 rfl (by decide) rfl ?_
  refine g_iconst (v := nI 0) C dX11_ones_2 (by decide) ?_
  refine g_istore (lv' := [(4, .int (nI 0)), (3, .int (nI 0)), (0, .ref x), (1, .int (nI t)), (2, .int (nI i))]) C dX11_ones_3 (by decide) rfl ?_
  have lp : ∀ (n_ : Nat) (k : Nat), i - k < n_ → (k ≤ i) → Go X G (Qe X G (fun r S' => r = some (.int (nI (onesN b i))) ∧ S' = mo_ S M) rm_X11_ones.cells rm_X11_ones.slots) 5 0 0 (mo_ S M) 5 [(4, .int (nI k)), (3, .int (nI (onesN b k))), (0, .ref x), (1, .int (nI t)), (2, .int (nI i))] [] := by
    intro n_
    induction n_ with
    | zero => intro k hm_; exact absurd hm_ (Nat.not_lt_zero _)
    | succ n_ ih_ =>
      intro k hm_ hi
      have h9 := onesN_le h01 k
      have hkb := h01
      refine g_iload 0 C dX11_ones_5 rfl ?_
      refine g_iload_n 4 2 C dX11_ones_7 rfl rfl ?_
      refine g_ncmp_ge 33 (by omega) (by omega) C dX11_ones_8 (by decide) (fun c8 => ?_) (fun c8 => ?_)
      · refine g_iload_n 1 3 C dX11_ones_33 rfl rfl ?_
        exact g_iret C dX11_ones_34 (by decide) (by decide) (⟨by rw [show k = i by omega], rfl⟩)
      · refine g_iload_n 1 3 C dX11_ones_11 rfl rfl ?_
        refine g_aload_n 2 0 C dX11_ones_12 rfl rfl ?_
        refine gr_m_row C dX11_ones_13 hx.1 wF_X11_43 r_row ?_
        refine g_sipush (v := nI 4900) C dX11_ones_16 (by decide) ?_
        refine g_iload_n 3 1 C dX11_ones_19 rfl rfl ?_
        refine g_imul C dX11_ones_20 ?_
        refine g_topi (pk_mul _ _ : _ = nI (4900 * t)) ?_
        refine g_iload 0 C dX11_ones_21 rfl ?_
        refine g_iadd C dX11_ones_23 ?_
        refine g_topi (nI_add _ _ : _ = nI (4900 * t + k)) ?_
        refine ga_m_row C dX11_ones_24 k_row (by omega) ?_
        refine g_topi (hb k (by omega)) ?_
        refine g_iadd C dX11_ones_25 ?_
        refine g_topi (nI_add _ _ : _ = nI (onesN b k + (b.getD k 0))) ?_
        refine g_istore_n (lv' := [(3, .int (nI (onesN b k + (b.getD k 0)))), (4, .int (nI k)), (0, .ref x), (1, .int (nI t)), (2, .int (nI i))]) C dX11_ones_26 rfl (by decide) rfl ?_
        refine g_iinc (v := nI (k + 1)) (lv' := [(4, .int (nI (k + 1))), (3, .int (nI (onesN b k + (b.getD k 0)))), (0, .ref x), (1, .int (nI t)), (2, .int (nI i))]) 1 C dX11_ones_27 rfl (nI_add _ 1) (by decide) rfl ?_
        refine g_goto 5 C dX11_ones_30 (by decide) ?_
        exact ih_ (k + 1) (by omega) (by omega)
  exact lp (i + 1) 0 (by omega) (Nat.zero_le _)
def A_rank (Z : ZT) (p i : Int32) : Int32 := match rowedE Z p with
  | .inl e => e
  | .inr t => if inR i ((tB (zH Z t)).length + 1) then (if missT (zH Z t) then -6 else nI (onesN (tB (zH Z t)) i.toNatClampNeg)) else -5
def A_bit (Z : ZT) (p i : Int32) : Int32 := match rowedE Z p with
  | .inl e => e
  | .inr t => if inR i (tB (zH Z t)).length then nI ((tB (zH Z t)).getD i.toNatClampNeg 0) else -5
set_option maxRecDepth 100000 in
set_option maxHeartbeats 400000 in
theorem c_M_rank_err {l : Launch} {G : Gx} {S : PS} {M : MoT} {x : Nat} (hx : MoOk S M x) {Z : ZT} (hR : RM M Z) (hZ : okZ Z) {p e : Int32} (he : rowedE Z p = .inl e) (hneg : e < 0) {i : Int32} : Ct l yX11_rank cX11_rank 5 (Option.some Jvm.ClassFile.FieldType.int) rm_X11_rank G [.ref x, .int p, .int i] (mo_ S M) (fun r S' => ∃ M', r = some (.int (A_rank Z p i)) ∧ S' = mo_ S M' ∧ mo_r M' = mo_r M ∧ RM M' (Z)) := by
  obtain ⟨q_bits, r_bits, k_bits⟩ := hx.2 4 (by decide)
  refine Ct.mk RX11 "rank" hy_X11_rank (Nat.le_of_ble_eq_true rfl) (fun X hX C => ?_)
  change Go X G _ 5 0 0 (mo_ S M) 0 [(0, .ref x), (1, .int p), (2, .int i)] []
  refine g_aload_n 0 0 C dX11_rank_0 rfl rfl ?_
  refine g_iload_n 1 1 C dX11_rank_1 rfl rfl ?_
  refine g_callV (As := [.int p]) (rest := []) C dX11_rank_2 (c_M_rowed hx hR hZ) wC_X11_rowed wM_X11_205 wI_X11_rowed wS_X11_rowed wN_X11 (kne hx.1) (pf_11 hx.1) rfl hd_X11_rowed ⟨by decide, by decide, by decide, by decide⟩ (Nat.le_of_ble_eq_true rfl) (fun r_ S_ h_ => ?_)
  obtain ⟨rfl, rfl⟩ := h_
  change Go X G _ 5 _ _ (mo_ S M) 5 [(0, .ref x), (1, .int p), (2, .int i)] [.int (errI (rowedE Z p))]
  refine g_topi (show errI (rowedE Z p) = e by rw [he]; rfl) ?_
  refine g_istore_n (lv' := [(3, .int e), (0, .ref x), (1, .int p), (2, .int i)]) C dX11_rank_5 rfl (by decide) rfl ?_
  refine g_iload_n 0 3 C dX11_rank_6 rfl rfl ?_
  refine g_if_ge 12 C dX11_rank_7 (by decide) (fun c7 => ?_) (fun c7 => ?_)
  · exact absurd c7 (Int32.not_le.mpr hneg)
  · refine g_iload_n 0 3 C dX11_rank_10 rfl rfl ?_
    exact g_iret C dX11_rank_11 (by decide) (by decide) (⟨M, by unfold A_rank; rw [he], rfl, rfl, hR⟩)
set_option maxRecDepth 100000 in
set_option maxHeartbeats 400000 in
theorem c_M_rank_ok {l : Launch} {G : Gx} {S : PS} {M : MoT} {x : Nat} (hx : MoOk S M x) {Z : ZT} (hR : RM M Z) (hZ : okZ Z) {j t : Nat} (hj : j < 10) (hp : zP Z j = t + 1) (he : rowedE Z (nI j) = .inr t) {i : Int32} : Ct l yX11_rank cX11_rank 5 (Option.some Jvm.ClassFile.FieldType.int) rm_X11_rank G [.ref x, .int (nI j), .int i] (mo_ S M) (fun r S' => ∃ M', r = some (.int (A_rank Z (nI j) i)) ∧ S' = mo_ S M' ∧ mo_r M' = mo_r M ∧ RM M' (Z)) := by
  obtain ⟨q_bits, r_bits, k_bits⟩ := hx.2 4 (by decide)
  obtain ⟨hO, ht⟩ := hZ.th hj hp
  have hT := hR.th hj hp
  have hpl : m_place M j = nI (t + 1) := (hR.2.1 j hj).trans (by rw [hp])
  have hn1 := hT.2.1
  have hn2 := hn1.1
  have hb2 := hO.2.2.2.1
  refine Ct.mk RX11 "rank" hy_X11_rank (Nat.le_of_ble_eq_true rfl) (fun X hX C => ?_)
  change Go X G _ 5 0 0 (mo_ S M) 0 [(0, .ref x), (1, .int (nI j)), (2, .int i)] []
  refine g_aload_n 0 0 C dX11_rank_0 rfl rfl ?_
  refine g_iload_n 1 1 C dX11_rank_1 rfl rfl ?_
  refine g_callV (As := [.int (nI j)]) (rest := []) C dX11_rank_2 (c_M_rowed hx hR hZ) wC_X11_rowed wM_X11_205 wI_X11_rowed wS_X11_rowed wN_X11 (kne hx.1) (pf_11 hx.1) rfl hd_X11_rowed ⟨by decide, by decide, by decide, by decide⟩ (Nat.le_of_ble_eq_true rfl) (fun r_ S_ h_ => ?_)
  obtain ⟨rfl, rfl⟩ := h_
  change Go X G _ 5 _ _ (mo_ S M) 5 [(0, .ref x), (1, .int (nI j)), (2, .int i)] [.int (errI (rowedE Z (nI j)))]
  refine g_topi (show errI (rowedE Z (nI j)) = nI 0 by rw [he]; rfl) ?_
  refine g_istore_n (lv' := [(3, .int (nI 0)), (0, .ref x), (1, .int (nI j)), (2, .int i)]) C dX11_rank_5 rfl (by decide) rfl ?_
  refine g_iload_n 0 3 C dX11_rank_6 rfl rfl ?_
  refine g_nif_ge 12 (by omega) C dX11_rank_7 (by decide) ?_
  refine g_aload_n 1 0 C dX11_rank_12 rfl rfl ?_
  refine g_iload_n 2 1 C dX11_rank_13 rfl rfl ?_
  refine g_callV (As := [.int (nI j)]) (rest := []) C dX11_rank_14 (c_M_at hx hj hpl) wC_X11_at wM_X11_108 wI_X11_at wS_X11_at wN_X11 (kne hx.1) (pf_11 hx.1) rfl hd_X11_at ⟨by decide, by decide, by decide, by decide⟩ (Nat.le_of_ble_eq_true rfl) (fun r_ S_ h_ => ?_)
  obtain ⟨rfl, rfl⟩ := h_
  change Go X G _ 5 _ _ (mo_ S M) 17 [(3, .int (nI 0)), (0, .ref x), (1, .int (nI j)), (2, .int i)] [.int (nI t)]
  refine g_istore (lv' := [(4, .int (nI t)), (3, .int (nI 0)), (0, .ref x), (1, .int (nI j)), (2, .int i)]) C dX11_rank_17 (by decide) rfl ?_
  refine g_iload_n 4 2 C dX11_rank_19 rfl rfl ?_
  refine g_if_lt 34 C dX11_rank_20 (by decide) (fun c20 => ?_) (fun c20 => ?_)
  · have e := inR_neg (n := (tB (zH Z t)).length + 1) c20
    refine g_bipush (v := -5) C dX11_rank_34 (by decide) ?_
    exact g_iret C dX11_rank_36 (by decide) (by decide) (⟨M, by unfold A_rank; rw [he]; simp only []; rw [e]; rfl, rfl, rfl, hR⟩)
  · refine g_iload_n 4 2 C dX11_rank_23 rfl rfl ?_
    refine g_aload_n 2 0 C dX11_rank_24 rfl rfl ?_
    refine gr_m_bits C dX11_rank_25 hx.1 wF_X11_26 r_bits ?_
    refine g_iload 0 C dX11_rank_28 rfl ?_
    refine ga_m_bits C dX11_rank_30 k_bits (by omega) ?_
    refine g_topi (hT.2.2.1) ?_
    refine g_icmp_le 37 C dX11_rank_31 (by decide) (fun c31 => ?_) (fun c31 => ?_)
    · have ei := inR_in1 (n := (tB (zH Z t)).length) (by omega) c20 c31
      obtain ⟨i1, hi1, rfl⟩ := inR_spec ei (by omega)
      refine g_aload_n 2 0 C dX11_rank_37 rfl rfl ?_
      refine g_iload 0 C dX11_rank_38 rfl ?_
      refine g_callV (As := [.int (nI t)]) (rest := []) C dX11_rank_40 (c_M_misses hx (by omega) hT.2.2.2.2.1 hT.2.2.2.2.2.1) wC_X11_misses wM_X11_178 wI_X11_misses wS_X11_misses wN_X11 (kne hx.1) (pf_11 hx.1) rfl hd_X11_misses ⟨by decide, by decide, by decide, by decide⟩ (Nat.le_of_ble_eq_true rfl) (fun r_ S_ h_ => ?_)
      obtain ⟨rfl, rfl⟩ := h_
      change Go X G _ 5 _ _ (mo_ S M) 43 [(4, .int (nI t)), (3, .int (nI 0)), (0, .ref x), (1, .int (nI j)), (2, .int (nI i1))] [.int (bI (missT (zH Z t)))]
      refine g_if_eq 51 C dX11_rank_43 (by decide) (fun c43 => ?_) (fun c43 => ?_)
      · have em := bI_f c43
        refine g_aload_n 2 0 C dX11_rank_51 rfl rfl ?_
        refine g_iload 0 C dX11_rank_52 rfl ?_
        refine g_iload_n 4 2 C dX11_rank_54 rfl rfl ?_
        refine g_callV (As := [.int (nI t), .int (nI i1)]) (rest := []) C dX11_rank_55 (c_M_ones hx (by omega) hT.2.2.2.1 hb2 hO.2.2.2.2.1 (by omega)) wC_X11_ones wM_X11_208 wI_X11_ones wS_X11_ones wN_X11 (kne hx.1) (pf_11 hx.1) rfl hd_X11_ones ⟨by decide, by decide, by decide, by decide⟩ (Nat.le_of_ble_eq_true rfl) (fun r_ S_ h_ => ?_)
        obtain ⟨rfl, rfl⟩ := h_
        change Go X G _ 5 _ _ (mo_ S M) 58 [(4, .int (nI t)), (3, .int (nI 0)), (0, .ref x), (1, .int (nI j)), (2, .int (nI i1))] [.int (nI (onesN (tB (zH Z t)) i1))]
        exact g_iret C dX11_rank_58 (by decide) (by decide) (⟨M, by unfold A_rank; rw [he]; simp only []; rw [ei, em, nI_clamp (by omega)]; rfl, rfl, rfl, hR⟩)
      · have em := bI_t c43
        refine g_bipush (v := -6) C dX11_rank_46 (by decide) ?_
        refine g_goto 58 C dX11_rank_48 (by decide) ?_
        exact g_iret C dX11_rank_58 (by decide) (by decide) (⟨M, by unfold A_rank; rw [he]; simp only []; rw [ei, em]; rfl, rfl, rfl, hR⟩)
    · have e := inR_big1 (n := (tB (zH Z t)).length) (by omega) c31
      refine g_bipush (v := -5) C dX11_rank_34 (by decide) ?_
      exact g_iret C dX11_rank_36 (by decide) (by decide) (⟨M, by unfold A_rank; rw [he]; simp only []; rw [e]; rfl, rfl, rfl, hR⟩)
theorem c_M_rank {l : Launch} {G : Gx} {S : PS} {M : MoT} {x : Nat} (hx : MoOk S M x) {Z : ZT} (hR : RM M Z) (hZ : okZ Z) {p : Int32} {i : Int32} : Ct l yX11_rank cX11_rank 5 (Option.some Jvm.ClassFile.FieldType.int) rm_X11_rank G [.ref x, .int p, .int i] (mo_ S M) (fun r S' => ∃ M', r = some (.int (A_rank Z p i)) ∧ S' = mo_ S M' ∧ mo_r M' = mo_r M ∧ RM M' (Z)) := by
  cases he : rowedE Z p with
  | inl e => exact c_M_rank_err hx hR hZ he (rowedE_neg he)
  | inr t =>
    obtain ⟨j, hj, rfl, hp, -⟩ := rowedE_inr he
    exact c_M_rank_ok hx hR hZ hj hp he
set_option maxRecDepth 100000 in
set_option maxHeartbeats 400000 in
theorem c_M_bit_err {l : Launch} {G : Gx} {S : PS} {M : MoT} {x : Nat} (hx : MoOk S M x) {Z : ZT} (hR : RM M Z) (hZ : okZ Z) {p e : Int32} (he : rowedE Z p = .inl e) (hneg : e < 0) {i : Int32} : Ct l yX11_bit cX11_bit 5 (Option.some Jvm.ClassFile.FieldType.int) rm_X11_bit G [.ref x, .int p, .int i] (mo_ S M) (fun r S' => ∃ M', r = some (.int (A_bit Z p i)) ∧ S' = mo_ S M' ∧ mo_r M' = mo_r M ∧ RM M' (Z)) := by
  obtain ⟨q_bits, r_bits, k_bits⟩ := hx.2 4 (by decide)
  obtain ⟨q_row, r_row, k_row⟩ := hx.2 9 (by decide)
  refine Ct.mk RX11 "bit" hy_X11_bit (Nat.le_of_ble_eq_true rfl) (fun X hX C => ?_)
  change Go X G _ 5 0 0 (mo_ S M) 0 [(0, .ref x), (1, .int p), (2, .int i)] []
  refine g_aload_n 0 0 C dX11_bit_0 rfl rfl ?_
  refine g_iload_n 1 1 C dX11_bit_1 rfl rfl ?_
  refine g_callV (As := [.int p]) (rest := []) C dX11_bit_2 (c_M_rowed hx hR hZ) wC_X11_rowed wM_X11_205 wI_X11_rowed wS_X11_rowed wN_X11 (kne hx.1) (pf_11 hx.1) rfl hd_X11_rowed ⟨by decide, by decide, by decide, by decide⟩ (Nat.le_of_ble_eq_true rfl) (fun r_ S_ h_ => ?_)
  obtain ⟨rfl, rfl⟩ := h_
  change Go X G _ 5 _ _ (mo_ S M) 5 [(0, .ref x), (1, .int p), (2, .int i)] [.int (errI (rowedE Z p))]
  refine g_topi (show errI (rowedE Z p) = e by rw [he]; rfl) ?_
  refine g_istore_n (lv' := [(3, .int e), (0, .ref x), (1, .int p), (2, .int i)]) C dX11_bit_5 rfl (by decide) rfl ?_
  refine g_iload_n 0 3 C dX11_bit_6 rfl rfl ?_
  refine g_if_ge 12 C dX11_bit_7 (by decide) (fun c7 => ?_) (fun c7 => ?_)
  · exact absurd c7 (Int32.not_le.mpr hneg)
  · refine g_iload_n 0 3 C dX11_bit_10 rfl rfl ?_
    exact g_iret C dX11_bit_11 (by decide) (by decide) (⟨M, by unfold A_bit; rw [he], rfl, rfl, hR⟩)
set_option maxRecDepth 100000 in
set_option maxHeartbeats 400000 in
theorem c_M_bit_ok {l : Launch} {G : Gx} {S : PS} {M : MoT} {x : Nat} (hx : MoOk S M x) {Z : ZT} (hR : RM M Z) (hZ : okZ Z) {j t : Nat} (hj : j < 10) (hp : zP Z j = t + 1) (he : rowedE Z (nI j) = .inr t) {i : Int32} : Ct l yX11_bit cX11_bit 5 (Option.some Jvm.ClassFile.FieldType.int) rm_X11_bit G [.ref x, .int (nI j), .int i] (mo_ S M) (fun r S' => ∃ M', r = some (.int (A_bit Z (nI j) i)) ∧ S' = mo_ S M' ∧ mo_r M' = mo_r M ∧ RM M' (Z)) := by
  obtain ⟨q_bits, r_bits, k_bits⟩ := hx.2 4 (by decide)
  obtain ⟨q_row, r_row, k_row⟩ := hx.2 9 (by decide)
  obtain ⟨hO, ht⟩ := hZ.th hj hp
  have hT := hR.th hj hp
  have hpl : m_place M j = nI (t + 1) := (hR.2.1 j hj).trans (by rw [hp])
  have hn1 := hT.2.1
  have hn2 := hn1.1
  have hb2 := hO.2.2.2.1
  refine Ct.mk RX11 "bit" hy_X11_bit (Nat.le_of_ble_eq_true rfl) (fun X hX C => ?_)
  change Go X G _ 5 0 0 (mo_ S M) 0 [(0, .ref x), (1, .int (nI j)), (2, .int i)] []
  refine g_aload_n 0 0 C dX11_bit_0 rfl rfl ?_
  refine g_iload_n 1 1 C dX11_bit_1 rfl rfl ?_
  refine g_callV (As := [.int (nI j)]) (rest := []) C dX11_bit_2 (c_M_rowed hx hR hZ) wC_X11_rowed wM_X11_205 wI_X11_rowed wS_X11_rowed wN_X11 (kne hx.1) (pf_11 hx.1) rfl hd_X11_rowed ⟨by decide, by decide, by decide, by decide⟩ (Nat.le_of_ble_eq_true rfl) (fun r_ S_ h_ => ?_)
  obtain ⟨rfl, rfl⟩ := h_
  change Go X G _ 5 _ _ (mo_ S M) 5 [(0, .ref x), (1, .int (nI j)), (2, .int i)] [.int (errI (rowedE Z (nI j)))]
  refine g_topi (show errI (rowedE Z (nI j)) = nI 0 by rw [he]; rfl) ?_
  refine g_istore_n (lv' := [(3, .int (nI 0)), (0, .ref x), (1, .int (nI j)), (2, .int i)]) C dX11_bit_5 rfl (by decide) rfl ?_
  refine g_iload_n 0 3 C dX11_bit_6 rfl rfl ?_
  refine g_nif_ge 12 (by omega) C dX11_bit_7 (by decide) ?_
  refine g_aload_n 1 0 C dX11_bit_12 rfl rfl ?_
  refine g_iload_n 2 1 C dX11_bit_13 rfl rfl ?_
  refine g_callV (As := [.int (nI j)]) (rest := []) C dX11_bit_14 (c_M_at hx hj hpl) wC_X11_at wM_X11_108 wI_X11_at wS_X11_at wN_X11 (kne hx.1) (pf_11 hx.1) rfl hd_X11_at ⟨by decide, by decide, by decide, by decide⟩ (Nat.le_of_ble_eq_true rfl) (fun r_ S_ h_ => ?_)
  obtain ⟨rfl, rfl⟩ := h_
  change Go X G _ 5 _ _ (mo_ S M) 17 [(3, .int (nI 0)), (0, .ref x), (1, .int (nI j)), (2, .int i)] [.int (nI t)]
  refine g_istore (lv' := [(4, .int (nI t)), (3, .int (nI 0)), (0, .ref x), (1, .int (nI j)), (2, .int i)]) C dX11_bit_17 (by decide) rfl ?_
  refine g_iload_n 4 2 C dX11_bit_19 rfl rfl ?_
  refine g_if_lt 34 C dX11_bit_20 (by decide) (fun c20 => ?_) (fun c20 => ?_)
  · have e := inR_neg (n := (tB (zH Z t)).length) c20
    refine g_bipush (v := -5) C dX11_bit_34 (by decide) ?_
    refine g_goto 52 C dX11_bit_36 (by decide) ?_
    exact g_iret C dX11_bit_52 (by decide) (by decide) (⟨M, by unfold A_bit; rw [he]; simp only []; rw [e]; rfl, rfl, rfl, hR⟩)
  · refine g_iload_n 4 2 C dX11_bit_23 rfl rfl ?_
    refine g_aload_n 2 0 C dX11_bit_24 rfl rfl ?_
    refine gr_m_bits C dX11_bit_25 hx.1 wF_X11_26 r_bits ?_
    refine g_iload 0 C dX11_bit_28 rfl ?_
    refine ga_m_bits C dX11_bit_30 k_bits (by omega) ?_
    refine g_topi (hT.2.2.1) ?_
    refine g_icmp_lt 39 C dX11_bit_31 (by decide) (fun c31 => ?_) (fun c31 => ?_)
    · have ei := inR_in' (n := (tB (zH Z t)).length) (by omega) c20 c31
      obtain ⟨i1, hi1, rfl⟩ := inR_spec ei (by omega)
      refine g_aload_n 2 0 C dX11_bit_39 rfl rfl ?_
      refine gr_m_row C dX11_bit_40 hx.1 wF_X11_43 r_row ?_
      refine g_sipush (v := nI 4900) C dX11_bit_43 (by decide) ?_
      refine g_iload 0 C dX11_bit_46 rfl ?_
      refine g_imul C dX11_bit_48 ?_
      refine g_topi (pk_mul _ _ : _ = nI (4900 * t)) ?_
      refine g_iload_n 4 2 C dX11_bit_49 rfl rfl ?_
      refine g_iadd C dX11_bit_50 ?_
      refine g_topi (nI_add _ _ : _ = nI (4900 * t + i1)) ?_
      refine ga_m_row C dX11_bit_51 k_row (by omega) ?_
      refine g_topi (hT.2.2.2.1 i1 (by omega)) ?_
      exact g_iret C dX11_bit_52 (by decide) (by decide) (⟨M, by unfold A_bit; rw [he]; simp only []; rw [ei, nI_clamp (by omega)]; rfl, rfl, rfl, hR⟩)
    · have e := inR_big' (n := (tB (zH Z t)).length) (by omega) c31
      refine g_bipush (v := -5) C dX11_bit_34 (by decide) ?_
      refine g_goto 52 C dX11_bit_36 (by decide) ?_
      exact g_iret C dX11_bit_52 (by decide) (by decide) (⟨M, by unfold A_bit; rw [he]; simp only []; rw [e]; rfl, rfl, rfl, hR⟩)
theorem c_M_bit {l : Launch} {G : Gx} {S : PS} {M : MoT} {x : Nat} (hx : MoOk S M x) {Z : ZT} (hR : RM M Z) (hZ : okZ Z) {p : Int32} {i : Int32} : Ct l yX11_bit cX11_bit 5 (Option.some Jvm.ClassFile.FieldType.int) rm_X11_bit G [.ref x, .int p, .int i] (mo_ S M) (fun r S' => ∃ M', r = some (.int (A_bit Z p i)) ∧ S' = mo_ S M' ∧ mo_r M' = mo_r M ∧ RM M' (Z)) := by
  cases he : rowedE Z p with
  | inl e => exact c_M_bit_err hx hR hZ he (rowedE_neg he)
  | inr t =>
    obtain ⟨j, hj, rfl, hp, -⟩ := rowedE_inr he
    exact c_M_bit_ok hx hR hZ hj hp he
