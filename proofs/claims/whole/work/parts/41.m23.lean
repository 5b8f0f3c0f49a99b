abbrev tpM (M : MoT) (f : Nat → Int32) (tp : List Nat) : MoT := m_taped_ (m_tape_ M f) (nI tp.length)
def tpF (f : Nat → Int32) (tp : List Nat) : Prop := ∀ i, i < tp.length → f i = nI (tp.getD i 0)
theorem tpF.add {f : Nat → Int32} {tp : List Nat} (h : tpF f tp) {b : Nat} : tpF (upd f tp.length (nI b)) (tp ++ [b]) := by
  intro i hi
  rw [List.length_append] at hi
  have hi : i < tp.length + 1 := hi
  rw [getD_app]
  by_cases e : i < tp.length
  · rw [if_pos e]; exact (pk_un (by omega)).trans (h i e)
  · rw [if_neg e, show i - tp.length = 0 by omega, show i = tp.length by omega]; exact pk_us
theorem take_s {l : List Nat} {i : Nat} (h : i < l.length) : l.take (i + 1) = l.take i ++ [l.getD i 0] := by
  rw [List.take_add_one, List.getD_eq_getElem?_getD, List.getElem?_eq_getElem h]
  rfl
def sumB (tp : List Nat) (k : Nat) : Nat := sumN (fun i => tp.getD i 0) k
theorem sumB_le {tp : List Nat} (h : ∀ i, i < tp.length → tp.getD i 0 ≤ 255) : ∀ k, k ≤ tp.length → sumB tp k ≤ 255 * k := by
  intro k
  induction k with
  | zero => intro _; exact Nat.le_refl _
  | succ k ih =>
    intro hk
    have := ih (by omega)
    have := h k (by omega)
    show sumB tp k + tp.getD k 0 ≤ _
    omega
/-- what makes the sum 0 -/
def csB (tp : List Nat) : Nat := (256 - sumB tp tp.length % 256) % 256
theorem i255_mod (x : Int32) : x &&& 255 = nI (x.toBitVec.toNat % 256) := by
  refine Int32.toBitVec_inj.mp (BitVec.eq_of_toNat_eq ?_)
  rw [Int32.toBitVec_and, BitVec.toNat_and]
  show x.toBitVec.toNat &&& 255 = (BitVec.ofNat 32 _).toNat
  rw [BitVec.toNat_ofNat, show (255 : Nat) = 2 ^ 8 - 1 from rfl, Nat.and_two_pow_sub_one_eq_mod]
  omega
theorem ng_255 (s : Nat) : -(nI s) &&& 255 = nI ((256 - s % 256) % 256) := by
  rw [i255_mod, Int32.toBitVec_neg, BitVec.toNat_neg]
  show nI ((2 ^ 32 - (BitVec.ofNat 32 s).toNat) % 2 ^ 32 % 256) = _
  rw [BitVec.toNat_ofNat]
  congr 1
  omega
def imK (l : List Ent) (w : Nat) : Nat → List Nat
  | 0 => []
  | k + 1 => imK l w k ++ [(nm l k).length] ++ nm l k ++ bytesL (vl l k) w
theorem imK_s (l : List Ent) (w k : Nat) : (imK l w (k + 1)).length = (imK l w k).length + (1 + (nm l k).length + w) := by
  show (imK l w k ++ [(nm l k).length] ++ nm l k ++ bytesL (vl l k) w).length = _
  rw [List.length_append, List.length_append, List.length_append, bytesL_len]
  show _ + 1 + _ + _ = _
  omega
theorem imK_mono (l : List Ent) (w k : Nat) : ∀ d, (imK l w k).length ≤ (imK l w (k + d)).length := by
  intro d
  induction d with
  | zero => exact Nat.le_refl _
  | succ d ih => have := imK_s l w (k + d); rw [show k + (d + 1) = k + d + 1 by omega]; omega
theorem imK_le {l : List Ent} (hl : ∀ k, k < l.length → okN (nm l k)) {w : Nat} (hw : w ≤ 8) : ∀ k, k ≤ l.length → (imK l w k).length ≤ 33 * k := by
  intro k
  induction k with
  | zero => intro _; exact Nat.le_refl _
  | succ k ih => intro hk; have := ih (by omega); have := imK_s l w k; have := (hl k (by omega)).2.1; omega
/-- an image but for its last byte -/
def imB (K : Nat) (l : List Ent) : List Nat := [K, l.length] ++ imK l (widthN l) l.length ++ [widthN l]
def imgL (K : Nat) (l : List Ent) : List Nat := imB K l ++ [csB (imB K l)]
theorem imgL_len (K : Nat) (l : List Ent) : (imgL K l).length = 4 + (imK l (widthN l) l.length).length := by
  unfold imgL imB
  rw [List.length_append, List.length_append, List.length_append]
  show 2 + _ + 1 + 1 = _
  omega
theorem bytes_le {l : List Ent} (hl : ∀ k, k < l.length → okN (nm l k)) (w : Nat) : ∀ k, k ≤ l.length → ∀ b ∈ imK l w k, b ≤ 255 := by
  intro k
  induction k with
  | zero => intro _ b hb; exact absurd hb List.not_mem_nil
  | succ k ih =>
    intro hk b hb
    have hn := hl k (by omega)
    rcases List.mem_append.mp hb with hb | hb
    · rcases List.mem_append.mp hb with hb | hb
      · rcases List.mem_append.mp hb with hb | hb
        · exact ih (by omega) b hb
        · rw [List.mem_singleton.mp hb]; have := hn.2.1; omega
      · obtain ⟨i, hi, rfl⟩ := List.getElem_of_mem hb
        have := (hn.2.2 i hi).2
        rwa [List.getD_eq_getElem?_getD, List.getElem?_eq_getElem hi] at this
    · unfold bytesL at hb
      obtain ⟨i, -, rfl⟩ := List.mem_map.mp hb
      exact byteN_le _ _
theorem imB_le {l : List Ent} (hl : okL l) {K : Nat} (hK : K ≤ 255) : ∀ i, i < (imB K l).length → (imB K l).getD i 0 ≤ 255 := by
  intro i hi
  have hm : (imB K l).getD i 0 ∈ imB K l := by rw [List.getD_eq_getElem?_getD, List.getElem?_eq_getElem hi]; exact List.getElem_mem _
  have hw := wK_w l l.length
  unfold imB at hm ⊢
  generalize ([K, l.length] ++ imK l (widthN l) l.length ++ [widthN l]).getD i 0 = b at hm
  have h1 := hl.1
  rcases List.mem_append.mp hm with hb | hb
  · rcases List.mem_append.mp hb with hb | hb
    · rcases List.mem_cons.mp hb with rfl | hb
      · exact hK
      · rw [List.mem_singleton.mp hb]; omega
    · exact bytes_le hl.2.1 _ _ (Nat.le_refl _) b hb
  · rw [List.mem_singleton.mp hb]
    show wK l l.length ≤ 255
    rcases hw with h | h | h | h <;> omega
theorem widthN_8 (l : List Ent) : 1 ≤ widthN l ∧ widthN l ≤ 8 := by
  have := wK_w l l.length
  unfold isW at this
  unfold widthN
  omega
def A_image (Z : ZT) (p : Int32) : Int32 := match bookE Z p with
  | .inl e => e
  | .inr t => if missT (zH Z t) then -6 else if (imgL (tK (zH Z t)) (tL (zH Z t))).length ≤ 1000 then nI (imgL (tK (zH Z t)) (tL (zH Z t))).length else -7
def N_image (Z : ZT) (p : Int32) : ZT := match bookE Z p with
  | .inl _ => Z
  | .inr t => if missT (zH Z t) then Z else if (imgL (tK (zH Z t)) (tL (zH Z t))).length ≤ 1000 then zT_ Z (imgL (tK (zH Z t)) (tL (zH Z t))) else Z
set_option maxRecDepth 100000 in
set_option maxHeartbeats 20000000 in
theorem c_M_layB {l : Launch} {G : Gx} {S : PS} {M : MoT} {x : Nat} (hx : MoOk S M x) {tp : List Nat} {b : Nat} {v : Int32} {f : Nat → Int32} (hv : v &&& 255 = nI b) (hn : tp.length < 1000) : Ct l yX11_lay_ cX11_lay_ 2 (Option.none : Option Jvm.ClassFile.FieldType) rm_X11_lay_ G [.ref x, .int v] (mo_ S (tpM M f tp)) (fun r S' => r = none ∧ S' = mo_ S (tpM M (upd f tp.length (nI b)) (tp ++ [b]))) := by
  obtain ⟨q_tape, r_tape, k_tape⟩ := hx.2 0 (by decide)
  refine Ct.mk RX11 "lay" hy_X11_lay_ (Nat.le_of_ble_eq_true rfl) (fun X hX C => ?_)
  change Go X G _ 2 0 0 (mo_ S (tpM M f tp)) 0 [(0, .ref x), (1, .int v)] []
  refine g_aload_n 0 0 C dX11_lay__0 rfl rfl ?_
  refine gr_m_tape C dX11_lay__1 hx.1 wF_X11_7 r_tape ?_
  refine g_aload_n 0 0 C dX11_lay__4 rfl rfl ?_
  refine gf_m_taped C dX11_lay__5 hx.1 wF_X11_13 ?_
  refine g_topi (rfl) ?_
  refine g_iload_n 1 1 C dX11_lay__8 rfl rfl ?_
  refine g_sipush (v := nI 255) C dX11_lay__9 (by decide) ?_
  refine g_iand C dX11_lay__12 ?_
  refine gs_m_tape C dX11_lay__13 k_tape (by omega) ?_
  refine g_aload_n 0 0 C dX11_lay__14 rfl rfl ?_
  refine g_dup C dX11_lay__15 rfl ?_
  refine gf_m_taped C dX11_lay__16 hx.1 wF_X11_13 ?_
  refine g_topi (rfl) ?_
  refine g_iconst (v := nI 1) C dX11_lay__19 (by decide) ?_
  refine g_iadd C dX11_lay__20 ?_
  refine g_topi (nI_add _ _ : _ = nI (tp.length + 1)) ?_
  refine pp_m_taped C dX11_lay__21 hx.1 wF_X11_13 (Or.inl rfl) ?_
  exact g_vret C dX11_lay__24 (by decide) (by decide) (⟨rfl, by rw [show v &&& nI 255 = nI b from hv]; show _ = mo_ S (m_taped_ (m_tape_ M _) (nI (tp ++ [b]).length)); rw [List.length_append]; rfl⟩)
set_option maxRecDepth 100000 in
set_option maxHeartbeats 20000000 in
theorem c_M_sealTape {l : Launch} {G : Gx} {S : PS} {M : MoT} {x : Nat} (hx : MoOk S M x) {tp : List Nat} {f : Nat → Int32} (hn : tp.length < 1000) (hf : tpF f tp) (h255 : ∀ i, i < tp.length → tp.getD i 0 ≤ 255) : Ct l yX11_sealTape cX11_sealTape 3 (Option.none : Option Jvm.ClassFile.FieldType) rm_X11_sealTape G [.ref x] (mo_ S (tpM M f tp)) (fun r S' => r = none ∧ S' = mo_ S (tpM M (upd f tp.length (nI (csB tp))) (tp ++ [csB tp]))) := by
  obtain ⟨q_tape, r_tape, k_tape⟩ := hx.2 0 (by decide)
  refine Ct.mk RX11 "sealTape" hy_X11_sealTape (Nat.le_of_ble_eq_true rfl) (fun X hX C => ?_)
  change Go X G _ 3 0 0 (mo_ S (tpM M f tp)) 0 [(0, .ref x)] []
  refine g_iconst (v := nI 0) C dX11_sealTape_0 (by decide) ?_
  refine g_istore_n (lv' := [(1, .int (nI 0)), (0, .ref x)]) C dX11_sealTape_1 rfl (by decide) rfl ?_
  refine g_iconst (v := nI 0) C dX11_sealTape_2 (by decide) ?_
  refine g_istore_n (lv' := [(2, .int (nI 0)), (1, .int (nI 0)), (0, .ref x)]) C dX11_sealTape_3 rfl (by decide) rfl ?_
  have lp : ∀ (n_ : Nat) (k : Nat), tp.length - k < n_ → (k ≤ tp.length) → Go X G (Qe X G (fun r S' => r = none ∧ S' = mo_ S (tpM M (upd f tp.length (nI (csB tp))) (tp ++ [csB tp]))) rm_X11_sealTape.cells rm_X11_sealTape.slots) 3 0 0 (mo_ S (tpM M f tp)) 4 [(2, .int (nI k)), (1, .int (nI (sumB tp k))), (0, .ref x)] [] := by
    intro n_
    induction n_ with
    | zero => intro k hm_; exact absurd hm_ (Nat.not_lt_zero _)
    | succ n_ ih_ =>
      intro k hm_ hi
      have hs := sumB_le h255 k (by omega)
      refine g_iload_n 0 2 C dX11_sealTape_4 rfl rfl ?_
      refine g_aload_n 2 0 C dX11_sealTape_5 rfl rfl ?_
      refine gf_m_taped C dX11_sealTape_6 hx.1 wF_X11_13 ?_
      refine g_topi (rfl) ?_
      refine g_ncmp_ge 27 (by omega) (by omega) C dX11_sealTape_9 (by decide) (fun c9 => ?_) (fun c9 => ?_)
      · refine g_aload_n 2 0 C dX11_sealTape_27 rfl rfl ?_
        refine g_iload_n 1 1 C dX11_sealTape_28 rfl rfl ?_
        refine g_ineg C dX11_sealTape_29 ?_
        refine g_callV (As := [.int (-(nI (sumB tp k)))]) (rest := []) C dX11_sealTape_30 (c_M_layB (v := -(nI (sumB tp k))) (b := csB tp) hx (by rw [show k = tp.length by omega]; exact ng_255 _) hn) wC_X11_lay_ wM_X11_223 wI_X11_lay_ wS_X11_lay_ wN_X11 (kne hx.1) (pf_11 hx.1) rfl hd_X11_lay_ ⟨by decide, by decide, by decide, by decide⟩ (Nat.le_of_ble_eq_true rfl) (fun r_ S_ h_ => ?_)
        obtain ⟨rfl, rfl⟩ := h_
        change Go X G _ 3 _ _ (mo_ S (tpM M (upd f tp.length (nI (csB tp))) (tp ++ [csB tp]))) 33 [(2, .int (nI k)), (1, .int (nI (sumB tp k))), (0, .ref x)] []
        exact g_vret C dX11_sealTape_33 (by decide) (by decide) (⟨rfl, rfl⟩)
      · refine g_iload_n 1 1 C dX11_sealTape_12 rfl rfl ?_
        refine g_aload_n 2 0 C dX11_sealTape_13 rfl rfl ?_
        refine gr_m_tape C dX11_sealTape_14 hx.1 wF_X11_7 r_tape ?_
        refine g_iload_n 0 2 C dX11_sealTape_17 rfl rfl ?_
        refine ga_m_tape C dX11_sealTape_18 k_tape (by omega) ?_
        refine g_topi (hf k (by omega)) ?_
        refine g_iadd C dX11_sealTape_19 ?_
        refine g_topi (nI_add _ _ : _ = nI (sumB tp k + (tp.getD k 0))) ?_
        refine g_istore_n (lv' := [(1, .int (nI (sumB tp k + (tp.getD k 0)))), (2, .int (nI k)), (0, .ref x)]) C dX11_sealTape_20 rfl (by decide) rfl ?_
        refine g_iinc (v := nI (k + 1)) (lv' := [(2, .int (nI (k + 1))), (1, .int (nI (sumB tp k + (tp.getD k 0)))), (0, .ref x)]) 1 C dX11_sealTape_21 rfl (nI_add _ 1) (by decide) rfl ?_
        refine g_goto 4 C dX11_sealTape_24 (by decide) ?_
        exact ih_ (k + 1) (by omega) (by omega)
  exact lp (tp.length + 1) 0 (by omega) (Nat.zero_le _)
set_option maxRecDepth 100000 in
set_option maxHeartbeats 20000000 in
theorem c_M_image_err {l : Launch} {G : Gx} {S : PS} {M : MoT} {x : Nat} (hx : MoOk S M x) {Z : ZT} (hR : RM M Z) (hZ : okZ Z) {p e : Int32} (he : bookE Z p = .inl e) (hneg : e < 0)  : Ct l yX11_image cX11_image 8 (Option.some Jvm.ClassFile.FieldType.int) rm_X11_image G [.ref x, .int p] (mo_ S M) (fun r S' => ∃ M', r = some (.int (A_image Z p)) ∧ S' = mo_ S M' ∧ mo_r M' = mo_r M ∧ RM M' (N_image Z p)) := by
  obtain ⟨q_many, r_many, k_many⟩ := hx.2 3 (by decide)
  obtain ⟨q_size, r_size, k_size⟩ := hx.2 10 (by decide)
  obtain ⟨q_sort, r_sort, k_sort⟩ := hx.2 2 (by decide)
  obtain ⟨q_value, r_value, k_value⟩ := hx.2 12 (by decide)
  refine Ct.mk RX11 "image" hy_X11_image (Nat.le_of_ble_eq_true rfl) (fun X hX C => ?_)
  change Go X G _ 8 0 0 (mo_ S M) 0 [(0, .ref x), (1, .int p)] []
  refine g_aload_n 0 0 C dX11_image_0 rfl rfl ?_
  refine g_iload_n 1 1 C dX11_image_1 rfl rfl ?_
  refine g_callV (As := [.int p]) (rest := []) C dX11_image_2 (c_M_book hx hR hZ) wC_X11_book wM_X11_175 wI_X11_book wS_X11_book wN_X11 (kne hx.1) (pf_11 hx.1) rfl hd_X11_book ⟨by decide, by decide, by decide, by decide⟩ (Nat.le_of_ble_eq_true rfl) (fun r_ S_ h_ => ?_)
  obtain ⟨rfl, rfl⟩ := h_
  change Go X G _ 8 _ _ (mo_ S M) 5 [(0, .ref x), (1, .int p)] [.int (errI (bookE Z p))]
  refine g_topi (show errI (bookE Z p) = e by rw [he]; rfl) ?_
  refine g_istore_n (lv' := [(2, .int e), (0, .ref x), (1, .int p)]) C dX11_image_5 rfl (by decide) rfl ?_
  refine g_iload_n 0 2 C dX11_image_6 rfl rfl ?_
  refine g_if_ge 12 C dX11_image_7 (by decide) (fun c7 => ?_) (fun c7 => ?_)
  · exact absurd c7 (Int32.not_le.mpr hneg)
  · refine g_iload_n 0 2 C dX11_image_10 rfl rfl ?_
    exact g_iret C dX11_image_11 (by decide) (by decide) (⟨M, by unfold A_image; rw [he], rfl, rfl, (by unfold N_image; rw [he]; exact hR)⟩)
set_option maxRecDepth 100000 in
set_option maxHeartbeats 20000000 in
theorem c_M_image_ok {l : Launch} {G : Gx} {S : PS} {M : MoT} {x : Nat} (hx : MoOk S M x) {Z : ZT} (hR : RM M Z) (hZ : okZ Z) {j t : Nat} (hj : j < 10) (hp : zP Z j = t + 1) (he : bookE Z (nI j) = .inr t)  : Ct l yX11_image cX11_image 8 (Option.some Jvm.ClassFile.FieldType.int) rm_X11_image G [.ref x, .int (nI j)] (mo_ S M) (fun r S' => ∃ M', r = some (.int (A_image Z (nI j))) ∧ S' = mo_ S M' ∧ mo_r M' = mo_r M ∧ RM M' (N_image Z (nI j))) := by
  obtain ⟨q_many, r_many, k_many⟩ := hx.2 3 (by decide)
  obtain ⟨q_size, r_size, k_size⟩ := hx.2 10 (by decide)
  obtain ⟨q_sort, r_sort, k_sort⟩ := hx.2 2 (by decide)
  obtain ⟨q_value, r_value, k_value⟩ := hx.2 12 (by decide)
  obtain ⟨hO, ht⟩ := hZ.th hj hp
  have hT := hR.th hj hp
  have hpl : m_place M j = nI (t + 1) := (hR.2.1 j hj).trans (by rw [hp])
  have hn1 := hT.2.1
  have hn2 := hn1.1
  have hb2 := hO.2.2.2.1
  have hk2 := hO.2.1
  have hw8 := widthN_8 (tL (zH Z t))
  refine Ct.mk RX11 "image" hy_X11_image (Nat.le_of_ble_eq_true rfl) (fun X hX C => ?_)
  change Go X G _ 8 0 0 (mo_ S M) 0 [(0, .ref x), (1, .int (nI j))] []
  refine g_aload_n 0 0 C dX11_image_0 rfl rfl ?_
  refine g_iload_n 1 1 C dX11_image_1 rfl rfl ?_
  refine g_callV (As := [.int (nI j)]) (rest := []) C dX11_image_2 (c_M_book hx hR hZ) wC_X11_book wM_X11_175 wI_X11_book wS_X11_book wN_X11 (kne hx.1) (pf_11 hx.1) rfl hd_X11_book ⟨by decide, by decide, by decide, by decide⟩ (Nat.le_of_ble_eq_true rfl) (fun r_ S_ h_ => ?_)
  obtain ⟨rfl, rfl⟩ := h_
  change Go X G _ 8 _ _ (mo_ S M) 5 [(0, .ref x), (1, .int (nI j))] [.int (errI (bookE Z (nI j)))]
  refine g_topi (show errI (bookE Z (nI j)) = nI 0 by rw [he]; rfl) ?_
  refine g_istore_n (lv' := [(2, .int (nI 0)), (0, .ref x), (1, .int (nI j))]) C dX11_image_5 rfl (by decide) rfl ?_
  refine g_iload_n 0 2 C dX11_image_6 rfl rfl ?_
  refine g_nif_ge 12 (by omega) C dX11_image_7 (by decide) ?_
  refine g_aload_n 1 0 C dX11_image_12 rfl rfl ?_
  refine g_iload_n 2 1 C dX11_image_13 rfl rfl ?_
  refine g_callV (As := [.int (nI j)]) (rest := []) C dX11_image_14 (c_M_at hx hj hpl) wC_X11_at wM_X11_108 wI_X11_at wS_X11_at wN_X11 (kne hx.1) (pf_11 hx.1) rfl hd_X11_at ⟨by decide, by decide, by decide, by decide⟩ (Nat.le_of_ble_eq_true rfl) (fun r_ S_ h_ => ?_)
  obtain ⟨rfl, rfl⟩ := h_
  change Go X G _ 8 _ _ (mo_ S M) 17 [(2, .int (nI 0)), (0, .ref x), (1, .int (nI j))] [.int (nI t)]
  refine g_istore_n (lv' := [(3, .int (nI t)), (2, .int (nI 0)), (0, .ref x), (1, .int (nI j))]) C dX11_image_17 rfl (by decide) rfl ?_
  refine g_aload_n 2 0 C dX11_image_18 rfl rfl ?_
  refine g_iload_n 0 3 C dX11_image_19 rfl rfl ?_
  refine g_callV (As := [.int (nI t)]) (rest := []) C dX11_image_20 (c_M_misses hx (by omega) hT.2.2.2.2.1 hT.2.2.2.2.2.1) wC_X11_misses wM_X11_178 wI_X11_misses wS_X11_misses wN_X11 (kne hx.1) (pf_11 hx.1) rfl hd_X11_misses ⟨by decide, by decide, by decide, by decide⟩ (Nat.le_of_ble_eq_true rfl) (fun r_ S_ h_ => ?_)
  obtain ⟨rfl, rfl⟩ := h_
  change Go X G _ 8 _ _ (mo_ S M) 23 [(3, .int (nI t)), (2, .int (nI 0)), (0, .ref x), (1, .int (nI j))] [.int (bI (missT (zH Z t)))]
  refine g_if_eq 29 C dX11_image_23 (by decide) (fun c23 => ?_) (fun c23 => ?_)
  · have em := bI_f c23
    refine g_aload_n 2 0 C dX11_image_29 rfl rfl ?_
    refine g_iload_n 0 3 C dX11_image_30 rfl rfl ?_
    refine g_callV (As := [.int (nI t)]) (rest := []) C dX11_image_31 (c_M_width hx (by omega) hn1) wC_X11_width wM_X11_211 wI_X11_width wS_X11_width wN_X11 (kne hx.1) (pf_11 hx.1) rfl hd_X11_width ⟨by decide, by decide, by decide, by decide⟩ (Nat.le_of_ble_eq_true rfl) (fun r_ S_ h_ => ?_)
    obtain ⟨rfl, rfl⟩ := h_
    change Go X G _ 8 _ _ (mo_ S M) 34 [(3, .int (nI t)), (2, .int (nI 0)), (0, .ref x), (1, .int (nI j))] [.int (nI (widthN (tL (zH Z t))))]
    refine g_istore (lv' := [(4, .int (nI (widthN (tL (zH Z t))))), (3, .int (nI t)), (2, .int (nI 0)), (0, .ref x), (1, .int (nI j))]) C dX11_image_34 (by decide) rfl ?_
    refine g_iconst (v := nI 4) C dX11_image_36 (by decide) ?_
    refine g_istore (lv' := [(5, .int (nI 4)), (4, .int (nI (widthN (tL (zH Z t))))), (3, .int (nI t)), (2, .int (nI 0)), (0, .ref x), (1, .int (nI j))]) C dX11_image_37 (by decide) rfl ?_
    refine g_iconst (v := nI 0) C dX11_image_39 (by decide) ?_
    refine g_istore (lv' := [(6, .int (nI 0)), (5, .int (nI 4)), (4, .int (nI (widthN (tL (zH Z t))))), (3, .int (nI t)), (2, .int (nI 0)), (0, .ref x), (1, .int (nI j))]) C dX11_image_40 (by decide) rfl ?_
    have lp0 : ∀ (n_ : Nat) (k : Nat), (tL (zH Z t)).length - k < n_ → (k ≤ (tL (zH Z t)).length) → Go X G (Qe X G (fun r S' => ∃ M', r = some (.int (A_image Z (nI j))) ∧ S' = mo_ S M' ∧ mo_r M' = mo_r M ∧ RM M' (N_image Z (nI j))) rm_X11_image.cells rm_X11_image.slots) 8 0 0 (mo_ S M) 42 [(6, .int (nI k)), (5, .int (nI (4 + (imK (tL (zH Z t)) (widthN (tL (zH Z t))) k).length))), (4, .int (nI (widthN (tL (zH Z t))))), (3, .int (nI t)), (2, .int (nI 0)), (0, .ref x), (1, .int (nI j))] [] := by
      intro n_
      induction n_ with
      | zero => intro k hm_; exact absurd hm_ (Nat.not_lt_zero _)
      | succ n_ ih_ =>
        intro k hm_ hi
        have hle := imK_le hO.2.2.1.2.1 hw8.2 k hi
        refine g_iload 0 C dX11_image_42 rfl ?_
        refine g_aload_n 5 0 C dX11_image_44 rfl rfl ?_
        refine gr_m_many C dX11_image_45 hx.1 wF_X11_23 r_many ?_
        refine g_iload_n 3 3 C dX11_image_48 rfl rfl ?_
        refine ga_m_many C dX11_image_49 k_many (by omega) ?_
        refine g_topi (hT.2.1.2.1) ?_
        refine g_ncmp_ge 81 (by omega) (by omega) C dX11_image_50 (by decide) (fun c50 => ?_) (fun c50 => ?_)
        · refine g_iload 1 C dX11_image_81 rfl ?_
          refine g_sipush (v := nI 1000) C dX11_image_83 (by decide) ?_
          refine g_ncmp_le 92 (by omega) (by omega) C dX11_image_86 (by decide) (fun c86 => ?_) (fun c86 => ?_)
          · have c9 := c86
            rw [show k = (tL (zH Z t)).length by omega] at c9
            have hok : (imgL (tK (zH Z t)) (tL (zH Z t))).length ≤ 1000 := by rw [imgL_len]; exact c9
            have htot : 4 + (imK (tL (zH Z t)) (widthN (tL (zH Z t))) (tL (zH Z t)).length).length ≤ 1000 := c9
            refine g_aload_n 5 0 C dX11_image_92 rfl rfl ?_
            refine g_iconst (v := nI 0) C dX11_image_93 (by decide) ?_
            refine pp_m_taped C dX11_image_94 hx.1 wF_X11_13 (Or.inl rfl) ?_
            obtain ⟨tp0, htp0⟩ : ∃ q : List Nat, q = [] := ⟨_, rfl⟩
            obtain ⟨f0, hf0⟩ : ∃ q : Nat → Int32, q = m_tape M := ⟨_, rfl⟩
            refine g_st (S' := (mo_ S (tpM M f0 tp0))) (by rw [htp0, hf0]; rfl) ?_
            refine g_aload_n 5 0 C dX11_image_97 rfl rfl ?_
            refine g_aload_n 5 0 C dX11_image_98 rfl rfl ?_
            refine gr_m_sort C dX11_image_99 hx.1 wF_X11_20 r_sort ?_
            refine g_iload_n 3 3 C dX11_image_102 rfl rfl ?_
            refine ga_m_sort C dX11_image_103 k_sort (by omega) ?_
            refine g_topi (hT.1) ?_
            refine g_callV (As := [.int (nI (tK (zH Z t)))]) (rest := []) C dX11_image_104 (c_M_layB (f := f0) (tp := tp0) (b := tK (zH Z t)) hx (nI_255 (by omega)) (by rw [htp0]; decide)) wC_X11_lay_ wM_X11_223 wI_X11_lay_ wS_X11_lay_ wN_X11 (kne hx.1) (pf_11 hx.1) rfl hd_X11_lay_ ⟨by decide, by decide, by decide, by decide⟩ (Nat.le_of_ble_eq_true rfl) (fun r_ S_ h_ => ?_)
            obtain ⟨rfl, rfl⟩ := h_
            change Go X G _ 8 _ _ (mo_ S (tpM M (upd f0 tp0.length (nI (tK (zH Z t)))) (tp0 ++ [tK (zH Z t)]))) 107 [(6, .int (nI k)), (5, .int (nI (4 + (imK (tL (zH Z t)) (widthN (tL (zH Z t))) k).length))), (4, .int (nI (widthN (tL (zH Z t))))), (3, .int (nI t)), (2, .int (nI 0)), (0, .ref x), (1, .int (nI j))] []
            obtain ⟨tp1, htp1⟩ : ∃ q : List Nat, q = tp0 ++ [tK (zH Z t)] := ⟨_, rfl⟩
            obtain ⟨f1, hf1⟩ : ∃ q : Nat → Int32, q = upd f0 tp0.length (nI (tK (zH Z t))) := ⟨_, rfl⟩
            rw [← htp1, ← hf1]
            refine g_aload_n 5 0 C dX11_image_107 rfl rfl ?_
            refine g_aload_n 5 0 C dX11_image_108 rfl rfl ?_
            refine gr_m_many C dX11_image_109 hx.1 wF_X11_23 r_many ?_
            refine g_iload_n 3 3 C dX11_image_112 rfl rfl ?_
            refine ga_m_many C dX11_image_113 k_many (by omega) ?_
            refine g_topi (hT.2.1.2.1) ?_
            refine g_callV (As := [.int (nI ((tL (zH Z t)).length))]) (rest := []) C dX11_image_114 (c_M_layB (f := f1) (tp := tp1) (b := (tL (zH Z t)).length) hx (nI_255 (by omega)) (by rw [htp1, htp0]; exact (by decide : 1 < 1000))) wC_X11_lay_ wM_X11_223 wI_X11_lay_ wS_X11_lay_ wN_X11 (kne hx.1) (pf_11 hx.1) rfl hd_X11_lay_ ⟨by decide, by decide, by decide, by decide⟩ (Nat.le_of_ble_eq_true rfl) (fun r_ S_ h_ => ?_)
            obtain ⟨rfl, rfl⟩ := h_
            change Go X G _ 8 _ _ (mo_ S (tpM M (upd f1 tp1.length (nI ((tL (zH Z t)).length))) (tp1 ++ [(tL (zH Z t)).length]))) 117 [(6, .int (nI k)), (5, .int (nI (4 + (imK (tL (zH Z t)) (widthN (tL (zH Z t))) k).length))), (4, .int (nI (widthN (tL (zH Z t))))), (3, .int (nI t)), (2, .int (nI 0)), (0, .ref x), (1, .int (nI j))] []
            obtain ⟨tp2, htp2⟩ : ∃ q : List Nat, q = tp1 ++ [(tL (zH Z t)).length] := ⟨_, rfl⟩
            obtain ⟨f2, hf2⟩ : ∃ q : Nat → Int32, q = upd f1 tp1.length (nI ((tL (zH Z t)).length)) := ⟨_, rfl⟩
            rw [← htp2, ← hf2]
            rw [show k = (tL (zH Z t)).length by omega]
            refine g_iconst (v := nI 0) C dX11_image_117 (by decide) ?_
            refine g_istore (lv' := [(6, .int (nI 0)), (5, .int (nI (4 + (imK (tL (zH Z t)) (widthN (tL (zH Z t))) (tL (zH Z t)).length).length))), (4, .int (nI (widthN (tL (zH Z t))))), (3, .int (nI t)), (2, .int (nI 0)), (0, .ref x), (1, .int (nI j))]) C dX11_image_118 (by decide) rfl ?_
            have lp : ∀ (n_ : Nat) (k : Nat) (f : Nat → Int32) (tp : List Nat), (tL (zH Z t)).length - k < n_ → (k ≤ (tL (zH Z t)).length ∧ tp = [tK (zH Z t), (tL (zH Z t)).length] ++ imK (tL (zH Z t)) (widthN (tL (zH Z t))) k ∧ tpF f tp) → Go X G (Qe X G (fun r S' => ∃ M', r = some (.int (A_image Z (nI j))) ∧ S' = mo_ S M' ∧ mo_r M' = mo_r M ∧ RM M' (N_image Z (nI j))) rm_X11_image.cells rm_X11_image.slots) 8 0 0 (mo_ S (tpM M f tp)) 120 [(6, .int (nI k)), (5, .int (nI (4 + (imK (tL (zH Z t)) (widthN (tL (zH Z t))) (tL (zH Z t)).length).length))), (4, .int (nI (widthN (tL (zH Z t))))), (3, .int (nI t)), (2, .int (nI 0)), (0, .ref x), (1, .int (nI j))] [] := by
              intro n_
              induction n_ with
              | zero => intro k f tp hm_; exact absurd hm_ (Nat.not_lt_zero _)
              | succ n_ iho_ =>
                intro k f tp hm_ hh
                obtain ⟨hi, hk1, hfk⟩ := hh
                have hlt : tp.length = 2 + (imK (tL (zH Z t)) (widthN (tL (zH Z t))) k).length := by rw [hk1, List.length_append]; rfl
                refine g_iload 0 C dX11_image_120 rfl ?_
                refine g_aload_n 5 0 C dX11_image_122 rfl rfl ?_
                refine gr_m_many C dX11_image_123 hx.1 wF_X11_23 r_many ?_
                refine g_iload_n 3 3 C dX11_image_126 rfl rfl ?_
                refine ga_m_many C dX11_image_127 k_many (by omega) ?_
                refine g_topi (hT.2.1.2.1) ?_
                refine g_ncmp_ge 232 (by omega) (by omega) C dX11_image_128 (by decide) (fun c128 => ?_) (fun c128 => ?_)
                · have ek : k = (tL (zH Z t)).length := by omega
                  have eB : tp ++ [widthN (tL (zH Z t))] = imB (tK (zH Z t)) (tL (zH Z t)) := by rw [hk1, ek]; rfl
                  have eI : imgL (tK (zH Z t)) (tL (zH Z t)) = tp ++ [widthN (tL (zH Z t))] ++ [csB (tp ++ [widthN (tL (zH Z t))])] := by unfold imgL; rw [eB]
                  have h255 := imB_le hO.2.2.1 (K := tK (zH Z t)) (by omega)
                  rw [← eB] at h255
                  have hlen9 : (tp ++ [widthN (tL (zH Z t))]).length = 3 + (imK (tL (zH Z t)) (widthN (tL (zH Z t))) (tL (zH Z t)).length).length := by rw [List.length_append, hlt, ek]; show _ + 1 = _; omega
                  refine g_aload_n 5 0 C dX11_image_232 rfl rfl ?_
                  refine g_iload 2 C dX11_image_233 rfl ?_
                  refine g_callV (As := [.int (nI (widthN (tL (zH Z t))))]) (rest := []) C dX11_image_235 (c_M_layB (f := f) (tp := tp) (b := widthN (tL (zH Z t))) hx (nI_255 (by omega)) (by rw [hlt, ek]; omega)) wC_X11_lay_ wM_X11_223 wI_X11_lay_ wS_X11_lay_ wN_X11 (kne hx.1) (pf_11 hx.1) rfl hd_X11_lay_ ⟨by decide, by decide, by decide, by decide⟩ (Nat.le_of_ble_eq_true rfl) (fun r_ S_ h_ => ?_)
                  obtain ⟨rfl, rfl⟩ := h_
                  change Go X G _ 8 _ _ (mo_ S (tpM M (upd f tp.length (nI (widthN (tL (zH Z t))))) (tp ++ [widthN (tL (zH Z t))]))) 238 [(6, .int (nI k)), (5, .int (nI (4 + (imK (tL (zH Z t)) (widthN (tL (zH Z t))) (tL (zH Z t)).length).length))), (4, .int (nI (widthN (tL (zH Z t))))), (3, .int (nI t)), (2, .int (nI 0)), (0, .ref x), (1, .int (nI j))] []
                  refine g_aload_n 5 0 C dX11_image_238 rfl rfl ?_
                  refine g_callV (As := []) (rest := []) C dX11_image_239 (c_M_sealTape (f := (upd f tp.length (nI (widthN (tL (zH Z t)))))) (tp := (tp ++ [widthN (tL (zH Z t))])) hx (by omega) hfk.add h255) wC_X11_sealTape wM_X11_225 wI_X11_sealTape wS_X11_sealTape wN_X11 (kne hx.1) (pf_11 hx.1) rfl hd_X11_sealTape ⟨by decide, by decide, by decide, by decide⟩ (Nat.le_of_ble_eq_true rfl) (fun r_ S_ h_ => ?_)
                  obtain ⟨rfl, rfl⟩ := h_
                  change Go X G _ 8 _ _ (mo_ S (tpM M (upd (upd f tp.length (nI (widthN (tL (zH Z t))))) (tp ++ [widthN (tL (zH Z t))]).length (nI (csB (tp ++ [widthN (tL (zH Z t))])))) ((tp ++ [widthN (tL (zH Z t))]) ++ [csB (tp ++ [widthN (tL (zH Z t))])]))) 242 [(6, .int (nI k)), (5, .int (nI (4 + (imK (tL (zH Z t)) (widthN (tL (zH Z t))) (tL (zH Z t)).length).length))), (4, .int (nI (widthN (tL (zH Z t))))), (3, .int (nI t)), (2, .int (nI 0)), (0, .ref x), (1, .int (nI j))] []
                  refine g_aload_n 5 0 C dX11_image_242 rfl rfl ?_
                  refine gf_m_taped C dX11_image_243 hx.1 wF_X11_13 ?_
                  exact g_iret C dX11_image_246 (by decide) (by decide) (⟨_, by unfold A_image; rw [he]; simp only []; rw [em, if_neg (by decide), if_pos hok, eI], rfl, rfl, by
                    unfold N_image; rw [he]; simp only []; rw [em, if_neg (by decide), if_pos hok, eI]
                    exact ⟨⟨rfl, hfk.add.add⟩, hR.2.1, hR.2.2.1, hR.2.2.2⟩⟩)
                · have hk := hn1.2.2 k (by omega)
                  have hkl := hk.1.2.1
                  have hks := imK_s (tL (zH Z t)) (widthN (tL (zH Z t))) k
                  have hkm := imK_mono (tL (zH Z t)) (widthN (tL (zH Z t))) (k + 1) ((tL (zH Z t)).length - (k + 1))
                  rw [show k + 1 + ((tL (zH Z t)).length - (k + 1)) = (tL (zH Z t)).length by omega] at hkm
                  refine g_aload_n 5 0 C dX11_image_131 rfl rfl ?_
                  refine g_aload_n 5 0 C dX11_image_132 rfl rfl ?_
                  refine gr_m_size C dX11_image_133 hx.1 wF_X11_46 r_size ?_
                  refine g_bipush (v := nI 100) C dX11_image_136 (by decide) ?_
                  refine g_iload_n 3 3 C dX11_image_138 rfl rfl ?_
                  refine g_imul C dX11_image_139 ?_
                  refine g_topi (pk_mul _ _ : _ = nI (100 * t)) ?_
                  refine g_iload 0 C dX11_image_140 rfl ?_
                  refine g_iadd C dX11_image_142 ?_
                  refine g_topi (nI_add _ _ : _ = nI (100 * t + k)) ?_
                  refine ga_m_size C dX11_image_143 k_size (by omega) ?_
                  refine g_topi (hk.2.1.1) ?_
                  refine g_callV (As := [.int (nI ((nm (tL (zH Z t)) k).length))]) (rest := []) C dX11_image_144 (c_M_layB (f := f) (tp := tp) (b := (nm (tL (zH Z t)) k).length) hx (nI_255 (by omega)) (by omega)) wC_X11_lay_ wM_X11_223 wI_X11_lay_ wS_X11_lay_ wN_X11 (kne hx.1) (pf_11 hx.1) rfl hd_X11_lay_ ⟨by decide, by decide, by decide, by decide⟩ (Nat.le_of_ble_eq_true rfl) (fun r_ S_ h_ => ?_)
                  obtain ⟨rfl, rfl⟩ := h_
                  change Go X G _ 8 _ _ (mo_ S (tpM M (upd f tp.length (nI ((nm (tL (zH Z t)) k).length))) (tp ++ [(nm (tL (zH Z t)) k).length]))) 147 [(6, .int (nI k)), (5, .int (nI (4 + (imK (tL (zH Z t)) (widthN (tL (zH Z t))) (tL (zH Z t)).length).length))), (4, .int (nI (widthN (tL (zH Z t))))), (3, .int (nI t)), (2, .int (nI 0)), (0, .ref x), (1, .int (nI j))] []
                  refine g_iconst (v := nI 0) C dX11_image_147 (by decide) ?_
                  refine g_istore (lv' := [(7, .int (nI 0)), (6, .int (nI k)), (5, .int (nI (4 + (imK (tL (zH Z t)) (widthN (tL (zH Z t))) (tL (zH Z t)).length).length))), (4, .int (nI (widthN (tL (zH Z t))))), (3, .int (nI t)), (2, .int (nI 0)), (0, .ref x), (1, .int (nI j))]) C dX11_image_148 (by decide) rfl ?_
                  have lp1 : ∀ (n_ : Nat) (i : Nat) (f2 : Nat → Int32) (tp2 : List Nat), (nm (tL (zH Z t)) k).length - i < n_ → (i ≤ (nm (tL (zH Z t)) k).length ∧ tp2 = tp ++ [(nm (tL (zH Z t)) k).length] ++ (nm (tL (zH Z t)) k).take i ∧ tpF f2 tp2) → Go X G (Qe X G (fun r S' => ∃ M', r = some (.int (A_image Z (nI j))) ∧ S' = mo_ S M' ∧ mo_r M' = mo_r M ∧ RM M' (N_image Z (nI j))) rm_X11_image.cells rm_X11_image.slots) 8 0 0 (mo_ S (tpM M f2 tp2)) 150 [(7, .int (nI i)), (6, .int (nI k)), (5, .int (nI (4 + (imK (tL (zH Z t)) (widthN (tL (zH Z t))) (tL (zH Z t)).length).length))), (4, .int (nI (widthN (tL (zH Z t))))), (3, .int (nI t)), (2, .int (nI 0)), (0, .ref x), (1, .int (nI j))] [] := by
                    intro n_
                    induction n_ with
                    | zero => intro i f2 tp2 hm_; exact absurd hm_ (Nat.not_lt_zero _)
                    | succ n_ ih_ =>
                      intro i f2 tp2 hm_ h2
                      have hl2 : tp2.length = tp.length + (1 + i) := by
                        rw [h2.2.1, List.length_append, List.length_append, List.length_take]
                        show _ + 1 + _ = _
                        have := h2.1
                        omega
                      refine g_iload 0 C dX11_image_150 rfl ?_
                      refine g_aload_n 6 0 C dX11_image_152 rfl rfl ?_
                      refine gr_m_size C dX11_image_153 hx.1 wF_X11_46 r_size ?_
                      refine g_bipush (v := nI 100) C dX11_image_156 (by decide) ?_
                      refine g_iload_n 4 3 C dX11_image_158 rfl rfl ?_
                      refine g_imul C dX11_image_159 ?_
                      refine g_topi (pk_mul _ _ : _ = nI (100 * t)) ?_
                      refine g_iload 1 C dX11_image_160 rfl ?_
                      refine g_iadd C dX11_image_162 ?_
                      refine g_topi (nI_add _ _ : _ = nI (100 * t + k)) ?_
                      refine ga_m_size C dX11_image_163 k_size (by omega) ?_
                      refine g_topi (hk.2.1.1) ?_
                      refine g_ncmp_ge 186 (by omega) (by omega) C dX11_image_164 (by decide) (fun c164 => ?_) (fun c164 => ?_)
                      · refine g_iload 3 C dX11_image_186 rfl ?_
                        refine g_iconst (v := nI 1) C dX11_image_188 (by decide) ?_
                        refine g_isub C dX11_image_189 ?_
                        refine g_topi (pk_sub (by omega) : _ = nI (widthN (tL (zH Z t)) - 1)) ?_
                        refine g_istore (lv' := [(7, .int (nI (widthN (tL (zH Z t)) - 1))), (6, .int (nI k)), (5, .int (nI (4 + (imK (tL (zH Z t)) (widthN (tL (zH Z t))) (tL (zH Z t)).length).length))), (4, .int (nI (widthN (tL (zH Z t))))), (3, .int (nI t)), (2, .int (nI 0)), (0, .ref x), (1, .int (nI j))]) C dX11_image_190 (by decide) rfl ?_
                        have lp2 : ∀ (n_ : Nat) (r : Nat) (f3 : Nat → Int32) (tp3 : List Nat), r < n_ → (r ≤ widthN (tL (zH Z t)) ∧ tp3 = tp ++ [(nm (tL (zH Z t)) k).length] ++ nm (tL (zH Z t)) k ++ (bytesL (vl (tL (zH Z t)) k) (widthN (tL (zH Z t)))).take (widthN (tL (zH Z t)) - r) ∧ tpF f3 tp3) → Go X G (Qe X G (fun r S' => ∃ M', r = some (.int (A_image Z (nI j))) ∧ S' = mo_ S M' ∧ mo_r M' = mo_r M ∧ RM M' (N_image Z (nI j))) rm_X11_image.cells rm_X11_image.slots) 8 0 0 (mo_ S (tpM M f3 tp3)) 192 [(7, .int (nI r - nI 1)), (6, .int (nI k)), (5, .int (nI (4 + (imK (tL (zH Z t)) (widthN (tL (zH Z t))) (tL (zH Z t)).length).length))), (4, .int (nI (widthN (tL (zH Z t))))), (3, .int (nI t)), (2, .int (nI 0)), (0, .ref x), (1, .int (nI j))] [] := by
                          intro n_
                          induction n_ with
                          | zero => intro r f3 tp3 hm_; exact absurd hm_ (Nat.not_lt_zero _)
                          | succ n_ ih_ =>
                            intro r f3 tp3 hm_ h3
                            have hl3 : tp3.length + r = tp.length + (1 + (nm (tL (zH Z t)) k).length + widthN (tL (zH Z t))) := by
                              rw [h3.2.1, List.length_append, List.length_append, List.length_append, List.length_take, bytesL_len]
                              show _ + 1 + _ + _ + _ = _
                              have := h3.1
                              omega
                            refine g_iload 0 C dX11_image_192 rfl ?_
                            rcases Nat.eq_zero_or_pos r with rfl | hr
                            · refine g_topi (show nI 0 - nI 1 = -1 by decide) ?_
                              refine g_if_lt 226 C dX11_image_194 (by decide) (fun _ => ?_) (fun c => absurd c (by decide))
                              refine g_iinc (v := nI (k + 1)) (lv' := [(6, .int (nI (k + 1))), (7, .int (nI 0 - nI 1)), (5, .int (nI (4 + (imK (tL (zH Z t)) (widthN (tL (zH Z t))) (tL (zH Z t)).length).length))), (4, .int (nI (widthN (tL (zH Z t))))), (3, .int (nI t)), (2, .int (nI 0)), (0, .ref x), (1, .int (nI j))]) 1 C dX11_image_226 rfl (nI_add _ 1) (by decide) rfl ?_
                              refine g_goto 120 C dX11_image_229 (by decide) ?_
                              refine Go.pick (lv' := [(6, .int (nI (k + 1))), (5, .int (nI (4 + (imK (tL (zH Z t)) (widthN (tL (zH Z t))) (tL (zH Z t)).length).length))), (4, .int (nI (widthN (tL (zH Z t))))), (3, .int (nI t)), (2, .int (nI 0)), (0, .ref x), (1, .int (nI j))]) [0, 2, 3, 4, 5, 6, 7] rfl ?_
                              have eT : tp3 = [tK (zH Z t), (tL (zH Z t)).length] ++ imK (tL (zH Z t)) (widthN (tL (zH Z t))) (k + 1) := by
                                rw [h3.2.1, Nat.sub_zero, List.take_of_length_le (by rw [bytesL_len]; omega), hk1]
                                show _ = _ ++ (imK _ _ k ++ _ ++ _ ++ _)
                                simp only [List.append_assoc]
                              exact iho_ (k + 1) f3 tp3 (by omega) ⟨by omega, eT, h3.2.2⟩
                            · rw [show nI r - nI 1 = nI (r - 1) from pk_sub (by omega)]
                              refine g_nif_lt 226 (by omega) C dX11_image_194 (by decide) ?_
                              refine g_aload_n 6 0 C dX11_image_197 rfl rfl ?_
                              refine g_aload_n 6 0 C dX11_image_198 rfl rfl ?_
                              refine gr_m_value C dX11_image_199 hx.1 wF_X11_52 r_value ?_
                              refine g_bipush (v := nI 100) C dX11_image_202 (by decide) ?_
                              refine g_iload_n 4 3 C dX11_image_204 rfl rfl ?_
                              refine g_imul C dX11_image_205 ?_
                              refine g_topi (pk_mul _ _ : _ = nI (100 * t)) ?_
                              refine g_iload 1 C dX11_image_206 rfl ?_
                              refine g_iadd C dX11_image_208 ?_
                              refine g_topi (nI_add _ _ : _ = nI (100 * t + k)) ?_
                              refine ga_m_value C dX11_image_209 k_value (by omega) ?_
                              refine g_topl (hk.2.2) ?_
                              refine g_bipush (v := nI 8) C dX11_image_210 (by decide) ?_
                              refine g_iload 0 C dX11_image_212 rfl ?_
                              refine g_imul C dX11_image_214 ?_
                              refine g_topi (pk_mul _ _ : _ = nI (8 * (r - 1))) ?_
                              refine g_lshr C dX11_image_215 ?_
                              refine g_l2i C dX11_image_216 ?_
                              refine g_callV (As := [.int (((vl (tL (zH Z t)) k) >>> ((nI (8 * (r - 1))).toInt64 &&& 63)).toInt32)]) (rest := []) C dX11_image_217 (c_M_layB (f := f3) (tp := tp3) (b := byteN (vl (tL (zH Z t)) k) (r - 1)) hx (by_lay _ (by omega)) (by omega)) wC_X11_lay_ wM_X11_223 wI_X11_lay_ wS_X11_lay_ wN_X11 (kne hx.1) (pf_11 hx.1) rfl hd_X11_lay_ ⟨by decide, by decide, by decide, by decide⟩ (Nat.le_of_ble_eq_true rfl) (fun r_ S_ h_ => ?_)
                              obtain ⟨rfl, rfl⟩ := h_
                              change Go X G _ 8 _ _ (mo_ S (tpM M (upd f3 tp3.length (nI (byteN (vl (tL (zH Z t)) k) (r - 1)))) (tp3 ++ [byteN (vl (tL (zH Z t)) k) (r - 1)]))) 220 [(7, .int (nI (r - 1))), (6, .int (nI k)), (5, .int (nI (4 + (imK (tL (zH Z t)) (widthN (tL (zH Z t))) (tL (zH Z t)).length).length))), (4, .int (nI (widthN (tL (zH Z t))))), (3, .int (nI t)), (2, .int (nI 0)), (0, .ref x), (1, .int (nI j))] []
                              refine g_iinc (v := nI (r - 1) - nI 1) (lv' := [(7, .int (nI (r - 1) - nI 1)), (6, .int (nI k)), (5, .int (nI (4 + (imK (tL (zH Z t)) (widthN (tL (zH Z t))) (tL (zH Z t)).length).length))), (4, .int (nI (widthN (tL (zH Z t))))), (3, .int (nI t)), (2, .int (nI 0)), (0, .ref x), (1, .int (nI j))]) 0 C dX11_image_220 rfl (m1_sub _) (by decide) rfl ?_
                              refine g_goto 192 C dX11_image_223 (by decide) ?_
                              exact ih_ (r - 1) _ _ (by omega) ⟨by omega, by rw [h3.2.1, show widthN (tL (zH Z t)) - (r - 1) = widthN (tL (zH Z t)) - r + 1 by omega, take_s (by rw [bytesL_len]; omega), bytesL_get _ (by omega), show widthN (tL (zH Z t)) - 1 - (widthN (tL (zH Z t)) - r) = r - 1 by omega, List.append_assoc _ _ [_]], h3.2.2.add⟩
                        rw [show nI (widthN (tL (zH Z t)) - 1) = nI (widthN (tL (zH Z t))) - nI 1 from (pk_sub (by omega)).symm]
                        exact lp2 (widthN (tL (zH Z t)) + 1) (widthN (tL (zH Z t))) f2 tp2 (by omega) ⟨by omega, by rw [h2.2.1, show i = (nm (tL (zH Z t)) k).length by omega, List.take_length, Nat.sub_self, List.take_zero, List.append_nil], h2.2.2⟩
                      · refine g_aload_n 6 0 C dX11_image_167 rfl rfl ?_
                        refine g_aload_n 6 0 C dX11_image_168 rfl rfl ?_
                        refine g_iload_n 4 3 C dX11_image_169 rfl rfl ?_
                        refine g_iload 1 C dX11_image_170 rfl ?_
                        refine g_iload 0 C dX11_image_172 rfl ?_
                        refine g_callV (As := [.int (nI t), .int (nI k), .int (nI i)]) (rest := [.ref x]) C dX11_image_174 (c_M_byteAt (M := tpM M f2 tp2) hx (by omega) (by omega) (by omega)) wC_X11_byteAt wM_X11_111 wI_X11_byteAt wS_X11_byteAt wN_X11 (kne hx.1) (pf_11 hx.1) rfl hd_X11_byteAt ⟨by decide, by decide, by decide, by decide⟩ (Nat.le_of_ble_eq_true rfl) (fun r_ S_ h_ => ?_)
                        obtain ⟨rfl, rfl⟩ := h_
                        change Go X G _ 8 _ _ (mo_ S (tpM M f2 tp2)) 177 [(7, .int (nI i)), (6, .int (nI k)), (5, .int (nI (4 + (imK (tL (zH Z t)) (widthN (tL (zH Z t))) (tL (zH Z t)).length).length))), (4, .int (nI (widthN (tL (zH Z t))))), (3, .int (nI t)), (2, .int (nI 0)), (0, .ref x), (1, .int (nI j))] [.int (m_bytes M (24 * (100 * t + k) + i)), .ref x]
                        refine g_topi (hk.2.1.2 i (by omega)) ?_
                        refine g_callV (As := [.int (nI ((nm (tL (zH Z t)) k).getD i 0))]) (rest := []) C dX11_image_177 (c_M_layB (f := f2) (tp := tp2) (b := (nm (tL (zH Z t)) k).getD i 0) hx (nI_255 (by have := (hk.1.2.2 i (by omega)).2; omega)) (by omega)) wC_X11_lay_ wM_X11_223 wI_X11_lay_ wS_X11_lay_ wN_X11 (kne hx.1) (pf_11 hx.1) rfl hd_X11_lay_ ⟨by decide, by decide, by decide, by decide⟩ (Nat.le_of_ble_eq_true rfl) (fun r_ S_ h_ => ?_)
                        obtain ⟨rfl, rfl⟩ := h_
                        change Go X G _ 8 _ _ (mo_ S (tpM M (upd f2 tp2.length (nI ((nm (tL (zH Z t)) k).getD i 0))) (tp2 ++ [(nm (tL (zH Z t)) k).getD i 0]))) 180 [(7, .int (nI i)), (6, .int (nI k)), (5, .int (nI (4 + (imK (tL (zH Z t)) (widthN (tL (zH Z t))) (tL (zH Z t)).length).length))), (4, .int (nI (widthN (tL (zH Z t))))), (3, .int (nI t)), (2, .int (nI 0)), (0, .ref x), (1, .int (nI j))] []
                        refine g_iinc (v := nI (i + 1)) (lv' := [(7, .int (nI (i + 1))), (6, .int (nI k)), (5, .int (nI (4 + (imK (tL (zH Z t)) (widthN (tL (zH Z t))) (tL (zH Z t)).length).length))), (4, .int (nI (widthN (tL (zH Z t))))), (3, .int (nI t)), (2, .int (nI 0)), (0, .ref x), (1, .int (nI j))]) 0 C dX11_image_180 rfl (nI_add _ 1) (by decide) rfl ?_
                        refine g_goto 150 C dX11_image_183 (by decide) ?_
                        exact ih_ (i + 1) _ _ (by omega) ⟨by omega, by rw [h2.2.1, take_s (by omega), List.append_assoc _ _ [_]], h2.2.2.add⟩
                  exact lp1 ((nm (tL (zH Z t)) k).length + 1) 0 _ _ (by omega) ⟨Nat.zero_le _, by rw [List.take_zero, List.append_nil], hfk.add⟩
            exact lp ((tL (zH Z t)).length + 1) 0 _ _ (by omega) ⟨Nat.zero_le _, by rw [htp2, htp1, htp0]; rfl, by rw [htp2, hf2]; exact tpF.add (by rw [htp1, hf1]; exact tpF.add (fun i hi => by rw [htp0] at hi; exact absurd hi (Nat.not_lt_zero _)))⟩
          · have c9 := c86
            rw [show k = (tL (zH Z t)).length by omega] at c9
            have hbig : ¬ (imgL (tK (zH Z t)) (tL (zH Z t))).length ≤ 1000 := by rw [imgL_len]; exact Nat.not_le.mpr c9
            refine g_bipush (v := -7) C dX11_image_89 (by decide) ?_
            exact g_iret C dX11_image_91 (by decide) (by decide) (⟨M, by unfold A_image; rw [he]; simp only []; rw [em, if_neg (by decide), if_neg hbig], rfl, rfl, by unfold N_image; rw [he]; simp only []; rw [em, if_neg (by decide), if_neg hbig]; exact hR⟩)
        · have hk := hn1.2.2 k (by omega)
          have hkl := hk.1.2.1
          refine g_iload 1 C dX11_image_53 rfl ?_
          refine g_iconst (v := nI 1) C dX11_image_55 (by decide) ?_
          refine g_aload_n 5 0 C dX11_image_56 rfl rfl ?_
          refine gr_m_size C dX11_image_57 hx.1 wF_X11_46 r_size ?_
          refine g_bipush (v := nI 100) C dX11_image_60 (by decide) ?_
          refine g_iload_n 3 3 C dX11_image_62 rfl rfl ?_
          refine g_imul C dX11_image_63 ?_
          refine g_topi (pk_mul _ _ : _ = nI (100 * t)) ?_
          refine g_iload 0 C dX11_image_64 rfl ?_
          refine g_iadd C dX11_image_66 ?_
          refine g_topi (nI_add _ _ : _ = nI (100 * t + k)) ?_
          refine ga_m_size C dX11_image_67 k_size (by omega) ?_
          refine g_topi (hk.2.1.1) ?_
          refine g_iadd C dX11_image_68 ?_
          refine g_topi (nI_add _ _ : _ = nI (1 + ((nm (tL (zH Z t)) k).length))) ?_
          refine g_iload 2 C dX11_image_69 rfl ?_
          refine g_iadd C dX11_image_71 ?_
          refine g_topi (nI_add _ _ : _ = nI (1 + ((nm (tL (zH Z t)) k).length) + (widthN (tL (zH Z t))))) ?_
          refine g_iadd C dX11_image_72 ?_
          refine g_topi (nI_add _ _ : _ = nI (4 + (imK (tL (zH Z t)) (widthN (tL (zH Z t))) k).length + (1 + ((nm (tL (zH Z t)) k).length) + (widthN (tL (zH Z t)))))) ?_
          refine g_istore (lv' := [(5, .int (nI (4 + (imK (tL (zH Z t)) (widthN (tL (zH Z t))) k).length + (1 + ((nm (tL (zH Z t)) k).length) + (widthN (tL (zH Z t))))))), (6, .int (nI k)), (4, .int (nI (widthN (tL (zH Z t))))), (3, .int (nI t)), (2, .int (nI 0)), (0, .ref x), (1, .int (nI j))]) C dX11_image_73 (by decide) rfl ?_
          refine g_iinc (v := nI (k + 1)) (lv' := [(6, .int (nI (k + 1))), (5, .int (nI (4 + (imK (tL (zH Z t)) (widthN (tL (zH Z t))) k).length + (1 + ((nm (tL (zH Z t)) k).length) + (widthN (tL (zH Z t))))))), (4, .int (nI (widthN (tL (zH Z t))))), (3, .int (nI t)), (2, .int (nI 0)), (0, .ref x), (1, .int (nI j))]) 1 C dX11_image_75 rfl (nI_add _ 1) (by decide) rfl ?_
          refine g_goto 42 C dX11_image_78 (by decide) ?_
          rw [show 4 + (imK (tL (zH Z t)) (widthN (tL (zH Z t))) k).length + (1 + (nm (tL (zH Z t)) k).length + widthN (tL (zH Z t))) = 4 + (imK (tL (zH Z t)) (widthN (tL (zH Z t))) (k + 1)).length from by rw [imK_s]; omega]
          exact ih_ (k + 1) (by omega) (by omega)
    exact lp0 ((tL (zH Z t)).length + 1) 0 (by omega) (Nat.zero_le _)
  · have em := bI_t c23
    refine g_bipush (v := -6) C dX11_image_26 (by decide) ?_
    exact g_iret C dX11_image_28 (by decide) (by decide) (⟨M, by unfold A_image; rw [he]; simp only []; rw [em]; rfl, rfl, rfl, by unfold N_image; rw [he]; simp only []; rw [em, if_pos rfl]; exact hR⟩)
theorem c_M_image {l : Launch} {G : Gx} {S : PS} {M : MoT} {x : Nat} (hx : MoOk S M x) {Z : ZT} (hR : RM M Z) (hZ : okZ Z) {p : Int32}  : Ct l yX11_image cX11_image 8 (Option.some Jvm.ClassFile.FieldType.int) rm_X11_image G [.ref x, .int p] (mo_ S M) (fun r S' => ∃ M', r = some (.int (A_image Z p)) ∧ S' = mo_ S M' ∧ mo_r M' = mo_r M ∧ RM M' (N_image Z p)) := by
  cases he : bookE Z p with
  | inl e => exact c_M_image_err hx hR hZ he (bookE_neg he)
  | inr t =>
    obtain ⟨j, hj, rfl, hp, -⟩ := bookE_inr he
    exact c_M_image_ok hx hR hZ hj hp he
