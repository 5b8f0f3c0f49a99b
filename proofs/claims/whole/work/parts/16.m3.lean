set_option maxRecDepth 100000 in
set_option maxHeartbeats 4000000 in
theorem c_M_book_out {l : Launch} {G : Gx} {S : PS} {M : MoT} {x : Nat} (hx : MoOk S M x) {Z : ZT} (hR : RM M Z) (hZ : okZ Z) {p : Int32} (hp : p < 0 ∨ nI 10 ≤ p)  : Ct l yX11_book cX11_book 2 (Option.some Jvm.ClassFile.FieldType.int) rm_X11_book G [.ref x, .int p] (mo_ S M) (fun r S' => r = some (.int (errI (bookE Z p))) ∧ S' = mo_ S M) := by
  obtain ⟨q_place, r_place, k_place⟩ := hx.2 1 (by decide)
  obtain ⟨q_sort, r_sort, k_sort⟩ := hx.2 2 (by decide)
  have e_ : errI (bookE Z p) = -2 := by unfold bookE; rw [look_out hp]; try rfl
  refine Ct.mk RX11 "book" hy_X11_book (Nat.le_of_ble_eq_true rfl) (fun X hX C => ?_)
  change Go X G _ 2 0 0 (mo_ S M) 0 [(0, .ref x), (1, .int p)] []
  refine g_aload_n 0 0 C dX11_book_0 rfl rfl ?_
  refine g_iload_n 1 1 C dX11_book_1 rfl rfl ?_
  refine g_callV (As := [.int p]) (rest := []) C dX11_book_2 (c_M_isPlace_out hp) wC_X11_isPlace wM_X11_97 wI_X11_isPlace wS_X11_isPlace wN_X11 (kne hx.1) (pf_11 hx.1) rfl hd_X11_isPlace ⟨by decide, by decide, by decide, by decide⟩ (Nat.le_of_ble_eq_true rfl) (fun r_ S_ h_ => ?_)
  obtain ⟨rfl, rfl⟩ := h_
  change Go X G _ 2 _ _ (mo_ S M) 5 [(0, .ref x), (1, .int p)] [.int (nI 0)]
  refine g_nif_ne 11 (by decide) C dX11_book_5 (by decide) (fun c => absurd c (by decide)) (fun _ => ?_)
  refine g_bipush (v := -2) C dX11_book_8 (by decide) ?_
  exact g_iret C dX11_book_10 (by decide) (by decide) (⟨by rw [e_]; try rfl, rfl⟩)
set_option maxRecDepth 100000 in
set_option maxHeartbeats 4000000 in
theorem c_M_book_no {l : Launch} {G : Gx} {S : PS} {M : MoT} {x : Nat} (hx : MoOk S M x) {Z : ZT} (hR : RM M Z) (hZ : okZ Z) {j : Nat} (hj : j < 10) (hp : zP Z j = 0)  : Ct l yX11_book cX11_book 2 (Option.some Jvm.ClassFile.FieldType.int) rm_X11_book G [.ref x, .int (nI j)] (mo_ S M) (fun r S' => r = some (.int (errI (bookE Z (nI j)))) ∧ S' = mo_ S M) := by
  obtain ⟨q_place, r_place, k_place⟩ := hx.2 1 (by decide)
  obtain ⟨q_sort, r_sort, k_sort⟩ := hx.2 2 (by decide)
  have e_ : errI (bookE Z (nI j)) = -3 := by unfold bookE; rw [look_no hj hp]; try rfl
  refine Ct.mk RX11 "book" hy_X11_book (Nat.le_of_ble_eq_true rfl) (fun X hX C => ?_)
  change Go X G _ 2 0 0 (mo_ S M) 0 [(0, .ref x), (1, .int (nI j))] []
  refine g_aload_n 0 0 C dX11_book_0 rfl rfl ?_
  refine g_iload_n 1 1 C dX11_book_1 rfl rfl ?_
  refine g_callV (As := [.int (nI j)]) (rest := []) C dX11_book_2 (c_M_isPlace_in hj) wC_X11_isPlace wM_X11_97 wI_X11_isPlace wS_X11_isPlace wN_X11 (kne hx.1) (pf_11 hx.1) rfl hd_X11_isPlace ⟨by decide, by decide, by decide, by decide⟩ (Nat.le_of_ble_eq_true rfl) (fun r_ S_ h_ => ?_)
  obtain ⟨rfl, rfl⟩ := h_
  change Go X G _ 2 _ _ (mo_ S M) 5 [(0, .ref x), (1, .int (nI j))] [.int (nI 1)]
  refine g_nif_ne 11 (by decide) C dX11_book_5 (by decide) (fun _ => ?_) (fun c => absurd c (by decide))
  refine g_aload_n 0 0 C dX11_book_11 rfl rfl ?_
  refine gr_m_place C dX11_book_12 hx.1 wF_X11_17 r_place ?_
  refine g_iload_n 1 1 C dX11_book_15 rfl rfl ?_
  refine ga_m_place C dX11_book_16 k_place (by omega) ?_
  refine g_topi (((hR.2.1 j hj).trans (by rw [hp]))) ?_
  refine g_nif_ne 23 (by decide) C dX11_book_17 (by decide) (fun c => absurd c (by decide)) (fun _ => ?_)
  refine g_bipush (v := -3) C dX11_book_20 (by decide) ?_
  exact g_iret C dX11_book_22 (by decide) (by decide) (⟨by rw [e_]; try rfl, rfl⟩)
set_option maxRecDepth 100000 in
set_option maxHeartbeats 4000000 in
theorem c_M_book_at {l : Launch} {G : Gx} {S : PS} {M : MoT} {x : Nat} (hx : MoOk S M x) {Z : ZT} (hR : RM M Z) (hZ : okZ Z) {j t : Nat} (hj : j < 10) (hp : zP Z j = t + 1)  : Ct l yX11_book cX11_book 2 (Option.some Jvm.ClassFile.FieldType.int) rm_X11_book G [.ref x, .int (nI j)] (mo_ S M) (fun r S' => r = some (.int (errI (bookE Z (nI j)))) ∧ S' = mo_ S M) := by
  obtain ⟨q_place, r_place, k_place⟩ := hx.2 1 (by decide)
  obtain ⟨q_sort, r_sort, k_sort⟩ := hx.2 2 (by decide)
  have hT := hR.th hj hp
  obtain ⟨hO, ht⟩ := hZ.th hj hp
  have hk1 := hO.1
  have hk2 := hO.2.1
  refine Ct.mk RX11 "book" hy_X11_book (Nat.le_of_ble_eq_true rfl) (fun X hX C => ?_)
  change Go X G _ 2 0 0 (mo_ S M) 0 [(0, .ref x), (1, .int (nI j))] []
  refine g_aload_n 0 0 C dX11_book_0 rfl rfl ?_
  refine g_iload_n 1 1 C dX11_book_1 rfl rfl ?_
  refine g_callV (As := [.int (nI j)]) (rest := []) C dX11_book_2 (c_M_isPlace_in hj) wC_X11_isPlace wM_X11_97 wI_X11_isPlace wS_X11_isPlace wN_X11 (kne hx.1) (pf_11 hx.1) rfl hd_X11_isPlace ⟨by decide, by decide, by decide, by decide⟩ (Nat.le_of_ble_eq_true rfl) (fun r_ S_ h_ => ?_)
  obtain ⟨rfl, rfl⟩ := h_
  change Go X G _ 2 _ _ (mo_ S M) 5 [(0, .ref x), (1, .int (nI j))] [.int (nI 1)]
  refine g_nif_ne 11 (by decide) C dX11_book_5 (by decide) (fun _ => ?_) (fun c => absurd c (by decide))
  refine g_aload_n 0 0 C dX11_book_11 rfl rfl ?_
  refine gr_m_place C dX11_book_12 hx.1 wF_X11_17 r_place ?_
  refine g_iload_n 1 1 C dX11_book_15 rfl rfl ?_
  refine ga_m_place C dX11_book_16 k_place (by omega) ?_
  refine g_topi (((hR.2.1 j hj).trans (by rw [hp]))) ?_
  refine g_nif_ne 23 (by omega) C dX11_book_17 (by decide) (fun _ => ?_) (fun c => absurd c (by omega))
  refine g_aload_n 0 0 C dX11_book_23 rfl rfl ?_
  refine gr_m_sort C dX11_book_24 hx.1 wF_X11_20 r_sort ?_
  refine g_aload_n 0 0 C dX11_book_27 rfl rfl ?_
  refine g_iload_n 1 1 C dX11_book_28 rfl rfl ?_
  refine g_callV (As := [.int (nI j)]) (rest := [.ref q_sort]) C dX11_book_29 (c_M_at hx hj ((hR.2.1 j hj).trans (by rw [hp]))) wC_X11_at wM_X11_108 wI_X11_at wS_X11_at wN_X11 (kne hx.1) (pf_11 hx.1) rfl hd_X11_at ⟨by decide, by decide, by decide, by decide⟩ (Nat.le_of_ble_eq_true rfl) (fun r_ S_ h_ => ?_)
  obtain ⟨rfl, rfl⟩ := h_
  change Go X G _ 2 _ _ (mo_ S M) 32 [(0, .ref x), (1, .int (nI j))] [.int (nI t), .ref q_sort]
  refine ga_m_sort C dX11_book_32 k_sort (by omega) ?_
  refine g_topi (hT.1) ?_
  refine g_iconst (v := nI 5) C dX11_book_33 (by decide) ?_
  refine g_ncmp_le 42 (by omega) (by omega) C dX11_book_34 (by decide) (fun c34 => ?_) (fun c34 => ?_)
  · have e_ : errI (bookE Z (nI j)) = 0 := by unfold bookE; rw [look_at hj hp]; simp only []; rw [if_pos c34]; rfl
    refine g_iconst (v := nI 0) C dX11_book_42 (by decide) ?_
    exact g_iret C dX11_book_43 (by decide) (by decide) (⟨by rw [e_]; try rfl, rfl⟩)
  · have e_ : errI (bookE Z (nI j)) = -4 := by unfold bookE; rw [look_at hj hp]; simp only []; rw [if_neg (by omega)]; rfl
    refine g_bipush (v := -4) C dX11_book_37 (by decide) ?_
    refine g_goto 43 C dX11_book_39 (by decide) ?_
    exact g_iret C dX11_book_43 (by decide) (by decide) (⟨by rw [e_]; try rfl, rfl⟩)
theorem c_M_book {l : Launch} {G : Gx} {S : PS} {M : MoT} {x : Nat} (hx : MoOk S M x) {Z : ZT} (hR : RM M Z) (hZ : okZ Z) {p : Int32}  : Ct l yX11_book cX11_book 2 (Option.some Jvm.ClassFile.FieldType.int) rm_X11_book G [.ref x, .int p] (mo_ S M) (fun r S' => r = some (.int (errI (bookE Z p))) ∧ S' = mo_ S M) := by
  rcases look_cases Z p with h | ⟨j, hj, rfl, h | ⟨t, h⟩⟩
  · exact c_M_book_out hx hR hZ h
  · exact c_M_book_no hx hR hZ hj h
  · exact c_M_book_at hx hR hZ hj h
set_option maxRecDepth 100000 in
set_option maxHeartbeats 4000000 in
theorem c_M_drafted_out {l : Launch} {G : Gx} {S : PS} {M : MoT} {x : Nat} (hx : MoOk S M x) {Z : ZT} (hR : RM M Z) (hZ : okZ Z) {p : Int32} (hp : p < 0 ∨ nI 10 ≤ p)  : Ct l yX11_drafted cX11_drafted 2 (Option.some Jvm.ClassFile.FieldType.int) rm_X11_drafted G [.ref x, .int p] (mo_ S M) (fun r S' => r = some (.int (errI (draftE Z p))) ∧ S' = mo_ S M) := by
  obtain ⟨q_place, r_place, k_place⟩ := hx.2 1 (by decide)
  obtain ⟨q_sort, r_sort, k_sort⟩ := hx.2 2 (by decide)
  have e_ : errI (draftE Z p) = -2 := by unfold draftE; rw [look_out hp]; try rfl
  refine Ct.mk RX11 "drafted" hy_X11_drafted (Nat.le_of_ble_eq_true rfl) (fun X hX C => ?_)
  change Go X G _ 2 0 0 (mo_ S M) 0 [(0, .ref x), (1, .int p)] []
  refine g_aload_n 0 0 C dX11_drafted_0 rfl rfl ?_
  refine g_iload_n 1 1 C dX11_drafted_1 rfl rfl ?_
  refine g_callV (As := [.int p]) (rest := []) C dX11_drafted_2 (c_M_isPlace_out hp) wC_X11_isPlace wM_X11_97 wI_X11_isPlace wS_X11_isPlace wN_X11 (kne hx.1) (pf_11 hx.1) rfl hd_X11_isPlace ⟨by decide, by decide, by decide, by decide⟩ (Nat.le_of_ble_eq_true rfl) (fun r_ S_ h_ => ?_)
  obtain ⟨rfl, rfl⟩ := h_
  change Go X G _ 2 _ _ (mo_ S M) 5 [(0, .ref x), (1, .int p)] [.int (nI 0)]
  refine g_nif_ne 11 (by decide) C dX11_drafted_5 (by decide) (fun c => absurd c (by decide)) (fun _ => ?_)
  refine g_bipush (v := -2) C dX11_drafted_8 (by decide) ?_
  exact g_iret C dX11_drafted_10 (by decide) (by decide) (⟨by rw [e_]; try rfl, rfl⟩)
set_option maxRecDepth 100000 in
set_option maxHeartbeats 4000000 in
theorem c_M_drafted_no {l : Launch} {G : Gx} {S : PS} {M : MoT} {x : Nat} (hx : MoOk S M x) {Z : ZT} (hR : RM M Z) (hZ : okZ Z) {j : Nat} (hj : j < 10) (hp : zP Z j = 0)  : Ct l yX11_drafted cX11_drafted 2 (Option.some Jvm.ClassFile.FieldType.int) rm_X11_drafted G [.ref x, .int (nI j)] (mo_ S M) (fun r S' => r = some (.int (errI (draftE Z (nI j)))) ∧ S' = mo_ S M) := by
  obtain ⟨q_place, r_place, k_place⟩ := hx.2 1 (by decide)
  obtain ⟨q_sort, r_sort, k_sort⟩ := hx.2 2 (by decide)
  have e_ : errI (draftE Z (nI j)) = -3 := by unfold draftE; rw [look_no hj hp]; try rfl
  refine Ct.mk RX11 "drafted" hy_X11_drafted (Nat.le_of_ble_eq_true rfl) (fun X hX C => ?_)
  change Go X G _ 2 0 0 (mo_ S M) 0 [(0, .ref x), (1, .int (nI j))] []
  refine g_aload_n 0 0 C dX11_drafted_0 rfl rfl ?_
  refine g_iload_n 1 1 C dX11_drafted_1 rfl rfl ?_
  refine g_callV (As := [.int (nI j)]) (rest := []) C dX11_drafted_2 (c_M_isPlace_in hj) wC_X11_isPlace wM_X11_97 wI_X11_isPlace wS_X11_isPlace wN_X11 (kne hx.1) (pf_11 hx.1) rfl hd_X11_isPlace ⟨by decide, by decide, by decide, by decide⟩ (Nat.le_of_ble_eq_true rfl) (fun r_ S_ h_ => ?_)
  obtain ⟨rfl, rfl⟩ := h_
  change Go X G _ 2 _ _ (mo_ S M) 5 [(0, .ref x), (1, .int (nI j))] [.int (nI 1)]
  refine g_nif_ne 11 (by decide) C dX11_drafted_5 (by decide) (fun _ => ?_) (fun c => absurd c (by decide))
  refine g_aload_n 0 0 C dX11_drafted_11 rfl rfl ?_
  refine gr_m_place C dX11_drafted_12 hx.1 wF_X11_17 r_place ?_
  refine g_iload_n 1 1 C dX11_drafted_15 rfl rfl ?_
  refine ga_m_place C dX11_drafted_16 k_place (by omega) ?_
  refine g_topi (((hR.2.1 j hj).trans (by rw [hp]))) ?_
  refine g_nif_ne 23 (by decide) C dX11_drafted_17 (by decide) (fun c => absurd c (by decide)) (fun _ => ?_)
  refine g_bipush (v := -3) C dX11_drafted_20 (by decide) ?_
  exact g_iret C dX11_drafted_22 (by decide) (by decide) (⟨by rw [e_]; try rfl, rfl⟩)
set_option maxRecDepth 100000 in
set_option maxHeartbeats 4000000 in
theorem c_M_drafted_at {l : Launch} {G : Gx} {S : PS} {M : MoT} {x : Nat} (hx : MoOk S M x) {Z : ZT} (hR : RM M Z) (hZ : okZ Z) {j t : Nat} (hj : j < 10) (hp : zP Z j = t + 1)  : Ct l yX11_drafted cX11_drafted 2 (Option.some Jvm.ClassFile.FieldType.int) rm_X11_drafted G [.ref x, .int (nI j)] (mo_ S M) (fun r S' => r = some (.int (errI (draftE Z (nI j)))) ∧ S' = mo_ S M) := by
  obtain ⟨q_place, r_place, k_place⟩ := hx.2 1 (by decide)
  obtain ⟨q_sort, r_sort, k_sort⟩ := hx.2 2 (by decide)
  have hT := hR.th hj hp
  obtain ⟨hO, ht⟩ := hZ.th hj hp
  have hk1 := hO.1
  have hk2 := hO.2.1
  refine Ct.mk RX11 "drafted" hy_X11_drafted (Nat.le_of_ble_eq_true rfl) (fun X hX C => ?_)
  change Go X G _ 2 0 0 (mo_ S M) 0 [(0, .ref x), (1, .int (nI j))] []
  refine g_aload_n 0 0 C dX11_drafted_0 rfl rfl ?_
  refine g_iload_n 1 1 C dX11_drafted_1 rfl rfl ?_
  refine g_callV (As := [.int (nI j)]) (rest := []) C dX11_drafted_2 (c_M_isPlace_in hj) wC_X11_isPlace wM_X11_97 wI_X11_isPlace wS_X11_isPlace wN_X11 (kne hx.1) (pf_11 hx.1) rfl hd_X11_isPlace ⟨by decide, by decide, by decide, by decide⟩ (Nat.le_of_ble_eq_true rfl) (fun r_ S_ h_ => ?_)
  obtain ⟨rfl, rfl⟩ := h_
  change Go X G _ 2 _ _ (mo_ S M) 5 [(0, .ref x), (1, .int (nI j))] [.int (nI 1)]
  refine g_nif_ne 11 (by decide) C dX11_drafted_5 (by decide) (fun _ => ?_) (fun c => absurd c (by decide))
  refine g_aload_n 0 0 C dX11_drafted_11 rfl rfl ?_
  refine gr_m_place C dX11_drafted_12 hx.1 wF_X11_17 r_place ?_
  refine g_iload_n 1 1 C dX11_drafted_15 rfl rfl ?_
  refine ga_m_place C dX11_drafted_16 k_place (by omega) ?_
  refine g_topi (((hR.2.1 j hj).trans (by rw [hp]))) ?_
  refine g_nif_ne 23 (by omega) C dX11_drafted_17 (by decide) (fun _ => ?_) (fun c => absurd c (by omega))
  refine g_aload_n 0 0 C dX11_drafted_23 rfl rfl ?_
  refine gr_m_sort C dX11_drafted_24 hx.1 wF_X11_20 r_sort ?_
  refine g_aload_n 0 0 C dX11_drafted_27 rfl rfl ?_
  refine g_iload_n 1 1 C dX11_drafted_28 rfl rfl ?_
  refine g_callV (As := [.int (nI j)]) (rest := [.ref q_sort]) C dX11_drafted_29 (c_M_at hx hj ((hR.2.1 j hj).trans (by rw [hp]))) wC_X11_at wM_X11_108 wI_X11_at wS_X11_at wN_X11 (kne hx.1) (pf_11 hx.1) rfl hd_X11_at ⟨by decide, by decide, by decide, by decide⟩ (Nat.le_of_ble_eq_true rfl) (fun r_ S_ h_ => ?_)
  obtain ⟨rfl, rfl⟩ := h_
  change Go X G _ 2 _ _ (mo_ S M) 32 [(0, .ref x), (1, .int (nI j))] [.int (nI t), .ref q_sort]
  refine ga_m_sort C dX11_drafted_32 k_sort (by omega) ?_
  refine g_topi (hT.1) ?_
  refine g_bipush (v := nI 6) C dX11_drafted_33 (by decide) ?_
  refine g_ncmp_ne 42 (by omega) (by omega) C dX11_drafted_35 (by decide) (fun c35 => ?_) (fun c35 => ?_)
  · have e_ : errI (draftE Z (nI j)) = -4 := by unfold draftE; rw [look_at hj hp]; simp only []; rw [if_neg c35]; rfl
    refine g_bipush (v := -4) C dX11_drafted_42 (by decide) ?_
    exact g_iret C dX11_drafted_44 (by decide) (by decide) (⟨by rw [e_]; try rfl, rfl⟩)
  · have e_ : errI (draftE Z (nI j)) = 0 := by unfold draftE; rw [look_at hj hp]; simp only []; rw [if_pos c35]; rfl
    refine g_iconst (v := nI 0) C dX11_drafted_38 (by decide) ?_
    refine g_goto 44 C dX11_drafted_39 (by decide) ?_
    exact g_iret C dX11_drafted_44 (by decide) (by decide) (⟨by rw [e_]; try rfl, rfl⟩)
theorem c_M_drafted {l : Launch} {G : Gx} {S : PS} {M : MoT} {x : Nat} (hx : MoOk S M x) {Z : ZT} (hR : RM M Z) (hZ : okZ Z) {p : Int32}  : Ct l yX11_drafted cX11_drafted 2 (Option.some Jvm.ClassFile.FieldType.int) rm_X11_drafted G [.ref x, .int p] (mo_ S M) (fun r S' => r = some (.int (errI (draftE Z p))) ∧ S' = mo_ S M) := by
  rcases look_cases Z p with h | ⟨j, hj, rfl, h | ⟨t, h⟩⟩
  · exact c_M_drafted_out hx hR hZ h
  · exact c_M_drafted_no hx hR hZ hj h
  · exact c_M_drafted_at hx hR hZ hj h
set_option maxRecDepth 100000 in
set_option maxHeartbeats 4000000 in
theorem c_M_rowed_out {l : Launch} {G : Gx} {S : PS} {M : MoT} {x : Nat} (hx : MoOk S M x) {Z : ZT} (hR : RM M Z) (hZ : okZ Z) {p : Int32} (hp : p < 0 ∨ nI 10 ≤ p)  : Ct l yX11_rowed cX11_rowed 2 (Option.some Jvm.ClassFile.FieldType.int) rm_X11_rowed G [.ref x, .int p] (mo_ S M) (fun r S' => r = some (.int (errI (rowedE Z p))) ∧ S' = mo_ S M) := by
  obtain ⟨q_place, r_place, k_place⟩ := hx.2 1 (by decide)
  obtain ⟨q_sort, r_sort, k_sort⟩ := hx.2 2 (by decide)
  have e_ : errI (rowedE Z p) = -2 := by unfold rowedE; rw [look_out hp]; try rfl
  refine Ct.mk RX11 "rowed" hy_X11_rowed (Nat.le_of_ble_eq_true rfl) (fun X hX C => ?_)
  change Go X G _ 2 0 0 (mo_ S M) 0 [(0, .ref x), (1, .int p)] []
  refine g_aload_n 0 0 C dX11_rowed_0 rfl rfl ?_
  refine g_iload_n 1 1 C dX11_rowed_1 rfl rfl ?_
  refine g_callV (As := [.int p]) (rest := []) C dX11_rowed_2 (c_M_isPlace_out hp) wC_X11_isPlace wM_X11_97 wI_X11_isPlace wS_X11_isPlace wN_X11 (kne hx.1) (pf_11 hx.1) rfl hd_X11_isPlace ⟨by decide, by decide, by decide, by decide⟩ (Nat.le_of_ble_eq_true rfl) (fun r_ S_ h_ => ?_)
  obtain ⟨rfl, rfl⟩ := h_
  change Go X G _ 2 _ _ (mo_ S M) 5 [(0, .ref x), (1, .int p)] [.int (nI 0)]
  refine g_nif_ne 11 (by decide) C dX11_rowed_5 (by decide) (fun c => absurd c (by decide)) (fun _ => ?_)
  refine g_bipush (v := -2) C dX11_rowed_8 (by decide) ?_
  exact g_iret C dX11_rowed_10 (by decide) (by decide) (⟨by rw [e_]; try rfl, rfl⟩)
set_option maxRecDepth 100000 in
set_option maxHeartbeats 4000000 in
theorem c_M_rowed_no {l : Launch} {G : Gx} {S : PS} {M : MoT} {x : Nat} (hx : MoOk S M x) {Z : ZT} (hR : RM M Z) (hZ : okZ Z) {j : Nat} (hj : j < 10) (hp : zP Z j = 0)  : Ct l yX11_rowed cX11_rowed 2 (Option.some Jvm.ClassFile.FieldType.int) rm_X11_rowed G [.ref x, .int (nI j)] (mo_ S M) (fun r S' => r = some (.int (errI (rowedE Z (nI j)))) ∧ S' = mo_ S M) := by
  obtain ⟨q_place, r_place, k_place⟩ := hx.2 1 (by decide)
  obtain ⟨q_sort, r_sort, k_sort⟩ := hx.2 2 (by decide)
  have e_ : errI (rowedE Z (nI j)) = -3 := by unfold rowedE; rw [look_no hj hp]; try rfl
  refine Ct.mk RX11 "rowed" hy_X11_rowed (Nat.le_of_ble_eq_true rfl) (fun X hX C => ?_)
  change Go X G _ 2 0 0 (mo_ S M) 0 [(0, .ref x), (1, .int (nI j))] []
  refine g_aload_n 0 0 C dX11_rowed_0 rfl rfl ?_
  refine g_iload_n 1 1 C dX11_rowed_1 rfl rfl ?_
  refine g_callV (As := [.int (nI j)]) (rest := []) C dX11_rowed_2 (c_M_isPlace_in hj) wC_X11_isPlace wM_X11_97 wI_X11_isPlace wS_X11_isPlace wN_X11 (kne hx.1) (pf_11 hx.1) rfl hd_X11_isPlace ⟨by decide, by decide, by decide, by decide⟩ (Nat.le_of_ble_eq_true rfl) (fun r_ S_ h_ => ?_)
  obtain ⟨rfl, rfl⟩ := h_
  change Go X G _ 2 _ _ (mo_ S M) 5 [(0, .ref x), (1, .int (nI j))] [.int (nI 1)]
  refine g_nif_ne 11 (by decide) C dX11_rowed_5 (by decide) (fun _ => ?_) (fun c => absurd c (by decide))
  refine g_aload_n 0 0 C dX11_rowed_11 rfl rfl ?_
  refine gr_m_place C dX11_rowed_12 hx.1 wF_X11_17 r_place ?_
  refine g_iload_n 1 1 C dX11_rowed_15 rfl rfl ?_
  refine ga_m_place C dX11_rowed_16 k_place (by omega) ?_
  refine g_topi (((hR.2.1 j hj).trans (by rw [hp]))) ?_
  refine g_nif_ne 23 (by decide) C dX11_rowed_17 (by decide) (fun c => absurd c (by decide)) (fun _ => ?_)
  refine g_bipush (v := -3) C dX11_rowed_20 (by decide) ?_
  exact g_iret C dX11_rowed_22 (by decide) (by decide) (⟨by rw [e_]; try rfl, rfl⟩)
set_option maxRecDepth 100000 in
set_option maxHeartbeats 4000000 in
theorem c_M_rowed_at {l : Launch} {G : Gx} {S : PS} {M : MoT} {x : Nat} (hx : MoOk S M x) {Z : ZT} (hR : RM M Z) (hZ : okZ Z) {j t : Nat} (hj : j < 10) (hp : zP Z j = t + 1)  : Ct l yX11_rowed cX11_rowed 2 (Option.some Jvm.ClassFile.FieldType.int) rm_X11_rowed G [.ref x, .int (nI j)] (mo_ S M) (fun r S' => r = some (.int (errI (rowedE Z (nI j)))) ∧ S' = mo_ S M) := by
  obtain ⟨q_place, r_place, k_place⟩ := hx.2 1 (by decide)
  obtain ⟨q_sort, r_sort, k_sort⟩ := hx.2 2 (by decide)
  have hT := hR.th hj hp
  obtain ⟨hO, ht⟩ := hZ.th hj hp
  have hk1 := hO.1
  have hk2 := hO.2.1
  refine Ct.mk RX11 "rowed" hy_X11_rowed (Nat.le_of_ble_eq_true rfl) (fun X hX C => ?_)
  change Go X G _ 2 0 0 (mo_ S M) 0 [(0, .ref x), (1, .int (nI j))] []
  refine g_aload_n 0 0 C dX11_rowed_0 rfl rfl ?_
  refine g_iload_n 1 1 C dX11_rowed_1 rfl rfl ?_
  refine g_callV (As := [.int (nI j)]) (rest := []) C dX11_rowed_2 (c_M_isPlace_in hj) wC_X11_isPlace wM_X11_97 wI_X11_isPlace wS_X11_isPlace wN_X11 (kne hx.1) (pf_11 hx.1) rfl hd_X11_isPlace ⟨by decide, by decide, by decide, by decide⟩ (Nat.le_of_ble_eq_true rfl) (fun r_ S_ h_ => ?_)
  obtain ⟨rfl, rfl⟩ := h_
  change Go X G _ 2 _ _ (mo_ S M) 5 [(0, .ref x), (1, .int (nI j))] [.int (nI 1)]
  refine g_nif_ne 11 (by decide) C dX11_rowed_5 (by decide) (fun _ => ?_) (fun c => absurd c (by decide))
  refine g_aload_n 0 0 C dX11_rowed_11 rfl rfl ?_
  refine gr_m_place C dX11_rowed_12 hx.1 wF_X11_17 r_place ?_
  refine g_iload_n 1 1 C dX11_rowed_15 rfl rfl ?_
  refine ga_m_place C dX11_rowed_16 k_place (by omega) ?_
  refine g_topi (((hR.2.1 j hj).trans (by rw [hp]))) ?_
  refine g_nif_ne 23 (by omega) C dX11_rowed_17 (by decide) (fun _ => ?_) (fun c => absurd c (by omega))
  refine g_aload_n 0 0 C dX11_rowed_23 rfl rfl ?_
  refine gr_m_sort C dX11_rowed_24 hx.1 wF_X11_20 r_sort ?_
  refine g_aload_n 0 0 C dX11_rowed_27 rfl rfl ?_
  refine g_iload_n 1 1 C dX11_rowed_28 rfl rfl ?_
  refine g_callV (As := [.int (nI j)]) (rest := [.ref q_sort]) C dX11_rowed_29 (c_M_at hx hj ((hR.2.1 j hj).trans (by rw [hp]))) wC_X11_at wM_X11_108 wI_X11_at wS_X11_at wN_X11 (kne hx.1) (pf_11 hx.1) rfl hd_X11_at ⟨by decide, by decide, by decide, by decide⟩ (Nat.le_of_ble_eq_true rfl) (fun r_ S_ h_ => ?_)
  obtain ⟨rfl, rfl⟩ := h_
  change Go X G _ 2 _ _ (mo_ S M) 32 [(0, .ref x), (1, .int (nI j))] [.int (nI t), .ref q_sort]
  refine ga_m_sort C dX11_rowed_32 k_sort (by omega) ?_
  refine g_topi (hT.1) ?_
  refine g_iconst (v := nI 1) C dX11_rowed_33 (by decide) ?_
  refine g_ncmp_eq 52 (by omega) (by omega) C dX11_rowed_34 (by decide) (fun c34 => ?_) (fun c34 => ?_)
  · have e_ : errI (rowedE Z (nI j)) = -4 := by unfold rowedE; rw [look_at hj hp]; simp only []; rw [if_pos (Or.inl c34)]; rfl
    refine g_bipush (v := -4) C dX11_rowed_52 (by decide) ?_
    refine g_goto 58 C dX11_rowed_54 (by decide) ?_
    exact g_iret C dX11_rowed_58 (by decide) (by decide) (⟨by rw [e_]; try rfl, rfl⟩)
  · refine g_aload_n 0 0 C dX11_rowed_37 rfl rfl ?_
    refine gr_m_sort C dX11_rowed_38 hx.1 wF_X11_20 r_sort ?_
    refine g_aload_n 0 0 C dX11_rowed_41 rfl rfl ?_
    refine g_iload_n 1 1 C dX11_rowed_42 rfl rfl ?_
    refine g_callV (As := [.int (nI j)]) (rest := [.ref q_sort]) C dX11_rowed_43 (c_M_at hx hj ((hR.2.1 j hj).trans (by rw [hp]))) wC_X11_at wM_X11_108 wI_X11_at wS_X11_at wN_X11 (kne hx.1) (pf_11 hx.1) rfl hd_X11_at ⟨by decide, by decide, by decide, by decide⟩ (Nat.le_of_ble_eq_true rfl) (fun r_ S_ h_ => ?_)
    obtain ⟨rfl, rfl⟩ := h_
    change Go X G _ 2 _ _ (mo_ S M) 46 [(0, .ref x), (1, .int (nI j))] [.int (nI t), .ref q_sort]
    refine ga_m_sort C dX11_rowed_46 k_sort (by omega) ?_
    refine g_topi (hT.1) ?_
    refine g_bipush (v := nI 6) C dX11_rowed_47 (by decide) ?_
    refine g_ncmp_ne 57 (by omega) (by omega) C dX11_rowed_49 (by decide) (fun c49 => ?_) (fun c49 => ?_)
    · have e_ : errI (rowedE Z (nI j)) = 0 := by unfold rowedE; rw [look_at hj hp]; simp only []; rw [if_neg (fun h => h.elim c34 c49)]; rfl
      refine g_iconst (v := nI 0) C dX11_rowed_57 (by decide) ?_
      exact g_iret C dX11_rowed_58 (by decide) (by decide) (⟨by rw [e_]; try rfl, rfl⟩)
    · have e_ : errI (rowedE Z (nI j)) = -4 := by unfold rowedE; rw [look_at hj hp]; simp only []; rw [if_pos (Or.inr c49)]; rfl
      refine g_bipush (v := -4) C dX11_rowed_52 (by decide) ?_
      refine g_goto 58 C dX11_rowed_54 (by decide) ?_
      exact g_iret C dX11_rowed_58 (by decide) (by decide) (⟨by rw [e_]; try rfl, rfl⟩)
theorem c_M_rowed {l : Launch} {G : Gx} {S : PS} {M : MoT} {x : Nat} (hx : MoOk S M x) {Z : ZT} (hR : RM M Z) (hZ : okZ Z) {p : Int32}  : Ct l yX11_rowed cX11_rowed 2 (Option.some Jvm.ClassFile.FieldType.int) rm_X11_rowed G [.ref x, .int p] (mo_ S M) (fun r S' => r = some (.int (errI (rowedE Z p))) ∧ S' = mo_ S M) := by
  rcases look_cases Z p with h | ⟨j, hj, rfl, h | ⟨t, h⟩⟩
  · exact c_M_rowed_out hx hR hZ h
  · exact c_M_rowed_no hx hR hZ hj h
  · exact c_M_rowed_at hx hR hZ hj h
def A_kind (Z : ZT) (p : Int32) : Int32 := match look Z p with
  | .inl e => if e = -3 then 0 else e
  | .inr t => nI (tK (zH Z t))
set_option maxRecDepth 100000 in
set_option maxHeartbeats 4000000 in
theorem c_M_kind_out {l : Launch} {G : Gx} {S : PS} {M : MoT} {x : Nat} (hx : MoOk S M x) {Z : ZT} (hR : RM M Z) (hZ : okZ Z) {p : Int32} (hp : p < 0 ∨ nI 10 ≤ p)  : Ct l yX11_kind cX11_kind 2 (Option.some Jvm.ClassFile.FieldType.int) rm_X11_kind G [.ref x, .int p] (mo_ S M) (fun r S' => r = some (.int (A_kind Z p)) ∧ S' = mo_ S M) := by
  obtain ⟨q_place, r_place, k_place⟩ := hx.2 1 (by decide)
  obtain ⟨q_sort, r_sort, k_sort⟩ := hx.2 2 (by decide)
  have e_ : A_kind Z p = -2 := by unfold A_kind; rw [look_out hp]; try rfl
  refine Ct.mk RX11 "kind" hy_X11_kind (Nat.le_of_ble_eq_true rfl) (fun X hX C => ?_)
  change Go X G _ 2 0 0 (mo_ S M) 0 [(0, .ref x), (1, .int p)] []
  refine g_aload_n 0 0 C dX11_kind_0 rfl rfl ?_
  refine g_iload_n 1 1 C dX11_kind_1 rfl rfl ?_
  refine g_callV (As := [.int p]) (rest := []) C dX11_kind_2 (c_M_isPlace_out hp) wC_X11_isPlace wM_X11_97 wI_X11_isPlace wS_X11_isPlace wN_X11 (kne hx.1) (pf_11 hx.1) rfl hd_X11_isPlace ⟨by decide, by decide, by decide, by decide⟩ (Nat.le_of_ble_eq_true rfl) (fun r_ S_ h_ => ?_)
  obtain ⟨rfl, rfl⟩ := h_
  change Go X G _ 2 _ _ (mo_ S M) 5 [(0, .ref x), (1, .int p)] [.int (nI 0)]
  refine g_nif_ne 11 (by decide) C dX11_kind_5 (by decide) (fun c => absurd c (by decide)) (fun _ => ?_)
  refine g_bipush (v := -2) C dX11_kind_8 (by decide) ?_
  exact g_iret C dX11_kind_10 (by decide) (by decide) (⟨by rw [e_]; try rfl, rfl⟩)
set_option maxRecDepth 100000 in
set_option maxHeartbeats 4000000 in
theorem c_M_kind_no {l : Launch} {G : Gx} {S : PS} {M : MoT} {x : Nat} (hx : MoOk S M x) {Z : ZT} (hR : RM M Z) (hZ : okZ Z) {j : Nat} (hj : j < 10) (hp : zP Z j = 0)  : Ct l yX11_kind cX11_kind 2 (Option.some Jvm.ClassFile.FieldType.int) rm_X11_kind G [.ref x, .int (nI j)] (mo_ S M) (fun r S' => r = some (.int (A_kind Z (nI j))) ∧ S' = mo_ S M) := by
  obtain ⟨q_place, r_place, k_place⟩ := hx.2 1 (by decide)
  obtain ⟨q_sort, r_sort, k_sort⟩ := hx.2 2 (by decide)
  refine Ct.mk RX11 "kind" hy_X11_kind (Nat.le_of_ble_eq_true rfl) (fun X hX C => ?_)
  change Go X G _ 2 0 0 (mo_ S M) 0 [(0, .ref x), (1, .int (nI j))] []
  refine g_aload_n 0 0 C dX11_kind_0 rfl rfl ?_
  refine g_iload_n 1 1 C dX11_kind_1 rfl rfl ?_
  refine g_callV (As := [.int (nI j)]) (rest := []) C dX11_kind_2 (c_M_isPlace_in hj) wC_X11_isPlace wM_X11_97 wI_X11_isPlace wS_X11_isPlace wN_X11 (kne hx.1) (pf_11 hx.1) rfl hd_X11_isPlace ⟨by decide, by decide, by decide, by decide⟩ (Nat.le_of_ble_eq_true rfl) (fun r_ S_ h_ => ?_)
  obtain ⟨rfl, rfl⟩ := h_
  change Go X G _ 2 _ _ (mo_ S M) 5 [(0, .ref x), (1, .int (nI j))] [.int (nI 1)]
  refine g_nif_ne 11 (by decide) C dX11_kind_5 (by decide) (fun _ => ?_) (fun c => absurd c (by decide))
  refine g_aload_n 0 0 C dX11_kind_11 rfl rfl ?_
  refine gr_m_place C dX11_kind_12 hx.1 wF_X11_17 r_place ?_
  refine g_iload_n 1 1 C dX11_kind_15 rfl rfl ?_
  refine ga_m_place C dX11_kind_16 k_place (by omega) ?_
  refine g_topi (((hR.2.1 j hj).trans (by rw [hp]))) ?_
  refine g_nif_ne 24 (by decide) C dX11_kind_17 (by decide) (fun c => absurd c (by decide)) (fun _ => ?_)
  refine g_iconst (v := nI 0) C dX11_kind_20 (by decide) ?_
  refine g_goto 34 C dX11_kind_21 (by decide) ?_
  exact g_iret C dX11_kind_34 (by decide) (by decide) (⟨by unfold A_kind; rw [look_no hj hp]; rfl, rfl⟩)
set_option maxRecDepth 100000 in
set_option maxHeartbeats 4000000 in
theorem c_M_kind_at {l : Launch} {G : Gx} {S : PS} {M : MoT} {x : Nat} (hx : MoOk S M x) {Z : ZT} (hR : RM M Z) (hZ : okZ Z) {j t : Nat} (hj : j < 10) (hp : zP Z j = t + 1)  : Ct l yX11_kind cX11_kind 2 (Option.some Jvm.ClassFile.FieldType.int) rm_X11_kind G [.ref x, .int (nI j)] (mo_ S M) (fun r S' => r = some (.int (A_kind Z (nI j))) ∧ S' = mo_ S M) := by
  obtain ⟨q_place, r_place, k_place⟩ := hx.2 1 (by decide)
  obtain ⟨q_sort, r_sort, k_sort⟩ := hx.2 2 (by decide)
  have hT := hR.th hj hp
  obtain ⟨hO, ht⟩ := hZ.th hj hp
  have hk1 := hO.1
  have hk2 := hO.2.1
  refine Ct.mk RX11 "kind" hy_X11_kind (Nat.le_of_ble_eq_true rfl) (fun X hX C => ?_)
  change Go X G _ 2 0 0 (mo_ S M) 0 [(0, .ref x), (1, .int (nI j))] []
  refine g_aload_n 0 0 C dX11_kind_0 rfl rfl ?_
  refine g_iload_n 1 1 C dX11_kind_1 rfl rfl ?_
  refine g_callV (As := [.int (nI j)]) (rest := []) C dX11_kind_2 (c_M_isPlace_in hj) wC_X11_isPlace wM_X11_97 wI_X11_isPlace wS_X11_isPlace wN_X11 (kne hx.1) (pf_11 hx.1) rfl hd_X11_isPlace ⟨by decide, by decide, by decide, by decide⟩ (Nat.le_of_ble_eq_true rfl) (fun r_ S_ h_ => ?_)
  obtain ⟨rfl, rfl⟩ := h_
  change Go X G _ 2 _ _ (mo_ S M) 5 [(0, .ref x), (1, .int (nI j))] [.int (nI 1)]
  refine g_nif_ne 11 (by decide) C dX11_kind_5 (by decide) (fun _ => ?_) (fun c => absurd c (by decide))
  refine g_aload_n 0 0 C dX11_kind_11 rfl rfl ?_
  refine gr_m_place C dX11_kind_12 hx.1 wF_X11_17 r_place ?_
  refine g_iload_n 1 1 C dX11_kind_15 rfl rfl ?_
  refine ga_m_place C dX11_kind_16 k_place (by omega) ?_
  refine g_topi (((hR.2.1 j hj).trans (by rw [hp]))) ?_
  refine g_nif_ne 24 (by omega) C dX11_kind_17 (by decide) (fun _ => ?_) (fun c => absurd c (by omega))
  refine g_aload_n 0 0 C dX11_kind_24 rfl rfl ?_
  refine gr_m_sort C dX11_kind_25 hx.1 wF_X11_20 r_sort ?_
  refine g_aload_n 0 0 C dX11_kind_28 rfl rfl ?_
  refine g_iload_n 1 1 C dX11_kind_29 rfl rfl ?_
  refine g_callV (As := [.int (nI j)]) (rest := [.ref q_sort]) C dX11_kind_30 (c_M_at hx hj ((hR.2.1 j hj).trans (by rw [hp]))) wC_X11_at wM_X11_108 wI_X11_at wS_X11_at wN_X11 (kne hx.1) (pf_11 hx.1) rfl hd_X11_at ⟨by decide, by decide, by decide, by decide⟩ (Nat.le_of_ble_eq_true rfl) (fun r_ S_ h_ => ?_)
  obtain ⟨rfl, rfl⟩ := h_
  change Go X G _ 2 _ _ (mo_ S M) 33 [(0, .ref x), (1, .int (nI j))] [.int (nI t), .ref q_sort]
  refine ga_m_sort C dX11_kind_33 k_sort (by omega) ?_
  refine g_topi (hT.1) ?_
  exact g_iret C dX11_kind_34 (by decide) (by decide) (⟨by unfold A_kind; rw [look_at hj hp], rfl⟩)
theorem c_M_kind {l : Launch} {G : Gx} {S : PS} {M : MoT} {x : Nat} (hx : MoOk S M x) {Z : ZT} (hR : RM M Z) (hZ : okZ Z) {p : Int32}  : Ct l yX11_kind cX11_kind 2 (Option.some Jvm.ClassFile.FieldType.int) rm_X11_kind G [.ref x, .int p] (mo_ S M) (fun r S' => r = some (.int (A_kind Z p)) ∧ S' = mo_ S M) := by
  rcases look_cases Z p with h | ⟨j, hj, rfl, h | ⟨t, h⟩⟩
  · exact c_M_kind_out hx hR hZ h
  · exact c_M_kind_no hx hR hZ hj h
  · exact c_M_kind_at hx hR hZ hj h
set_option maxRecDepth 100000 in
set_option maxHeartbeats 4000000 in
theorem c_M_takes {l : Launch} {G : Gx} {S : PS} {M : MoT} {x : Nat} (hx : MoOk S M x) {tp : List Nat} (ht : tapeM M tp) (hl : tp.length ≤ 1000) (hlt : ∀ i, i < tp.length → tp.getD i 0 ≤ 255) : Ct l yX11_takes cX11_takes 3 (Option.some Jvm.ClassFile.FieldType.boolean) rm_X11_takes G [.ref x] (mo_ S M) (fun r S' => ∃ fn : Nat → Int32, r = some (.int (bI (nameB tp))) ∧ S' = mo_ S (m_taped_ (m_length_ (m_name_ M fn) (nI tp.length)) 0) ∧ (nameB tp = true → ∀ i, i < tp.length → fn i = nI (tp.getD i 0))) := by
  obtain ⟨q_tape, r_tape, k_tape⟩ := hx.2 0 (by decide)
  obtain ⟨q_name, r_name, k_name⟩ := hx.2 13 (by decide)
  refine Ct.mk RX11 "takes" hy_X11_takes (Nat.le_of_ble_eq_true rfl) (fun X hX C => ?_)
  change Go X G _ 3 0 0 (mo_ S M) 0 [(0, .ref x)] []
  have lp : ∀ (n_ : Nat) (k : Nat) (fn : Nat → Int32), tp.length - k < n_ → (k ≤ tp.length ∧ 1 ≤ tp.length ∧ tp.length ≤ 24 ∧ ∀ j, j < k → tp.getD j 0 ≠ 0 ∧ fn j = nI (tp.getD j 0)) → Go X G (Qe X G (fun r S' => ∃ fn : Nat → Int32, r = some (.int (bI (nameB tp))) ∧ S' = mo_ S (m_taped_ (m_length_ (m_name_ M fn) (nI tp.length)) 0) ∧ (nameB tp = true → ∀ i, i < tp.length → fn i = nI (tp.getD i 0))) rm_X11_takes.cells rm_X11_takes.slots) 3 0 0 (mo_ S (m_name_ M fn)) 25 [(2, .int (nI k)), (1, .int (nI 1)), (0, .ref x)] [] := by
    intro n_
    induction n_ with
    | zero => intro k fn hm_; exact absurd hm_ (Nat.not_lt_zero _)
    | succ n_ ih_ =>
      intro k fn hm_ hi
      refine g_iload_n 0 2 C dX11_takes_25 rfl rfl ?_
      refine g_aload_n 2 0 C dX11_takes_26 rfl rfl ?_
      refine gf_m_taped C dX11_takes_27 hx.1 wF_X11_13 ?_
      refine g_topi (ht.1) ?_
      refine g_ncmp_ge 70 (by omega) (by omega) C dX11_takes_30 (by decide) (fun c30 => ?_) (fun c30 => ?_)
      · have e_ : nameB tp = true := by unfold nameB; rw [decide_eq_true hi.2.1, decide_eq_true hi.2.2.1, decide_eq_true (fN_eq (Nat.le_refl _) (fun j hj => by simpa using (hi.2.2.2 j (by omega)).1) (Or.inl rfl))]; rfl
        refine g_aload_n 2 0 C dX11_takes_70 rfl rfl ?_
        refine g_aload_n 2 0 C dX11_takes_71 rfl rfl ?_
        refine gf_m_taped C dX11_takes_72 hx.1 wF_X11_13 ?_
        refine g_topi (ht.1) ?_
        refine pp_m_length C dX11_takes_75 hx.1 wF_X11_59 (Or.inl rfl) ?_
        refine g_aload_n 2 0 C dX11_takes_78 rfl rfl ?_
        refine g_iconst (v := nI 0) C dX11_takes_79 (by decide) ?_
        refine pp_m_taped C dX11_takes_80 hx.1 wF_X11_13 (Or.inl rfl) ?_
        refine g_iload_n 1 1 C dX11_takes_83 rfl rfl ?_
        exact g_zret C dX11_takes_84 (by decide) (by decide) (Or.inr rfl) ⟨_, by rw [e_]; rfl, rfl, fun _ i hi2 => (hi.2.2.2 i (by omega)).2⟩
      · refine g_iload_n 1 1 C dX11_takes_33 rfl rfl ?_
        refine g_nif_eq 70 (by decide) C dX11_takes_34 (by decide) (fun c => absurd c (by decide)) (fun _ => ?_)
        have hb := hlt k (by omega)
        refine g_aload_n 2 0 C dX11_takes_37 rfl rfl ?_
        refine gr_m_tape C dX11_takes_38 hx.1 wF_X11_7 r_tape ?_
        refine g_iload_n 0 2 C dX11_takes_41 rfl rfl ?_
        refine ga_m_tape C dX11_takes_42 k_tape (by omega) ?_
        refine g_topi (ht.2 _ (by omega)) ?_
        refine g_nif_eq 50 (by omega) C dX11_takes_43 (by decide) (fun c43 => ?_) (fun c43 => ?_)
        · have e_ : nameB tp = false := by
            unfold nameB
            have : fN (fun i => tp.getD i 0 != 0) tp.length = k := fN_eq (by omega) (fun j hj => by simpa using (hi.2.2.2 j hj).1) (Or.inr (by rw [c43]; rfl))
            rw [decide_eq_false (p := fN _ _ = _) (by omega), Bool.and_false]
          refine g_iconst (v := nI 0) C dX11_takes_50 (by decide) ?_
          refine g_istore_n (lv' := [(1, .int (nI 0)), (2, .int (nI k)), (0, .ref x)]) C dX11_takes_51 rfl (by decide) rfl ?_
          refine g_aload_n 2 0 C dX11_takes_52 rfl rfl ?_
          refine gr_m_name C dX11_takes_53 hx.1 wF_X11_56 r_name ?_
          refine g_iload_n 1 2 C dX11_takes_56 rfl rfl ?_
          refine g_aload_n 2 0 C dX11_takes_57 rfl rfl ?_
          refine gr_m_tape C dX11_takes_58 hx.1 wF_X11_7 r_tape ?_
          refine g_iload_n 1 2 C dX11_takes_61 rfl rfl ?_
          refine ga_m_tape C dX11_takes_62 k_tape (by omega) ?_
          refine g_topi (ht.2 _ (by omega)) ?_
          refine gs_m_name C dX11_takes_63 k_name (by omega) ?_
          refine g_iinc (v := nI (k + 1)) (lv' := [(2, .int (nI (k + 1))), (1, .int (nI 0)), (0, .ref x)]) 1 C dX11_takes_64 rfl (nI_add _ 1) (by decide) rfl ?_
          refine g_goto 25 C dX11_takes_67 (by decide) ?_
          refine g_iload_n 0 2 C dX11_takes_25 rfl rfl ?_
          refine g_aload_n 2 0 C dX11_takes_26 rfl rfl ?_
          refine gf_m_taped C dX11_takes_27 hx.1 wF_X11_13 ?_
          refine g_topi (ht.1) ?_
          refine g_ncmp_ge 70 (by omega) (by omega) C dX11_takes_30 (by decide) (fun c30 => ?_) (fun c30 => ?_)
          · refine g_aload_n 2 0 C dX11_takes_70 rfl rfl ?_
            refine g_aload_n 2 0 C dX11_takes_71 rfl rfl ?_
            refine gf_m_taped C dX11_takes_72 hx.1 wF_X11_13 ?_
            refine g_topi (ht.1) ?_
            refine pp_m_length C dX11_takes_75 hx.1 wF_X11_59 (Or.inl rfl) ?_
            refine g_aload_n 2 0 C dX11_takes_78 rfl rfl ?_
            refine g_iconst (v := nI 0) C dX11_takes_79 (by decide) ?_
            refine pp_m_taped C dX11_takes_80 hx.1 wF_X11_13 (Or.inl rfl) ?_
            refine g_iload_n 1 1 C dX11_takes_83 rfl rfl ?_
            exact g_zret C dX11_takes_84 (by decide) (by decide) (Or.inl rfl) ⟨_, by rw [e_]; rfl, rfl, fun h => absurd h (by rw [e_]; decide)⟩
          · refine g_iload_n 1 1 C dX11_takes_33 rfl rfl ?_
            refine g_nif_eq 70 (by decide) C dX11_takes_34 (by decide) (fun _ => ?_) (fun c => absurd c (by decide))
            refine g_aload_n 2 0 C dX11_takes_70 rfl rfl ?_
            refine g_aload_n 2 0 C dX11_takes_71 rfl rfl ?_
            refine gf_m_taped C dX11_takes_72 hx.1 wF_X11_13 ?_
            refine g_topi (ht.1) ?_
            refine pp_m_length C dX11_takes_75 hx.1 wF_X11_59 (Or.inl rfl) ?_
            refine g_aload_n 2 0 C dX11_takes_78 rfl rfl ?_
            refine g_iconst (v := nI 0) C dX11_takes_79 (by decide) ?_
            refine pp_m_taped C dX11_takes_80 hx.1 wF_X11_13 (Or.inl rfl) ?_
            refine g_iload_n 1 1 C dX11_takes_83 rfl rfl ?_
            exact g_zret C dX11_takes_84 (by decide) (by decide) (Or.inl rfl) ⟨_, by rw [e_]; rfl, rfl, fun h => absurd h (by rw [e_]; decide)⟩
        · refine g_iconst (v := nI 1) C dX11_takes_46 (by decide) ?_
          refine g_goto 51 C dX11_takes_47 (by decide) ?_
          refine g_istore_n (lv' := [(1, .int (nI 1)), (2, .int (nI k)), (0, .ref x)]) C dX11_takes_51 rfl (by decide) rfl ?_
          refine g_aload_n 2 0 C dX11_takes_52 rfl rfl ?_
          refine gr_m_name C dX11_takes_53 hx.1 wF_X11_56 r_name ?_
          refine g_iload_n 1 2 C dX11_takes_56 rfl rfl ?_
          refine g_aload_n 2 0 C dX11_takes_57 rfl rfl ?_
          refine gr_m_tape C dX11_takes_58 hx.1 wF_X11_7 r_tape ?_
          refine g_iload_n 1 2 C dX11_takes_61 rfl rfl ?_
          refine ga_m_tape C dX11_takes_62 k_tape (by omega) ?_
          refine g_topi (ht.2 _ (by omega)) ?_
          refine gs_m_name C dX11_takes_63 k_name (by omega) ?_
          refine g_iinc (v := nI (k + 1)) (lv' := [(2, .int (nI (k + 1))), (1, .int (nI 1)), (0, .ref x)]) 1 C dX11_takes_64 rfl (nI_add _ 1) (by decide) rfl ?_
          refine g_goto 25 C dX11_takes_67 (by decide) ?_
          exact ih_ (k + 1) _ (by omega) ⟨by omega, by omega, by omega, fun j hj => by
            by_cases e : j = k
            · rw [e]; exact ⟨c43, by simp [upd]⟩
            · exact ⟨(hi.2.2.2 j (by omega)).1, by simp only [upd, if_neg e]; exact (hi.2.2.2 j (by omega)).2⟩⟩
  refine g_aload_n 0 0 C dX11_takes_0 rfl rfl ?_
  refine gf_m_taped C dX11_takes_1 hx.1 wF_X11_13 ?_
  refine g_topi (ht.1) ?_
  refine g_iconst (v := nI 1) C dX11_takes_4 (by decide) ?_
  refine g_ncmp_lt 21 (by omega) (by omega) C dX11_takes_5 (by decide) (fun c5 => ?_) (fun c5 => ?_)
  · have e_ : nameB tp = false := by unfold nameB; rw [decide_eq_false (p := 1 ≤ tp.length) (by omega)]; rfl
    refine g_iconst (v := nI 0) C dX11_takes_21 (by decide) ?_
    refine g_istore_n (lv' := [(1, .int (nI 0)), (0, .ref x)]) C dX11_takes_22 rfl (by decide) rfl ?_
    refine g_iconst (v := nI 0) C dX11_takes_23 (by decide) ?_
    refine g_istore_n (lv' := [(2, .int (nI 0)), (1, .int (nI 0)), (0, .ref x)]) C dX11_takes_24 rfl (by decide) rfl ?_
    refine g_iload_n 0 2 C dX11_takes_25 rfl rfl ?_
    refine g_aload_n 2 0 C dX11_takes_26 rfl rfl ?_
    refine gf_m_taped C dX11_takes_27 hx.1 wF_X11_13 ?_
    refine g_topi (ht.1) ?_
    refine g_ncmp_ge 70 (by omega) (by omega) C dX11_takes_30 (by decide) (fun c30 => ?_) (fun c30 => ?_)
    · refine g_aload_n 2 0 C dX11_takes_70 rfl rfl ?_
      refine g_aload_n 2 0 C dX11_takes_71 rfl rfl ?_
      refine gf_m_taped C dX11_takes_72 hx.1 wF_X11_13 ?_
      refine g_topi (ht.1) ?_
      refine pp_m_length C dX11_takes_75 hx.1 wF_X11_59 (Or.inl rfl) ?_
      refine g_aload_n 2 0 C dX11_takes_78 rfl rfl ?_
      refine g_iconst (v := nI 0) C dX11_takes_79 (by decide) ?_
      refine pp_m_taped C dX11_takes_80 hx.1 wF_X11_13 (Or.inl rfl) ?_
      refine g_iload_n 1 1 C dX11_takes_83 rfl rfl ?_
      exact g_zret C dX11_takes_84 (by decide) (by decide) (Or.inl rfl) ⟨_, by rw [e_]; rfl, rfl, fun h => absurd h (by rw [e_]; decide)⟩
    · refine g_iload_n 1 1 C dX11_takes_33 rfl rfl ?_
      refine g_nif_eq 70 (by decide) C dX11_takes_34 (by decide) (fun _ => ?_) (fun c => absurd c (by decide))
      refine g_aload_n 2 0 C dX11_takes_70 rfl rfl ?_
      refine g_aload_n 2 0 C dX11_takes_71 rfl rfl ?_
      refine gf_m_taped C dX11_takes_72 hx.1 wF_X11_13 ?_
      refine g_topi (ht.1) ?_
      refine pp_m_length C dX11_takes_75 hx.1 wF_X11_59 (Or.inl rfl) ?_
      refine g_aload_n 2 0 C dX11_takes_78 rfl rfl ?_
      refine g_iconst (v := nI 0) C dX11_takes_79 (by decide) ?_
      refine pp_m_taped C dX11_takes_80 hx.1 wF_X11_13 (Or.inl rfl) ?_
      refine g_iload_n 1 1 C dX11_takes_83 rfl rfl ?_
      exact g_zret C dX11_takes_84 (by decide) (by decide) (Or.inl rfl) ⟨_, by rw [e_]; rfl, rfl, fun h => absurd h (by rw [e_]; decide)⟩
  · refine g_aload_n 0 0 C dX11_takes_8 rfl rfl ?_
    refine gf_m_taped C dX11_takes_9 hx.1 wF_X11_13 ?_
    refine g_topi (ht.1) ?_
    refine g_bipush (v := nI 24) C dX11_takes_12 (by decide) ?_
    refine g_ncmp_gt 21 (by omega) (by omega) C dX11_takes_14 (by decide) (fun c14 => ?_) (fun c14 => ?_)
    · have e_ : nameB tp = false := by unfold nameB; rw [decide_eq_false (p := tp.length ≤ 24) (by omega), Bool.and_false, Bool.false_and]
      refine g_iconst (v := nI 0) C dX11_takes_21 (by decide) ?_
      refine g_istore_n (lv' := [(1, .int (nI 0)), (0, .ref x)]) C dX11_takes_22 rfl (by decide) rfl ?_
      refine g_iconst (v := nI 0) C dX11_takes_23 (by decide) ?_
      refine g_istore_n (lv' := [(2, .int (nI 0)), (1, .int (nI 0)), (0, .ref x)]) C dX11_takes_24 rfl (by decide) rfl ?_
      refine g_iload_n 0 2 C dX11_takes_25 rfl rfl ?_
      refine g_aload_n 2 0 C dX11_takes_26 rfl rfl ?_
      refine gf_m_taped C dX11_takes_27 hx.1 wF_X11_13 ?_
      refine g_topi (ht.1) ?_
      refine g_ncmp_ge 70 (by omega) (by omega) C dX11_takes_30 (by decide) (fun c30 => ?_) (fun c30 => ?_)
      · refine g_aload_n 2 0 C dX11_takes_70 rfl rfl ?_
        refine g_aload_n 2 0 C dX11_takes_71 rfl rfl ?_
        refine gf_m_taped C dX11_takes_72 hx.1 wF_X11_13 ?_
        refine g_topi (ht.1) ?_
        refine pp_m_length C dX11_takes_75 hx.1 wF_X11_59 (Or.inl rfl) ?_
        refine g_aload_n 2 0 C dX11_takes_78 rfl rfl ?_
        refine g_iconst (v := nI 0) C dX11_takes_79 (by decide) ?_
        refine pp_m_taped C dX11_takes_80 hx.1 wF_X11_13 (Or.inl rfl) ?_
        refine g_iload_n 1 1 C dX11_takes_83 rfl rfl ?_
        exact g_zret C dX11_takes_84 (by decide) (by decide) (Or.inl rfl) ⟨_, by rw [e_]; rfl, rfl, fun h => absurd h (by rw [e_]; decide)⟩
      · refine g_iload_n 1 1 C dX11_takes_33 rfl rfl ?_
        refine g_nif_eq 70 (by decide) C dX11_takes_34 (by decide) (fun _ => ?_) (fun c => absurd c (by decide))
        refine g_aload_n 2 0 C dX11_takes_70 rfl rfl ?_
        refine g_aload_n 2 0 C dX11_takes_71 rfl rfl ?_
        refine gf_m_taped C dX11_takes_72 hx.1 wF_X11_13 ?_
        refine g_topi (ht.1) ?_
        refine pp_m_length C dX11_takes_75 hx.1 wF_X11_59 (Or.inl rfl) ?_
        refine g_aload_n 2 0 C dX11_takes_78 rfl rfl ?_
        refine g_iconst (v := nI 0) C dX11_takes_79 (by decide) ?_
        refine pp_m_taped C dX11_takes_80 hx.1 wF_X11_13 (Or.inl rfl) ?_
        refine g_iload_n 1 1 C dX11_takes_83 rfl rfl ?_
        exact g_zret C dX11_takes_84 (by decide) (by decide) (Or.inl rfl) ⟨_, by rw [e_]; rfl, rfl, fun h => absurd h (by rw [e_]; decide)⟩
    · refine g_iconst (v := nI 1) C dX11_takes_17 (by decide) ?_
      refine g_goto 22 C dX11_takes_18 (by decide) ?_
      refine g_istore_n (lv' := [(1, .int (nI 1)), (0, .ref x)]) C dX11_takes_22 rfl (by decide) rfl ?_
      refine g_iconst (v := nI 0) C dX11_takes_23 (by decide) ?_
      refine g_istore_n (lv' := [(2, .int (nI 0)), (1, .int (nI 1)), (0, .ref x)]) C dX11_takes_24 rfl (by decide) rfl ?_
      exact lp (tp.length + 1) 0 (m_name M) (by omega) ⟨Nat.zero_le _, by omega, by omega, fun j hj => absurd hj (Nat.not_lt_zero _)⟩
