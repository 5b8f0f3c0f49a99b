def A_merge (Z : ZT) (p q r w k : Int32) : Int32 := if ((p < 0 ∨ nI 10 ≤ p) ∨ (q < 0 ∨ nI 10 ≤ q)) ∨ (r < 0 ∨ nI 10 ≤ r) then -2 else match look Z p, look Z q with
  | .inr a, .inr b => if tK (zH Z a) ≤ 5 ∧ tK (zH Z b) ≤ 5 then (if inR w 3 && kdB k then (if missT (zH Z a) || missT (zH Z b) then -6 else if (mergeL (tL (zH Z a)) (tL (zH Z b)) w.toNatClampNeg).length ≤ 100 then (if fitsN (mergeL (tL (zH Z a)) (tL (zH Z b)) w.toNatClampNeg) k.toNatClampNeg then nI (mergeL (tL (zH Z a)) (tL (zH Z b)) w.toNatClampNeg).length else -5) else -7) else -5) else -4
  | _, _ => -3
def N_merge (Z : ZT) (p q r w k : Int32) : ZT := if ((p < 0 ∨ nI 10 ≤ p) ∨ (q < 0 ∨ nI 10 ≤ q)) ∨ (r < 0 ∨ nI 10 ≤ r) then Z else match look Z p, look Z q with
  | .inr a, .inr b => if tK (zH Z a) ≤ 5 ∧ tK (zH Z b) ≤ 5 then (if inR w 3 && kdB k then (if missT (zH Z a) || missT (zH Z b) then Z else if (mergeL (tL (zH Z a)) (tL (zH Z b)) w.toNatClampNeg).length ≤ 100 then (if fitsN (mergeL (tL (zH Z a)) (tL (zH Z b)) w.toNatClampNeg) k.toNatClampNeg then newZ Z r (bookT k.toNatClampNeg (mergeL (tL (zH Z a)) (tL (zH Z b)) w.toNatClampNeg)) else Z) else Z) else Z) else Z
  | _, _ => Z
set_option maxRecDepth 100000 in
set_option maxHeartbeats 4000000 in
theorem c_M_merge_o1 {l : Launch} {G : Gx} {S : PS} {M : MoT} {x : Nat} (hx : MoOk S M x) {Z : ZT} (hR : RM M Z) (hZ : okZ Z) {p q rr wv kv : Int32} (hp : p < 0 ∨ nI 10 ≤ p) : Ct l yX11_merge cX11_merge 11 (Option.some Jvm.ClassFile.FieldType.int) rm_X11_merge G [.ref x, .int p, .int q, .int rr, .int wv, .int kv] (mo_ S M) (fun r S' => ∃ M', r = some (.int (A_merge Z p q rr wv kv)) ∧ S' = mo_ S M' ∧ mo_r M' = mo_r M ∧ RM M' (N_merge Z p q rr wv kv)) := by
  obtain ⟨q_place, r_place, k_place⟩ := hx.2 1 (by decide)
  obtain ⟨q_many, r_many, k_many⟩ := hx.2 3 (by decide)
  refine Ct.mk RX11 "merge" hy_X11_merge (Nat.le_of_ble_eq_true rfl) (fun X hX C => ?_)
  change Go X G _ 11 0 0 (mo_ S M) 0 [(0, .ref x), (1, .int p), (2, .int q), (3, .int rr), (4, .int wv), (5, .int kv)] []
  refine g_aload_n 0 0 C dX11_merge_0 rfl rfl ?_
  refine g_iload_n 1 1 C dX11_merge_1 rfl rfl ?_
  refine g_callV (As := [.int p]) (rest := []) C dX11_merge_2 (c_M_isPlace_out hp) wC_X11_isPlace wM_X11_97 wI_X11_isPlace wS_X11_isPlace wN_X11 (kne hx.1) (pf_11 hx.1) rfl hd_X11_isPlace ⟨by decide, by decide, by decide, by decide⟩ (Nat.le_of_ble_eq_true rfl) (fun r_ S_ h_ => ?_)
  obtain ⟨rfl, rfl⟩ := h_
  change Go X G _ 11 _ _ (mo_ S M) 5 [(0, .ref x), (1, .int p), (2, .int q), (3, .int rr), (4, .int wv), (5, .int kv)] [.int (nI 0)]
  refine g_nif_eq 24 (by decide) C dX11_merge_5 (by decide) (fun _ => ?_) (fun c => absurd c (by decide))
  refine g_bipush (v := -2) C dX11_merge_24 (by decide) ?_
  exact g_iret C dX11_merge_26 (by decide) (by decide) (⟨M, by unfold A_merge; rw [if_pos (Or.inl (Or.inl hp))], rfl, rfl, by unfold N_merge; rw [if_pos (Or.inl (Or.inl hp))]; exact hR⟩)
set_option maxRecDepth 100000 in
set_option maxHeartbeats 4000000 in
theorem c_M_merge_o2 {l : Launch} {G : Gx} {S : PS} {M : MoT} {x : Nat} (hx : MoOk S M x) {Z : ZT} (hR : RM M Z) (hZ : okZ Z) {j : Nat} {q rr wv kv : Int32} (hj : j < 10) (hp : q < 0 ∨ nI 10 ≤ q) : Ct l yX11_merge cX11_merge 11 (Option.some Jvm.ClassFile.FieldType.int) rm_X11_merge G [.ref x, .int (nI j), .int q, .int rr, .int wv, .int kv] (mo_ S M) (fun r S' => ∃ M', r = some (.int (A_merge Z (nI j) q rr wv kv)) ∧ S' = mo_ S M' ∧ mo_r M' = mo_r M ∧ RM M' (N_merge Z (nI j) q rr wv kv)) := by
  obtain ⟨q_place, r_place, k_place⟩ := hx.2 1 (by decide)
  obtain ⟨q_many, r_many, k_many⟩ := hx.2 3 (by decide)
  refine Ct.mk RX11 "merge" hy_X11_merge (Nat.le_of_ble_eq_true rfl) (fun X hX C => ?_)
  change Go X G _ 11 0 0 (mo_ S M) 0 [(0, .ref x), (1, .int (nI j)), (2, .int q), (3, .int rr), (4, .int wv), (5, .int kv)] []
  refine g_aload_n 0 0 C dX11_merge_0 rfl rfl ?_
  refine g_iload_n 1 1 C dX11_merge_1 rfl rfl ?_
  refine g_callV (As := [.int (nI j)]) (rest := []) C dX11_merge_2 (c_M_isPlace_in hj) wC_X11_isPlace wM_X11_97 wI_X11_isPlace wS_X11_isPlace wN_X11 (kne hx.1) (pf_11 hx.1) rfl hd_X11_isPlace ⟨by decide, by decide, by decide, by decide⟩ (Nat.le_of_ble_eq_true rfl) (fun r_ S_ h_ => ?_)
  obtain ⟨rfl, rfl⟩ := h_
  change Go X G _ 11 _ _ (mo_ S M) 5 [(0, .ref x), (1, .int (nI j)), (2, .int q), (3, .int rr), (4, .int wv), (5, .int kv)] [.int (nI 1)]
  refine g_nif_eq 24 (by decide) C dX11_merge_5 (by decide) (fun c => absurd c (by decide)) (fun _ => ?_)
  refine g_aload_n 0 0 C dX11_merge_8 rfl rfl ?_
  refine g_iload_n 2 2 C dX11_merge_9 rfl rfl ?_
  refine g_callV (As := [.int q]) (rest := []) C dX11_merge_10 (c_M_isPlace_out hp) wC_X11_isPlace wM_X11_97 wI_X11_isPlace wS_X11_isPlace wN_X11 (kne hx.1) (pf_11 hx.1) rfl hd_X11_isPlace ⟨by decide, by decide, by decide, by decide⟩ (Nat.le_of_ble_eq_true rfl) (fun r_ S_ h_ => ?_)
  obtain ⟨rfl, rfl⟩ := h_
  change Go X G _ 11 _ _ (mo_ S M) 13 [(0, .ref x), (1, .int (nI j)), (2, .int q), (3, .int rr), (4, .int wv), (5, .int kv)] [.int (nI 0)]
  refine g_nif_eq 24 (by decide) C dX11_merge_13 (by decide) (fun _ => ?_) (fun c => absurd c (by decide))
  refine g_bipush (v := -2) C dX11_merge_24 (by decide) ?_
  exact g_iret C dX11_merge_26 (by decide) (by decide) (⟨M, by unfold A_merge; rw [if_pos (Or.inl (Or.inr hp))], rfl, rfl, by unfold N_merge; rw [if_pos (Or.inl (Or.inr hp))]; exact hR⟩)
set_option maxRecDepth 100000 in
set_option maxHeartbeats 4000000 in
theorem c_M_merge_o3 {l : Launch} {G : Gx} {S : PS} {M : MoT} {x : Nat} (hx : MoOk S M x) {Z : ZT} (hR : RM M Z) (hZ : okZ Z) {j i : Nat} {rr wv kv : Int32} (hj : j < 10) (hi : i < 10) (hp : rr < 0 ∨ nI 10 ≤ rr) : Ct l yX11_merge cX11_merge 11 (Option.some Jvm.ClassFile.FieldType.int) rm_X11_merge G [.ref x, .int (nI j), .int (nI i), .int rr, .int wv, .int kv] (mo_ S M) (fun r S' => ∃ M', r = some (.int (A_merge Z (nI j) (nI i) rr wv kv)) ∧ S' = mo_ S M' ∧ mo_r M' = mo_r M ∧ RM M' (N_merge Z (nI j) (nI i) rr wv kv)) := by
  obtain ⟨q_place, r_place, k_place⟩ := hx.2 1 (by decide)
  obtain ⟨q_many, r_many, k_many⟩ := hx.2 3 (by decide)
  refine Ct.mk RX11 "merge" hy_X11_merge (Nat.le_of_ble_eq_true rfl) (fun X hX C => ?_)
  change Go X G _ 11 0 0 (mo_ S M) 0 [(0, .ref x), (1, .int (nI j)), (2, .int (nI i)), (3, .int rr), (4, .int wv), (5, .int kv)] []
  refine g_aload_n 0 0 C dX11_merge_0 rfl rfl ?_
  refine g_iload_n 1 1 C dX11_merge_1 rfl rfl ?_
  refine g_callV (As := [.int (nI j)]) (rest := []) C dX11_merge_2 (c_M_isPlace_in hj) wC_X11_isPlace wM_X11_97 wI_X11_isPlace wS_X11_isPlace wN_X11 (kne hx.1) (pf_11 hx.1) rfl hd_X11_isPlace ⟨by decide, by decide, by decide, by decide⟩ (Nat.le_of_ble_eq_true rfl) (fun r_ S_ h_ => ?_)
  obtain ⟨rfl, rfl⟩ := h_
  change Go X G _ 11 _ _ (mo_ S M) 5 [(0, .ref x), (1, .int (nI j)), (2, .int (nI i)), (3, .int rr), (4, .int wv), (5, .int kv)] [.int (nI 1)]
  refine g_nif_eq 24 (by decide) C dX11_merge_5 (by decide) (fun c => absurd c (by decide)) (fun _ => ?_)
  refine g_aload_n 0 0 C dX11_merge_8 rfl rfl ?_
  refine g_iload_n 2 2 C dX11_merge_9 rfl rfl ?_
  refine g_callV (As := [.int (nI i)]) (rest := []) C dX11_merge_10 (c_M_isPlace_in hi) wC_X11_isPlace wM_X11_97 wI_X11_isPlace wS_X11_isPlace wN_X11 (kne hx.1) (pf_11 hx.1) rfl hd_X11_isPlace ⟨by decide, by decide, by decide, by decide⟩ (Nat.le_of_ble_eq_true rfl) (fun r_ S_ h_ => ?_)
  obtain ⟨rfl, rfl⟩ := h_
  change Go X G _ 11 _ _ (mo_ S M) 13 [(0, .ref x), (1, .int (nI j)), (2, .int (nI i)), (3, .int rr), (4, .int wv), (5, .int kv)] [.int (nI 1)]
  refine g_nif_eq 24 (by decide) C dX11_merge_13 (by decide) (fun c => absurd c (by decide)) (fun _ => ?_)
  refine g_aload_n 0 0 C dX11_merge_16 rfl rfl ?_
  refine g_iload_n 3 3 C dX11_merge_17 rfl rfl ?_
  refine g_callV (As := [.int rr]) (rest := []) C dX11_merge_18 (c_M_isPlace_out hp) wC_X11_isPlace wM_X11_97 wI_X11_isPlace wS_X11_isPlace wN_X11 (kne hx.1) (pf_11 hx.1) rfl hd_X11_isPlace ⟨by decide, by decide, by decide, by decide⟩ (Nat.le_of_ble_eq_true rfl) (fun r_ S_ h_ => ?_)
  obtain ⟨rfl, rfl⟩ := h_
  change Go X G _ 11 _ _ (mo_ S M) 21 [(0, .ref x), (1, .int (nI j)), (2, .int (nI i)), (3, .int rr), (4, .int wv), (5, .int kv)] [.int (nI 0)]
  refine g_nif_ne 27 (by decide) C dX11_merge_21 (by decide) (fun c => absurd c (by decide)) (fun _ => ?_)
  refine g_bipush (v := -2) C dX11_merge_24 (by decide) ?_
  exact g_iret C dX11_merge_26 (by decide) (by decide) (⟨M, by unfold A_merge; rw [if_pos (Or.inr hp)], rfl, rfl, by unfold N_merge; rw [if_pos (Or.inr hp)]; exact hR⟩)
set_option maxRecDepth 100000 in
set_option maxHeartbeats 4000000 in
theorem c_M_merge_n1 {l : Launch} {G : Gx} {S : PS} {M : MoT} {x : Nat} (hx : MoOk S M x) {Z : ZT} (hR : RM M Z) (hZ : okZ Z) {j i h : Nat} {wv kv : Int32} (hj : j < 10) (hi : i < 10) (hh : h < 10) (hp : zP Z j = 0) : Ct l yX11_merge cX11_merge 11 (Option.some Jvm.ClassFile.FieldType.int) rm_X11_merge G [.ref x, .int (nI j), .int (nI i), .int (nI h), .int wv, .int kv] (mo_ S M) (fun r S' => ∃ M', r = some (.int (A_merge Z (nI j) (nI i) (nI h) wv kv)) ∧ S' = mo_ S M' ∧ mo_r M' = mo_r M ∧ RM M' (N_merge Z (nI j) (nI i) (nI h) wv kv)) := by
  obtain ⟨q_place, r_place, k_place⟩ := hx.2 1 (by decide)
  obtain ⟨q_many, r_many, k_many⟩ := hx.2 3 (by decide)
  refine Ct.mk RX11 "merge" hy_X11_merge (Nat.le_of_ble_eq_true rfl) (fun X hX C => ?_)
  change Go X G _ 11 0 0 (mo_ S M) 0 [(0, .ref x), (1, .int (nI j)), (2, .int (nI i)), (3, .int (nI h)), (4, .int wv), (5, .int kv)] []
  refine g_aload_n 0 0 C dX11_merge_0 rfl rfl ?_
  refine g_iload_n 1 1 C dX11_merge_1 rfl rfl ?_
  refine g_callV (As := [.int (nI j)]) (rest := []) C dX11_merge_2 (c_M_isPlace_in hj) wC_X11_isPlace wM_X11_97 wI_X11_isPlace wS_X11_isPlace wN_X11 (kne hx.1) (pf_11 hx.1) rfl hd_X11_isPlace ⟨by decide, by decide, by decide, by decide⟩ (Nat.le_of_ble_eq_true rfl) (fun r_ S_ h_ => ?_)
  obtain ⟨rfl, rfl⟩ := h_
  change Go X G _ 11 _ _ (mo_ S M) 5 [(0, .ref x), (1, .int (nI j)), (2, .int (nI i)), (3, .int (nI h)), (4, .int wv), (5, .int kv)] [.int (nI 1)]
  refine g_nif_eq 24 (by decide) C dX11_merge_5 (by decide) (fun c => absurd c (by decide)) (fun _ => ?_)
  refine g_aload_n 0 0 C dX11_merge_8 rfl rfl ?_
  refine g_iload_n 2 2 C dX11_merge_9 rfl rfl ?_
  refine g_callV (As := [.int (nI i)]) (rest := []) C dX11_merge_10 (c_M_isPlace_in hi) wC_X11_isPlace wM_X11_97 wI_X11_isPlace wS_X11_isPlace wN_X11 (kne hx.1) (pf_11 hx.1) rfl hd_X11_isPlace ⟨by decide, by decide, by decide, by decide⟩ (Nat.le_of_ble_eq_true rfl) (fun r_ S_ h_ => ?_)
  obtain ⟨rfl, rfl⟩ := h_
  change Go X G _ 11 _ _ (mo_ S M) 13 [(0, .ref x), (1, .int (nI j)), (2, .int (nI i)), (3, .int (nI h)), (4, .int wv), (5, .int kv)] [.int (nI 1)]
  refine g_nif_eq 24 (by decide) C dX11_merge_13 (by decide) (fun c => absurd c (by decide)) (fun _ => ?_)
  refine g_aload_n 0 0 C dX11_merge_16 rfl rfl ?_
  refine g_iload_n 3 3 C dX11_merge_17 rfl rfl ?_
  refine g_callV (As := [.int (nI h)]) (rest := []) C dX11_merge_18 (c_M_isPlace_in hh) wC_X11_isPlace wM_X11_97 wI_X11_isPlace wS_X11_isPlace wN_X11 (kne hx.1) (pf_11 hx.1) rfl hd_X11_isPlace ⟨by decide, by decide, by decide, by decide⟩ (Nat.le_of_ble_eq_true rfl) (fun r_ S_ h_ => ?_)
  obtain ⟨rfl, rfl⟩ := h_
  change Go X G _ 11 _ _ (mo_ S M) 21 [(0, .ref x), (1, .int (nI j)), (2, .int (nI i)), (3, .int (nI h)), (4, .int wv), (5, .int kv)] [.int (nI 1)]
  refine g_nif_ne 27 (by decide) C dX11_merge_21 (by decide) (fun _ => ?_) (fun c => absurd c (by decide))
  refine g_aload_n 0 0 C dX11_merge_27 rfl rfl ?_
  refine gr_m_place C dX11_merge_28 hx.1 wF_X11_17 r_place ?_
  refine g_iload_n 1 1 C dX11_merge_31 rfl rfl ?_
  refine ga_m_place C dX11_merge_32 k_place (by omega) ?_
  refine g_topi (((hR.2.1 j hj).trans (by rw [hp]))) ?_
  refine g_nif_eq 45 (by decide) C dX11_merge_33 (by decide) (fun _ => ?_) (fun c => absurd c (by decide))
  refine g_bipush (v := -3) C dX11_merge_45 (by decide) ?_
  exact g_iret C dX11_merge_47 (by decide) (by decide) (⟨M, by unfold A_merge; rw [if_neg (fun z => z.elim (fun z => z.elim (nI_in10 hj) (nI_in10 hi)) (nI_in10 hh)), look_no hj hp], rfl, rfl, by unfold N_merge; rw [if_neg (fun z => z.elim (fun z => z.elim (nI_in10 hj) (nI_in10 hi)) (nI_in10 hh)), look_no hj hp]; exact hR⟩)
set_option maxRecDepth 100000 in
set_option maxHeartbeats 4000000 in
theorem c_M_merge_n2 {l : Launch} {G : Gx} {S : PS} {M : MoT} {x : Nat} (hx : MoOk S M x) {Z : ZT} (hR : RM M Z) (hZ : okZ Z) {j i h : Nat} {wv kv : Int32} (hj : j < 10) (hi : i < 10) (hh : h < 10) {a : Nat} (hp : zP Z j = a + 1) (hq : zP Z i = 0) : Ct l yX11_merge cX11_merge 11 (Option.some Jvm.ClassFile.FieldType.int) rm_X11_merge G [.ref x, .int (nI j), .int (nI i), .int (nI h), .int wv, .int kv] (mo_ S M) (fun r S' => ∃ M', r = some (.int (A_merge Z (nI j) (nI i) (nI h) wv kv)) ∧ S' = mo_ S M' ∧ mo_r M' = mo_r M ∧ RM M' (N_merge Z (nI j) (nI i) (nI h) wv kv)) := by
  obtain ⟨q_place, r_place, k_place⟩ := hx.2 1 (by decide)
  obtain ⟨q_many, r_many, k_many⟩ := hx.2 3 (by decide)
  have ha := (hZ.th hj hp).2
  refine Ct.mk RX11 "merge" hy_X11_merge (Nat.le_of_ble_eq_true rfl) (fun X hX C => ?_)
  change Go X G _ 11 0 0 (mo_ S M) 0 [(0, .ref x), (1, .int (nI j)), (2, .int (nI i)), (3, .int (nI h)), (4, .int wv), (5, .int kv)] []
  refine g_aload_n 0 0 C dX11_merge_0 rfl rfl ?_
  refine g_iload_n 1 1 C dX11_merge_1 rfl rfl ?_
  refine g_callV (As := [.int (nI j)]) (rest := []) C dX11_merge_2 (c_M_isPlace_in hj) wC_X11_isPlace wM_X11_97 wI_X11_isPlace wS_X11_isPlace wN_X11 (kne hx.1) (pf_11 hx.1) rfl hd_X11_isPlace ⟨by decide, by decide, by decide, by decide⟩ (Nat.le_of_ble_eq_true rfl) (fun r_ S_ h_ => ?_)
  obtain ⟨rfl, rfl⟩ := h_
  change Go X G _ 11 _ _ (mo_ S M) 5 [(0, .ref x), (1, .int (nI j)), (2, .int (nI i)), (3, .int (nI h)), (4, .int wv), (5, .int kv)] [.int (nI 1)]
  refine g_nif_eq 24 (by decide) C dX11_merge_5 (by decide) (fun c => absurd c (by decide)) (fun _ => ?_)
  refine g_aload_n 0 0 C dX11_merge_8 rfl rfl ?_
  refine g_iload_n 2 2 C dX11_merge_9 rfl rfl ?_
  refine g_callV (As := [.int (nI i)]) (rest := []) C dX11_merge_10 (c_M_isPlace_in hi) wC_X11_isPlace wM_X11_97 wI_X11_isPlace wS_X11_isPlace wN_X11 (kne hx.1) (pf_11 hx.1) rfl hd_X11_isPlace ⟨by decide, by decide, by decide, by decide⟩ (Nat.le_of_ble_eq_true rfl) (fun r_ S_ h_ => ?_)
  obtain ⟨rfl, rfl⟩ := h_
  change Go X G _ 11 _ _ (mo_ S M) 13 [(0, .ref x), (1, .int (nI j)), (2, .int (nI i)), (3, .int (nI h)), (4, .int wv), (5, .int kv)] [.int (nI 1)]
  refine g_nif_eq 24 (by decide) C dX11_merge_13 (by decide) (fun c => absurd c (by decide)) (fun _ => ?_)
  refine g_aload_n 0 0 C dX11_merge_16 rfl rfl ?_
  refine g_iload_n 3 3 C dX11_merge_17 rfl rfl ?_
  refine g_callV (As := [.int (nI h)]) (rest := []) C dX11_merge_18 (c_M_isPlace_in hh) wC_X11_isPlace wM_X11_97 wI_X11_isPlace wS_X11_isPlace wN_X11 (kne hx.1) (pf_11 hx.1) rfl hd_X11_isPlace ⟨by decide, by decide, by decide, by decide⟩ (Nat.le_of_ble_eq_true rfl) (fun r_ S_ h_ => ?_)
  obtain ⟨rfl, rfl⟩ := h_
  change Go X G _ 11 _ _ (mo_ S M) 21 [(0, .ref x), (1, .int (nI j)), (2, .int (nI i)), (3, .int (nI h)), (4, .int wv), (5, .int kv)] [.int (nI 1)]
  refine g_nif_ne 27 (by decide) C dX11_merge_21 (by decide) (fun _ => ?_) (fun c => absurd c (by decide))
  refine g_aload_n 0 0 C dX11_merge_27 rfl rfl ?_
  refine gr_m_place C dX11_merge_28 hx.1 wF_X11_17 r_place ?_
  refine g_iload_n 1 1 C dX11_merge_31 rfl rfl ?_
  refine ga_m_place C dX11_merge_32 k_place (by omega) ?_
  refine g_topi (((hR.2.1 j hj).trans (by rw [hp]))) ?_
  refine g_nif_eq 45 (by omega) C dX11_merge_33 (by decide) (fun c => absurd c (by omega)) (fun _ => ?_)
  refine g_aload_n 0 0 C dX11_merge_36 rfl rfl ?_
  refine gr_m_place C dX11_merge_37 hx.1 wF_X11_17 r_place ?_
  refine g_iload_n 2 2 C dX11_merge_40 rfl rfl ?_
  refine ga_m_place C dX11_merge_41 k_place (by omega) ?_
  refine g_topi (((hR.2.1 i hi).trans (by rw [hq]))) ?_
  refine g_nif_ne 48 (by decide) C dX11_merge_42 (by decide) (fun c => absurd c (by decide)) (fun _ => ?_)
  refine g_bipush (v := -3) C dX11_merge_45 (by decide) ?_
  exact g_iret C dX11_merge_47 (by decide) (by decide) (⟨M, by unfold A_merge; rw [if_neg (fun z => z.elim (fun z => z.elim (nI_in10 hj) (nI_in10 hi)) (nI_in10 hh)), look_at hj hp, look_no hi hq], rfl, rfl, by unfold N_merge; rw [if_neg (fun z => z.elim (fun z => z.elim (nI_in10 hj) (nI_in10 hi)) (nI_in10 hh)), look_at hj hp, look_no hi hq]; exact hR⟩)
set_option maxRecDepth 100000 in
set_option maxHeartbeats 4000000 in
theorem c_M_merge_k1 {l : Launch} {G : Gx} {S : PS} {M : MoT} {x : Nat} (hx : MoOk S M x) {Z : ZT} (hR : RM M Z) (hZ : okZ Z) {j i h : Nat} {wv kv : Int32} (hj : j < 10) (hi : i < 10) (hh : h < 10) {a b : Nat} (hp : zP Z j = a + 1) (hq : zP Z i = b + 1) (hk : ¬ tK (zH Z a) ≤ 5) : Ct l yX11_merge cX11_merge 11 (Option.some Jvm.ClassFile.FieldType.int) rm_X11_merge G [.ref x, .int (nI j), .int (nI i), .int (nI h), .int wv, .int kv] (mo_ S M) (fun r S' => ∃ M', r = some (.int (A_merge Z (nI j) (nI i) (nI h) wv kv)) ∧ S' = mo_ S M' ∧ mo_r M' = mo_r M ∧ RM M' (N_merge Z (nI j) (nI i) (nI h) wv kv)) := by
  obtain ⟨q_place, r_place, k_place⟩ := hx.2 1 (by decide)
  obtain ⟨q_many, r_many, k_many⟩ := hx.2 3 (by decide)
  obtain ⟨hOa, ha⟩ := hZ.th hj hp
  obtain ⟨hOb, hb⟩ := hZ.th hi hq
  refine Ct.mk RX11 "merge" hy_X11_merge (Nat.le_of_ble_eq_true rfl) (fun X hX C => ?_)
  change Go X G _ 11 0 0 (mo_ S M) 0 [(0, .ref x), (1, .int (nI j)), (2, .int (nI i)), (3, .int (nI h)), (4, .int wv), (5, .int kv)] []
  refine g_aload_n 0 0 C dX11_merge_0 rfl rfl ?_
  refine g_iload_n 1 1 C dX11_merge_1 rfl rfl ?_
  refine g_callV (As := [.int (nI j)]) (rest := []) C dX11_merge_2 (c_M_isPlace_in hj) wC_X11_isPlace wM_X11_97 wI_X11_isPlace wS_X11_isPlace wN_X11 (kne hx.1) (pf_11 hx.1) rfl hd_X11_isPlace ⟨by decide, by decide, by decide, by decide⟩ (Nat.le_of_ble_eq_true rfl) (fun r_ S_ h_ => ?_)
  obtain ⟨rfl, rfl⟩ := h_
  change Go X G _ 11 _ _ (mo_ S M) 5 [(0, .ref x), (1, .int (nI j)), (2, .int (nI i)), (3, .int (nI h)), (4, .int wv), (5, .int kv)] [.int (nI 1)]
  refine g_nif_eq 24 (by decide) C dX11_merge_5 (by decide) (fun c => absurd c (by decide)) (fun _ => ?_)
  refine g_aload_n 0 0 C dX11_merge_8 rfl rfl ?_
  refine g_iload_n 2 2 C dX11_merge_9 rfl rfl ?_
  refine g_callV (As := [.int (nI i)]) (rest := []) C dX11_merge_10 (c_M_isPlace_in hi) wC_X11_isPlace wM_X11_97 wI_X11_isPlace wS_X11_isPlace wN_X11 (kne hx.1) (pf_11 hx.1) rfl hd_X11_isPlace ⟨by decide, by decide, by decide, by decide⟩ (Nat.le_of_ble_eq_true rfl) (fun r_ S_ h_ => ?_)
  obtain ⟨rfl, rfl⟩ := h_
  change Go X G _ 11 _ _ (mo_ S M) 13 [(0, .ref x), (1, .int (nI j)), (2, .int (nI i)), (3, .int (nI h)), (4, .int wv), (5, .int kv)] [.int (nI 1)]
  refine g_nif_eq 24 (by decide) C dX11_merge_13 (by decide) (fun c => absurd c (by decide)) (fun _ => ?_)
  refine g_aload_n 0 0 C dX11_merge_16 rfl rfl ?_
  refine g_iload_n 3 3 C dX11_merge_17 rfl rfl ?_
  refine g_callV (As := [.int (nI h)]) (rest := []) C dX11_merge_18 (c_M_isPlace_in hh) wC_X11_isPlace wM_X11_97 wI_X11_isPlace wS_X11_isPlace wN_X11 (kne hx.1) (pf_11 hx.1) rfl hd_X11_isPlace ⟨by decide, by decide, by decide, by decide⟩ (Nat.le_of_ble_eq_true rfl) (fun r_ S_ h_ => ?_)
  obtain ⟨rfl, rfl⟩ := h_
  change Go X G _ 11 _ _ (mo_ S M) 21 [(0, .ref x), (1, .int (nI j)), (2, .int (nI i)), (3, .int (nI h)), (4, .int wv), (5, .int kv)] [.int (nI 1)]
  refine g_nif_ne 27 (by decide) C dX11_merge_21 (by decide) (fun _ => ?_) (fun c => absurd c (by decide))
  refine g_aload_n 0 0 C dX11_merge_27 rfl rfl ?_
  refine gr_m_place C dX11_merge_28 hx.1 wF_X11_17 r_place ?_
  refine g_iload_n 1 1 C dX11_merge_31 rfl rfl ?_
  refine ga_m_place C dX11_merge_32 k_place (by omega) ?_
  refine g_topi (((hR.2.1 j hj).trans (by rw [hp]))) ?_
  refine g_nif_eq 45 (by omega) C dX11_merge_33 (by decide) (fun c => absurd c (by omega)) (fun _ => ?_)
  refine g_aload_n 0 0 C dX11_merge_36 rfl rfl ?_
  refine gr_m_place C dX11_merge_37 hx.1 wF_X11_17 r_place ?_
  refine g_iload_n 2 2 C dX11_merge_40 rfl rfl ?_
  refine ga_m_place C dX11_merge_41 k_place (by omega) ?_
  refine g_topi (((hR.2.1 i hi).trans (by rw [hq]))) ?_
  refine g_nif_ne 48 (by omega) C dX11_merge_42 (by decide) (fun _ => ?_) (fun c => absurd c (by omega))
  refine g_aload_n 0 0 C dX11_merge_48 rfl rfl ?_
  refine g_iload_n 1 1 C dX11_merge_49 rfl rfl ?_
  refine g_callV (As := [.int (nI j)]) (rest := []) C dX11_merge_50 (c_M_book hx hR hZ) wC_X11_book wM_X11_175 wI_X11_book wS_X11_book wN_X11 (kne hx.1) (pf_11 hx.1) rfl hd_X11_book ⟨by decide, by decide, by decide, by decide⟩ (Nat.le_of_ble_eq_true rfl) (fun r_ S_ h_ => ?_)
  obtain ⟨rfl, rfl⟩ := h_
  change Go X G _ 11 _ _ (mo_ S M) 53 [(0, .ref x), (1, .int (nI j)), (2, .int (nI i)), (3, .int (nI h)), (4, .int wv), (5, .int kv)] [.int (errI (bookE Z (nI j)))]
  refine g_topi (show errI (bookE Z (nI j)) = -4 by rw [show bookE Z (nI j) = .inl (-4) from by unfold bookE; rw [look_at hj hp]; simp only []; rw [if_neg hk]]; rfl) ?_
  refine g_if_lt 64 C dX11_merge_53 (by decide) (fun _ => ?_) (fun c => absurd c (by decide))
  refine g_bipush (v := -4) C dX11_merge_64 (by decide) ?_
  exact g_iret C dX11_merge_66 (by decide) (by decide) (⟨M, by unfold A_merge; rw [if_neg (fun z => z.elim (fun z => z.elim (nI_in10 hj) (nI_in10 hi)) (nI_in10 hh)), look_at hj hp, look_at hi hq]; simp only []; rw [if_neg (fun z => hk z.1)], rfl, rfl, by unfold N_merge; rw [if_neg (fun z => z.elim (fun z => z.elim (nI_in10 hj) (nI_in10 hi)) (nI_in10 hh)), look_at hj hp, look_at hi hq]; simp only []; rw [if_neg (fun z => hk z.1)]; exact hR⟩)
set_option maxRecDepth 100000 in
set_option maxHeartbeats 4000000 in
theorem c_M_merge_k2 {l : Launch} {G : Gx} {S : PS} {M : MoT} {x : Nat} (hx : MoOk S M x) {Z : ZT} (hR : RM M Z) (hZ : okZ Z) {j i h : Nat} {wv kv : Int32} (hj : j < 10) (hi : i < 10) (hh : h < 10) {a b : Nat} (hp : zP Z j = a + 1) (hq : zP Z i = b + 1) (hk : tK (zH Z a) ≤ 5) (hk2 : ¬ tK (zH Z b) ≤ 5) : Ct l yX11_merge cX11_merge 11 (Option.some Jvm.ClassFile.FieldType.int) rm_X11_merge G [.ref x, .int (nI j), .int (nI i), .int (nI h), .int wv, .int kv] (mo_ S M) (fun r S' => ∃ M', r = some (.int (A_merge Z (nI j) (nI i) (nI h) wv kv)) ∧ S' = mo_ S M' ∧ mo_r M' = mo_r M ∧ RM M' (N_merge Z (nI j) (nI i) (nI h) wv kv)) := by
  obtain ⟨q_place, r_place, k_place⟩ := hx.2 1 (by decide)
  obtain ⟨q_many, r_many, k_many⟩ := hx.2 3 (by decide)
  obtain ⟨hOa, ha⟩ := hZ.th hj hp
  obtain ⟨hOb, hb⟩ := hZ.th hi hq
  refine Ct.mk RX11 "merge" hy_X11_merge (Nat.le_of_ble_eq_true rfl) (fun X hX C => ?_)
  change Go X G _ 11 0 0 (mo_ S M) 0 [(0, .ref x), (1, .int (nI j)), (2, .int (nI i)), (3, .int (nI h)), (4, .int wv), (5, .int kv)] []
  refine g_aload_n 0 0 C dX11_merge_0 rfl rfl ?_
  refine g_iload_n 1 1 C dX11_merge_1 rfl rfl ?_
  refine g_callV (As := [.int (nI j)]) (rest := []) C dX11_merge_2 (c_M_isPlace_in hj) wC_X11_isPlace wM_X11_97 wI_X11_isPlace wS_X11_isPlace wN_X11 (kne hx.1) (pf_11 hx.1) rfl hd_X11_isPlace ⟨by decide, by decide, by decide, by decide⟩ (Nat.le_of_ble_eq_true rfl) (fun r_ S_ h_ => ?_)
  obtain ⟨rfl, rfl⟩ := h_
  change Go X G _ 11 _ _ (mo_ S M) 5 [(0, .ref x), (1, .int (nI j)), (2, .int (nI i)), (3, .int (nI h)), (4, .int wv), (5, .int kv)] [.int (nI 1)]
  refine g_nif_eq 24 (by decide) C dX11_merge_5 (by decide) (fun c => absurd c (by decide)) (fun _ => ?_)
  refine g_aload_n 0 0 C dX11_merge_8 rfl rfl ?_
  refine g_iload_n 2 2 C dX11_merge_9 rfl rfl ?_
  refine g_callV (As := [.int (nI i)]) (rest := []) C dX11_merge_10 (c_M_isPlace_in hi) wC_X11_isPlace wM_X11_97 wI_X11_isPlace wS_X11_isPlace wN_X11 (kne hx.1) (pf_11 hx.1) rfl hd_X11_isPlace ⟨by decide, by decide, by decide, by decide⟩ (Nat.le_of_ble_eq_true rfl) (fun r_ S_ h_ => ?_)
  obtain ⟨rfl, rfl⟩ := h_
  change Go X G _ 11 _ _ (mo_ S M) 13 [(0, .ref x), (1, .int (nI j)), (2, .int (nI i)), (3, .int (nI h)), (4, .int wv), (5, .int kv)] [.int (nI 1)]
  refine g_nif_eq 24 (by decide) C dX11_merge_13 (by decide) (fun c => absurd c (by decide)) (fun _ => ?_)
  refine g_aload_n 0 0 C dX11_merge_16 rfl rfl ?_
  refine g_iload_n 3 3 C dX11_merge_17 rfl rfl ?_
  refine g_callV (As := [.int (nI h)]) (rest := []) C dX11_merge_18 (c_M_isPlace_in hh) wC_X11_isPlace wM_X11_97 wI_X11_isPlace wS_X11_isPlace wN_X11 (kne hx.1) (pf_11 hx.1) rfl hd_X11_isPlace ⟨by decide, by decide, by decide, by decide⟩ (Nat.le_of_ble_eq_true rfl) (fun r_ S_ h_ => ?_)
  obtain ⟨rfl, rfl⟩ := h_
  change Go X G _ 11 _ _ (mo_ S M) 21 [(0, .ref x), (1, .int (nI j)), (2, .int (nI i)), (3, .int (nI h)), (4, .int wv), (5, .int kv)] [.int (nI 1)]
  refine g_nif_ne 27 (by decide) C dX11_merge_21 (by decide) (fun _ => ?_) (fun c => absurd c (by decide))
  refine g_aload_n 0 0 C dX11_merge_27 rfl rfl ?_
  refine gr_m_place C dX11_merge_28 hx.1 wF_X11_17 r_place ?_
  refine g_iload_n 1 1 C dX11_merge_31 rfl rfl ?_
  refine ga_m_place C dX11_merge_32 k_place (by omega) ?_
  refine g_topi (((hR.2.1 j hj).trans (by rw [hp]))) ?_
  refine g_nif_eq 45 (by omega) C dX11_merge_33 (by decide) (fun c => absurd c (by omega)) (fun _ => ?_)
  refine g_aload_n 0 0 C dX11_merge_36 rfl rfl ?_
  refine gr_m_place C dX11_merge_37 hx.1 wF_X11_17 r_place ?_
  refine g_iload_n 2 2 C dX11_merge_40 rfl rfl ?_
  refine ga_m_place C dX11_merge_41 k_place (by omega) ?_
  refine g_topi (((hR.2.1 i hi).trans (by rw [hq]))) ?_
  refine g_nif_ne 48 (by omega) C dX11_merge_42 (by decide) (fun _ => ?_) (fun c => absurd c (by omega))
  refine g_aload_n 0 0 C dX11_merge_48 rfl rfl ?_
  refine g_iload_n 1 1 C dX11_merge_49 rfl rfl ?_
  refine g_callV (As := [.int (nI j)]) (rest := []) C dX11_merge_50 (c_M_book hx hR hZ) wC_X11_book wM_X11_175 wI_X11_book wS_X11_book wN_X11 (kne hx.1) (pf_11 hx.1) rfl hd_X11_book ⟨by decide, by decide, by decide, by decide⟩ (Nat.le_of_ble_eq_true rfl) (fun r_ S_ h_ => ?_)
  obtain ⟨rfl, rfl⟩ := h_
  change Go X G _ 11 _ _ (mo_ S M) 53 [(0, .ref x), (1, .int (nI j)), (2, .int (nI i)), (3, .int (nI h)), (4, .int wv), (5, .int kv)] [.int (errI (bookE Z (nI j)))]
  refine g_topi (show errI (bookE Z (nI j)) = nI 0 by rw [show bookE Z (nI j) = .inr a from by unfold bookE; rw [look_at hj hp]; simp only []; rw [if_pos hk]]; rfl) ?_
  refine g_nif_lt 64 (by omega) C dX11_merge_53 (by decide) ?_
  refine g_aload_n 0 0 C dX11_merge_56 rfl rfl ?_
  refine g_iload_n 2 2 C dX11_merge_57 rfl rfl ?_
  refine g_callV (As := [.int (nI i)]) (rest := []) C dX11_merge_58 (c_M_book hx hR hZ) wC_X11_book wM_X11_175 wI_X11_book wS_X11_book wN_X11 (kne hx.1) (pf_11 hx.1) rfl hd_X11_book ⟨by decide, by decide, by decide, by decide⟩ (Nat.le_of_ble_eq_true rfl) (fun r_ S_ h_ => ?_)
  obtain ⟨rfl, rfl⟩ := h_
  change Go X G _ 11 _ _ (mo_ S M) 61 [(0, .ref x), (1, .int (nI j)), (2, .int (nI i)), (3, .int (nI h)), (4, .int wv), (5, .int kv)] [.int (errI (bookE Z (nI i)))]
  refine g_topi (show errI (bookE Z (nI i)) = -4 by rw [show bookE Z (nI i) = .inl (-4) from by unfold bookE; rw [look_at hi hq]; simp only []; rw [if_neg hk2]]; rfl) ?_
  refine g_if_ge 67 C dX11_merge_61 (by decide) (fun c => absurd c (by decide)) (fun _ => ?_)
  refine g_bipush (v := -4) C dX11_merge_64 (by decide) ?_
  exact g_iret C dX11_merge_66 (by decide) (by decide) (⟨M, by unfold A_merge; rw [if_neg (fun z => z.elim (fun z => z.elim (nI_in10 hj) (nI_in10 hi)) (nI_in10 hh)), look_at hj hp, look_at hi hq]; simp only []; rw [if_neg (fun z => hk2 z.2)], rfl, rfl, by unfold N_merge; rw [if_neg (fun z => z.elim (fun z => z.elim (nI_in10 hj) (nI_in10 hi)) (nI_in10 hh)), look_at hj hp, look_at hi hq]; simp only []; rw [if_neg (fun z => hk2 z.2)]; exact hR⟩)
theorem rm_old {M M4 : MoT} {Z : ZT} {t w0 : Nat} (hR : RM M Z) (ht : t = madeN (zP Z)) (hlf : LF t (mkM M t w0) M4) : RM M4 Z := by
  have h0 : RM (mkM M t w0) Z := by rw [ht]; exact hR.mk
  have hnew := madeN_new (zP Z)
  rw [← ht] at hnew
  have hth : ∀ q, usedP (zP Z) q → thM M4 q (zH Z q) := fun q hq => thM.lf hlf (fun e => hnew (e ▸ hq)) (h0.2.2.1 q hq)
  obtain ⟨_, _, _, _, rfl, -, -⟩ := hlf
  exact ⟨h0.1, h0.2.1, hth, h0.2.2.2⟩
theorem zero_nf {M M4 : MoT} {t w0 : Nat} (h : NF t (mkM M t w0) M4) : zeroM M4 t := by
  obtain ⟨fn, v, h⟩ := h.mk
  exact zero_lf h
theorem mg_bnd (la lb : List Ent) (w : Nat) : (mergeL la lb w).length ≤ la.length + lb.length := by
  have h1 : ∀ k, (mgA la lb w k).length ≤ k := by
    intro k
    induction k with
    | zero => exact Nat.le_refl _
    | succ k ih => have := mgA_len la lb w k; split at this <;> omega
  have h2 : ∀ k, (mgB la lb w k).length ≤ la.length + k := by
    intro k
    induction k with
    | zero => exact h1 la.length
    | succ k ih => have := mgB_len la lb w k; split at this <;> omega
  exact h2 lb.length
theorem mgA_bnd (la lb : List Ent) (w : Nat) : ∀ k, (mgA la lb w k).length ≤ k := by
  intro k
  induction k with
  | zero => exact Nat.le_refl _
  | succ k ih => have := mgA_len la lb w k; split at this <;> omega
theorem mgB_bnd (la lb : List Ent) (w : Nat) : ∀ k, (mgB la lb w k).length ≤ la.length + k := by
  intro k
  induction k with
  | zero => exact mgA_bnd la lb w la.length
  | succ k ih => have := mgB_len la lb w k; split at this <;> omega
set_option maxRecDepth 100000 in
set_option maxHeartbeats 4000000 in
theorem c_M_merge_ok {l : Launch} {G : Gx} {S : PS} {M : MoT} {x : Nat} (hx : MoOk S M x) {Z : ZT} (hR : RM M Z) (hZ : okZ Z) {j i h : Nat} {wv kv : Int32} (hj : j < 10) (hi : i < 10) (hh : h < 10) {a b : Nat} (hp : zP Z j = a + 1) (hq : zP Z i = b + 1) (hk : tK (zH Z a) ≤ 5) (hk2 : tK (zH Z b) ≤ 5) : Ct l yX11_merge cX11_merge 11 (Option.some Jvm.ClassFile.FieldType.int) rm_X11_merge G [.ref x, .int (nI j), .int (nI i), .int (nI h), .int wv, .int kv] (mo_ S M) (fun r S' => ∃ M', r = some (.int (A_merge Z (nI j) (nI i) (nI h) wv kv)) ∧ S' = mo_ S M' ∧ mo_r M' = mo_r M ∧ RM M' (N_merge Z (nI j) (nI i) (nI h) wv kv)) := by
  obtain ⟨q_place, r_place, k_place⟩ := hx.2 1 (by decide)
  obtain ⟨q_many, r_many, k_many⟩ := hx.2 3 (by decide)
  obtain ⟨hOa, ha⟩ := hZ.th hj hp
  obtain ⟨hOb, hb⟩ := hZ.th hi hq
  have hTha := hR.th hj hp
  have hThb := hR.th hi hq
  have hna0 := hTha.2.1
  have hnb0 := hThb.2.1
  have hla := hna0.1
  have hlb := hnb0.1
  have hnea : a ≠ madeN (zP Z) := fun e => madeN_new (zP Z) (e ▸ ⟨j, hj, hp⟩)
  have hneb : b ≠ madeN (zP Z) := fun e => madeN_new (zP Z) (e ▸ ⟨i, hi, hq⟩)
  have hm := madeN_le (zP Z)
  refine Ct.mk RX11 "merge" hy_X11_merge (Nat.le_of_ble_eq_true rfl) (fun X hX C => ?_)
  change Go X G _ 11 0 0 (mo_ S M) 0 [(0, .ref x), (1, .int (nI j)), (2, .int (nI i)), (3, .int (nI h)), (4, .int wv), (5, .int kv)] []
  refine g_aload_n 0 0 C dX11_merge_0 rfl rfl ?_
  refine g_iload_n 1 1 C dX11_merge_1 rfl rfl ?_
  refine g_callV (As := [.int (nI j)]) (rest := []) C dX11_merge_2 (c_M_isPlace_in hj) wC_X11_isPlace wM_X11_97 wI_X11_isPlace wS_X11_isPlace wN_X11 (kne hx.1) (pf_11 hx.1) rfl hd_X11_isPlace ⟨by decide, by decide, by decide, by decide⟩ (Nat.le_of_ble_eq_true rfl) (fun r_ S_ h_ => ?_)
  obtain ⟨rfl, rfl⟩ := h_
  change Go X G _ 11 _ _ (mo_ S M) 5 [(0, .ref x), (1, .int (nI j)), (2, .int (nI i)), (3, .int (nI h)), (4, .int wv), (5, .int kv)] [.int (nI 1)]
  refine g_nif_eq 24 (by decide) C dX11_merge_5 (by decide) (fun c => absurd c (by decide)) (fun _ => ?_)
  refine g_aload_n 0 0 C dX11_merge_8 rfl rfl ?_
  refine g_iload_n 2 2 C dX11_merge_9 rfl rfl ?_
  refine g_callV (As := [.int (nI i)]) (rest := []) C dX11_merge_10 (c_M_isPlace_in hi) wC_X11_isPlace wM_X11_97 wI_X11_isPlace wS_X11_isPlace wN_X11 (kne hx.1) (pf_11 hx.1) rfl hd_X11_isPlace ⟨by decide, by decide, by decide, by decide⟩ (Nat.le_of_ble_eq_true rfl) (fun r_ S_ h_ => ?_)
  obtain ⟨rfl, rfl⟩ := h_
  change Go X G _ 11 _ _ (mo_ S M) 13 [(0, .ref x), (1, .int (nI j)), (2, .int (nI i)), (3, .int (nI h)), (4, .int wv), (5, .int kv)] [.int (nI 1)]
  refine g_nif_eq 24 (by decide) C dX11_merge_13 (by decide) (fun c => absurd c (by decide)) (fun _ => ?_)
  refine g_aload_n 0 0 C dX11_merge_16 rfl rfl ?_
  refine g_iload_n 3 3 C dX11_merge_17 rfl rfl ?_
  refine g_callV (As := [.int (nI h)]) (rest := []) C dX11_merge_18 (c_M_isPlace_in hh) wC_X11_isPlace wM_X11_97 wI_X11_isPlace wS_X11_isPlace wN_X11 (kne hx.1) (pf_11 hx.1) rfl hd_X11_isPlace ⟨by decide, by decide, by decide, by decide⟩ (Nat.le_of_ble_eq_true rfl) (fun r_ S_ h_ => ?_)
  obtain ⟨rfl, rfl⟩ := h_
  change Go X G _ 11 _ _ (mo_ S M) 21 [(0, .ref x), (1, .int (nI j)), (2, .int (nI i)), (3, .int (nI h)), (4, .int wv), (5, .int kv)] [.int (nI 1)]
  refine g_nif_ne 27 (by decide) C dX11_merge_21 (by decide) (fun _ => ?_) (fun c => absurd c (by decide))
  refine g_aload_n 0 0 C dX11_merge_27 rfl rfl ?_
  refine gr_m_place C dX11_merge_28 hx.1 wF_X11_17 r_place ?_
  refine g_iload_n 1 1 C dX11_merge_31 rfl rfl ?_
  refine ga_m_place C dX11_merge_32 k_place (by omega) ?_
  refine g_topi (((hR.2.1 j hj).trans (by rw [hp]))) ?_
  refine g_nif_eq 45 (by omega) C dX11_merge_33 (by decide) (fun c => absurd c (by omega)) (fun _ => ?_)
  refine g_aload_n 0 0 C dX11_merge_36 rfl rfl ?_
  refine gr_m_place C dX11_merge_37 hx.1 wF_X11_17 r_place ?_
  refine g_iload_n 2 2 C dX11_merge_40 rfl rfl ?_
  refine ga_m_place C dX11_merge_41 k_place (by omega) ?_
  refine g_topi (((hR.2.1 i hi).trans (by rw [hq]))) ?_
  refine g_nif_ne 48 (by omega) C dX11_merge_42 (by decide) (fun _ => ?_) (fun c => absurd c (by omega))
  refine g_aload_n 0 0 C dX11_merge_48 rfl rfl ?_
  refine g_iload_n 1 1 C dX11_merge_49 rfl rfl ?_
  refine g_callV (As := [.int (nI j)]) (rest := []) C dX11_merge_50 (c_M_book hx hR hZ) wC_X11_book wM_X11_175 wI_X11_book wS_X11_book wN_X11 (kne hx.1) (pf_11 hx.1) rfl hd_X11_book ⟨by decide, by decide, by decide, by decide⟩ (Nat.le_of_ble_eq_true rfl) (fun r_ S_ h_ => ?_)
  obtain ⟨rfl, rfl⟩ := h_
  change Go X G _ 11 _ _ (mo_ S M) 53 [(0, .ref x), (1, .int (nI j)), (2, .int (nI i)), (3, .int (nI h)), (4, .int wv), (5, .int kv)] [.int (errI (bookE Z (nI j)))]
  refine g_topi (show errI (bookE Z (nI j)) = nI 0 by rw [show bookE Z (nI j) = .inr a from by unfold bookE; rw [look_at hj hp]; simp only []; rw [if_pos hk]]; rfl) ?_
  refine g_nif_lt 64 (by omega) C dX11_merge_53 (by decide) ?_
  refine g_aload_n 0 0 C dX11_merge_56 rfl rfl ?_
  refine g_iload_n 2 2 C dX11_merge_57 rfl rfl ?_
  refine g_callV (As := [.int (nI i)]) (rest := []) C dX11_merge_58 (c_M_book hx hR hZ) wC_X11_book wM_X11_175 wI_X11_book wS_X11_book wN_X11 (kne hx.1) (pf_11 hx.1) rfl hd_X11_book ⟨by decide, by decide, by decide, by decide⟩ (Nat.le_of_ble_eq_true rfl) (fun r_ S_ h_ => ?_)
  obtain ⟨rfl, rfl⟩ := h_
  change Go X G _ 11 _ _ (mo_ S M) 61 [(0, .ref x), (1, .int (nI j)), (2, .int (nI i)), (3, .int (nI h)), (4, .int wv), (5, .int kv)] [.int (errI (bookE Z (nI i)))]
  refine g_topi (show errI (bookE Z (nI i)) = nI 0 by rw [show bookE Z (nI i) = .inr b from by unfold bookE; rw [look_at hi hq]; simp only []; rw [if_pos hk2]]; rfl) ?_
  refine g_nif_ge 67 (by omega) C dX11_merge_61 (by decide) ?_
  refine g_iload 4 C dX11_merge_67 rfl ?_
  refine g_if_lt 90 C dX11_merge_69 (by decide) (fun c69 => ?_) (fun c69 => ?_)
  · have e9 : (inR wv 3 && kdB kv) = false := by rw [inR_neg c69]; rfl
    refine g_bipush (v := -5) C dX11_merge_90 (by decide) ?_
    exact g_iret C dX11_merge_92 (by decide) (by decide) (⟨M, by unfold A_merge; rw [if_neg (fun z => z.elim (fun z => z.elim (nI_in10 hj) (nI_in10 hi)) (nI_in10 hh)), look_at hj hp, look_at hi hq]; simp only []; rw [if_pos ⟨hk, hk2⟩, e9, if_neg (by decide)], rfl, rfl, by unfold N_merge; rw [if_neg (fun z => z.elim (fun z => z.elim (nI_in10 hj) (nI_in10 hi)) (nI_in10 hh)), look_at hj hp, look_at hi hq]; simp only []; rw [if_pos ⟨hk, hk2⟩, e9, if_neg (by decide)]; exact hR⟩)
  · refine g_iload 4 C dX11_merge_72 rfl ?_
    refine g_iconst (v := nI 2) C dX11_merge_74 (by decide) ?_
    refine g_icmp_gt 90 C dX11_merge_75 (by decide) (fun c75 => ?_) (fun c75 => ?_)
    · have e9 : (inR wv 3 && kdB kv) = false := by rw [inR_big1 (n := 2) (by decide) (Int32.not_le.mpr c75)]; rfl
      refine g_bipush (v := -5) C dX11_merge_90 (by decide) ?_
      exact g_iret C dX11_merge_92 (by decide) (by decide) (⟨M, by unfold A_merge; rw [if_neg (fun z => z.elim (fun z => z.elim (nI_in10 hj) (nI_in10 hi)) (nI_in10 hh)), look_at hj hp, look_at hi hq]; simp only []; rw [if_pos ⟨hk, hk2⟩, e9, if_neg (by decide)], rfl, rfl, by unfold N_merge; rw [if_neg (fun z => z.elim (fun z => z.elim (nI_in10 hj) (nI_in10 hi)) (nI_in10 hh)), look_at hj hp, look_at hi hq]; simp only []; rw [if_pos ⟨hk, hk2⟩, e9, if_neg (by decide)]; exact hR⟩)
    · refine g_iload 5 C dX11_merge_78 rfl ?_
      refine g_iconst (v := nI 1) C dX11_merge_80 (by decide) ?_
      refine g_icmp_lt 90 C dX11_merge_81 (by decide) (fun c81 => ?_) (fun c81 => ?_)
      · have e9 : (inR wv 3 && kdB kv) = false := by rw [kd_lo c81]; exact Bool.and_false _
        refine g_bipush (v := -5) C dX11_merge_90 (by decide) ?_
        exact g_iret C dX11_merge_92 (by decide) (by decide) (⟨M, by unfold A_merge; rw [if_neg (fun z => z.elim (fun z => z.elim (nI_in10 hj) (nI_in10 hi)) (nI_in10 hh)), look_at hj hp, look_at hi hq]; simp only []; rw [if_pos ⟨hk, hk2⟩, e9, if_neg (by decide)], rfl, rfl, by unfold N_merge; rw [if_neg (fun z => z.elim (fun z => z.elim (nI_in10 hj) (nI_in10 hi)) (nI_in10 hh)), look_at hj hp, look_at hi hq]; simp only []; rw [if_pos ⟨hk, hk2⟩, e9, if_neg (by decide)]; exact hR⟩)
      · refine g_iload 5 C dX11_merge_84 rfl ?_
        refine g_iconst (v := nI 5) C dX11_merge_86 (by decide) ?_
        refine g_icmp_le 93 C dX11_merge_87 (by decide) (fun c87 => ?_) (fun c87 => ?_)
        · obtain ⟨i1, hi11, hi15, rfl, ek⟩ := kd_in c81 (Int32.not_lt.mpr c87)
          have ew := inR_in1 (n := 2) (by decide) c69 (Int32.not_lt.mp c75)
          obtain ⟨w0, hw0, rfl⟩ := inR_spec ew (by decide)
          refine g_aload_n 0 0 C dX11_merge_93 rfl rfl ?_
          refine g_iload_n 1 1 C dX11_merge_94 rfl rfl ?_
          refine g_callV (As := [.int (nI j)]) (rest := []) C dX11_merge_95 (c_M_at hx hj ((hR.2.1 j hj).trans (by rw [hp]))) wC_X11_at wM_X11_108 wI_X11_at wS_X11_at wN_X11 (kne hx.1) (pf_11 hx.1) rfl hd_X11_at ⟨by decide, by decide, by decide, by decide⟩ (Nat.le_of_ble_eq_true rfl) (fun r_ S_ h_ => ?_)
          obtain ⟨rfl, rfl⟩ := h_
          change Go X G _ 11 _ _ (mo_ S M) 98 [(0, .ref x), (1, .int (nI j)), (2, .int (nI i)), (3, .int (nI h)), (4, .int (nI w0)), (5, .int (nI i1))] [.int (nI a)]
          refine g_istore (lv' := [(6, .int (nI a)), (0, .ref x), (1, .int (nI j)), (2, .int (nI i)), (3, .int (nI h)), (4, .int (nI w0)), (5, .int (nI i1))]) C dX11_merge_98 (by decide) rfl ?_
          refine g_aload_n 1 0 C dX11_merge_100 rfl rfl ?_
          refine g_iload_n 3 2 C dX11_merge_101 rfl rfl ?_
          refine g_callV (As := [.int (nI i)]) (rest := []) C dX11_merge_102 (c_M_at hx hi ((hR.2.1 i hi).trans (by rw [hq]))) wC_X11_at wM_X11_108 wI_X11_at wS_X11_at wN_X11 (kne hx.1) (pf_11 hx.1) rfl hd_X11_at ⟨by decide, by decide, by decide, by decide⟩ (Nat.le_of_ble_eq_true rfl) (fun r_ S_ h_ => ?_)
          obtain ⟨rfl, rfl⟩ := h_
          change Go X G _ 11 _ _ (mo_ S M) 105 [(6, .int (nI a)), (0, .ref x), (1, .int (nI j)), (2, .int (nI i)), (3, .int (nI h)), (4, .int (nI w0)), (5, .int (nI i1))] [.int (nI b)]
          refine g_istore (lv' := [(7, .int (nI b)), (6, .int (nI a)), (0, .ref x), (1, .int (nI j)), (2, .int (nI i)), (3, .int (nI h)), (4, .int (nI w0)), (5, .int (nI i1))]) C dX11_merge_105 (by decide) rfl ?_
          refine g_aload_n 2 0 C dX11_merge_107 rfl rfl ?_
          refine g_iload 1 C dX11_merge_108 rfl ?_
          refine g_callV (As := [.int (nI a)]) (rest := []) C dX11_merge_110 (c_M_misses hx (by omega) hTha.2.2.2.2.1 hTha.2.2.2.2.2.1) wC_X11_misses wM_X11_178 wI_X11_misses wS_X11_misses wN_X11 (kne hx.1) (pf_11 hx.1) rfl hd_X11_misses ⟨by decide, by decide, by decide, by decide⟩ (Nat.le_of_ble_eq_true rfl) (fun r_ S_ h_ => ?_)
          obtain ⟨rfl, rfl⟩ := h_
          change Go X G _ 11 _ _ (mo_ S M) 113 [(7, .int (nI b)), (6, .int (nI a)), (0, .ref x), (1, .int (nI j)), (2, .int (nI i)), (3, .int (nI h)), (4, .int (nI w0)), (5, .int (nI i1))] [.int (bI (missT (zH Z a)))]
          refine g_if_ne 125 C dX11_merge_113 (by decide) (fun c113 => ?_) (fun c113 => ?_)
          · have em : (missT (zH Z a) || missT (zH Z b)) = true := by rw [bI_t c113]; rfl
            refine g_bipush (v := -6) C dX11_merge_125 (by decide) ?_
            exact g_iret C dX11_merge_127 (by decide) (by decide) (⟨_, by unfold A_merge; rw [if_neg (fun z => z.elim (fun z => z.elim (nI_in10 hj) (nI_in10 hi)) (nI_in10 hh)), look_at hj hp, look_at hi hq]; simp only []; rw [if_pos ⟨hk, hk2⟩, ew, ek, if_pos (show (true && true) = true from rfl), nI_clamp (by omega), nI_clamp (by omega), em, if_pos rfl], rfl, rfl, by unfold N_merge; rw [if_neg (fun z => z.elim (fun z => z.elim (nI_in10 hj) (nI_in10 hi)) (nI_in10 hh)), look_at hj hp, look_at hi hq]; simp only []; rw [if_pos ⟨hk, hk2⟩, ew, ek, if_pos (show (true && true) = true from rfl), nI_clamp (by omega), nI_clamp (by omega), em, if_pos rfl]; exact hR⟩)
          · refine g_aload_n 2 0 C dX11_merge_116 rfl rfl ?_
            refine g_iload 0 C dX11_merge_117 rfl ?_
            refine g_callV (As := [.int (nI b)]) (rest := []) C dX11_merge_119 (c_M_misses hx (by omega) hThb.2.2.2.2.1 hThb.2.2.2.2.2.1) wC_X11_misses wM_X11_178 wI_X11_misses wS_X11_misses wN_X11 (kne hx.1) (pf_11 hx.1) rfl hd_X11_misses ⟨by decide, by decide, by decide, by decide⟩ (Nat.le_of_ble_eq_true rfl) (fun r_ S_ h_ => ?_)
            obtain ⟨rfl, rfl⟩ := h_
            change Go X G _ 11 _ _ (mo_ S M) 122 [(7, .int (nI b)), (6, .int (nI a)), (0, .ref x), (1, .int (nI j)), (2, .int (nI i)), (3, .int (nI h)), (4, .int (nI w0)), (5, .int (nI i1))] [.int (bI (missT (zH Z b)))]
            refine g_if_eq 128 C dX11_merge_122 (by decide) (fun c122 => ?_) (fun c122 => ?_)
            · have em : (missT (zH Z a) || missT (zH Z b)) = false := by rw [bI_f c113, bI_f c122]; rfl
              refine g_iconst (v := nI 0) C dX11_merge_128 (by decide) ?_
              refine g_istore (lv' := [(8, .int (nI 0)), (7, .int (nI b)), (6, .int (nI a)), (0, .ref x), (1, .int (nI j)), (2, .int (nI i)), (3, .int (nI h)), (4, .int (nI w0)), (5, .int (nI i1))]) C dX11_merge_129 (by decide) rfl ?_
              refine g_iconst (v := nI 0) C dX11_merge_131 (by decide) ?_
              refine g_istore (lv' := [(9, .int (nI 0)), (8, .int (nI 0)), (7, .int (nI b)), (6, .int (nI a)), (0, .ref x), (1, .int (nI j)), (2, .int (nI i)), (3, .int (nI h)), (4, .int (nI w0)), (5, .int (nI i1))]) C dX11_merge_132 (by decide) rfl ?_
              have lp1 : ∀ (n_ : Nat) (k : Nat) (fn : Nat → Int32) (v : Int32), (tL (zH Z a)).length - k < n_ → (k ≤ (tL (zH Z a)).length) → Go X G (Qe X G (fun r S' => ∃ M', r = some (.int (A_merge Z (nI j) (nI i) (nI h) (nI w0) (nI i1))) ∧ S' = mo_ S M' ∧ mo_r M' = mo_r M ∧ RM M' (N_merge Z (nI j) (nI i) (nI h) (nI w0) (nI i1))) rm_X11_merge.cells rm_X11_merge.slots) 11 0 0 (mo_ S (m_length_ (m_name_ M fn) v)) 134 [(9, .int (nI k)), (8, .int (nI ((mgA (tL (zH Z a)) (tL (zH Z b)) w0 k).length))), (7, .int (nI b)), (6, .int (nI a)), (0, .ref x), (1, .int (nI j)), (2, .int (nI i)), (3, .int (nI h)), (4, .int (nI w0)), (5, .int (nI i1))] [] := by
                intro n_
                induction n_ with
                | zero => intro k fn v hm_; exact absurd hm_ (Nat.not_lt_zero _)
                | succ n_ ih_ =>
                  intro k fn v hm_ hk9
                  have hbd := mgA_bnd (tL (zH Z a)) (tL (zH Z b)) w0 k
                  refine g_iload 0 C dX11_merge_134 rfl ?_
                  refine g_aload_n 4 0 C dX11_merge_136 rfl rfl ?_
                  refine gr_m_many C dX11_merge_137 hx.1 wF_X11_23 r_many ?_
                  refine g_iload 3 C dX11_merge_140 rfl ?_
                  refine ga_m_many C dX11_merge_142 k_many (by omega) ?_
                  refine g_topi (hna0.2.1) ?_
                  refine g_ncmp_ge 177 (by omega) (by omega) C dX11_merge_143 (by decide) (fun c143 => ?_) (fun c143 => ?_)
                  · refine g_iconst (v := nI 0) C dX11_merge_177 (by decide) ?_
                    refine g_istore (lv' := [(9, .int (nI 0)), (8, .int (nI ((mgA (tL (zH Z a)) (tL (zH Z b)) w0 k).length))), (7, .int (nI b)), (6, .int (nI a)), (0, .ref x), (1, .int (nI j)), (2, .int (nI i)), (3, .int (nI h)), (4, .int (nI w0)), (5, .int (nI i1))]) C dX11_merge_178 (by decide) rfl ?_
                    have lp2 : ∀ (n_ : Nat) (k : Nat) (fn : Nat → Int32) (v : Int32), (tL (zH Z b)).length - k < n_ → (k ≤ (tL (zH Z b)).length) → Go X G (Qe X G (fun r S' => ∃ M', r = some (.int (A_merge Z (nI j) (nI i) (nI h) (nI w0) (nI i1))) ∧ S' = mo_ S M' ∧ mo_r M' = mo_r M ∧ RM M' (N_merge Z (nI j) (nI i) (nI h) (nI w0) (nI i1))) rm_X11_merge.cells rm_X11_merge.slots) 11 0 0 (mo_ S (m_length_ (m_name_ M fn) v)) 180 [(9, .int (nI k)), (8, .int (nI ((mgB (tL (zH Z a)) (tL (zH Z b)) w0 k).length))), (7, .int (nI b)), (6, .int (nI a)), (0, .ref x), (1, .int (nI j)), (2, .int (nI i)), (3, .int (nI h)), (4, .int (nI w0)), (5, .int (nI i1))] [] := by
                      intro n_
                      induction n_ with
                      | zero => intro k fn v hm_; exact absurd hm_ (Nat.not_lt_zero _)
                      | succ n_ ih_ =>
                        intro k fn v hm_ hk9
                        have hbd := mgB_bnd (tL (zH Z a)) (tL (zH Z b)) w0 k
                        refine g_iload 0 C dX11_merge_180 rfl ?_
                        refine g_aload_n 4 0 C dX11_merge_182 rfl rfl ?_
                        refine gr_m_many C dX11_merge_183 hx.1 wF_X11_23 r_many ?_
                        refine g_iload 2 C dX11_merge_186 rfl ?_
                        refine ga_m_many C dX11_merge_188 k_many (by omega) ?_
                        refine g_topi (hnb0.2.1) ?_
                        refine g_ncmp_ge 226 (by omega) (by omega) C dX11_merge_189 (by decide) (fun c189 => ?_) (fun c189 => ?_)
                        · have eL : (mgB (tL (zH Z a)) (tL (zH Z b)) w0 k) = (mergeL (tL (zH Z a)) (tL (zH Z b)) w0) := by unfold mergeL; rw [show k = (tL (zH Z b)).length by omega]
                          rw [eL]
                          have hml := mg_bnd (tL (zH Z a)) (tL (zH Z b)) w0
                          refine g_iload 1 C dX11_merge_226 rfl ?_
                          refine g_bipush (v := nI 100) C dX11_merge_228 (by decide) ?_
                          refine g_ncmp_le 236 (by omega) (by omega) C dX11_merge_230 (by decide) (fun c230 => ?_) (fun c230 => ?_)
                          · have hle : (mergeL (tL (zH Z a)) (tL (zH Z b)) w0).length ≤ 100 := c230
                            refine g_aload_n 4 0 C dX11_merge_236 rfl rfl ?_
                            refine g_bipush (v := nI 6) C dX11_merge_237 (by decide) ?_
                            refine g_callV (As := [.int (nI 6)]) (rest := []) C dX11_merge_239 (c_M_made (M := (m_length_ (m_name_ M fn) v)) hx hR hZ) wC_X11_made wM_X11_101 wI_X11_made wS_X11_made wN_X11 (kne hx.1) (pf_11 hx.1) rfl hd_X11_made ⟨by decide, by decide, by decide, by decide⟩ (Nat.le_of_ble_eq_true rfl) (fun r_ S_ h_ => ?_)
                            obtain ⟨rfl, rfl⟩ := h_
                            change Go X G _ 11 _ _ (mo_ S (mkM (m_length_ (m_name_ M fn) v) (madeN (zP Z)) 6)) 242 [(9, .int (nI k)), (8, .int (nI ((mergeL (tL (zH Z a)) (tL (zH Z b)) w0).length))), (7, .int (nI b)), (6, .int (nI a)), (0, .ref x), (1, .int (nI j)), (2, .int (nI i)), (3, .int (nI h)), (4, .int (nI w0)), (5, .int (nI i1))] [.int (nI (madeN (zP Z)))]
                            have hTa : namesM (mkM (m_length_ (m_name_ M fn) v) (madeN (zP Z)) 6) a (tL (zH Z a)) := (hTha.mk hnea).2.1
                            have hTb : namesM (mkM (m_length_ (m_name_ M fn) v) (madeN (zP Z)) 6) b (tL (zH Z b)) := (hThb.mk hneb).2.1
                            refine g_istore (lv' := [(9, .int (nI (madeN (zP Z)))), (8, .int (nI ((mergeL (tL (zH Z a)) (tL (zH Z b)) w0).length))), (7, .int (nI b)), (6, .int (nI a)), (0, .ref x), (1, .int (nI j)), (2, .int (nI i)), (3, .int (nI h)), (4, .int (nI w0)), (5, .int (nI i1))]) C dX11_merge_242 (by decide) rfl ?_
                            refine g_iconst (v := nI 0) C dX11_merge_244 (by decide) ?_
                            refine g_istore (lv' := [(10, .int (nI 0)), (9, .int (nI (madeN (zP Z)))), (8, .int (nI ((mergeL (tL (zH Z a)) (tL (zH Z b)) w0).length))), (7, .int (nI b)), (6, .int (nI a)), (0, .ref x), (1, .int (nI j)), (2, .int (nI i)), (3, .int (nI h)), (4, .int (nI w0)), (5, .int (nI i1))]) C dX11_merge_245 (by decide) rfl ?_
                            have lp3 : ∀ (n_ : Nat) (k : Nat) (M4 : MoT), (tL (zH Z a)).length - k < n_ → (k ≤ (tL (zH Z a)).length ∧ NF (madeN (zP Z)) (mkM (m_length_ (m_name_ M fn) v) (madeN (zP Z)) 6) M4 ∧ namesM M4 (madeN (zP Z)) (mgA (tL (zH Z a)) (tL (zH Z b)) w0 k)) → Go X G (Qe X G (fun r S' => ∃ M', r = some (.int (A_merge Z (nI j) (nI i) (nI h) (nI w0) (nI i1))) ∧ S' = mo_ S M' ∧ mo_r M' = mo_r M ∧ RM M' (N_merge Z (nI j) (nI i) (nI h) (nI w0) (nI i1))) rm_X11_merge.cells rm_X11_merge.slots) 11 0 0 (mo_ S M4) 247 [(10, .int (nI k)), (9, .int (nI (madeN (zP Z)))), (8, .int (nI ((mergeL (tL (zH Z a)) (tL (zH Z b)) w0).length))), (7, .int (nI b)), (6, .int (nI a)), (0, .ref x), (1, .int (nI j)), (2, .int (nI i)), (3, .int (nI h)), (4, .int (nI w0)), (5, .int (nI i1))] [] := by
                              intro n_
                              induction n_ with
                              | zero => intro k M4 hm_; exact absurd hm_ (Nat.not_lt_zero _)
                              | succ n_ ih_ =>
                                intro k M4 hm_ h4
                                obtain ⟨hk4, hnf4, hn4⟩ := h4
                                have hx4 := (show MoOk S (mkM (m_length_ (m_name_ M fn) v) (madeN (zP Z)) 6) x from hx).of hnf4.mo_r
                                have hna := hnf4.names hnea hTa
                                have hnb := hnf4.names hneb hTb
                                obtain ⟨q_place, r_place, k_place⟩ := hx4.2 1 (by decide)
                                obtain ⟨q_many, r_many, k_many⟩ := hx4.2 3 (by decide)
                                refine g_iload 0 C dX11_merge_247 rfl ?_
                                refine g_aload_n 5 0 C dX11_merge_249 rfl rfl ?_
                                refine gr_m_many C dX11_merge_250 hx.1 wF_X11_23 r_many ?_
                                refine g_iload 4 C dX11_merge_253 rfl ?_
                                refine ga_m_many C dX11_merge_255 k_many (by omega) ?_
                                refine g_topi (hna.2.1) ?_
                                refine g_ncmp_ge 290 (by omega) (by omega) C dX11_merge_256 (by decide) (fun c256 => ?_) (fun c256 => ?_)
                                · refine g_iconst (v := nI 0) C dX11_merge_290 (by decide) ?_
                                  refine g_istore (lv' := [(10, .int (nI 0)), (9, .int (nI (madeN (zP Z)))), (8, .int (nI ((mergeL (tL (zH Z a)) (tL (zH Z b)) w0).length))), (7, .int (nI b)), (6, .int (nI a)), (0, .ref x), (1, .int (nI j)), (2, .int (nI i)), (3, .int (nI h)), (4, .int (nI w0)), (5, .int (nI i1))]) C dX11_merge_291 (by decide) rfl ?_
                                  have lp4 : ∀ (n_ : Nat) (k : Nat) (M4 : MoT), (tL (zH Z b)).length - k < n_ → (k ≤ (tL (zH Z b)).length ∧ NF (madeN (zP Z)) (mkM (m_length_ (m_name_ M fn) v) (madeN (zP Z)) 6) M4 ∧ namesM M4 (madeN (zP Z)) (mgB (tL (zH Z a)) (tL (zH Z b)) w0 k)) → Go X G (Qe X G (fun r S' => ∃ M', r = some (.int (A_merge Z (nI j) (nI i) (nI h) (nI w0) (nI i1))) ∧ S' = mo_ S M' ∧ mo_r M' = mo_r M ∧ RM M' (N_merge Z (nI j) (nI i) (nI h) (nI w0) (nI i1))) rm_X11_merge.cells rm_X11_merge.slots) 11 0 0 (mo_ S M4) 293 [(10, .int (nI k)), (9, .int (nI (madeN (zP Z)))), (8, .int (nI ((mergeL (tL (zH Z a)) (tL (zH Z b)) w0).length))), (7, .int (nI b)), (6, .int (nI a)), (0, .ref x), (1, .int (nI j)), (2, .int (nI i)), (3, .int (nI h)), (4, .int (nI w0)), (5, .int (nI i1))] [] := by
                                    intro n_
                                    induction n_ with
                                    | zero => intro k M4 hm_; exact absurd hm_ (Nat.not_lt_zero _)
                                    | succ n_ ih_ =>
                                      intro k M4 hm_ h4
                                      obtain ⟨hk4, hnf4, hn4⟩ := h4
                                      have hx4 := (show MoOk S (mkM (m_length_ (m_name_ M fn) v) (madeN (zP Z)) 6) x from hx).of hnf4.mo_r
                                      have hna := hnf4.names hnea hTa
                                      have hnb := hnf4.names hneb hTb
                                      obtain ⟨q_place, r_place, k_place⟩ := hx4.2 1 (by decide)
                                      obtain ⟨q_many, r_many, k_many⟩ := hx4.2 3 (by decide)
                                      refine g_iload 0 C dX11_merge_293 rfl ?_
                                      refine g_aload_n 5 0 C dX11_merge_295 rfl rfl ?_
                                      refine gr_m_many C dX11_merge_296 hx.1 wF_X11_23 r_many ?_
                                      refine g_iload 3 C dX11_merge_299 rfl ?_
                                      refine ga_m_many C dX11_merge_301 k_many (by omega) ?_
                                      refine g_topi (hnb.2.1) ?_
                                      refine g_ncmp_ge 339 (by omega) (by omega) C dX11_merge_302 (by decide) (fun c302 => ?_) (fun c302 => ?_)
                                      · refine g_aload_n 5 0 C dX11_merge_339 rfl rfl ?_
                                        refine g_iload 1 C dX11_merge_340 rfl ?_
                                        refine g_iload 10 C dX11_merge_342 rfl ?_
                                        have eL : (mgB (tL (zH Z a)) (tL (zH Z b)) w0 k) = (mergeL (tL (zH Z a)) (tL (zH Z b)) w0) := by unfold mergeL; rw [show k = (tL (zH Z b)).length by omega]
                                        rw [eL] at hn4
                                        have hOL := merge_ok hOa.2.2.1 hOb.2.2.1 hle
                                        refine g_callV (As := [.int (nI (madeN (zP Z))), .int (nI i1)]) (rest := []) C dX11_merge_344 (c_M_fits hx4 (by omega) hn4 (by omega)) wC_X11_fits wM_X11_169 wI_X11_fits wS_X11_fits wN_X11 (kne hx.1) (pf_11 hx.1) rfl hd_X11_fits ⟨by decide, by decide, by decide, by decide⟩ (Nat.le_of_ble_eq_true rfl) (fun r_ S_ h_ => ?_)
                                        obtain ⟨rfl, rfl⟩ := h_
                                        change Go X G _ 11 _ _ (mo_ S M4) 347 [(10, .int (nI k)), (9, .int (nI (madeN (zP Z)))), (8, .int (nI ((mergeL (tL (zH Z a)) (tL (zH Z b)) w0).length))), (7, .int (nI b)), (6, .int (nI a)), (0, .ref x), (1, .int (nI j)), (2, .int (nI i)), (3, .int (nI h)), (4, .int (nI w0)), (5, .int (nI i1))] [.int (bI (fitsN (mergeL (tL (zH Z a)) (tL (zH Z b)) w0) i1))]
                                        refine g_if_ne 353 C dX11_merge_347 (by decide) (fun c347 => ?_) (fun c347 => ?_)
                                        · have ef := bI_t c347
                                          refine g_aload_n 5 0 C dX11_merge_353 rfl rfl ?_
                                          refine g_iload 1 C dX11_merge_354 rfl ?_
                                          refine g_iload 10 C dX11_merge_356 rfl ?_
                                          refine g_callV (As := [.int (nI (madeN (zP Z))), .int (nI i1)]) (rest := []) C dX11_merge_358 (c_M_sealed hx4 (by omega) hn4 hOL (fitsN_pos ef) (zero_nf hnf4) hi11 hi15) wC_X11_sealed wM_X11_172 wI_X11_sealed wS_X11_sealed wN_X11 (kne hx.1) (pf_11 hx.1) rfl hd_X11_sealed ⟨by decide, by decide, by decide, by decide⟩ (Nat.le_of_ble_eq_true rfl) (fun r_ S_ h_ => ?_)
                                          obtain ⟨M6, rfl, rfl, hbf, hse⟩ := h_
                                          change Go X G _ 11 _ _ (mo_ S M6) 361 [(10, .int (nI k)), (9, .int (nI (madeN (zP Z)))), (8, .int (nI ((mergeL (tL (zH Z a)) (tL (zH Z b)) w0).length))), (7, .int (nI b)), (6, .int (nI a)), (0, .ref x), (1, .int (nI j)), (2, .int (nI i)), (3, .int (nI h)), (4, .int (nI w0)), (5, .int (nI i1))] []
                                          have hx6 := hx4.of hbf.mo_r
                                          obtain ⟨q_place, r_place, k_place⟩ := hx6.2 1 (by decide)
                                          obtain ⟨q_many, r_many, k_many⟩ := hx6.2 3 (by decide)
                                          refine g_aload_n 5 0 C dX11_merge_361 rfl rfl ?_
                                          refine gr_m_place C dX11_merge_362 hx.1 wF_X11_17 r_place ?_
                                          refine g_iload_n 8 3 C dX11_merge_365 rfl rfl ?_
                                          refine g_iload 1 C dX11_merge_366 rfl ?_
                                          refine g_iconst (v := nI 1) C dX11_merge_368 (by decide) ?_
                                          refine g_iadd C dX11_merge_369 ?_
                                          refine g_topi (nI_add _ _ : _ = nI (madeN (zP Z) + 1)) ?_
                                          refine gs_m_place C dX11_merge_370 k_place (by omega) ?_
                                          refine g_iload 2 C dX11_merge_371 rfl ?_
                                          exact g_iret C dX11_merge_373 (by decide) (by decide) (⟨_, by unfold A_merge; rw [if_neg (fun z => z.elim (fun z => z.elim (nI_in10 hj) (nI_in10 hi)) (nI_in10 hh)), look_at hj hp, look_at hi hq]; simp only []; rw [if_pos ⟨hk, hk2⟩, ew, ek, if_pos (show (true && true) = true from rfl), nI_clamp (by omega), nI_clamp (by omega), em, if_neg (by decide), if_pos hle, ef, if_pos rfl], rfl, hbf.mo_r.trans hnf4.mo_r, by
                                            unfold N_merge newZ; rw [if_neg (fun z => z.elim (fun z => z.elim (nI_in10 hj) (nI_in10 hi)) (nI_in10 hh)), look_at hj hp, look_at hi hq]; simp only []; rw [if_pos ⟨hk, hk2⟩, ew, ek, if_pos (show (true && true) = true from rfl), nI_clamp (by omega), nI_clamp (by omega), nI_clamp (by omega), em, if_neg (by decide), if_pos hle, ef, if_pos rfl]
                                            obtain ⟨fn9, v9, hlf9⟩ := hnf4.mk
                                            have hb9 := rm_build (hR.name (fn := fn9) (v := v9)) hZ rfl hlf9 hbf hn4 hse
                                            exact rm_newT hb9.1 (madeN_new _) hb9.2⟩)
                                        · have ef := bI_f c347
                                          refine g_bipush (v := -5) C dX11_merge_350 (by decide) ?_
                                          exact g_iret C dX11_merge_352 (by decide) (by decide) (⟨_, by unfold A_merge; rw [if_neg (fun z => z.elim (fun z => z.elim (nI_in10 hj) (nI_in10 hi)) (nI_in10 hh)), look_at hj hp, look_at hi hq]; simp only []; rw [if_pos ⟨hk, hk2⟩, ew, ek, if_pos (show (true && true) = true from rfl), nI_clamp (by omega), nI_clamp (by omega), em, if_neg (by decide), if_pos hle, ef, if_neg (by decide)], rfl, hnf4.mo_r, by
                                            unfold N_merge; rw [if_neg (fun z => z.elim (fun z => z.elim (nI_in10 hj) (nI_in10 hi)) (nI_in10 hh)), look_at hj hp, look_at hi hq]; simp only []; rw [if_pos ⟨hk, hk2⟩, ew, ek, if_pos (show (true && true) = true from rfl), nI_clamp (by omega), nI_clamp (by omega), em, if_neg (by decide), if_pos hle, ef, if_neg (by decide)]
                                            obtain ⟨fn9, v9, hlf9⟩ := hnf4.mk
                                            exact rm_old (hR.name (fn := fn9) (v := v9)) rfl hlf9⟩)
                                      · refine g_iload 9 C dX11_merge_305 rfl ?_
                                        refine g_nif_ne 339 (by omega) C dX11_merge_307 (by decide) (fun c307 => ?_) (fun c307 => ?_)
                                        · refine g_aload_n 5 0 C dX11_merge_339 rfl rfl ?_
                                          refine g_iload 1 C dX11_merge_340 rfl ?_
                                          refine g_iload 10 C dX11_merge_342 rfl ?_
                                          have eL : (mgB (tL (zH Z a)) (tL (zH Z b)) w0 k) = (mergeL (tL (zH Z a)) (tL (zH Z b)) w0) := (mgB_ne c307 _).trans (mgB_ne c307 _).symm
                                          rw [eL] at hn4
                                          have hOL := merge_ok hOa.2.2.1 hOb.2.2.1 hle
                                          refine g_callV (As := [.int (nI (madeN (zP Z))), .int (nI i1)]) (rest := []) C dX11_merge_344 (c_M_fits hx4 (by omega) hn4 (by omega)) wC_X11_fits wM_X11_169 wI_X11_fits wS_X11_fits wN_X11 (kne hx.1) (pf_11 hx.1) rfl hd_X11_fits ⟨by decide, by decide, by decide, by decide⟩ (Nat.le_of_ble_eq_true rfl) (fun r_ S_ h_ => ?_)
                                          obtain ⟨rfl, rfl⟩ := h_
                                          change Go X G _ 11 _ _ (mo_ S M4) 347 [(10, .int (nI k)), (9, .int (nI (madeN (zP Z)))), (8, .int (nI ((mergeL (tL (zH Z a)) (tL (zH Z b)) w0).length))), (7, .int (nI b)), (6, .int (nI a)), (0, .ref x), (1, .int (nI j)), (2, .int (nI i)), (3, .int (nI h)), (4, .int (nI w0)), (5, .int (nI i1))] [.int (bI (fitsN (mergeL (tL (zH Z a)) (tL (zH Z b)) w0) i1))]
                                          refine g_if_ne 353 C dX11_merge_347 (by decide) (fun c347 => ?_) (fun c347 => ?_)
                                          · have ef := bI_t c347
                                            refine g_aload_n 5 0 C dX11_merge_353 rfl rfl ?_
                                            refine g_iload 1 C dX11_merge_354 rfl ?_
                                            refine g_iload 10 C dX11_merge_356 rfl ?_
                                            refine g_callV (As := [.int (nI (madeN (zP Z))), .int (nI i1)]) (rest := []) C dX11_merge_358 (c_M_sealed hx4 (by omega) hn4 hOL (fitsN_pos ef) (zero_nf hnf4) hi11 hi15) wC_X11_sealed wM_X11_172 wI_X11_sealed wS_X11_sealed wN_X11 (kne hx.1) (pf_11 hx.1) rfl hd_X11_sealed ⟨by decide, by decide, by decide, by decide⟩ (Nat.le_of_ble_eq_true rfl) (fun r_ S_ h_ => ?_)
                                            obtain ⟨M6, rfl, rfl, hbf, hse⟩ := h_
                                            change Go X G _ 11 _ _ (mo_ S M6) 361 [(10, .int (nI k)), (9, .int (nI (madeN (zP Z)))), (8, .int (nI ((mergeL (tL (zH Z a)) (tL (zH Z b)) w0).length))), (7, .int (nI b)), (6, .int (nI a)), (0, .ref x), (1, .int (nI j)), (2, .int (nI i)), (3, .int (nI h)), (4, .int (nI w0)), (5, .int (nI i1))] []
                                            have hx6 := hx4.of hbf.mo_r
                                            obtain ⟨q_place, r_place, k_place⟩ := hx6.2 1 (by decide)
                                            obtain ⟨q_many, r_many, k_many⟩ := hx6.2 3 (by decide)
                                            refine g_aload_n 5 0 C dX11_merge_361 rfl rfl ?_
                                            refine gr_m_place C dX11_merge_362 hx.1 wF_X11_17 r_place ?_
                                            refine g_iload_n 8 3 C dX11_merge_365 rfl rfl ?_
                                            refine g_iload 1 C dX11_merge_366 rfl ?_
                                            refine g_iconst (v := nI 1) C dX11_merge_368 (by decide) ?_
                                            refine g_iadd C dX11_merge_369 ?_
                                            refine g_topi (nI_add _ _ : _ = nI (madeN (zP Z) + 1)) ?_
                                            refine gs_m_place C dX11_merge_370 k_place (by omega) ?_
                                            refine g_iload 2 C dX11_merge_371 rfl ?_
                                            exact g_iret C dX11_merge_373 (by decide) (by decide) (⟨_, by unfold A_merge; rw [if_neg (fun z => z.elim (fun z => z.elim (nI_in10 hj) (nI_in10 hi)) (nI_in10 hh)), look_at hj hp, look_at hi hq]; simp only []; rw [if_pos ⟨hk, hk2⟩, ew, ek, if_pos (show (true && true) = true from rfl), nI_clamp (by omega), nI_clamp (by omega), em, if_neg (by decide), if_pos hle, ef, if_pos rfl], rfl, hbf.mo_r.trans hnf4.mo_r, by
                                              unfold N_merge newZ; rw [if_neg (fun z => z.elim (fun z => z.elim (nI_in10 hj) (nI_in10 hi)) (nI_in10 hh)), look_at hj hp, look_at hi hq]; simp only []; rw [if_pos ⟨hk, hk2⟩, ew, ek, if_pos (show (true && true) = true from rfl), nI_clamp (by omega), nI_clamp (by omega), nI_clamp (by omega), em, if_neg (by decide), if_pos hle, ef, if_pos rfl]
                                              obtain ⟨fn9, v9, hlf9⟩ := hnf4.mk
                                              have hb9 := rm_build (hR.name (fn := fn9) (v := v9)) hZ rfl hlf9 hbf hn4 hse
                                              exact rm_newT hb9.1 (madeN_new _) hb9.2⟩)
                                          · have ef := bI_f c347
                                            refine g_bipush (v := -5) C dX11_merge_350 (by decide) ?_
                                            exact g_iret C dX11_merge_352 (by decide) (by decide) (⟨_, by unfold A_merge; rw [if_neg (fun z => z.elim (fun z => z.elim (nI_in10 hj) (nI_in10 hi)) (nI_in10 hh)), look_at hj hp, look_at hi hq]; simp only []; rw [if_pos ⟨hk, hk2⟩, ew, ek, if_pos (show (true && true) = true from rfl), nI_clamp (by omega), nI_clamp (by omega), em, if_neg (by decide), if_pos hle, ef, if_neg (by decide)], rfl, hnf4.mo_r, by
                                              unfold N_merge; rw [if_neg (fun z => z.elim (fun z => z.elim (nI_in10 hj) (nI_in10 hi)) (nI_in10 hh)), look_at hj hp, look_at hi hq]; simp only []; rw [if_pos ⟨hk, hk2⟩, ew, ek, if_pos (show (true && true) = true from rfl), nI_clamp (by omega), nI_clamp (by omega), em, if_neg (by decide), if_pos hle, ef, if_neg (by decide)]
                                              obtain ⟨fn9, v9, hlf9⟩ := hnf4.mk
                                              exact rm_old (hR.name (fn := fn9) (v := v9)) rfl hlf9⟩)
                                        · refine g_aload_n 5 0 C dX11_merge_310 rfl rfl ?_
                                          refine g_iload 3 C dX11_merge_311 rfl ?_
                                          refine g_iload 0 C dX11_merge_313 rfl ?_
                                          refine g_iload 4 C dX11_merge_315 rfl ?_
                                          refine g_callV (As := [.int (nI b), .int (nI k), .int (nI a)]) (rest := []) C dX11_merge_317 (c_M_isIn hx4 (by omega) (by omega) hnb hna (by omega)) wC_X11_isIn wM_X11_185 wI_X11_isIn wS_X11_isIn wN_X11 (kne hx.1) (pf_11 hx.1) rfl hd_X11_isIn ⟨by decide, by decide, by decide, by decide⟩ (Nat.le_of_ble_eq_true rfl) (fun r_ S_ h_ => ?_)
                                          obtain ⟨fn1, v1, rfl, rfl⟩ := h_
                                          change Go X G _ 11 _ _ (mo_ S (m_length_ (m_name_ M4 fn1) v1)) 320 [(10, .int (nI k)), (9, .int (nI (madeN (zP Z)))), (8, .int (nI ((mergeL (tL (zH Z a)) (tL (zH Z b)) w0).length))), (7, .int (nI b)), (6, .int (nI a)), (0, .ref x), (1, .int (nI j)), (2, .int (nI i)), (3, .int (nI h)), (4, .int (nI w0)), (5, .int (nI i1))] [.int (bI (hasN (tL (zH Z a)) (nm (tL (zH Z b)) k)))]
                                          refine g_if_ne 333 C dX11_merge_320 (by decide) (fun c320 => ?_) (fun c320 => ?_)
                                          · have eh := bI_t c320
                                            refine g_iinc (v := nI (k + 1)) (lv' := [(10, .int (nI (k + 1))), (9, .int (nI (madeN (zP Z)))), (8, .int (nI ((mergeL (tL (zH Z a)) (tL (zH Z b)) w0).length))), (7, .int (nI b)), (6, .int (nI a)), (0, .ref x), (1, .int (nI j)), (2, .int (nI i)), (3, .int (nI h)), (4, .int (nI w0)), (5, .int (nI i1))]) 0 C dX11_merge_333 rfl (nI_add _ 1) (by decide) rfl ?_
                                            refine g_goto 293 C dX11_merge_336 (by decide) ?_
                                            exact ih_ (k + 1) _ (by omega) ⟨by omega, hnf4.trans NF.nm, by rw [mgB_f eh]; exact hn4⟩
                                          · have eh := bI_f c320
                                            have hlt : (mgB (tL (zH Z a)) (tL (zH Z b)) w0 k).length < 100 := by
                                              have a1 := mgB_len (tL (zH Z a)) (tL (zH Z b)) w0 k
                                              rw [if_pos ⟨c307, eh⟩] at a1
                                              have a2 := mgB_le (la := (tL (zH Z a))) (lb := (tL (zH Z b))) (w := w0) (k := k + 1) (by omega)
                                              omega
                                            refine g_aload_n 5 0 C dX11_merge_323 rfl rfl ?_
                                            refine g_iload 3 C dX11_merge_324 rfl ?_
                                            refine g_iload 0 C dX11_merge_326 rfl ?_
                                            refine g_iload 1 C dX11_merge_328 rfl ?_
                                            refine g_callV (As := [.int (nI b), .int (nI k), .int (nI (madeN (zP Z)))]) (rest := []) C dX11_merge_330 (c_M_take (M := m_length_ (m_name_ M4 fn1) v1) hx4 (by omega) (by omega) hnb hn4 (by omega) hlt) wC_X11_take wM_X11_189 wI_X11_take wS_X11_take wN_X11 (kne hx.1) (pf_11 hx.1) rfl hd_X11_take ⟨by decide, by decide, by decide, by decide⟩ (Nat.le_of_ble_eq_true rfl) (fun r_ S_ h_ => ?_)
                                            obtain ⟨fn2, v2, M5, rfl, rfl, hlf, hnn⟩ := h_
                                            change Go X G _ 11 _ _ (mo_ S M5) 333 [(10, .int (nI k)), (9, .int (nI (madeN (zP Z)))), (8, .int (nI ((mergeL (tL (zH Z a)) (tL (zH Z b)) w0).length))), (7, .int (nI b)), (6, .int (nI a)), (0, .ref x), (1, .int (nI j)), (2, .int (nI i)), (3, .int (nI h)), (4, .int (nI w0)), (5, .int (nI i1))] []
                                            refine g_iinc (v := nI (k + 1)) (lv' := [(10, .int (nI (k + 1))), (9, .int (nI (madeN (zP Z)))), (8, .int (nI ((mergeL (tL (zH Z a)) (tL (zH Z b)) w0).length))), (7, .int (nI b)), (6, .int (nI a)), (0, .ref x), (1, .int (nI j)), (2, .int (nI i)), (3, .int (nI h)), (4, .int (nI w0)), (5, .int (nI i1))]) 0 C dX11_merge_333 rfl (nI_add _ 1) (by decide) rfl ?_
                                            refine g_goto 293 C dX11_merge_336 (by decide) ?_
                                            exact ih_ (k + 1) _ (by omega) ⟨by omega, (hnf4.trans NF.nm).trans (NF.trans NF.nm (NF.lf hlf)), by rw [mgB_t c307 eh]; exact hnn⟩
                                  exact lp4 ((tL (zH Z b)).length + 1) 0 _ (by omega) ⟨Nat.zero_le _, hnf4, by rw [show (mgA (tL (zH Z a)) (tL (zH Z b)) w0 k) = (mgB (tL (zH Z a)) (tL (zH Z b)) w0 0) from by rw [show k = (tL (zH Z a)).length by omega]; rfl] at hn4; exact hn4⟩
                                · refine g_aload_n 5 0 C dX11_merge_259 rfl rfl ?_
                                  refine g_iload 4 C dX11_merge_260 rfl ?_
                                  refine g_iload 0 C dX11_merge_262 rfl ?_
                                  refine g_iload 3 C dX11_merge_264 rfl ?_
                                  refine g_iload 9 C dX11_merge_266 rfl ?_
                                  refine g_callV (As := [.int (nI a), .int (nI k), .int (nI b), .int (nI w0)]) (rest := []) C dX11_merge_268 (c_M_goes hx4 (by omega) (by omega) hna hnb (by omega) (by omega)) wC_X11_goes wM_X11_181 wI_X11_goes wS_X11_goes wN_X11 (kne hx.1) (pf_11 hx.1) rfl hd_X11_goes ⟨by decide, by decide, by decide, by decide⟩ (Nat.le_of_ble_eq_true rfl) (fun r_ S_ h_ => ?_)
                                  obtain ⟨fn1, v1, rfl, rfl⟩ := h_
                                  change Go X G _ 11 _ _ (mo_ S (m_length_ (m_name_ M4 fn1) v1)) 271 [(10, .int (nI k)), (9, .int (nI (madeN (zP Z)))), (8, .int (nI ((mergeL (tL (zH Z a)) (tL (zH Z b)) w0).length))), (7, .int (nI b)), (6, .int (nI a)), (0, .ref x), (1, .int (nI j)), (2, .int (nI i)), (3, .int (nI h)), (4, .int (nI w0)), (5, .int (nI i1))] [.int (bI (goN (tL (zH Z a)) (tL (zH Z b)) k w0))]
                                  refine g_if_eq 284 C dX11_merge_271 (by decide) (fun c271 => ?_) (fun c271 => ?_)
                                  · have eg := bI_f c271
                                    refine g_iinc (v := nI (k + 1)) (lv' := [(10, .int (nI (k + 1))), (9, .int (nI (madeN (zP Z)))), (8, .int (nI ((mergeL (tL (zH Z a)) (tL (zH Z b)) w0).length))), (7, .int (nI b)), (6, .int (nI a)), (0, .ref x), (1, .int (nI j)), (2, .int (nI i)), (3, .int (nI h)), (4, .int (nI w0)), (5, .int (nI i1))]) 0 C dX11_merge_284 rfl (nI_add _ 1) (by decide) rfl ?_
                                    refine g_goto 247 C dX11_merge_287 (by decide) ?_
                                    exact ih_ (k + 1) _ (by omega) ⟨by omega, hnf4.trans NF.nm, by rw [mgA_f eg]; exact hn4⟩
                                  · have eg := bI_t c271
                                    have hlt : (mgA (tL (zH Z a)) (tL (zH Z b)) w0 k).length < 100 := by
                                      have a1 := mgA_len (tL (zH Z a)) (tL (zH Z b)) w0 k
                                      rw [if_pos eg] at a1
                                      have a2 := mgA_all (la := (tL (zH Z a))) (lb := (tL (zH Z b))) (w := w0) (k := k + 1) (by omega)
                                      omega
                                    refine g_aload_n 5 0 C dX11_merge_274 rfl rfl ?_
                                    refine g_iload 4 C dX11_merge_275 rfl ?_
                                    refine g_iload 0 C dX11_merge_277 rfl ?_
                                    refine g_iload 1 C dX11_merge_279 rfl ?_
                                    refine g_callV (As := [.int (nI a), .int (nI k), .int (nI (madeN (zP Z)))]) (rest := []) C dX11_merge_281 (c_M_take (M := m_length_ (m_name_ M4 fn1) v1) hx4 (by omega) (by omega) hna hn4 (by omega) hlt) wC_X11_take wM_X11_189 wI_X11_take wS_X11_take wN_X11 (kne hx.1) (pf_11 hx.1) rfl hd_X11_take ⟨by decide, by decide, by decide, by decide⟩ (Nat.le_of_ble_eq_true rfl) (fun r_ S_ h_ => ?_)
                                    obtain ⟨fn2, v2, M5, rfl, rfl, hlf, hnn⟩ := h_
                                    change Go X G _ 11 _ _ (mo_ S M5) 284 [(10, .int (nI k)), (9, .int (nI (madeN (zP Z)))), (8, .int (nI ((mergeL (tL (zH Z a)) (tL (zH Z b)) w0).length))), (7, .int (nI b)), (6, .int (nI a)), (0, .ref x), (1, .int (nI j)), (2, .int (nI i)), (3, .int (nI h)), (4, .int (nI w0)), (5, .int (nI i1))] []
                                    refine g_iinc (v := nI (k + 1)) (lv' := [(10, .int (nI (k + 1))), (9, .int (nI (madeN (zP Z)))), (8, .int (nI ((mergeL (tL (zH Z a)) (tL (zH Z b)) w0).length))), (7, .int (nI b)), (6, .int (nI a)), (0, .ref x), (1, .int (nI j)), (2, .int (nI i)), (3, .int (nI h)), (4, .int (nI w0)), (5, .int (nI i1))]) 0 C dX11_merge_284 rfl (nI_add _ 1) (by decide) rfl ?_
                                    refine g_goto 247 C dX11_merge_287 (by decide) ?_
                                    exact ih_ (k + 1) _ (by omega) ⟨by omega, (hnf4.trans NF.nm).trans (NF.trans NF.nm (NF.lf hlf)), by rw [mgA_t eg]; exact hnn⟩
                            exact lp3 ((tL (zH Z a)).length + 1) 0 _ (by omega) ⟨Nat.zero_le _, NF.lf (LF.refl _ _), mkM_new.2.1⟩
                          · have hle : ¬ (mergeL (tL (zH Z a)) (tL (zH Z b)) w0).length ≤ 100 := by omega
                            refine g_bipush (v := -7) C dX11_merge_233 (by decide) ?_
                            exact g_iret C dX11_merge_235 (by decide) (by decide) (⟨_, by unfold A_merge; rw [if_neg (fun z => z.elim (fun z => z.elim (nI_in10 hj) (nI_in10 hi)) (nI_in10 hh)), look_at hj hp, look_at hi hq]; simp only []; rw [if_pos ⟨hk, hk2⟩, ew, ek, if_pos (show (true && true) = true from rfl), nI_clamp (by omega), nI_clamp (by omega), em, if_neg (by decide), if_neg hle], rfl, rfl, by unfold N_merge; rw [if_neg (fun z => z.elim (fun z => z.elim (nI_in10 hj) (nI_in10 hi)) (nI_in10 hh)), look_at hj hp, look_at hi hq]; simp only []; rw [if_pos ⟨hk, hk2⟩, ew, ek, if_pos (show (true && true) = true from rfl), nI_clamp (by omega), nI_clamp (by omega), em, if_neg (by decide), if_neg hle]; exact hR⟩)
                        · refine g_iload 8 C dX11_merge_192 rfl ?_
                          refine g_nif_ne 226 (by omega) C dX11_merge_194 (by decide) (fun c194 => ?_) (fun c194 => ?_)
                          · have eL : (mgB (tL (zH Z a)) (tL (zH Z b)) w0 k) = (mergeL (tL (zH Z a)) (tL (zH Z b)) w0) := (mgB_ne c194 _).trans (mgB_ne c194 _).symm
                            rw [eL]
                            have hml := mg_bnd (tL (zH Z a)) (tL (zH Z b)) w0
                            refine g_iload 1 C dX11_merge_226 rfl ?_
                            refine g_bipush (v := nI 100) C dX11_merge_228 (by decide) ?_
                            refine g_ncmp_le 236 (by omega) (by omega) C dX11_merge_230 (by decide) (fun c230 => ?_) (fun c230 => ?_)
                            · have hle : (mergeL (tL (zH Z a)) (tL (zH Z b)) w0).length ≤ 100 := c230
                              refine g_aload_n 4 0 C dX11_merge_236 rfl rfl ?_
                              refine g_bipush (v := nI 6) C dX11_merge_237 (by decide) ?_
                              refine g_callV (As := [.int (nI 6)]) (rest := []) C dX11_merge_239 (c_M_made (M := (m_length_ (m_name_ M fn) v)) hx hR hZ) wC_X11_made wM_X11_101 wI_X11_made wS_X11_made wN_X11 (kne hx.1) (pf_11 hx.1) rfl hd_X11_made ⟨by decide, by decide, by decide, by decide⟩ (Nat.le_of_ble_eq_true rfl) (fun r_ S_ h_ => ?_)
                              obtain ⟨rfl, rfl⟩ := h_
                              change Go X G _ 11 _ _ (mo_ S (mkM (m_length_ (m_name_ M fn) v) (madeN (zP Z)) 6)) 242 [(9, .int (nI k)), (8, .int (nI ((mergeL (tL (zH Z a)) (tL (zH Z b)) w0).length))), (7, .int (nI b)), (6, .int (nI a)), (0, .ref x), (1, .int (nI j)), (2, .int (nI i)), (3, .int (nI h)), (4, .int (nI w0)), (5, .int (nI i1))] [.int (nI (madeN (zP Z)))]
                              have hTa : namesM (mkM (m_length_ (m_name_ M fn) v) (madeN (zP Z)) 6) a (tL (zH Z a)) := (hTha.mk hnea).2.1
                              have hTb : namesM (mkM (m_length_ (m_name_ M fn) v) (madeN (zP Z)) 6) b (tL (zH Z b)) := (hThb.mk hneb).2.1
                              refine g_istore (lv' := [(9, .int (nI (madeN (zP Z)))), (8, .int (nI ((mergeL (tL (zH Z a)) (tL (zH Z b)) w0).length))), (7, .int (nI b)), (6, .int (nI a)), (0, .ref x), (1, .int (nI j)), (2, .int (nI i)), (3, .int (nI h)), (4, .int (nI w0)), (5, .int (nI i1))]) C dX11_merge_242 (by decide) rfl ?_
                              refine g_iconst (v := nI 0) C dX11_merge_244 (by decide) ?_
                              refine g_istore (lv' := [(10, .int (nI 0)), (9, .int (nI (madeN (zP Z)))), (8, .int (nI ((mergeL (tL (zH Z a)) (tL (zH Z b)) w0).length))), (7, .int (nI b)), (6, .int (nI a)), (0, .ref x), (1, .int (nI j)), (2, .int (nI i)), (3, .int (nI h)), (4, .int (nI w0)), (5, .int (nI i1))]) C dX11_merge_245 (by decide) rfl ?_
                              have lp3 : ∀ (n_ : Nat) (k : Nat) (M4 : MoT), (tL (zH Z a)).length - k < n_ → (k ≤ (tL (zH Z a)).length ∧ NF (madeN (zP Z)) (mkM (m_length_ (m_name_ M fn) v) (madeN (zP Z)) 6) M4 ∧ namesM M4 (madeN (zP Z)) (mgA (tL (zH Z a)) (tL (zH Z b)) w0 k)) → Go X G (Qe X G (fun r S' => ∃ M', r = some (.int (A_merge Z (nI j) (nI i) (nI h) (nI w0) (nI i1))) ∧ S' = mo_ S M' ∧ mo_r M' = mo_r M ∧ RM M' (N_merge Z (nI j) (nI i) (nI h) (nI w0) (nI i1))) rm_X11_merge.cells rm_X11_merge.slots) 11 0 0 (mo_ S M4) 247 [(10, .int (nI k)), (9, .int (nI (madeN (zP Z)))), (8, .int (nI ((mergeL (tL (zH Z a)) (tL (zH Z b)) w0).length))), (7, .int (nI b)), (6, .int (nI a)), (0, .ref x), (1, .int (nI j)), (2, .int (nI i)), (3, .int (nI h)), (4, .int (nI w0)), (5, .int (nI i1))] [] := by
                                intro n_
                                induction n_ with
                                | zero => intro k M4 hm_; exact absurd hm_ (Nat.not_lt_zero _)
                                | succ n_ ih_ =>
                                  intro k M4 hm_ h4
                                  obtain ⟨hk4, hnf4, hn4⟩ := h4
                                  have hx4 := (show MoOk S (mkM (m_length_ (m_name_ M fn) v) (madeN (zP Z)) 6) x from hx).of hnf4.mo_r
                                  have hna := hnf4.names hnea hTa
                                  have hnb := hnf4.names hneb hTb
                                  obtain ⟨q_place, r_place, k_place⟩ := hx4.2 1 (by decide)
                                  obtain ⟨q_many, r_many, k_many⟩ := hx4.2 3 (by decide)
                                  refine g_iload 0 C dX11_merge_247 rfl ?_
                                  refine g_aload_n 5 0 C dX11_merge_249 rfl rfl ?_
                                  refine gr_m_many C dX11_merge_250 hx.1 wF_X11_23 r_many ?_
                                  refine g_iload 4 C dX11_merge_253 rfl ?_
                                  refine ga_m_many C dX11_merge_255 k_many (by omega) ?_
                                  refine g_topi (hna.2.1) ?_
                                  refine g_ncmp_ge 290 (by omega) (by omega) C dX11_merge_256 (by decide) (fun c256 => ?_) (fun c256 => ?_)
                                  · refine g_iconst (v := nI 0) C dX11_merge_290 (by decide) ?_
                                    refine g_istore (lv' := [(10, .int (nI 0)), (9, .int (nI (madeN (zP Z)))), (8, .int (nI ((mergeL (tL (zH Z a)) (tL (zH Z b)) w0).length))), (7, .int (nI b)), (6, .int (nI a)), (0, .ref x), (1, .int (nI j)), (2, .int (nI i)), (3, .int (nI h)), (4, .int (nI w0)), (5, .int (nI i1))]) C dX11_merge_291 (by decide) rfl ?_
                                    have lp4 : ∀ (n_ : Nat) (k : Nat) (M4 : MoT), (tL (zH Z b)).length - k < n_ → (k ≤ (tL (zH Z b)).length ∧ NF (madeN (zP Z)) (mkM (m_length_ (m_name_ M fn) v) (madeN (zP Z)) 6) M4 ∧ namesM M4 (madeN (zP Z)) (mgB (tL (zH Z a)) (tL (zH Z b)) w0 k)) → Go X G (Qe X G (fun r S' => ∃ M', r = some (.int (A_merge Z (nI j) (nI i) (nI h) (nI w0) (nI i1))) ∧ S' = mo_ S M' ∧ mo_r M' = mo_r M ∧ RM M' (N_merge Z (nI j) (nI i) (nI h) (nI w0) (nI i1))) rm_X11_merge.cells rm_X11_merge.slots) 11 0 0 (mo_ S M4) 293 [(10, .int (nI k)), (9, .int (nI (madeN (zP Z)))), (8, .int (nI ((mergeL (tL (zH Z a)) (tL (zH Z b)) w0).length))), (7, .int (nI b)), (6, .int (nI a)), (0, .ref x), (1, .int (nI j)), (2, .int (nI i)), (3, .int (nI h)), (4, .int (nI w0)), (5, .int (nI i1))] [] := by
                                      intro n_
                                      induction n_ with
                                      | zero => intro k M4 hm_; exact absurd hm_ (Nat.not_lt_zero _)
                                      | succ n_ ih_ =>
                                        intro k M4 hm_ h4
                                        obtain ⟨hk4, hnf4, hn4⟩ := h4
                                        have hx4 := (show MoOk S (mkM (m_length_ (m_name_ M fn) v) (madeN (zP Z)) 6) x from hx).of hnf4.mo_r
                                        have hna := hnf4.names hnea hTa
                                        have hnb := hnf4.names hneb hTb
                                        obtain ⟨q_place, r_place, k_place⟩ := hx4.2 1 (by decide)
                                        obtain ⟨q_many, r_many, k_many⟩ := hx4.2 3 (by decide)
                                        refine g_iload 0 C dX11_merge_293 rfl ?_
                                        refine g_aload_n 5 0 C dX11_merge_295 rfl rfl ?_
                                        refine gr_m_many C dX11_merge_296 hx.1 wF_X11_23 r_many ?_
                                        refine g_iload 3 C dX11_merge_299 rfl ?_
                                        refine ga_m_many C dX11_merge_301 k_many (by omega) ?_
                                        refine g_topi (hnb.2.1) ?_
                                        refine g_ncmp_ge 339 (by omega) (by omega) C dX11_merge_302 (by decide) (fun c302 => ?_) (fun c302 => ?_)
                                        · refine g_aload_n 5 0 C dX11_merge_339 rfl rfl ?_
                                          refine g_iload 1 C dX11_merge_340 rfl ?_
                                          refine g_iload 10 C dX11_merge_342 rfl ?_
                                          have eL : (mgB (tL (zH Z a)) (tL (zH Z b)) w0 k) = (mergeL (tL (zH Z a)) (tL (zH Z b)) w0) := by unfold mergeL; rw [show k = (tL (zH Z b)).length by omega]
                                          rw [eL] at hn4
                                          have hOL := merge_ok hOa.2.2.1 hOb.2.2.1 hle
                                          refine g_callV (As := [.int (nI (madeN (zP Z))), .int (nI i1)]) (rest := []) C dX11_merge_344 (c_M_fits hx4 (by omega) hn4 (by omega)) wC_X11_fits wM_X11_169 wI_X11_fits wS_X11_fits wN_X11 (kne hx.1) (pf_11 hx.1) rfl hd_X11_fits ⟨by decide, by decide, by decide, by decide⟩ (Nat.le_of_ble_eq_true rfl) (fun r_ S_ h_ => ?_)
                                          obtain ⟨rfl, rfl⟩ := h_
                                          change Go X G _ 11 _ _ (mo_ S M4) 347 [(10, .int (nI k)), (9, .int (nI (madeN (zP Z)))), (8, .int (nI ((mergeL (tL (zH Z a)) (tL (zH Z b)) w0).length))), (7, .int (nI b)), (6, .int (nI a)), (0, .ref x), (1, .int (nI j)), (2, .int (nI i)), (3, .int (nI h)), (4, .int (nI w0)), (5, .int (nI i1))] [.int (bI (fitsN (mergeL (tL (zH Z a)) (tL (zH Z b)) w0) i1))]
                                          refine g_if_ne 353 C dX11_merge_347 (by decide) (fun c347 => ?_) (fun c347 => ?_)
                                          · have ef := bI_t c347
                                            refine g_aload_n 5 0 C dX11_merge_353 rfl rfl ?_
                                            refine g_iload 1 C dX11_merge_354 rfl ?_
                                            refine g_iload 10 C dX11_merge_356 rfl ?_
                                            refine g_callV (As := [.int (nI (madeN (zP Z))), .int (nI i1)]) (rest := []) C dX11_merge_358 (c_M_sealed hx4 (by omega) hn4 hOL (fitsN_pos ef) (zero_nf hnf4) hi11 hi15) wC_X11_sealed wM_X11_172 wI_X11_sealed wS_X11_sealed wN_X11 (kne hx.1) (pf_11 hx.1) rfl hd_X11_sealed ⟨by decide, by decide, by decide, by decide⟩ (Nat.le_of_ble_eq_true rfl) (fun r_ S_ h_ => ?_)
                                            obtain ⟨M6, rfl, rfl, hbf, hse⟩ := h_
                                            change Go X G _ 11 _ _ (mo_ S M6) 361 [(10, .int (nI k)), (9, .int (nI (madeN (zP Z)))), (8, .int (nI ((mergeL (tL (zH Z a)) (tL (zH Z b)) w0).length))), (7, .int (nI b)), (6, .int (nI a)), (0, .ref x), (1, .int (nI j)), (2, .int (nI i)), (3, .int (nI h)), (4, .int (nI w0)), (5, .int (nI i1))] []
                                            have hx6 := hx4.of hbf.mo_r
                                            obtain ⟨q_place, r_place, k_place⟩ := hx6.2 1 (by decide)
                                            obtain ⟨q_many, r_many, k_many⟩ := hx6.2 3 (by decide)
                                            refine g_aload_n 5 0 C dX11_merge_361 rfl rfl ?_
                                            refine gr_m_place C dX11_merge_362 hx.1 wF_X11_17 r_place ?_
                                            refine g_iload_n 8 3 C dX11_merge_365 rfl rfl ?_
                                            refine g_iload 1 C dX11_merge_366 rfl ?_
                                            refine g_iconst (v := nI 1) C dX11_merge_368 (by decide) ?_
                                            refine g_iadd C dX11_merge_369 ?_
                                            refine g_topi (nI_add _ _ : _ = nI (madeN (zP Z) + 1)) ?_
                                            refine gs_m_place C dX11_merge_370 k_place (by omega) ?_
                                            refine g_iload 2 C dX11_merge_371 rfl ?_
                                            exact g_iret C dX11_merge_373 (by decide) (by decide) (⟨_, by unfold A_merge; rw [if_neg (fun z => z.elim (fun z => z.elim (nI_in10 hj) (nI_in10 hi)) (nI_in10 hh)), look_at hj hp, look_at hi hq]; simp only []; rw [if_pos ⟨hk, hk2⟩, ew, ek, if_pos (show (true && true) = true from rfl), nI_clamp (by omega), nI_clamp (by omega), em, if_neg (by decide), if_pos hle, ef, if_pos rfl], rfl, hbf.mo_r.trans hnf4.mo_r, by
                                              unfold N_merge newZ; rw [if_neg (fun z => z.elim (fun z => z.elim (nI_in10 hj) (nI_in10 hi)) (nI_in10 hh)), look_at hj hp, look_at hi hq]; simp only []; rw [if_pos ⟨hk, hk2⟩, ew, ek, if_pos (show (true && true) = true from rfl), nI_clamp (by omega), nI_clamp (by omega), nI_clamp (by omega), em, if_neg (by decide), if_pos hle, ef, if_pos rfl]
                                              obtain ⟨fn9, v9, hlf9⟩ := hnf4.mk
                                              have hb9 := rm_build (hR.name (fn := fn9) (v := v9)) hZ rfl hlf9 hbf hn4 hse
                                              exact rm_newT hb9.1 (madeN_new _) hb9.2⟩)
                                          · have ef := bI_f c347
                                            refine g_bipush (v := -5) C dX11_merge_350 (by decide) ?_
                                            exact g_iret C dX11_merge_352 (by decide) (by decide) (⟨_, by unfold A_merge; rw [if_neg (fun z => z.elim (fun z => z.elim (nI_in10 hj) (nI_in10 hi)) (nI_in10 hh)), look_at hj hp, look_at hi hq]; simp only []; rw [if_pos ⟨hk, hk2⟩, ew, ek, if_pos (show (true && true) = true from rfl), nI_clamp (by omega), nI_clamp (by omega), em, if_neg (by decide), if_pos hle, ef, if_neg (by decide)], rfl, hnf4.mo_r, by
                                              unfold N_merge; rw [if_neg (fun z => z.elim (fun z => z.elim (nI_in10 hj) (nI_in10 hi)) (nI_in10 hh)), look_at hj hp, look_at hi hq]; simp only []; rw [if_pos ⟨hk, hk2⟩, ew, ek, if_pos (show (true && true) = true from rfl), nI_clamp (by omega), nI_clamp (by omega), em, if_neg (by decide), if_pos hle, ef, if_neg (by decide)]
                                              obtain ⟨fn9, v9, hlf9⟩ := hnf4.mk
                                              exact rm_old (hR.name (fn := fn9) (v := v9)) rfl hlf9⟩)
                                        · refine g_iload 9 C dX11_merge_305 rfl ?_
                                          refine g_nif_ne 339 (by omega) C dX11_merge_307 (by decide) (fun c307 => ?_) (fun c307 => ?_)
                                          · refine g_aload_n 5 0 C dX11_merge_339 rfl rfl ?_
                                            refine g_iload 1 C dX11_merge_340 rfl ?_
                                            refine g_iload 10 C dX11_merge_342 rfl ?_
                                            have eL : (mgB (tL (zH Z a)) (tL (zH Z b)) w0 k) = (mergeL (tL (zH Z a)) (tL (zH Z b)) w0) := (mgB_ne c307 _).trans (mgB_ne c307 _).symm
                                            rw [eL] at hn4
                                            have hOL := merge_ok hOa.2.2.1 hOb.2.2.1 hle
                                            refine g_callV (As := [.int (nI (madeN (zP Z))), .int (nI i1)]) (rest := []) C dX11_merge_344 (c_M_fits hx4 (by omega) hn4 (by omega)) wC_X11_fits wM_X11_169 wI_X11_fits wS_X11_fits wN_X11 (kne hx.1) (pf_11 hx.1) rfl hd_X11_fits ⟨by decide, by decide, by decide, by decide⟩ (Nat.le_of_ble_eq_true rfl) (fun r_ S_ h_ => ?_)
                                            obtain ⟨rfl, rfl⟩ := h_
                                            change Go X G _ 11 _ _ (mo_ S M4) 347 [(10, .int (nI k)), (9, .int (nI (madeN (zP Z)))), (8, .int (nI ((mergeL (tL (zH Z a)) (tL (zH Z b)) w0).length))), (7, .int (nI b)), (6, .int (nI a)), (0, .ref x), (1, .int (nI j)), (2, .int (nI i)), (3, .int (nI h)), (4, .int (nI w0)), (5, .int (nI i1))] [.int (bI (fitsN (mergeL (tL (zH Z a)) (tL (zH Z b)) w0) i1))]
                                            refine g_if_ne 353 C dX11_merge_347 (by decide) (fun c347 => ?_) (fun c347 => ?_)
                                            · have ef := bI_t c347
                                              refine g_aload_n 5 0 C dX11_merge_353 rfl rfl ?_
                                              refine g_iload 1 C dX11_merge_354 rfl ?_
                                              refine g_iload 10 C dX11_merge_356 rfl ?_
                                              refine g_callV (As := [.int (nI (madeN (zP Z))), .int (nI i1)]) (rest := []) C dX11_merge_358 (c_M_sealed hx4 (by omega) hn4 hOL (fitsN_pos ef) (zero_nf hnf4) hi11 hi15) wC_X11_sealed wM_X11_172 wI_X11_sealed wS_X11_sealed wN_X11 (kne hx.1) (pf_11 hx.1) rfl hd_X11_sealed ⟨by decide, by decide, by decide, by decide⟩ (Nat.le_of_ble_eq_true rfl) (fun r_ S_ h_ => ?_)
                                              obtain ⟨M6, rfl, rfl, hbf, hse⟩ := h_
                                              change Go X G _ 11 _ _ (mo_ S M6) 361 [(10, .int (nI k)), (9, .int (nI (madeN (zP Z)))), (8, .int (nI ((mergeL (tL (zH Z a)) (tL (zH Z b)) w0).length))), (7, .int (nI b)), (6, .int (nI a)), (0, .ref x), (1, .int (nI j)), (2, .int (nI i)), (3, .int (nI h)), (4, .int (nI w0)), (5, .int (nI i1))] []
                                              have hx6 := hx4.of hbf.mo_r
                                              obtain ⟨q_place, r_place, k_place⟩ := hx6.2 1 (by decide)
                                              obtain ⟨q_many, r_many, k_many⟩ := hx6.2 3 (by decide)
                                              refine g_aload_n 5 0 C dX11_merge_361 rfl rfl ?_
                                              refine gr_m_place C dX11_merge_362 hx.1 wF_X11_17 r_place ?_
                                              refine g_iload_n 8 3 C dX11_merge_365 rfl rfl ?_
                                              refine g_iload 1 C dX11_merge_366 rfl ?_
                                              refine g_iconst (v := nI 1) C dX11_merge_368 (by decide) ?_
                                              refine g_iadd C dX11_merge_369 ?_
                                              refine g_topi (nI_add _ _ : _ = nI (madeN (zP Z) + 1)) ?_
                                              refine gs_m_place C dX11_merge_370 k_place (by omega) ?_
                                              refine g_iload 2 C dX11_merge_371 rfl ?_
                                              exact g_iret C dX11_merge_373 (by decide) (by decide) (⟨_, by unfold A_merge; rw [if_neg (fun z => z.elim (fun z => z.elim (nI_in10 hj) (nI_in10 hi)) (nI_in10 hh)), look_at hj hp, look_at hi hq]; simp only []; rw [if_pos ⟨hk, hk2⟩, ew, ek, if_pos (show (true && true) = true from rfl), nI_clamp (by omega), nI_clamp (by omega), em, if_neg (by decide), if_pos hle, ef, if_pos rfl], rfl, hbf.mo_r.trans hnf4.mo_r, by
                                                unfold N_merge newZ; rw [if_neg (fun z => z.elim (fun z => z.elim (nI_in10 hj) (nI_in10 hi)) (nI_in10 hh)), look_at hj hp, look_at hi hq]; simp only []; rw [if_pos ⟨hk, hk2⟩, ew, ek, if_pos (show (true && true) = true from rfl), nI_clamp (by omega), nI_clamp (by omega), nI_clamp (by omega), em, if_neg (by decide), if_pos hle, ef, if_pos rfl]
                                                obtain ⟨fn9, v9, hlf9⟩ := hnf4.mk
                                                have hb9 := rm_build (hR.name (fn := fn9) (v := v9)) hZ rfl hlf9 hbf hn4 hse
                                                exact rm_newT hb9.1 (madeN_new _) hb9.2⟩)
                                            · have ef := bI_f c347
                                              refine g_bipush (v := -5) C dX11_merge_350 (by decide) ?_
                                              exact g_iret C dX11_merge_352 (by decide) (by decide) (⟨_, by unfold A_merge; rw [if_neg (fun z => z.elim (fun z => z.elim (nI_in10 hj) (nI_in10 hi)) (nI_in10 hh)), look_at hj hp, look_at hi hq]; simp only []; rw [if_pos ⟨hk, hk2⟩, ew, ek, if_pos (show (true && true) = true from rfl), nI_clamp (by omega), nI_clamp (by omega), em, if_neg (by decide), if_pos hle, ef, if_neg (by decide)], rfl, hnf4.mo_r, by
                                                unfold N_merge; rw [if_neg (fun z => z.elim (fun z => z.elim (nI_in10 hj) (nI_in10 hi)) (nI_in10 hh)), look_at hj hp, look_at hi hq]; simp only []; rw [if_pos ⟨hk, hk2⟩, ew, ek, if_pos (show (true && true) = true from rfl), nI_clamp (by omega), nI_clamp (by omega), em, if_neg (by decide), if_pos hle, ef, if_neg (by decide)]
                                                obtain ⟨fn9, v9, hlf9⟩ := hnf4.mk
                                                exact rm_old (hR.name (fn := fn9) (v := v9)) rfl hlf9⟩)
                                          · refine g_aload_n 5 0 C dX11_merge_310 rfl rfl ?_
                                            refine g_iload 3 C dX11_merge_311 rfl ?_
                                            refine g_iload 0 C dX11_merge_313 rfl ?_
                                            refine g_iload 4 C dX11_merge_315 rfl ?_
                                            refine g_callV (As := [.int (nI b), .int (nI k), .int (nI a)]) (rest := []) C dX11_merge_317 (c_M_isIn hx4 (by omega) (by omega) hnb hna (by omega)) wC_X11_isIn wM_X11_185 wI_X11_isIn wS_X11_isIn wN_X11 (kne hx.1) (pf_11 hx.1) rfl hd_X11_isIn ⟨by decide, by decide, by decide, by decide⟩ (Nat.le_of_ble_eq_true rfl) (fun r_ S_ h_ => ?_)
                                            obtain ⟨fn1, v1, rfl, rfl⟩ := h_
                                            change Go X G _ 11 _ _ (mo_ S (m_length_ (m_name_ M4 fn1) v1)) 320 [(10, .int (nI k)), (9, .int (nI (madeN (zP Z)))), (8, .int (nI ((mergeL (tL (zH Z a)) (tL (zH Z b)) w0).length))), (7, .int (nI b)), (6, .int (nI a)), (0, .ref x), (1, .int (nI j)), (2, .int (nI i)), (3, .int (nI h)), (4, .int (nI w0)), (5, .int (nI i1))] [.int (bI (hasN (tL (zH Z a)) (nm (tL (zH Z b)) k)))]
                                            refine g_if_ne 333 C dX11_merge_320 (by decide) (fun c320 => ?_) (fun c320 => ?_)
                                            · have eh := bI_t c320
                                              refine g_iinc (v := nI (k + 1)) (lv' := [(10, .int (nI (k + 1))), (9, .int (nI (madeN (zP Z)))), (8, .int (nI ((mergeL (tL (zH Z a)) (tL (zH Z b)) w0).length))), (7, .int (nI b)), (6, .int (nI a)), (0, .ref x), (1, .int (nI j)), (2, .int (nI i)), (3, .int (nI h)), (4, .int (nI w0)), (5, .int (nI i1))]) 0 C dX11_merge_333 rfl (nI_add _ 1) (by decide) rfl ?_
                                              refine g_goto 293 C dX11_merge_336 (by decide) ?_
                                              exact ih_ (k + 1) _ (by omega) ⟨by omega, hnf4.trans NF.nm, by rw [mgB_f eh]; exact hn4⟩
                                            · have eh := bI_f c320
                                              have hlt : (mgB (tL (zH Z a)) (tL (zH Z b)) w0 k).length < 100 := by
                                                have a1 := mgB_len (tL (zH Z a)) (tL (zH Z b)) w0 k
                                                rw [if_pos ⟨c307, eh⟩] at a1
                                                have a2 := mgB_le (la := (tL (zH Z a))) (lb := (tL (zH Z b))) (w := w0) (k := k + 1) (by omega)
                                                omega
                                              refine g_aload_n 5 0 C dX11_merge_323 rfl rfl ?_
                                              refine g_iload 3 C dX11_merge_324 rfl ?_
                                              refine g_iload 0 C dX11_merge_326 rfl ?_
                                              refine g_iload 1 C dX11_merge_328 rfl ?_
                                              refine g_callV (As := [.int (nI b), .int (nI k), .int (nI (madeN (zP Z)))]) (rest := []) C dX11_merge_330 (c_M_take (M := m_length_ (m_name_ M4 fn1) v1) hx4 (by omega) (by omega) hnb hn4 (by omega) hlt) wC_X11_take wM_X11_189 wI_X11_take wS_X11_take wN_X11 (kne hx.1) (pf_11 hx.1) rfl hd_X11_take ⟨by decide, by decide, by decide, by decide⟩ (Nat.le_of_ble_eq_true rfl) (fun r_ S_ h_ => ?_)
                                              obtain ⟨fn2, v2, M5, rfl, rfl, hlf, hnn⟩ := h_
                                              change Go X G _ 11 _ _ (mo_ S M5) 333 [(10, .int (nI k)), (9, .int (nI (madeN (zP Z)))), (8, .int (nI ((mergeL (tL (zH Z a)) (tL (zH Z b)) w0).length))), (7, .int (nI b)), (6, .int (nI a)), (0, .ref x), (1, .int (nI j)), (2, .int (nI i)), (3, .int (nI h)), (4, .int (nI w0)), (5, .int (nI i1))] []
                                              refine g_iinc (v := nI (k + 1)) (lv' := [(10, .int (nI (k + 1))), (9, .int (nI (madeN (zP Z)))), (8, .int (nI ((mergeL (tL (zH Z a)) (tL (zH Z b)) w0).length))), (7, .int (nI b)), (6, .int (nI a)), (0, .ref x), (1, .int (nI j)), (2, .int (nI i)), (3, .int (nI h)), (4, .int (nI w0)), (5, .int (nI i1))]) 0 C dX11_merge_333 rfl (nI_add _ 1) (by decide) rfl ?_
                                              refine g_goto 293 C dX11_merge_336 (by decide) ?_
                                              exact ih_ (k + 1) _ (by omega) ⟨by omega, (hnf4.trans NF.nm).trans (NF.trans NF.nm (NF.lf hlf)), by rw [mgB_t c307 eh]; exact hnn⟩
                                    exact lp4 ((tL (zH Z b)).length + 1) 0 _ (by omega) ⟨Nat.zero_le _, hnf4, by rw [show (mgA (tL (zH Z a)) (tL (zH Z b)) w0 k) = (mgB (tL (zH Z a)) (tL (zH Z b)) w0 0) from by rw [show k = (tL (zH Z a)).length by omega]; rfl] at hn4; exact hn4⟩
                                  · refine g_aload_n 5 0 C dX11_merge_259 rfl rfl ?_
                                    refine g_iload 4 C dX11_merge_260 rfl ?_
                                    refine g_iload 0 C dX11_merge_262 rfl ?_
                                    refine g_iload 3 C dX11_merge_264 rfl ?_
                                    refine g_iload 9 C dX11_merge_266 rfl ?_
                                    refine g_callV (As := [.int (nI a), .int (nI k), .int (nI b), .int (nI w0)]) (rest := []) C dX11_merge_268 (c_M_goes hx4 (by omega) (by omega) hna hnb (by omega) (by omega)) wC_X11_goes wM_X11_181 wI_X11_goes wS_X11_goes wN_X11 (kne hx.1) (pf_11 hx.1) rfl hd_X11_goes ⟨by decide, by decide, by decide, by decide⟩ (Nat.le_of_ble_eq_true rfl) (fun r_ S_ h_ => ?_)
                                    obtain ⟨fn1, v1, rfl, rfl⟩ := h_
                                    change Go X G _ 11 _ _ (mo_ S (m_length_ (m_name_ M4 fn1) v1)) 271 [(10, .int (nI k)), (9, .int (nI (madeN (zP Z)))), (8, .int (nI ((mergeL (tL (zH Z a)) (tL (zH Z b)) w0).length))), (7, .int (nI b)), (6, .int (nI a)), (0, .ref x), (1, .int (nI j)), (2, .int (nI i)), (3, .int (nI h)), (4, .int (nI w0)), (5, .int (nI i1))] [.int (bI (goN (tL (zH Z a)) (tL (zH Z b)) k w0))]
                                    refine g_if_eq 284 C dX11_merge_271 (by decide) (fun c271 => ?_) (fun c271 => ?_)
                                    · have eg := bI_f c271
                                      refine g_iinc (v := nI (k + 1)) (lv' := [(10, .int (nI (k + 1))), (9, .int (nI (madeN (zP Z)))), (8, .int (nI ((mergeL (tL (zH Z a)) (tL (zH Z b)) w0).length))), (7, .int (nI b)), (6, .int (nI a)), (0, .ref x), (1, .int (nI j)), (2, .int (nI i)), (3, .int (nI h)), (4, .int (nI w0)), (5, .int (nI i1))]) 0 C dX11_merge_284 rfl (nI_add _ 1) (by decide) rfl ?_
                                      refine g_goto 247 C dX11_merge_287 (by decide) ?_
                                      exact ih_ (k + 1) _ (by omega) ⟨by omega, hnf4.trans NF.nm, by rw [mgA_f eg]; exact hn4⟩
                                    · have eg := bI_t c271
                                      have hlt : (mgA (tL (zH Z a)) (tL (zH Z b)) w0 k).length < 100 := by
                                        have a1 := mgA_len (tL (zH Z a)) (tL (zH Z b)) w0 k
                                        rw [if_pos eg] at a1
                                        have a2 := mgA_all (la := (tL (zH Z a))) (lb := (tL (zH Z b))) (w := w0) (k := k + 1) (by omega)
                                        omega
                                      refine g_aload_n 5 0 C dX11_merge_274 rfl rfl ?_
                                      refine g_iload 4 C dX11_merge_275 rfl ?_
                                      refine g_iload 0 C dX11_merge_277 rfl ?_
                                      refine g_iload 1 C dX11_merge_279 rfl ?_
                                      refine g_callV (As := [.int (nI a), .int (nI k), .int (nI (madeN (zP Z)))]) (rest := []) C dX11_merge_281 (c_M_take (M := m_length_ (m_name_ M4 fn1) v1) hx4 (by omega) (by omega) hna hn4 (by omega) hlt) wC_X11_take wM_X11_189 wI_X11_take wS_X11_take wN_X11 (kne hx.1) (pf_11 hx.1) rfl hd_X11_take ⟨by decide, by decide, by decide, by decide⟩ (Nat.le_of_ble_eq_true rfl) (fun r_ S_ h_ => ?_)
                                      obtain ⟨fn2, v2, M5, rfl, rfl, hlf, hnn⟩ := h_
                                      change Go X G _ 11 _ _ (mo_ S M5) 284 [(10, .int (nI k)), (9, .int (nI (madeN (zP Z)))), (8, .int (nI ((mergeL (tL (zH Z a)) (tL (zH Z b)) w0).length))), (7, .int (nI b)), (6, .int (nI a)), (0, .ref x), (1, .int (nI j)), (2, .int (nI i)), (3, .int (nI h)), (4, .int (nI w0)), (5, .int (nI i1))] []
                                      refine g_iinc (v := nI (k + 1)) (lv' := [(10, .int (nI (k + 1))), (9, .int (nI (madeN (zP Z)))), (8, .int (nI ((mergeL (tL (zH Z a)) (tL (zH Z b)) w0).length))), (7, .int (nI b)), (6, .int (nI a)), (0, .ref x), (1, .int (nI j)), (2, .int (nI i)), (3, .int (nI h)), (4, .int (nI w0)), (5, .int (nI i1))]) 0 C dX11_merge_284 rfl (nI_add _ 1) (by decide) rfl ?_
                                      refine g_goto 247 C dX11_merge_287 (by decide) ?_
                                      exact ih_ (k + 1) _ (by omega) ⟨by omega, (hnf4.trans NF.nm).trans (NF.trans NF.nm (NF.lf hlf)), by rw [mgA_t eg]; exact hnn⟩
                              exact lp3 ((tL (zH Z a)).length + 1) 0 _ (by omega) ⟨Nat.zero_le _, NF.lf (LF.refl _ _), mkM_new.2.1⟩
                            · have hle : ¬ (mergeL (tL (zH Z a)) (tL (zH Z b)) w0).length ≤ 100 := by omega
                              refine g_bipush (v := -7) C dX11_merge_233 (by decide) ?_
                              exact g_iret C dX11_merge_235 (by decide) (by decide) (⟨_, by unfold A_merge; rw [if_neg (fun z => z.elim (fun z => z.elim (nI_in10 hj) (nI_in10 hi)) (nI_in10 hh)), look_at hj hp, look_at hi hq]; simp only []; rw [if_pos ⟨hk, hk2⟩, ew, ek, if_pos (show (true && true) = true from rfl), nI_clamp (by omega), nI_clamp (by omega), em, if_neg (by decide), if_neg hle], rfl, rfl, by unfold N_merge; rw [if_neg (fun z => z.elim (fun z => z.elim (nI_in10 hj) (nI_in10 hi)) (nI_in10 hh)), look_at hj hp, look_at hi hq]; simp only []; rw [if_pos ⟨hk, hk2⟩, ew, ek, if_pos (show (true && true) = true from rfl), nI_clamp (by omega), nI_clamp (by omega), em, if_neg (by decide), if_neg hle]; exact hR⟩)
                          · refine g_iload 1 C dX11_merge_197 rfl ?_
                            refine g_aload_n 4 0 C dX11_merge_199 rfl rfl ?_
                            refine g_iload 2 C dX11_merge_200 rfl ?_
                            refine g_iload 0 C dX11_merge_202 rfl ?_
                            refine g_iload 3 C dX11_merge_204 rfl ?_
                            refine g_callV (As := [.int (nI b), .int (nI k), .int (nI a)]) (rest := [.int (nI ((mgB (tL (zH Z a)) (tL (zH Z b)) w0 k).length))]) C dX11_merge_206 (c_M_isIn (M := (m_length_ (m_name_ M fn) v)) hx (by omega) (by omega) hnb0 hna0 (by omega)) wC_X11_isIn wM_X11_185 wI_X11_isIn wS_X11_isIn wN_X11 (kne hx.1) (pf_11 hx.1) rfl hd_X11_isIn ⟨by decide, by decide, by decide, by decide⟩ (Nat.le_of_ble_eq_true rfl) (fun r_ S_ h_ => ?_)
                            obtain ⟨fn1, v1, rfl, rfl⟩ := h_
                            change Go X G _ 11 _ _ (mo_ S (m_length_ (m_name_ M fn1) v1)) 209 [(9, .int (nI k)), (8, .int (nI ((mgB (tL (zH Z a)) (tL (zH Z b)) w0 k).length))), (7, .int (nI b)), (6, .int (nI a)), (0, .ref x), (1, .int (nI j)), (2, .int (nI i)), (3, .int (nI h)), (4, .int (nI w0)), (5, .int (nI i1))] [.int (bI (hasN (tL (zH Z a)) (nm (tL (zH Z b)) k))), .int (nI ((mgB (tL (zH Z a)) (tL (zH Z b)) w0 k).length))]
                            refine g_if_eq 216 C dX11_merge_209 (by decide) (fun c209 => ?_) (fun c209 => ?_)
                            · have eh := bI_f c209
                              refine g_iconst (v := nI 1) C dX11_merge_216 (by decide) ?_
                              refine g_iadd C dX11_merge_217 ?_
                              refine g_topi (nI_add _ _ : _ = nI ((mgB (tL (zH Z a)) (tL (zH Z b)) w0 k).length + 1)) ?_
                              refine g_istore (lv' := [(8, .int (nI ((mgB (tL (zH Z a)) (tL (zH Z b)) w0 k).length + 1))), (9, .int (nI k)), (7, .int (nI b)), (6, .int (nI a)), (0, .ref x), (1, .int (nI j)), (2, .int (nI i)), (3, .int (nI h)), (4, .int (nI w0)), (5, .int (nI i1))]) C dX11_merge_218 (by decide) rfl ?_
                              refine g_iinc (v := nI (k + 1)) (lv' := [(9, .int (nI (k + 1))), (8, .int (nI ((mgB (tL (zH Z a)) (tL (zH Z b)) w0 k).length + 1))), (7, .int (nI b)), (6, .int (nI a)), (0, .ref x), (1, .int (nI j)), (2, .int (nI i)), (3, .int (nI h)), (4, .int (nI w0)), (5, .int (nI i1))]) 1 C dX11_merge_220 rfl (nI_add _ 1) (by decide) rfl ?_
                              refine g_goto 180 C dX11_merge_223 (by decide) ?_
                              rw [show (mgB (tL (zH Z a)) (tL (zH Z b)) w0 k).length + 1 = (mgB (tL (zH Z a)) (tL (zH Z b)) w0 (k + 1)).length from by rw [mgB_len, if_pos ⟨c194, eh⟩]]
                              exact ih_ (k + 1) _ _ (by omega) (by omega)
                            · have eh := bI_t c209
                              refine g_iconst (v := nI 0) C dX11_merge_212 (by decide) ?_
                              refine g_goto 217 C dX11_merge_213 (by decide) ?_
                              refine g_iadd C dX11_merge_217 ?_
                              refine g_topi (nI_add _ _ : _ = nI ((mgB (tL (zH Z a)) (tL (zH Z b)) w0 k).length + 0)) ?_
                              refine g_istore (lv' := [(8, .int (nI ((mgB (tL (zH Z a)) (tL (zH Z b)) w0 k).length + 0))), (9, .int (nI k)), (7, .int (nI b)), (6, .int (nI a)), (0, .ref x), (1, .int (nI j)), (2, .int (nI i)), (3, .int (nI h)), (4, .int (nI w0)), (5, .int (nI i1))]) C dX11_merge_218 (by decide) rfl ?_
                              refine g_iinc (v := nI (k + 1)) (lv' := [(9, .int (nI (k + 1))), (8, .int (nI ((mgB (tL (zH Z a)) (tL (zH Z b)) w0 k).length + 0))), (7, .int (nI b)), (6, .int (nI a)), (0, .ref x), (1, .int (nI j)), (2, .int (nI i)), (3, .int (nI h)), (4, .int (nI w0)), (5, .int (nI i1))]) 1 C dX11_merge_220 rfl (nI_add _ 1) (by decide) rfl ?_
                              refine g_goto 180 C dX11_merge_223 (by decide) ?_
                              rw [show (mgB (tL (zH Z a)) (tL (zH Z b)) w0 k).length + 0 = (mgB (tL (zH Z a)) (tL (zH Z b)) w0 (k + 1)).length from by rw [mgB_f eh]; rfl]
                              exact ih_ (k + 1) _ _ (by omega) (by omega)
                    rw [show (mgA (tL (zH Z a)) (tL (zH Z b)) w0 k) = (mgB (tL (zH Z a)) (tL (zH Z b)) w0 0) from by rw [show k = (tL (zH Z a)).length by omega]; rfl]
                    exact lp2 ((tL (zH Z b)).length + 1) 0 _ _ (by omega) (Nat.zero_le _)
                  · refine g_iload 1 C dX11_merge_146 rfl ?_
                    refine g_aload_n 4 0 C dX11_merge_148 rfl rfl ?_
                    refine g_iload 3 C dX11_merge_149 rfl ?_
                    refine g_iload 0 C dX11_merge_151 rfl ?_
                    refine g_iload 2 C dX11_merge_153 rfl ?_
                    refine g_iload 8 C dX11_merge_155 rfl ?_
                    refine g_callV (As := [.int (nI a), .int (nI k), .int (nI b), .int (nI w0)]) (rest := [.int (nI ((mgA (tL (zH Z a)) (tL (zH Z b)) w0 k).length))]) C dX11_merge_157 (c_M_goes (M := (m_length_ (m_name_ M fn) v)) hx (by omega) (by omega) hna0 hnb0 (by omega) (by omega)) wC_X11_goes wM_X11_181 wI_X11_goes wS_X11_goes wN_X11 (kne hx.1) (pf_11 hx.1) rfl hd_X11_goes ⟨by decide, by decide, by decide, by decide⟩ (Nat.le_of_ble_eq_true rfl) (fun r_ S_ h_ => ?_)
                    obtain ⟨fn1, v1, rfl, rfl⟩ := h_
                    change Go X G _ 11 _ _ (mo_ S (m_length_ (m_name_ M fn1) v1)) 160 [(9, .int (nI k)), (8, .int (nI ((mgA (tL (zH Z a)) (tL (zH Z b)) w0 k).length))), (7, .int (nI b)), (6, .int (nI a)), (0, .ref x), (1, .int (nI j)), (2, .int (nI i)), (3, .int (nI h)), (4, .int (nI w0)), (5, .int (nI i1))] [.int (bI (goN (tL (zH Z a)) (tL (zH Z b)) k w0)), .int (nI ((mgA (tL (zH Z a)) (tL (zH Z b)) w0 k).length))]
                    refine g_if_eq 167 C dX11_merge_160 (by decide) (fun c160 => ?_) (fun c160 => ?_)
                    · have eg := bI_f c160
                      refine g_iconst (v := nI 0) C dX11_merge_167 (by decide) ?_
                      refine g_iadd C dX11_merge_168 ?_
                      refine g_topi (nI_add _ _ : _ = nI ((mgA (tL (zH Z a)) (tL (zH Z b)) w0 k).length + 0)) ?_
                      refine g_istore (lv' := [(8, .int (nI ((mgA (tL (zH Z a)) (tL (zH Z b)) w0 k).length + 0))), (9, .int (nI k)), (7, .int (nI b)), (6, .int (nI a)), (0, .ref x), (1, .int (nI j)), (2, .int (nI i)), (3, .int (nI h)), (4, .int (nI w0)), (5, .int (nI i1))]) C dX11_merge_169 (by decide) rfl ?_
                      refine g_iinc (v := nI (k + 1)) (lv' := [(9, .int (nI (k + 1))), (8, .int (nI ((mgA (tL (zH Z a)) (tL (zH Z b)) w0 k).length + 0))), (7, .int (nI b)), (6, .int (nI a)), (0, .ref x), (1, .int (nI j)), (2, .int (nI i)), (3, .int (nI h)), (4, .int (nI w0)), (5, .int (nI i1))]) 1 C dX11_merge_171 rfl (nI_add _ 1) (by decide) rfl ?_
                      refine g_goto 134 C dX11_merge_174 (by decide) ?_
                      rw [show (mgA (tL (zH Z a)) (tL (zH Z b)) w0 k).length + 0 = (mgA (tL (zH Z a)) (tL (zH Z b)) w0 (k + 1)).length from by rw [mgA_f eg]; rfl]
                      exact ih_ (k + 1) _ _ (by omega) (by omega)
                    · have eg := bI_t c160
                      refine g_iconst (v := nI 1) C dX11_merge_163 (by decide) ?_
                      refine g_goto 168 C dX11_merge_164 (by decide) ?_
                      refine g_iadd C dX11_merge_168 ?_
                      refine g_topi (nI_add _ _ : _ = nI ((mgA (tL (zH Z a)) (tL (zH Z b)) w0 k).length + 1)) ?_
                      refine g_istore (lv' := [(8, .int (nI ((mgA (tL (zH Z a)) (tL (zH Z b)) w0 k).length + 1))), (9, .int (nI k)), (7, .int (nI b)), (6, .int (nI a)), (0, .ref x), (1, .int (nI j)), (2, .int (nI i)), (3, .int (nI h)), (4, .int (nI w0)), (5, .int (nI i1))]) C dX11_merge_169 (by decide) rfl ?_
                      refine g_iinc (v := nI (k + 1)) (lv' := [(9, .int (nI (k + 1))), (8, .int (nI ((mgA (tL (zH Z a)) (tL (zH Z b)) w0 k).length + 1))), (7, .int (nI b)), (6, .int (nI a)), (0, .ref x), (1, .int (nI j)), (2, .int (nI i)), (3, .int (nI h)), (4, .int (nI w0)), (5, .int (nI i1))]) 1 C dX11_merge_171 rfl (nI_add _ 1) (by decide) rfl ?_
                      refine g_goto 134 C dX11_merge_174 (by decide) ?_
                      rw [show (mgA (tL (zH Z a)) (tL (zH Z b)) w0 k).length + 1 = (mgA (tL (zH Z a)) (tL (zH Z b)) w0 (k + 1)).length from by rw [mgA_len, if_pos eg]]
                      exact ih_ (k + 1) _ _ (by omega) (by omega)
              refine g_st (S' := mo_ S (m_length_ (m_name_ M (m_name M)) (m_length M))) rfl ?_
              exact lp1 ((tL (zH Z a)).length + 1) 0 _ _ (by omega) (Nat.zero_le _)
            · have em : (missT (zH Z a) || missT (zH Z b)) = true := by rw [bI_t c122]; exact Bool.or_true _
              refine g_bipush (v := -6) C dX11_merge_125 (by decide) ?_
              exact g_iret C dX11_merge_127 (by decide) (by decide) (⟨_, by unfold A_merge; rw [if_neg (fun z => z.elim (fun z => z.elim (nI_in10 hj) (nI_in10 hi)) (nI_in10 hh)), look_at hj hp, look_at hi hq]; simp only []; rw [if_pos ⟨hk, hk2⟩, ew, ek, if_pos (show (true && true) = true from rfl), nI_clamp (by omega), nI_clamp (by omega), em, if_pos rfl], rfl, rfl, by unfold N_merge; rw [if_neg (fun z => z.elim (fun z => z.elim (nI_in10 hj) (nI_in10 hi)) (nI_in10 hh)), look_at hj hp, look_at hi hq]; simp only []; rw [if_pos ⟨hk, hk2⟩, ew, ek, if_pos (show (true && true) = true from rfl), nI_clamp (by omega), nI_clamp (by omega), em, if_pos rfl]; exact hR⟩)
        · have e9 : (inR wv 3 && kdB kv) = false := by rw [kd_hi (Int32.not_le.mp c87)]; exact Bool.and_false _
          refine g_bipush (v := -5) C dX11_merge_90 (by decide) ?_
          exact g_iret C dX11_merge_92 (by decide) (by decide) (⟨M, by unfold A_merge; rw [if_neg (fun z => z.elim (fun z => z.elim (nI_in10 hj) (nI_in10 hi)) (nI_in10 hh)), look_at hj hp, look_at hi hq]; simp only []; rw [if_pos ⟨hk, hk2⟩, e9, if_neg (by decide)], rfl, rfl, by unfold N_merge; rw [if_neg (fun z => z.elim (fun z => z.elim (nI_in10 hj) (nI_in10 hi)) (nI_in10 hh)), look_at hj hp, look_at hi hq]; simp only []; rw [if_pos ⟨hk, hk2⟩, e9, if_neg (by decide)]; exact hR⟩)
theorem c_M_merge {l : Launch} {G : Gx} {S : PS} {M : MoT} {x : Nat} (hx : MoOk S M x) {Z : ZT} (hR : RM M Z) (hZ : okZ Z) {p q rr wv kv : Int32} : Ct l yX11_merge cX11_merge 11 (Option.some Jvm.ClassFile.FieldType.int) rm_X11_merge G [.ref x, .int p, .int q, .int rr, .int wv, .int kv] (mo_ S M) (fun r S' => ∃ M', r = some (.int (A_merge Z p q rr wv kv)) ∧ S' = mo_ S M' ∧ mo_r M' = mo_r M ∧ RM M' (N_merge Z p q rr wv kv)) := by
  rcases look_cases Z p with h | ⟨j, hj, rfl, g⟩
  · exact c_M_merge_o1 hx hR hZ h
  · rcases look_cases Z q with h | ⟨i, hi, rfl, g2⟩
    · exact c_M_merge_o2 hx hR hZ hj h
    · rcases look_cases Z rr with h | ⟨h, hh, rfl, -⟩
      · exact c_M_merge_o3 hx hR hZ hj hi h
      · rcases g with g | ⟨a, g⟩
        · exact c_M_merge_n1 hx hR hZ hj hi hh g
        · rcases g2 with g2 | ⟨b, g2⟩
          · exact c_M_merge_n2 hx hR hZ hj hi hh g g2
          · by_cases k1 : tK (zH Z a) ≤ 5
            · by_cases k2 : tK (zH Z b) ≤ 5
              · exact c_M_merge_ok hx hR hZ hj hi hh g g2 k1 k2
              · exact c_M_merge_k2 hx hR hZ hj hi hh g g2 k1 k2
            · exact c_M_merge_k1 hx hR hZ hj hi hh g g2 k1
