theorem RC_no {S S' : PS} {Z : ZT} {x : Nat} (h : RC S Z x) (hf : Fr S S' No) (hm : mu S' = mu S) : RC S' Z x := by
  obtain ⟨c, D, hr⟩ := h
  exact ⟨c, D, hr.no hf rfl rfl rfl (hr.2.1.fr hf hm) (congrArg (fun q => q.2.2.1) hm) ((congrArg (fun q => q.1) hm).trans hr.2.2.2.2.1)⟩
set_option maxRecDepth 100000 in
set_option maxHeartbeats 1000000 in
theorem law_loop {X : Kx} {G : Gx} {Q : State → Prop} {nm : String} {b L x y : Nat} {sc : Nat → Int32} (C : Cok X G cL_law 4 RL ret nm room_1) (hS : Scr X G b L sc) (kk : ∀ (k : Nat) (S : PS), 6 * k ≤ L → Go X G Q 4 (39 + 220 * k) (121234 + 5400 * k) S 1420 [(3, .int (nI (6 * k))), (2, .ref y), (1, .ref x), (0, .ref b)] []) : ∀ (n k : Nat) (S : PS) (Z : ZT), L - 6 * k < n → 6 * k ≤ L → Inv S Z x y → Go X G Q 4 (39 + 220 * k) (121234 + 5400 * k) S 18 [(3, .int (nI (6 * k))), (2, .ref y), (1, .ref x), (0, .ref b)] [] := by
  have hL := hS.2.2.2
  intro n
  induction n with
  | zero => intro k S Z hm; exact absurd hm (Nat.not_lt_zero _)
  | succ n ih =>
    intro k S Z hm hk hI
    refine g_iload_n 0 3 C dL_law_18 rfl rfl ?_
    refine g_aload_n 3 0 C dL_law_19 rfl rfl ?_
    refine g_slen hS C dL_law_20 ?_
    refine g_bipush (v := nI 6) C dL_law_21 (by decide) ?_
    refine g_isub C dL_law_23 ?_
    rcases Nat.lt_or_ge L 6 with h6 | h6
    · have hk0 : k = 0 := by omega
      subst hk0
      exact g_icmp_gt 1420 C dL_law_24 (by decide) (fun _ => kk 0 S hk) (fun z => absurd (sub6 h6) z)
    · refine g_topi (pk_sub h6 : _ = nI (L - 6)) ?_
      refine g_ncmp_gt 1420 (by omega) (by omega) C dL_law_24 (by decide) (fun c24 => ?_) (fun c24 => ?_)
      · exact kk k S hk
      · refine g_aload_n 3 0 C dL_law_27 rfl rfl ?_
        refine g_iload_n 0 3 C dL_law_28 rfl rfl ?_
        refine g_sld (i := 6 * k) hS (by omega) C dL_law_29 ?_
        refine g_bipush (v := nI 63) C dL_law_30 (by decide) ?_
        refine g_iand C dL_law_32 ?_
        obtain ⟨j, hj, e⟩ := and63 (sc (6 * k))
        refine g_topi e ?_
        have nx : ∀ (S' : PS) (Z' : ZT), Inv S' Z' x y → Go X G Q 4 (39 + 220 * k + 220) (121234 + 5400 * k + 5400) S' 1414 [(3, .int (nI (6 * k))), (2, .ref y), (1, .ref x), (0, .ref b)] [] := fun S' Z' hI' => by
          refine g_iinc (v := nI (6 * (k + 1))) (lv' := [(3, .int (nI (6 * (k + 1)))), (2, .ref y), (1, .ref x), (0, .ref b)]) 0 C dL_law_1414 rfl (nI_add _ 6) (by decide) rfl ?_
          refine g_goto 18 C dL_law_1417 (by decide) ?_
          refine Go.wide (k2 := 39 + 220 * (k + 1)) (n2 := 121234 + 5400 * (k + 1)) (by omega) (by omega) ?_
          exact ih (k + 1) S' Z' (by omega) (by omega) hI'
        clear e
        match j, hj with
        | 0, _ => exact g_table (x := 0) 204 C dL_law_33 (by decide) (by decide) (by decide) rfl (by decide) (l_feed C hS (by omega) hI nx)
        | 1, _ => exact g_table (x := 1) 267 C dL_law_33 (by decide) (by decide) (by decide) rfl (by decide) (l_cut C hS (by omega) hI nx)
        | 2, _ => exact g_table (x := 2) 290 C dL_law_33 (by decide) (by decide) (by decide) rfl (by decide) (l_tape C hS (by omega) hI nx)
        | 3, _ => exact g_table (x := 3) 313 C dL_law_33 (by decide) (by decide) (by decide) rfl (by decide) (l_draft C hS (by omega) hI nx)
        | 4, _ => exact g_table (x := 4) 336 C dL_law_33 (by decide) (by decide) (by decide) rfl (by decide) (l_row C hS (by omega) hI nx)
        | 5, _ => exact g_table (x := 5) 369 C dL_law_33 (by decide) (by decide) (by decide) rfl (by decide) (l_clear C hS (by omega) hI nx)
        | 6, _ => exact g_table (x := 6) 392 C dL_law_33 (by decide) (by decide) (by decide) rfl (by decide) (l_share C hS (by omega) hI nx)
        | 7, _ => exact g_table (x := 7) 425 C dL_law_33 (by decide) (by decide) (by decide) rfl (by decide) (l_kind C hS (by omega) hI nx)
        | 8, _ => exact g_table (x := 8) 448 C dL_law_33 (by decide) (by decide) (by decide) rfl (by decide) (l_put C hS (by omega) hI nx)
        | 9, _ => exact g_table (x := 9) 511 C dL_law_33 (by decide) (by decide) (by decide) rfl (by decide) (l_unput C hS (by omega) hI nx)
        | 10, _ => exact g_table (x := 10) 534 C dL_law_33 (by decide) (by decide) (by decide) rfl (by decide) (l_seal C hS (by omega) hI nx)
        | 11, _ => exact g_table (x := 11) 577 C dL_law_33 (by decide) (by decide) (by decide) rfl (by decide) (l_unseal C hS (by omega) hI nx)
        | 12, _ => exact g_table (x := 12) 610 C dL_law_33 (by decide) (by decide) (by decide) rfl (by decide) (l_merge C hS (by omega) hI nx)
        | 13, _ => exact g_table (x := 13) 673 C dL_law_33 (by decide) (by decide) (by decide) rfl (by decide) (l_count C hS (by omega) hI nx)
        | 14, _ => exact g_table (x := 14) 696 C dL_law_33 (by decide) (by decide) (by decide) rfl (by decide) (l_number C hS (by omega) hI nx)
        | 15, _ => exact g_table (x := 15) 719 C dL_law_33 (by decide) (by decide) (by decide) rfl (by decide) (l_name C hS (by omega) hI nx)
        | 16, _ => exact g_table (x := 16) 752 C dL_law_33 (by decide) (by decide) (by decide) rfl (by decide) (l_value C hS (by omega) hI nx)
        | 17, _ => exact g_table (x := 17) 786 C dL_law_33 (by decide) (by decide) (by decide) rfl (by decide) (l_status C hS (by omega) hI nx)
        | 18, _ => exact g_table (x := 18) 799 C dL_law_33 (by decide) (by decide) (by decide) rfl (by decide) (l_below C hS (by omega) hI nx)
        | 19, _ => exact g_table (x := 19) 822 C dL_law_33 (by decide) (by decide) (by decide) rfl (by decide) (l_next C hS (by omega) hI nx)
        | 20, _ => exact g_table (x := 20) 845 C dL_law_33 (by decide) (by decide) (by decide) rfl (by decide) (l_prior C hS (by omega) hI nx)
        | 21, _ => exact g_table (x := 21) 868 C dL_law_33 (by decide) (by decide) (by decide) rfl (by decide) (l_prefix C hS (by omega) hI nx)
        | 22, _ => exact g_table (x := 22) 917 C dL_law_33 (by decide) (by decide) (by decide) rfl (by decide) (l_longest C hS (by omega) hI nx)
        | 23, _ => exact g_table (x := 23) 940 C dL_law_33 (by decide) (by decide) (by decide) rfl (by decide) (l_common C hS (by omega) hI nx)
        | 24, _ => exact g_table (x := 24) 983 C dL_law_33 (by decide) (by decide) (by decide) rfl (by decide) (l_rank C hS (by omega) hI nx)
        | 25, _ => exact g_table (x := 25) 1016 C dL_law_33 (by decide) (by decide) (by decide) rfl (by decide) (l_select C hS (by omega) hI nx)
        | 26, _ => exact g_table (x := 26) 1049 C dL_law_33 (by decide) (by decide) (by decide) rfl (by decide) (l_bit C hS (by omega) hI nx)
        | 27, _ => exact g_table (x := 27) 1082 C dL_law_33 (by decide) (by decide) (by decide) rfl (by decide) (l_flip C hS (by omega) hI nx)
        | 28, _ => exact g_table (x := 28) 1141 C dL_law_33 (by decide) (by decide) (by decide) rfl (by decide) (l_about C hS (by omega) hI nx)
        | 29, _ => exact g_table (x := 29) 1174 C dL_law_33 (by decide) (by decide) (by decide) rfl (by decide) (l_lose C hS (by omega) hI nx)
        | 30, _ => exact g_table (x := 30) 1207 C dL_law_33 (by decide) (by decide) (by decide) rfl (by decide) (l_mend C hS (by omega) hI nx)
        | 31, _ => exact g_table (x := 31) 1230 C dL_law_33 (by decide) (by decide) (by decide) rfl (by decide) (l_witness C hS (by omega) hI nx)
        | 32, _ => exact g_table (x := 32) 1253 C dL_law_33 (by decide) (by decide) (by decide) rfl (by decide) (l_witnessed C hS (by omega) hI nx)
        | 33, _ => exact g_table (x := 33) 1266 C dL_law_33 (by decide) (by decide) (by decide) rfl (by decide) (l_told C hS (by omega) hI nx)
        | 34, _ => exact g_table (x := 34) 1289 C dL_law_33 (by decide) (by decide) (by decide) rfl (by decide) (l_forge C hS (by omega) hI nx)
        | 35, _ => exact g_table (x := 35) 1322 C dL_law_33 (by decide) (by decide) (by decide) rfl (by decide) (l_check C hS (by omega) hI nx)
        | 36, _ => exact g_table (x := 36) 1345 C dL_law_33 (by decide) (by decide) (by decide) rfl (by decide) (l_image C hS (by omega) hI nx)
        | 37, _ => exact g_table (x := 37) 1368 C dL_law_33 (by decide) (by decide) (by decide) rfl (by decide) (l_load C hS (by omega) hI nx)
        | 38, _ => exact g_table (x := 38) 1391 C dL_law_33 (by decide) (by decide) (by decide) rfl (by decide) (l_same C hS (by omega) hI nx)
        | j + 39, hj => exact g_tableOut 1414 C dL_law_33 (Or.inr (by rw [nI_toInt (by omega)]; omega)) (by decide) (Go.wide (k2 := 39 + 220 * k + 220) (n2 := 121234 + 5400 * k + 5400) (by omega) (by omega) (nx S Z hI))
def cl00 : ClT := by
  repeat' first | exact (fun _ => (0 : Int32)) | exact (fun _ => (none : Option Nat)) | exact (0 : Int32) | exact (none : Option Nat) | exact (fun _ => (0 : Int64)) | exact (fun _ _ => (0 : Int32)) | exact (fun _ _ => (0 : Int64)) | exact (fun _ _ => (none : Option Nat)) | refine Prod.mk ?_ ?_
def mo00 : MoT := by
  repeat' first | exact (fun _ => (0 : Int32)) | exact (fun _ => (none : Option Nat)) | exact (0 : Int32) | exact (none : Option Nat) | exact (fun _ => (0 : Int64)) | refine Prod.mk ?_ ?_
def S00 : PS := (((fun _ => 0, []), fun _ => 0), cl00, mo00)
theorem rep_0 {G : Gx} {H : Heap} (h : G.2.2 ≤ H.size) : Rep G S00 H := ⟨fun k q hq => absurd (show ([] : List (Nat × va_E))[k]? = some q from hq) (by rw [List.getElem?_nil]; exact fun z => by cases z), ⟨fun i j p q h1 => absurd (show ([] : List (Nat × va_E))[i]? = some p from h1) (by rw [List.getElem?_nil]; exact fun z => by cases z), fun k q hq => absurd (show ([] : List (Nat × va_E))[k]? = some q from hq) (by rw [List.getElem?_nil]; exact fun z => by cases z)⟩, fun a => ⟨fun z => absurd rfl z, fun z => absurd (show a ∈ ([] : List Nat) from z) List.not_mem_nil⟩, fun a b _ z => absurd (show isU 0 = true from z) (by decide), h⟩
set_option maxRecDepth 100000 in
set_option maxHeartbeats 1000000 in
theorem law_start {X : Kx} {G : Gx} {Q : State → Prop} {nm : String} {b L : Nat} {sc : Nat → Int32} (C : Cok X G cL_law 4 RL ret nm room_1) (hS : Scr X G b L sc) (kk : ∀ (k : Nat) (S : PS) (x y : Nat), 6 * k ≤ L → Go X G Q 4 (39 + 220 * k) (121234 + 5400 * k) S 1420 [(3, .int (nI (6 * k))), (2, .ref y), (1, .ref x), (0, .ref b)] []) : Go X G Q 4 0 0 S00 0 [(0, .ref b)] [] := by
  have hL := hS.2.2.2
  refine gw_BitAlmanac C dL_law_0 wK_L_7 (fun a => by show (0 : Nat) ≠ 10; decide) ⟨by decide, by decide⟩ (fun x h0_x => ?_)
  refine g_dup C dL_law_3 rfl ?_
  refine g_callI (As := []) (rest := [.ref x]) C dL_law_4 (c_C_init (S := nw_BitAlmanac S00 x) (va_up_self _ _ _) (fun a ha => Classical.byContradiction fun z => ha (va_up_ne _ _ z))) wC_X10_init wM_L_9 wI_X10_init wN_X10 rfl hd_X10_init.2 ⟨by decide, by decide, by decide, by decide⟩ (Nat.le_of_ble_eq_true rfl) (fun r_ S1 h_ => ?_)
  obtain ⟨rfl, hRC, hU, hN⟩ := h_
  change Go X G _ 4 _ _ S1 7 [(0, .ref b)] [.ref x]
  refine g_astore_n (lv' := [(1, .ref x), (0, .ref b)]) C dL_law_7 rfl (by decide) rfl ?_
  refine gw_Model C dL_law_8 wK_L_10 hN ⟨by decide, by decide⟩ (fun y h0_y => ?_)
  refine g_dup C dL_law_11 rfl ?_
  refine g_callI (As := []) (rest := [.ref y]) C dL_law_12 (c_M_init (S := nw_Model S1 y) (va_up_self _ _ _) (lt_up hU (by decide))) wC_X11_init wM_L_12 wI_X11_init wN_X11 rfl hd_X11_init.2 ⟨by decide, by decide, by decide, by decide⟩ (Nat.le_of_ble_eq_true rfl) (fun r_ S2 h_ => ?_)
  obtain ⟨rfl, hF, hM2, hMo, hRM⟩ := h_
  change Go X G _ 4 _ _ S2 15 [(1, .ref x), (0, .ref b)] [.ref y]
  have f1 : Fr S1 (mo_ (nw_Model S1 y) (mo S1)) No := fr_raw (k := 11) (Fr.refl S1 No) h0_y
  have r1 : RC (nw_Model S1 y) Z0 x := RC_no (S' := mo_ (nw_Model S1 y) (mo S1)) hRC f1 rfl
  have r2 : RC S2 Z0 x := RC_no (S := nw_Model S1 y) (S' := mo_ S2 (mo (nw_Model S1 y))) r1 hF hM2
  refine g_astore_n (lv' := [(2, .ref y), (1, .ref x), (0, .ref b)]) C dL_law_15 rfl (by decide) rfl ?_
  refine g_iconst (v := nI 0) C dL_law_16 (by decide) ?_
  refine g_istore_n (lv' := [(3, .int (nI 0)), (2, .ref y), (1, .ref x), (0, .ref b)]) C dL_law_17 rfl (by decide) rfl ?_
  refine Go.wide (k2 := 39 + 220 * 0) (n2 := 121234 + 5400 * 0) (by decide) (by decide) ?_
  exact law_loop C hS (fun k S hk => kk k S x y hk) (L + 1) 0 S2 Z0 (by omega) (by omega) ⟨r2, hMo, hRM, okZ_0⟩
