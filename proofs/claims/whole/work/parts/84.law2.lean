set_option maxRecDepth 100000 in
set_option maxHeartbeats 1000000 in
theorem l_count {X : Kx} {G : Gx} {Q : State → Prop} {nm : String} {b L x y : Nat} {sc : Nat → Int32} (C : Cok X G cL_law 4 RL ret nm room_1) (hS : Scr X G b L sc) {k : Nat} (hk : 6 * k + 6 ≤ L) {S : PS} {Z : ZT} (hI : Inv S Z x y) (kk : ∀ (S' : PS) (Z' : ZT), Inv S' Z' x y → Go X G Q 4 (39 + 220 * k + 220) (121234 + 5400 * k + 5400) S' 1414 [(3, .int (nI (6 * k))), (2, .ref y), (1, .ref x), (0, .ref b)] []) : Go X G Q 4 (39 + 220 * k) (121234 + 5400 * k) S 673 [(3, .int (nI (6 * k))), (2, .ref y), (1, .ref x), (0, .ref b)] [] := by
  have hL := hS.2.2.2
  obtain ⟨c, D, hr⟩ := hI.1
  refine g_aload_n 2 1 C dL_law_673 rfl rfl ?_
  refine g_aload_n 3 0 C dL_law_674 rfl rfl ?_
  refine g_iload_n 0 3 C dL_law_675 rfl rfl ?_
  refine g_iconst (v := nI 1) C dL_law_676 (by decide) ?_
  refine g_iadd C dL_law_677 ?_
  refine g_topi (nI_add _ _ : _ = nI (6 * k + 1)) ?_
  refine g_sld (i := 6 * k + 1) hS (by omega) C dL_law_678 ?_
  refine g_callV (As := [.int (sc (6 * k + 1))]) (rest := []) C dL_law_679 (c_C_count hr hI.2.2.2) wC_X10_count wM_L_73 wI_X10_count wS_X10_count wN_X10 (kne hr.1.1.1) (pf_10 hr.1.1.1) rfl hd_X10_count ⟨by decide, by decide, by show 39 + 220 * k + 0 ≤ 600000; omega, by show 121234 + 5400 * k + 0 ≤ 7302250; omega⟩ (Nat.le_of_ble_eq_true rfl) (fun r_ S_ h_ => ?_)
  obtain ⟨rfl, rfl⟩ := h_
  change Go X G _ 4 _ _ S 682 [(3, .int (nI (6 * k))), (2, .ref y), (1, .ref x), (0, .ref b)] [.int (A_count Z (sc (6 * k + 1)))]
  refine Go.wide (k2 := 39 + 220 * k) (n2 := 121234 + 5400 * k) (Nat.le_refl _) (Nat.le_refl _) ?_
  refine g_aload_n 1 2 C dL_law_682 rfl rfl ?_
  refine g_aload_n 3 0 C dL_law_683 rfl rfl ?_
  refine g_iload_n 0 3 C dL_law_684 rfl rfl ?_
  refine g_iconst (v := nI 1) C dL_law_685 (by decide) ?_
  refine g_iadd C dL_law_686 ?_
  refine g_topi (nI_add _ _ : _ = nI (6 * k + 1)) ?_
  refine g_sld (i := 6 * k + 1) hS (by omega) C dL_law_687 ?_
  refine g_st (S' := mo_ S (mo S)) rfl ?_
  refine g_callV (As := [.int (sc (6 * k + 1))]) (rest := [.int (A_count Z (sc (6 * k + 1)))]) C dL_law_688 (c_M_count (S := S) (M := mo S) hI.2.1 hI.2.2.1 hI.2.2.2) wC_X11_count wM_L_76 wI_X11_count wS_X11_count wN_X11 (kne hI.2.1.1) (pf_11 hI.2.1.1) rfl hd_X11_count ⟨by decide, by decide, by show 39 + 220 * k + 0 ≤ 600000; omega, by show 121234 + 5400 * k + 0 ≤ 7302250; omega⟩ (Nat.le_of_ble_eq_true rfl) (fun r_ S_ h_ => ?_)
  obtain ⟨rfl, rfl⟩ := h_
  change Go X G _ 4 _ _ (mo_ S (mo S)) 691 [(3, .int (nI (6 * k))), (2, .ref y), (1, .ref x), (0, .ref b)] [.int (A_count Z (sc (6 * k + 1))), .int (A_count Z (sc (6 * k + 1)))]
  refine Go.wide (k2 := 39 + 220 * k) (n2 := 121234 + 5400 * k) (Nat.le_refl _) (Nat.le_refl _) ?_
  refine g_icmp_eq 1414 C dL_law_691 (by decide) (fun _ => ?_) (fun z => absurd rfl z)
  refine Go.wide (k2 := 39 + 220 * k + 220) (n2 := 121234 + 5400 * k + 5400) (by omega) (by omega) ?_
  exact kk S Z hI
set_option maxRecDepth 100000 in
set_option maxHeartbeats 1000000 in
theorem l_number {X : Kx} {G : Gx} {Q : State → Prop} {nm : String} {b L x y : Nat} {sc : Nat → Int32} (C : Cok X G cL_law 4 RL ret nm room_1) (hS : Scr X G b L sc) {k : Nat} (hk : 6 * k + 6 ≤ L) {S : PS} {Z : ZT} (hI : Inv S Z x y) (kk : ∀ (S' : PS) (Z' : ZT), Inv S' Z' x y → Go X G Q 4 (39 + 220 * k + 220) (121234 + 5400 * k + 5400) S' 1414 [(3, .int (nI (6 * k))), (2, .ref y), (1, .ref x), (0, .ref b)] []) : Go X G Q 4 (39 + 220 * k) (121234 + 5400 * k) S 696 [(3, .int (nI (6 * k))), (2, .ref y), (1, .ref x), (0, .ref b)] [] := by
  have hL := hS.2.2.2
  obtain ⟨c, D, hr⟩ := hI.1
  refine g_aload_n 2 1 C dL_law_696 rfl rfl ?_
  refine g_aload_n 3 0 C dL_law_697 rfl rfl ?_
  refine g_iload_n 0 3 C dL_law_698 rfl rfl ?_
  refine g_iconst (v := nI 1) C dL_law_699 (by decide) ?_
  refine g_iadd C dL_law_700 ?_
  refine g_topi (nI_add _ _ : _ = nI (6 * k + 1)) ?_
  refine g_sld (i := 6 * k + 1) hS (by omega) C dL_law_701 ?_
  refine g_callV (As := [.int (sc (6 * k + 1))]) (rest := []) C dL_law_702 (c_C_number hr hI.2.2.2) wC_X10_number wM_L_77 wI_X10_number wS_X10_number wN_X10 (kne hr.1.1.1) (pf_10 hr.1.1.1) rfl hd_X10_number ⟨by decide, by decide, by show 39 + 220 * k + 2 ≤ 600000; omega, by show 121234 + 5400 * k + 25 ≤ 7302250; omega⟩ (Nat.le_of_ble_eq_true rfl) (fun r_ S1 h_ => ?_)
  obtain ⟨rfl, hRC1, hFk⟩ := h_
  change Go X G _ 4 _ _ S1 705 [(3, .int (nI (6 * k))), (2, .ref y), (1, .ref x), (0, .ref b)] [.int (A_number Z (sc (6 * k + 1)))]
  refine Go.wide (k2 := (39 + 220 * k + 2)) (n2 := (121234 + 5400 * k + 25)) (Nat.le_refl _) (Nat.le_refl _) ?_
  have hm1 := hI.2.1.mv hFk
  have hR1 := RM_mv hI.2.2.1 hFk
  refine g_aload_n 1 2 C dL_law_705 rfl rfl ?_
  refine g_aload_n 3 0 C dL_law_706 rfl rfl ?_
  refine g_iload_n 0 3 C dL_law_707 rfl rfl ?_
  refine g_iconst (v := nI 1) C dL_law_708 (by decide) ?_
  refine g_iadd C dL_law_709 ?_
  refine g_topi (nI_add _ _ : _ = nI (6 * k + 1)) ?_
  refine g_sld (i := 6 * k + 1) hS (by omega) C dL_law_710 ?_
  refine g_st (S' := mo_ S1 (mo S1)) rfl ?_
  refine g_callV (As := [.int (sc (6 * k + 1))]) (rest := [.int (A_number Z (sc (6 * k + 1)))]) C dL_law_711 (c_M_number (S := S1) (M := mo S1) hm1 hR1 hI.2.2.2) wC_X11_number wM_L_80 wI_X11_number wS_X11_number wN_X11 (kne hm1.1) (pf_11 hm1.1) rfl hd_X11_number ⟨by decide, by decide, by show (39 + 220 * k + 2) + 0 ≤ 600000; omega, by show (121234 + 5400 * k + 25) + 0 ≤ 7302250; omega⟩ (Nat.le_of_ble_eq_true rfl) (fun r_ S_ h_ => ?_)
  obtain ⟨M1, rfl, rfl, hmr, hRM⟩ := h_
  change Go X G _ 4 _ _ (mo_ S1 M1) 714 [(3, .int (nI (6 * k))), (2, .ref y), (1, .ref x), (0, .ref b)] [.int (A_number Z (sc (6 * k + 1))), .int (A_number Z (sc (6 * k + 1)))]
  refine Go.wide (k2 := (39 + 220 * k + 2)) (n2 := (121234 + 5400 * k + 25)) (Nat.le_refl _) (Nat.le_refl _) ?_
  refine g_icmp_eq 1414 C dL_law_714 (by decide) (fun _ => ?_) (fun z => absurd rfl z)
  refine Go.wide (k2 := 39 + 220 * k + 220) (n2 := 121234 + 5400 * k + 5400) (by omega) (by omega) ?_
  exact kk _ _ (Inv.next hRC1 hm1 hmr hRM (okZ_ask hI.2.2.2 _))
set_option maxRecDepth 100000 in
set_option maxHeartbeats 1000000 in
theorem l_name {X : Kx} {G : Gx} {Q : State → Prop} {nm : String} {b L x y : Nat} {sc : Nat → Int32} (C : Cok X G cL_law 4 RL ret nm room_1) (hS : Scr X G b L sc) {k : Nat} (hk : 6 * k + 6 ≤ L) {S : PS} {Z : ZT} (hI : Inv S Z x y) (kk : ∀ (S' : PS) (Z' : ZT), Inv S' Z' x y → Go X G Q 4 (39 + 220 * k + 220) (121234 + 5400 * k + 5400) S' 1414 [(3, .int (nI (6 * k))), (2, .ref y), (1, .ref x), (0, .ref b)] []) : Go X G Q 4 (39 + 220 * k) (121234 + 5400 * k) S 719 [(3, .int (nI (6 * k))), (2, .ref y), (1, .ref x), (0, .ref b)] [] := by
  have hL := hS.2.2.2
  obtain ⟨c, D, hr⟩ := hI.1
  refine g_aload_n 2 1 C dL_law_719 rfl rfl ?_
  refine g_aload_n 3 0 C dL_law_720 rfl rfl ?_
  refine g_iload_n 0 3 C dL_law_721 rfl rfl ?_
  refine g_iconst (v := nI 1) C dL_law_722 (by decide) ?_
  refine g_iadd C dL_law_723 ?_
  refine g_topi (nI_add _ _ : _ = nI (6 * k + 1)) ?_
  refine g_sld (i := 6 * k + 1) hS (by omega) C dL_law_724 ?_
  refine g_aload_n 3 0 C dL_law_725 rfl rfl ?_
  refine g_iload_n 0 3 C dL_law_726 rfl rfl ?_
  refine g_iconst (v := nI 2) C dL_law_727 (by decide) ?_
  refine g_iadd C dL_law_728 ?_
  refine g_topi (nI_add _ _ : _ = nI (6 * k + 2)) ?_
  refine g_sld (i := 6 * k + 2) hS (by omega) C dL_law_729 ?_
  refine g_callV (As := [.int (sc (6 * k + 1)), .int (sc (6 * k + 2))]) (rest := []) C dL_law_730 (c_C_name hr hI.2.2.2) wC_X10_name wM_L_81 wI_X10_name wS_X10_name wN_X10 (kne hr.1.1.1) (pf_10 hr.1.1.1) rfl hd_X10_name ⟨by decide, by decide, by show 39 + 220 * k + 0 ≤ 600000; omega, by show 121234 + 5400 * k + 0 ≤ 7302250; omega⟩ (Nat.le_of_ble_eq_true rfl) (fun r_ S1 h_ => ?_)
  obtain ⟨rfl, hRC1, hFk⟩ := h_
  change Go X G _ 4 _ _ S1 733 [(3, .int (nI (6 * k))), (2, .ref y), (1, .ref x), (0, .ref b)] [.int (A_name Z (sc (6 * k + 1)) (sc (6 * k + 2)))]
  refine Go.wide (k2 := 39 + 220 * k) (n2 := 121234 + 5400 * k) (Nat.le_refl _) (Nat.le_refl _) ?_
  have hm1 := hI.2.1.mv hFk
  have hR1 := RM_mv hI.2.2.1 hFk
  refine g_aload_n 1 2 C dL_law_733 rfl rfl ?_
  refine g_aload_n 3 0 C dL_law_734 rfl rfl ?_
  refine g_iload_n 0 3 C dL_law_735 rfl rfl ?_
  refine g_iconst (v := nI 1) C dL_law_736 (by decide) ?_
  refine g_iadd C dL_law_737 ?_
  refine g_topi (nI_add _ _ : _ = nI (6 * k + 1)) ?_
  refine g_sld (i := 6 * k + 1) hS (by omega) C dL_law_738 ?_
  refine g_aload_n 3 0 C dL_law_739 rfl rfl ?_
  refine g_iload_n 0 3 C dL_law_740 rfl rfl ?_
  refine g_iconst (v := nI 2) C dL_law_741 (by decide) ?_
  refine g_iadd C dL_law_742 ?_
  refine g_topi (nI_add _ _ : _ = nI (6 * k + 2)) ?_
  refine g_sld (i := 6 * k + 2) hS (by omega) C dL_law_743 ?_
  refine g_st (S' := mo_ S1 (mo S1)) rfl ?_
  refine g_callV (As := [.int (sc (6 * k + 1)), .int (sc (6 * k + 2))]) (rest := [.int (A_name Z (sc (6 * k + 1)) (sc (6 * k + 2)))]) C dL_law_744 (c_M_name (S := S1) (M := mo S1) hm1 hR1 hI.2.2.2) wC_X11_name wM_L_84 wI_X11_name wS_X11_name wN_X11 (kne hm1.1) (pf_11 hm1.1) rfl hd_X11_name ⟨by decide, by decide, by show 39 + 220 * k + 0 ≤ 600000; omega, by show 121234 + 5400 * k + 0 ≤ 7302250; omega⟩ (Nat.le_of_ble_eq_true rfl) (fun r_ S_ h_ => ?_)
  obtain ⟨M1, rfl, rfl, hmr, hRM⟩ := h_
  change Go X G _ 4 _ _ (mo_ S1 M1) 747 [(3, .int (nI (6 * k))), (2, .ref y), (1, .ref x), (0, .ref b)] [.int (A_name Z (sc (6 * k + 1)) (sc (6 * k + 2))), .int (A_name Z (sc (6 * k + 1)) (sc (6 * k + 2)))]
  refine Go.wide (k2 := 39 + 220 * k) (n2 := 121234 + 5400 * k) (Nat.le_refl _) (Nat.le_refl _) ?_
  refine g_icmp_eq 1414 C dL_law_747 (by decide) (fun _ => ?_) (fun z => absurd rfl z)
  refine Go.wide (k2 := 39 + 220 * k + 220) (n2 := 121234 + 5400 * k + 5400) (by omega) (by omega) ?_
  exact kk _ _ (Inv.next hRC1 hm1 hmr hRM (okZ_name hI.2.2.2 _ _))
set_option maxRecDepth 100000 in
set_option maxHeartbeats 1000000 in
theorem l_value {X : Kx} {G : Gx} {Q : State → Prop} {nm : String} {b L x y : Nat} {sc : Nat → Int32} (C : Cok X G cL_law 4 RL ret nm room_1) (hS : Scr X G b L sc) {k : Nat} (hk : 6 * k + 6 ≤ L) {S : PS} {Z : ZT} (hI : Inv S Z x y) (kk : ∀ (S' : PS) (Z' : ZT), Inv S' Z' x y → Go X G Q 4 (39 + 220 * k + 220) (121234 + 5400 * k + 5400) S' 1414 [(3, .int (nI (6 * k))), (2, .ref y), (1, .ref x), (0, .ref b)] []) : Go X G Q 4 (39 + 220 * k) (121234 + 5400 * k) S 752 [(3, .int (nI (6 * k))), (2, .ref y), (1, .ref x), (0, .ref b)] [] := by
  have hL := hS.2.2.2
  obtain ⟨c, D, hr⟩ := hI.1
  refine g_aload_n 2 1 C dL_law_752 rfl rfl ?_
  refine g_aload_n 3 0 C dL_law_753 rfl rfl ?_
  refine g_iload_n 0 3 C dL_law_754 rfl rfl ?_
  refine g_iconst (v := nI 1) C dL_law_755 (by decide) ?_
  refine g_iadd C dL_law_756 ?_
  refine g_topi (nI_add _ _ : _ = nI (6 * k + 1)) ?_
  refine g_sld (i := 6 * k + 1) hS (by omega) C dL_law_757 ?_
  refine g_aload_n 3 0 C dL_law_758 rfl rfl ?_
  refine g_iload_n 0 3 C dL_law_759 rfl rfl ?_
  refine g_iconst (v := nI 2) C dL_law_760 (by decide) ?_
  refine g_iadd C dL_law_761 ?_
  refine g_topi (nI_add _ _ : _ = nI (6 * k + 2)) ?_
  refine g_sld (i := 6 * k + 2) hS (by omega) C dL_law_762 ?_
  refine g_callV (As := [.int (sc (6 * k + 1)), .int (sc (6 * k + 2))]) (rest := []) C dL_law_763 (c_C_value hr hI.2.2.2) wC_X10_value wM_L_85 wI_X10_value wS_X10_value wN_X10 (kne hr.1.1.1) (pf_10 hr.1.1.1) rfl hd_X10_value ⟨by decide, by decide, by show 39 + 220 * k + 0 ≤ 600000; omega, by show 121234 + 5400 * k + 0 ≤ 7302250; omega⟩ (Nat.le_of_ble_eq_true rfl) (fun r_ S1 h_ => ?_)
  obtain ⟨rfl, hRC1, hFk⟩ := h_
  change Go X G _ 4 _ _ S1 766 [(3, .int (nI (6 * k))), (2, .ref y), (1, .ref x), (0, .ref b)] [.long (A_value Z (sc (6 * k + 1)) (sc (6 * k + 2)))]
  refine Go.wide (k2 := 39 + 220 * k) (n2 := 121234 + 5400 * k) (Nat.le_refl _) (Nat.le_refl _) ?_
  have hm1 := hI.2.1.mv hFk
  have hR1 := RM_mv hI.2.2.1 hFk
  refine g_aload_n 1 2 C dL_law_766 rfl rfl ?_
  refine g_aload_n 3 0 C dL_law_767 rfl rfl ?_
  refine g_iload_n 0 3 C dL_law_768 rfl rfl ?_
  refine g_iconst (v := nI 1) C dL_law_769 (by decide) ?_
  refine g_iadd C dL_law_770 ?_
  refine g_topi (nI_add _ _ : _ = nI (6 * k + 1)) ?_
  refine g_sld (i := 6 * k + 1) hS (by omega) C dL_law_771 ?_
  refine g_aload_n 3 0 C dL_law_772 rfl rfl ?_
  refine g_iload_n 0 3 C dL_law_773 rfl rfl ?_
  refine g_iconst (v := nI 2) C dL_law_774 (by decide) ?_
  refine g_iadd C dL_law_775 ?_
  refine g_topi (nI_add _ _ : _ = nI (6 * k + 2)) ?_
  refine g_sld (i := 6 * k + 2) hS (by omega) C dL_law_776 ?_
  refine g_st (S' := mo_ S1 (mo S1)) rfl ?_
  refine g_callV (As := [.int (sc (6 * k + 1)), .int (sc (6 * k + 2))]) (rest := [.long (A_value Z (sc (6 * k + 1)) (sc (6 * k + 2)))]) C dL_law_777 (c_M_value (S := S1) (M := mo S1) hm1 hR1 hI.2.2.2) wC_X11_value wM_L_89 wI_X11_value wS_X11_value wN_X11 (kne hm1.1) (pf_11 hm1.1) rfl hd_X11_value ⟨by decide, by decide, by show 39 + 220 * k + 0 ≤ 600000; omega, by show 121234 + 5400 * k + 0 ≤ 7302250; omega⟩ (Nat.le_of_ble_eq_true rfl) (fun r_ S_ h_ => ?_)
  obtain ⟨M1, rfl, rfl, hmr, hRM⟩ := h_
  change Go X G _ 4 _ _ (mo_ S1 M1) 780 [(3, .int (nI (6 * k))), (2, .ref y), (1, .ref x), (0, .ref b)] [.long (A_value Z (sc (6 * k + 1)) (sc (6 * k + 2))), .long (A_value Z (sc (6 * k + 1)) (sc (6 * k + 2)))]
  refine Go.wide (k2 := 39 + 220 * k) (n2 := 121234 + 5400 * k) (Nat.le_refl _) (Nat.le_refl _) ?_
  refine g_lcmp C dL_law_780 ?_
  refine g_topi (lg_self _) ?_
  refine g_nif_eq 1414 (by decide) C dL_law_781 (by decide) (fun _ => ?_) (fun z => absurd rfl z)
  refine Go.wide (k2 := 39 + 220 * k + 220) (n2 := 121234 + 5400 * k + 5400) (by omega) (by omega) ?_
  exact kk _ _ (Inv.next hRC1 hm1 hmr hRM (okZ_value hI.2.2.2 _ _))
set_option maxRecDepth 100000 in
set_option maxHeartbeats 1000000 in
theorem l_status {X : Kx} {G : Gx} {Q : State → Prop} {nm : String} {b L x y : Nat} {sc : Nat → Int32} (C : Cok X G cL_law 4 RL ret nm room_1) (hS : Scr X G b L sc) {k : Nat} (hk : 6 * k + 6 ≤ L) {S : PS} {Z : ZT} (hI : Inv S Z x y) (kk : ∀ (S' : PS) (Z' : ZT), Inv S' Z' x y → Go X G Q 4 (39 + 220 * k + 220) (121234 + 5400 * k + 5400) S' 1414 [(3, .int (nI (6 * k))), (2, .ref y), (1, .ref x), (0, .ref b)] []) : Go X G Q 4 (39 + 220 * k) (121234 + 5400 * k) S 786 [(3, .int (nI (6 * k))), (2, .ref y), (1, .ref x), (0, .ref b)] [] := by
  have hL := hS.2.2.2
  obtain ⟨c, D, hr⟩ := hI.1
  refine g_aload_n 2 1 C dL_law_786 rfl rfl ?_
  refine g_callV (As := []) (rest := []) C dL_law_787 (c_C_status hr hI.2.2.2) wC_X10_status wM_L_90 wI_X10_status wS_X10_status wN_X10 (kne hr.1.1.1) (pf_10 hr.1.1.1) rfl hd_X10_status ⟨by decide, by decide, by show 39 + 220 * k + 0 ≤ 600000; omega, by show 121234 + 5400 * k + 0 ≤ 7302250; omega⟩ (Nat.le_of_ble_eq_true rfl) (fun r_ S_ h_ => ?_)
  obtain ⟨rfl, rfl⟩ := h_
  change Go X G _ 4 _ _ S 790 [(3, .int (nI (6 * k))), (2, .ref y), (1, .ref x), (0, .ref b)] [.int (zS Z)]
  refine Go.wide (k2 := 39 + 220 * k) (n2 := 121234 + 5400 * k) (Nat.le_refl _) (Nat.le_refl _) ?_
  refine g_aload_n 1 2 C dL_law_790 rfl rfl ?_
  refine g_st (S' := mo_ S (mo S)) rfl ?_
  refine g_callV (As := []) (rest := [.int (zS Z)]) C dL_law_791 (c_M_status (S := S) (M := mo S) hI.2.1 hI.2.2.1 hI.2.2.2) wC_X11_status wM_L_94 wI_X11_status wS_X11_status wN_X11 (kne hI.2.1.1) (pf_11 hI.2.1.1) rfl hd_X11_status ⟨by decide, by decide, by show 39 + 220 * k + 0 ≤ 600000; omega, by show 121234 + 5400 * k + 0 ≤ 7302250; omega⟩ (Nat.le_of_ble_eq_true rfl) (fun r_ S_ h_ => ?_)
  obtain ⟨rfl, rfl⟩ := h_
  change Go X G _ 4 _ _ (mo_ S (mo S)) 794 [(3, .int (nI (6 * k))), (2, .ref y), (1, .ref x), (0, .ref b)] [.int (zS Z), .int (zS Z)]
  refine Go.wide (k2 := 39 + 220 * k) (n2 := 121234 + 5400 * k) (Nat.le_refl _) (Nat.le_refl _) ?_
  refine g_icmp_eq 1414 C dL_law_794 (by decide) (fun _ => ?_) (fun z => absurd rfl z)
  refine Go.wide (k2 := 39 + 220 * k + 220) (n2 := 121234 + 5400 * k + 5400) (by omega) (by omega) ?_
  exact kk S Z hI
set_option maxRecDepth 100000 in
set_option maxHeartbeats 1000000 in
theorem l_below {X : Kx} {G : Gx} {Q : State → Prop} {nm : String} {b L x y : Nat} {sc : Nat → Int32} (C : Cok X G cL_law 4 RL ret nm room_1) (hS : Scr X G b L sc) {k : Nat} (hk : 6 * k + 6 ≤ L) {S : PS} {Z : ZT} (hI : Inv S Z x y) (kk : ∀ (S' : PS) (Z' : ZT), Inv S' Z' x y → Go X G Q 4 (39 + 220 * k + 220) (121234 + 5400 * k + 5400) S' 1414 [(3, .int (nI (6 * k))), (2, .ref y), (1, .ref x), (0, .ref b)] []) : Go X G Q 4 (39 + 220 * k) (121234 + 5400 * k) S 799 [(3, .int (nI (6 * k))), (2, .ref y), (1, .ref x), (0, .ref b)] [] := by
  have hL := hS.2.2.2
  obtain ⟨c, D, hr⟩ := hI.1
  refine g_aload_n 2 1 C dL_law_799 rfl rfl ?_
  refine g_aload_n 3 0 C dL_law_800 rfl rfl ?_
  refine g_iload_n 0 3 C dL_law_801 rfl rfl ?_
  refine g_iconst (v := nI 1) C dL_law_802 (by decide) ?_
  refine g_iadd C dL_law_803 ?_
  refine g_topi (nI_add _ _ : _ = nI (6 * k + 1)) ?_
  refine g_sld (i := 6 * k + 1) hS (by omega) C dL_law_804 ?_
  refine g_callV (As := [.int (sc (6 * k + 1))]) (rest := []) C dL_law_805 (c_C_below hr hI.2.2.2) wC_X10_below wM_L_95 wI_X10_below wS_X10_below wN_X10 (kne hr.1.1.1) (pf_10 hr.1.1.1) rfl hd_X10_below ⟨by decide, by decide, by show 39 + 220 * k + 2 ≤ 600000; omega, by show 121234 + 5400 * k + 25 ≤ 7302250; omega⟩ (Nat.le_of_ble_eq_true rfl) (fun r_ S1 h_ => ?_)
  obtain ⟨rfl, hRC1, hFk⟩ := h_
  change Go X G _ 4 _ _ S1 808 [(3, .int (nI (6 * k))), (2, .ref y), (1, .ref x), (0, .ref b)] [.int (A_below Z (sc (6 * k + 1)))]
  refine Go.wide (k2 := (39 + 220 * k + 2)) (n2 := (121234 + 5400 * k + 25)) (Nat.le_refl _) (Nat.le_refl _) ?_
  have hm1 := hI.2.1.mv hFk
  have hR1 := RM_mv hI.2.2.1 hFk
  refine g_aload_n 1 2 C dL_law_808 rfl rfl ?_
  refine g_aload_n 3 0 C dL_law_809 rfl rfl ?_
  refine g_iload_n 0 3 C dL_law_810 rfl rfl ?_
  refine g_iconst (v := nI 1) C dL_law_811 (by decide) ?_
  refine g_iadd C dL_law_812 ?_
  refine g_topi (nI_add _ _ : _ = nI (6 * k + 1)) ?_
  refine g_sld (i := 6 * k + 1) hS (by omega) C dL_law_813 ?_
  refine g_st (S' := mo_ S1 (mo S1)) rfl ?_
  refine g_callV (As := [.int (sc (6 * k + 1))]) (rest := [.int (A_below Z (sc (6 * k + 1)))]) C dL_law_814 (c_M_below (S := S1) (M := mo S1) hm1 hR1 hI.2.2.2) wC_X11_below wM_L_98 wI_X11_below wS_X11_below wN_X11 (kne hm1.1) (pf_11 hm1.1) rfl hd_X11_below ⟨by decide, by decide, by show (39 + 220 * k + 2) + 0 ≤ 600000; omega, by show (121234 + 5400 * k + 25) + 0 ≤ 7302250; omega⟩ (Nat.le_of_ble_eq_true rfl) (fun r_ S_ h_ => ?_)
  obtain ⟨M1, rfl, rfl, hmr, hRM⟩ := h_
  change Go X G _ 4 _ _ (mo_ S1 M1) 817 [(3, .int (nI (6 * k))), (2, .ref y), (1, .ref x), (0, .ref b)] [.int (A_below Z (sc (6 * k + 1))), .int (A_below Z (sc (6 * k + 1)))]
  refine Go.wide (k2 := (39 + 220 * k + 2)) (n2 := (121234 + 5400 * k + 25)) (Nat.le_refl _) (Nat.le_refl _) ?_
  refine g_icmp_eq 1414 C dL_law_817 (by decide) (fun _ => ?_) (fun z => absurd rfl z)
  refine Go.wide (k2 := 39 + 220 * k + 220) (n2 := 121234 + 5400 * k + 5400) (by omega) (by omega) ?_
  exact kk _ _ (Inv.next hRC1 hm1 hmr hRM (okZ_ask hI.2.2.2 _))
set_option maxRecDepth 100000 in
set_option maxHeartbeats 1000000 in
theorem l_next {X : Kx} {G : Gx} {Q : State → Prop} {nm : String} {b L x y : Nat} {sc : Nat → Int32} (C : Cok X G cL_law 4 RL ret nm room_1) (hS : Scr X G b L sc) {k : Nat} (hk : 6 * k + 6 ≤ L) {S : PS} {Z : ZT} (hI : Inv S Z x y) (kk : ∀ (S' : PS) (Z' : ZT), Inv S' Z' x y → Go X G Q 4 (39 + 220 * k + 220) (121234 + 5400 * k + 5400) S' 1414 [(3, .int (nI (6 * k))), (2, .ref y), (1, .ref x), (0, .ref b)] []) : Go X G Q 4 (39 + 220 * k) (121234 + 5400 * k) S 822 [(3, .int (nI (6 * k))), (2, .ref y), (1, .ref x), (0, .ref b)] [] := by
  have hL := hS.2.2.2
  obtain ⟨c, D, hr⟩ := hI.1
  refine g_aload_n 2 1 C dL_law_822 rfl rfl ?_
  refine g_aload_n 3 0 C dL_law_823 rfl rfl ?_
  refine g_iload_n 0 3 C dL_law_824 rfl rfl ?_
  refine g_iconst (v := nI 1) C dL_law_825 (by decide) ?_
  refine g_iadd C dL_law_826 ?_
  refine g_topi (nI_add _ _ : _ = nI (6 * k + 1)) ?_
  refine g_sld (i := 6 * k + 1) hS (by omega) C dL_law_827 ?_
  refine g_callV (As := [.int (sc (6 * k + 1))]) (rest := []) C dL_law_828 (c_C_next hr hI.2.2.2) wC_X10_next wM_L_99 wI_X10_next wS_X10_next wN_X10 (kne hr.1.1.1) (pf_10 hr.1.1.1) rfl hd_X10_next ⟨by decide, by decide, by show 39 + 220 * k + 2 ≤ 600000; omega, by show 121234 + 5400 * k + 25 ≤ 7302250; omega⟩ (Nat.le_of_ble_eq_true rfl) (fun r_ S1 h_ => ?_)
  obtain ⟨rfl, hRC1, hFk⟩ := h_
  change Go X G _ 4 _ _ S1 831 [(3, .int (nI (6 * k))), (2, .ref y), (1, .ref x), (0, .ref b)] [.int (A_next Z (sc (6 * k + 1)))]
  refine Go.wide (k2 := (39 + 220 * k + 2)) (n2 := (121234 + 5400 * k + 25)) (Nat.le_refl _) (Nat.le_refl _) ?_
  have hm1 := hI.2.1.mv hFk
  have hR1 := RM_mv hI.2.2.1 hFk
  refine g_aload_n 1 2 C dL_law_831 rfl rfl ?_
  refine g_aload_n 3 0 C dL_law_832 rfl rfl ?_
  refine g_iload_n 0 3 C dL_law_833 rfl rfl ?_
  refine g_iconst (v := nI 1) C dL_law_834 (by decide) ?_
  refine g_iadd C dL_law_835 ?_
  refine g_topi (nI_add _ _ : _ = nI (6 * k + 1)) ?_
  refine g_sld (i := 6 * k + 1) hS (by omega) C dL_law_836 ?_
  refine g_st (S' := mo_ S1 (mo S1)) rfl ?_
  refine g_callV (As := [.int (sc (6 * k + 1))]) (rest := [.int (A_next Z (sc (6 * k + 1)))]) C dL_law_837 (c_M_next (S := S1) (M := mo S1) hm1 hR1 hI.2.2.2) wC_X11_next wM_L_102 wI_X11_next wS_X11_next wN_X11 (kne hm1.1) (pf_11 hm1.1) rfl hd_X11_next ⟨by decide, by decide, by show (39 + 220 * k + 2) + 0 ≤ 600000; omega, by show (121234 + 5400 * k + 25) + 0 ≤ 7302250; omega⟩ (Nat.le_of_ble_eq_true rfl) (fun r_ S_ h_ => ?_)
  obtain ⟨M1, rfl, rfl, hmr, hRM⟩ := h_
  change Go X G _ 4 _ _ (mo_ S1 M1) 840 [(3, .int (nI (6 * k))), (2, .ref y), (1, .ref x), (0, .ref b)] [.int (A_next Z (sc (6 * k + 1))), .int (A_next Z (sc (6 * k + 1)))]
  refine Go.wide (k2 := (39 + 220 * k + 2)) (n2 := (121234 + 5400 * k + 25)) (Nat.le_refl _) (Nat.le_refl _) ?_
  refine g_icmp_eq 1414 C dL_law_840 (by decide) (fun _ => ?_) (fun z => absurd rfl z)
  refine Go.wide (k2 := 39 + 220 * k + 220) (n2 := 121234 + 5400 * k + 5400) (by omega) (by omega) ?_
  exact kk _ _ (Inv.next hRC1 hm1 hmr hRM (okZ_ask hI.2.2.2 _))
set_option maxRecDepth 100000 in
set_option maxHeartbeats 1000000 in
theorem l_prior {X : Kx} {G : Gx} {Q : State → Prop} {nm : String} {b L x y : Nat} {sc : Nat → Int32} (C : Cok X G cL_law 4 RL ret nm room_1) (hS : Scr X G b L sc) {k : Nat} (hk : 6 * k + 6 ≤ L) {S : PS} {Z : ZT} (hI : Inv S Z x y) (kk : ∀ (S' : PS) (Z' : ZT), Inv S' Z' x y → Go X G Q 4 (39 + 220 * k + 220) (121234 + 5400 * k + 5400) S' 1414 [(3, .int (nI (6 * k))), (2, .ref y), (1, .ref x), (0, .ref b)] []) : Go X G Q 4 (39 + 220 * k) (121234 + 5400 * k) S 845 [(3, .int (nI (6 * k))), (2, .ref y), (1, .ref x), (0, .ref b)] [] := by
  have hL := hS.2.2.2
  obtain ⟨c, D, hr⟩ := hI.1
  refine g_aload_n 2 1 C dL_law_845 rfl rfl ?_
  refine g_aload_n 3 0 C dL_law_846 rfl rfl ?_
  refine g_iload_n 0 3 C dL_law_847 rfl rfl ?_
  refine g_iconst (v := nI 1) C dL_law_848 (by decide) ?_
  refine g_iadd C dL_law_849 ?_
  refine g_topi (nI_add _ _ : _ = nI (6 * k + 1)) ?_
  refine g_sld (i := 6 * k + 1) hS (by omega) C dL_law_850 ?_
  refine g_callV (As := [.int (sc (6 * k + 1))]) (rest := []) C dL_law_851 (c_C_prior hr hI.2.2.2) wC_X10_prior wM_L_103 wI_X10_prior wS_X10_prior wN_X10 (kne hr.1.1.1) (pf_10 hr.1.1.1) rfl hd_X10_prior ⟨by decide, by decide, by show 39 + 220 * k + 2 ≤ 600000; omega, by show 121234 + 5400 * k + 25 ≤ 7302250; omega⟩ (Nat.le_of_ble_eq_true rfl) (fun r_ S1 h_ => ?_)
  obtain ⟨rfl, hRC1, hFk⟩ := h_
  change Go X G _ 4 _ _ S1 854 [(3, .int (nI (6 * k))), (2, .ref y), (1, .ref x), (0, .ref b)] [.int (A_prior Z (sc (6 * k + 1)))]
  refine Go.wide (k2 := (39 + 220 * k + 2)) (n2 := (121234 + 5400 * k + 25)) (Nat.le_refl _) (Nat.le_refl _) ?_
  have hm1 := hI.2.1.mv hFk
  have hR1 := RM_mv hI.2.2.1 hFk
  refine g_aload_n 1 2 C dL_law_854 rfl rfl ?_
  refine g_aload_n 3 0 C dL_law_855 rfl rfl ?_
  refine g_iload_n 0 3 C dL_law_856 rfl rfl ?_
  refine g_iconst (v := nI 1) C dL_law_857 (by decide) ?_
  refine g_iadd C dL_law_858 ?_
  refine g_topi (nI_add _ _ : _ = nI (6 * k + 1)) ?_
  refine g_sld (i := 6 * k + 1) hS (by omega) C dL_law_859 ?_
  refine g_st (S' := mo_ S1 (mo S1)) rfl ?_
  refine g_callV (As := [.int (sc (6 * k + 1))]) (rest := [.int (A_prior Z (sc (6 * k + 1)))]) C dL_law_860 (c_M_prior (S := S1) (M := mo S1) hm1 hR1 hI.2.2.2) wC_X11_prior wM_L_106 wI_X11_prior wS_X11_prior wN_X11 (kne hm1.1) (pf_11 hm1.1) rfl hd_X11_prior ⟨by decide, by decide, by show (39 + 220 * k + 2) + 0 ≤ 600000; omega, by show (121234 + 5400 * k + 25) + 0 ≤ 7302250; omega⟩ (Nat.le_of_ble_eq_true rfl) (fun r_ S_ h_ => ?_)
  obtain ⟨M1, rfl, rfl, hmr, hRM⟩ := h_
  change Go X G _ 4 _ _ (mo_ S1 M1) 863 [(3, .int (nI (6 * k))), (2, .ref y), (1, .ref x), (0, .ref b)] [.int (A_prior Z (sc (6 * k + 1))), .int (A_prior Z (sc (6 * k + 1)))]
  refine Go.wide (k2 := (39 + 220 * k + 2)) (n2 := (121234 + 5400 * k + 25)) (Nat.le_refl _) (Nat.le_refl _) ?_
  refine g_icmp_eq 1414 C dL_law_863 (by decide) (fun _ => ?_) (fun z => absurd rfl z)
  refine Go.wide (k2 := 39 + 220 * k + 220) (n2 := 121234 + 5400 * k + 5400) (by omega) (by omega) ?_
  exact kk _ _ (Inv.next hRC1 hm1 hmr hRM (okZ_ask hI.2.2.2 _))
set_option maxRecDepth 100000 in
set_option maxHeartbeats 1000000 in
theorem l_prefix {X : Kx} {G : Gx} {Q : State → Prop} {nm : String} {b L x y : Nat} {sc : Nat → Int32} (C : Cok X G cL_law 4 RL ret nm room_1) (hS : Scr X G b L sc) {k : Nat} (hk : 6 * k + 6 ≤ L) {S : PS} {Z : ZT} (hI : Inv S Z x y) (kk : ∀ (S' : PS) (Z' : ZT), Inv S' Z' x y → Go X G Q 4 (39 + 220 * k + 220) (121234 + 5400 * k + 5400) S' 1414 [(3, .int (nI (6 * k))), (2, .ref y), (1, .ref x), (0, .ref b)] []) : Go X G Q 4 (39 + 220 * k) (121234 + 5400 * k) S 868 [(3, .int (nI (6 * k))), (2, .ref y), (1, .ref x), (0, .ref b)] [] := by
  have hL := hS.2.2.2
  obtain ⟨c, D, hr⟩ := hI.1
  refine g_aload_n 2 1 C dL_law_868 rfl rfl ?_
  refine g_aload_n 3 0 C dL_law_869 rfl rfl ?_
  refine g_iload_n 0 3 C dL_law_870 rfl rfl ?_
  refine g_iconst (v := nI 1) C dL_law_871 (by decide) ?_
  refine g_iadd C dL_law_872 ?_
  refine g_topi (nI_add _ _ : _ = nI (6 * k + 1)) ?_
  refine g_sld (i := 6 * k + 1) hS (by omega) C dL_law_873 ?_
  refine g_aload_n 3 0 C dL_law_874 rfl rfl ?_
  refine g_iload_n 0 3 C dL_law_875 rfl rfl ?_
  refine g_iconst (v := nI 2) C dL_law_876 (by decide) ?_
  refine g_iadd C dL_law_877 ?_
  refine g_topi (nI_add _ _ : _ = nI (6 * k + 2)) ?_
  refine g_sld (i := 6 * k + 2) hS (by omega) C dL_law_878 ?_
  refine g_if_eq 886 C dL_law_879 (by decide) (fun c879 => ?_) (fun c879 => ?_)
  · refine g_iconst (v := nI 0) C dL_law_886 (by decide) ?_
    refine g_callV (As := [.int (sc (6 * k + 1)), .int (nI 0)]) (rest := []) C dL_law_887 (c_C_prefix (last := false) hr hI.2.2.2) wC_X10_prefix wM_L_107 wI_X10_prefix wS_X10_prefix wN_X10 (kne hr.1.1.1) (pf_10 hr.1.1.1) rfl hd_X10_prefix ⟨by decide, by decide, by show 39 + 220 * k + 2 ≤ 600000; omega, by show 121234 + 5400 * k + 25 ≤ 7302250; omega⟩ (Nat.le_of_ble_eq_true rfl) (fun r_ S1 h_ => ?_)
    obtain ⟨rfl, hRC1, hFk⟩ := h_
    change Go X G _ 4 _ _ S1 890 [(3, .int (nI (6 * k))), (2, .ref y), (1, .ref x), (0, .ref b)] [.int (A_prefix Z (sc (6 * k + 1)) false)]
    refine Go.wide (k2 := (39 + 220 * k + 2)) (n2 := (121234 + 5400 * k + 25)) (Nat.le_refl _) (Nat.le_refl _) ?_
    have hm1 := hI.2.1.mv hFk
    have hR1 := RM_mv hI.2.2.1 hFk
    refine g_aload_n 1 2 C dL_law_890 rfl rfl ?_
    refine g_aload_n 3 0 C dL_law_891 rfl rfl ?_
    refine g_iload_n 0 3 C dL_law_892 rfl rfl ?_
    refine g_iconst (v := nI 1) C dL_law_893 (by decide) ?_
    refine g_iadd C dL_law_894 ?_
    refine g_topi (nI_add _ _ : _ = nI (6 * k + 1)) ?_
    refine g_sld (i := 6 * k + 1) hS (by omega) C dL_law_895 ?_
    refine g_aload_n 3 0 C dL_law_896 rfl rfl ?_
    refine g_iload_n 0 3 C dL_law_897 rfl rfl ?_
    refine g_iconst (v := nI 2) C dL_law_898 (by decide) ?_
    refine g_iadd C dL_law_899 ?_
    refine g_topi (nI_add _ _ : _ = nI (6 * k + 2)) ?_
    refine g_sld (i := 6 * k + 2) hS (by omega) C dL_law_900 ?_
    refine g_if_eq 908 C dL_law_901 (by decide) (fun c901 => ?_) (fun c901 => ?_)
    · refine g_iconst (v := nI 0) C dL_law_908 (by decide) ?_
      refine g_st (S' := mo_ S1 (mo S1)) rfl ?_
      refine g_callV (As := [.int (sc (6 * k + 1)), .int (nI 0)]) (rest := [.int (A_prefix Z (sc (6 * k + 1)) false)]) C dL_law_909 (c_M_prefix (last := false) (S := S1) (M := mo S1) hm1 hR1 hI.2.2.2) wC_X11_prefix wM_L_111 wI_X11_prefix wS_X11_prefix wN_X11 (kne hm1.1) (pf_11 hm1.1) rfl hd_X11_prefix ⟨by decide, by decide, by show (39 + 220 * k + 2) + 0 ≤ 600000; omega, by show (121234 + 5400 * k + 25) + 0 ≤ 7302250; omega⟩ (Nat.le_of_ble_eq_true rfl) (fun r_ S_ h_ => ?_)
      obtain ⟨M1, rfl, rfl, hmr, hRM⟩ := h_
      change Go X G _ 4 _ _ (mo_ S1 M1) 912 [(3, .int (nI (6 * k))), (2, .ref y), (1, .ref x), (0, .ref b)] [.int (A_prefix Z (sc (6 * k + 1)) false), .int (A_prefix Z (sc (6 * k + 1)) false)]
      refine Go.wide (k2 := (39 + 220 * k + 2)) (n2 := (121234 + 5400 * k + 25)) (Nat.le_refl _) (Nat.le_refl _) ?_
      refine g_icmp_eq 1414 C dL_law_912 (by decide) (fun _ => ?_) (fun z => absurd rfl z)
      refine Go.wide (k2 := 39 + 220 * k + 220) (n2 := 121234 + 5400 * k + 5400) (by omega) (by omega) ?_
      exact kk _ _ (Inv.next hRC1 hm1 hmr hRM (okZ_ask hI.2.2.2 _))
    · exact absurd c879 c901
  · refine g_iconst (v := nI 1) C dL_law_882 (by decide) ?_
    refine g_goto 887 C dL_law_883 (by decide) ?_
    refine g_callV (As := [.int (sc (6 * k + 1)), .int (nI 1)]) (rest := []) C dL_law_887 (c_C_prefix (last := true) hr hI.2.2.2) wC_X10_prefix wM_L_107 wI_X10_prefix wS_X10_prefix wN_X10 (kne hr.1.1.1) (pf_10 hr.1.1.1) rfl hd_X10_prefix ⟨by decide, by decide, by show 39 + 220 * k + 2 ≤ 600000; omega, by show 121234 + 5400 * k + 25 ≤ 7302250; omega⟩ (Nat.le_of_ble_eq_true rfl) (fun r_ S1 h_ => ?_)
    obtain ⟨rfl, hRC1, hFk⟩ := h_
    change Go X G _ 4 _ _ S1 890 [(3, .int (nI (6 * k))), (2, .ref y), (1, .ref x), (0, .ref b)] [.int (A_prefix Z (sc (6 * k + 1)) true)]
    refine Go.wide (k2 := (39 + 220 * k + 2)) (n2 := (121234 + 5400 * k + 25)) (Nat.le_refl _) (Nat.le_refl _) ?_
    have hm1 := hI.2.1.mv hFk
    have hR1 := RM_mv hI.2.2.1 hFk
    refine g_aload_n 1 2 C dL_law_890 rfl rfl ?_
    refine g_aload_n 3 0 C dL_law_891 rfl rfl ?_
    refine g_iload_n 0 3 C dL_law_892 rfl rfl ?_
    refine g_iconst (v := nI 1) C dL_law_893 (by decide) ?_
    refine g_iadd C dL_law_894 ?_
    refine g_topi (nI_add _ _ : _ = nI (6 * k + 1)) ?_
    refine g_sld (i := 6 * k + 1) hS (by omega) C dL_law_895 ?_
    refine g_aload_n 3 0 C dL_law_896 rfl rfl ?_
    refine g_iload_n 0 3 C dL_law_897 rfl rfl ?_
    refine g_iconst (v := nI 2) C dL_law_898 (by decide) ?_
    refine g_iadd C dL_law_899 ?_
    refine g_topi (nI_add _ _ : _ = nI (6 * k + 2)) ?_
    refine g_sld (i := 6 * k + 2) hS (by omega) C dL_law_900 ?_
    refine g_if_eq 908 C dL_law_901 (by decide) (fun c901 => ?_) (fun c901 => ?_)
    · exact absurd c901 c879
    · refine g_iconst (v := nI 1) C dL_law_904 (by decide) ?_
      refine g_goto 909 C dL_law_905 (by decide) ?_
      refine g_st (S' := mo_ S1 (mo S1)) rfl ?_
      refine g_callV (As := [.int (sc (6 * k + 1)), .int (nI 1)]) (rest := [.int (A_prefix Z (sc (6 * k + 1)) true)]) C dL_law_909 (c_M_prefix (last := true) (S := S1) (M := mo S1) hm1 hR1 hI.2.2.2) wC_X11_prefix wM_L_111 wI_X11_prefix wS_X11_prefix wN_X11 (kne hm1.1) (pf_11 hm1.1) rfl hd_X11_prefix ⟨by decide, by decide, by show (39 + 220 * k + 2) + 0 ≤ 600000; omega, by show (121234 + 5400 * k + 25) + 0 ≤ 7302250; omega⟩ (Nat.le_of_ble_eq_true rfl) (fun r_ S_ h_ => ?_)
      obtain ⟨M1, rfl, rfl, hmr, hRM⟩ := h_
      change Go X G _ 4 _ _ (mo_ S1 M1) 912 [(3, .int (nI (6 * k))), (2, .ref y), (1, .ref x), (0, .ref b)] [.int (A_prefix Z (sc (6 * k + 1)) true), .int (A_prefix Z (sc (6 * k + 1)) true)]
      refine Go.wide (k2 := (39 + 220 * k + 2)) (n2 := (121234 + 5400 * k + 25)) (Nat.le_refl _) (Nat.le_refl _) ?_
      refine g_icmp_eq 1414 C dL_law_912 (by decide) (fun _ => ?_) (fun z => absurd rfl z)
      refine Go.wide (k2 := 39 + 220 * k + 220) (n2 := 121234 + 5400 * k + 5400) (by omega) (by omega) ?_
      exact kk _ _ (Inv.next hRC1 hm1 hmr hRM (okZ_ask hI.2.2.2 _))
set_option maxRecDepth 100000 in
set_option maxHeartbeats 1000000 in
theorem l_longest {X : Kx} {G : Gx} {Q : State → Prop} {nm : String} {b L x y : Nat} {sc : Nat → Int32} (C : Cok X G cL_law 4 RL ret nm room_1) (hS : Scr X G b L sc) {k : Nat} (hk : 6 * k + 6 ≤ L) {S : PS} {Z : ZT} (hI : Inv S Z x y) (kk : ∀ (S' : PS) (Z' : ZT), Inv S' Z' x y → Go X G Q 4 (39 + 220 * k + 220) (121234 + 5400 * k + 5400) S' 1414 [(3, .int (nI (6 * k))), (2, .ref y), (1, .ref x), (0, .ref b)] []) : Go X G Q 4 (39 + 220 * k) (121234 + 5400 * k) S 917 [(3, .int (nI (6 * k))), (2, .ref y), (1, .ref x), (0, .ref b)] [] := by
  have hL := hS.2.2.2
  obtain ⟨c, D, hr⟩ := hI.1
  refine g_aload_n 2 1 C dL_law_917 rfl rfl ?_
  refine g_aload_n 3 0 C dL_law_918 rfl rfl ?_
  refine g_iload_n 0 3 C dL_law_919 rfl rfl ?_
  refine g_iconst (v := nI 1) C dL_law_920 (by decide) ?_
  refine g_iadd C dL_law_921 ?_
  refine g_topi (nI_add _ _ : _ = nI (6 * k + 1)) ?_
  refine g_sld (i := 6 * k + 1) hS (by omega) C dL_law_922 ?_
  refine g_callV (As := [.int (sc (6 * k + 1))]) (rest := []) C dL_law_923 (c_C_longest hr hI.2.2.2) wC_X10_longest wM_L_112 wI_X10_longest wS_X10_longest wN_X10 (kne hr.1.1.1) (pf_10 hr.1.1.1) rfl hd_X10_longest ⟨by decide, by decide, by show 39 + 220 * k + 2 ≤ 600000; omega, by show 121234 + 5400 * k + 25 ≤ 7302250; omega⟩ (Nat.le_of_ble_eq_true rfl) (fun r_ S1 h_ => ?_)
  obtain ⟨rfl, hRC1, hFk⟩ := h_
  change Go X G _ 4 _ _ S1 926 [(3, .int (nI (6 * k))), (2, .ref y), (1, .ref x), (0, .ref b)] [.int (A_longest Z (sc (6 * k + 1)))]
  refine Go.wide (k2 := (39 + 220 * k + 2)) (n2 := (121234 + 5400 * k + 25)) (Nat.le_refl _) (Nat.le_refl _) ?_
  have hm1 := hI.2.1.mv hFk
  have hR1 := RM_mv hI.2.2.1 hFk
  refine g_aload_n 1 2 C dL_law_926 rfl rfl ?_
  refine g_aload_n 3 0 C dL_law_927 rfl rfl ?_
  refine g_iload_n 0 3 C dL_law_928 rfl rfl ?_
  refine g_iconst (v := nI 1) C dL_law_929 (by decide) ?_
  refine g_iadd C dL_law_930 ?_
  refine g_topi (nI_add _ _ : _ = nI (6 * k + 1)) ?_
  refine g_sld (i := 6 * k + 1) hS (by omega) C dL_law_931 ?_
  refine g_st (S' := mo_ S1 (mo S1)) rfl ?_
  refine g_callV (As := [.int (sc (6 * k + 1))]) (rest := [.int (A_longest Z (sc (6 * k + 1)))]) C dL_law_932 (c_M_longest (S := S1) (M := mo S1) hm1 hR1 hI.2.2.2) wC_X11_longest wM_L_115 wI_X11_longest wS_X11_longest wN_X11 (kne hm1.1) (pf_11 hm1.1) rfl hd_X11_longest ⟨by decide, by decide, by show (39 + 220 * k + 2) + 0 ≤ 600000; omega, by show (121234 + 5400 * k + 25) + 0 ≤ 7302250; omega⟩ (Nat.le_of_ble_eq_true rfl) (fun r_ S_ h_ => ?_)
  obtain ⟨M1, rfl, rfl, hmr, hRM⟩ := h_
  change Go X G _ 4 _ _ (mo_ S1 M1) 935 [(3, .int (nI (6 * k))), (2, .ref y), (1, .ref x), (0, .ref b)] [.int (A_longest Z (sc (6 * k + 1))), .int (A_longest Z (sc (6 * k + 1)))]
  refine Go.wide (k2 := (39 + 220 * k + 2)) (n2 := (121234 + 5400 * k + 25)) (Nat.le_refl _) (Nat.le_refl _) ?_
  refine g_icmp_eq 1414 C dL_law_935 (by decide) (fun _ => ?_) (fun z => absurd rfl z)
  refine Go.wide (k2 := 39 + 220 * k + 220) (n2 := 121234 + 5400 * k + 5400) (by omega) (by omega) ?_
  exact kk _ _ (Inv.next hRC1 hm1 hmr hRM (okZ_ask hI.2.2.2 _))
set_option maxRecDepth 100000 in
set_option maxHeartbeats 1000000 in
theorem l_common {X : Kx} {G : Gx} {Q : State → Prop} {nm : String} {b L x y : Nat} {sc : Nat → Int32} (C : Cok X G cL_law 4 RL ret nm room_1) (hS : Scr X G b L sc) {k : Nat} (hk : 6 * k + 6 ≤ L) {S : PS} {Z : ZT} (hI : Inv S Z x y) (kk : ∀ (S' : PS) (Z' : ZT), Inv S' Z' x y → Go X G Q 4 (39 + 220 * k + 220) (121234 + 5400 * k + 5400) S' 1414 [(3, .int (nI (6 * k))), (2, .ref y), (1, .ref x), (0, .ref b)] []) : Go X G Q 4 (39 + 220 * k) (121234 + 5400 * k) S 940 [(3, .int (nI (6 * k))), (2, .ref y), (1, .ref x), (0, .ref b)] [] := by
  have hL := hS.2.2.2
  obtain ⟨c, D, hr⟩ := hI.1
  refine g_aload_n 2 1 C dL_law_940 rfl rfl ?_
  refine g_aload_n 3 0 C dL_law_941 rfl rfl ?_
  refine g_iload_n 0 3 C dL_law_942 rfl rfl ?_
  refine g_iconst (v := nI 1) C dL_law_943 (by decide) ?_
  refine g_iadd C dL_law_944 ?_
  refine g_topi (nI_add _ _ : _ = nI (6 * k + 1)) ?_
  refine g_sld (i := 6 * k + 1) hS (by omega) C dL_law_945 ?_
  refine g_aload_n 3 0 C dL_law_946 rfl rfl ?_
  refine g_iload_n 0 3 C dL_law_947 rfl rfl ?_
  refine g_iconst (v := nI 2) C dL_law_948 (by decide) ?_
  refine g_iadd C dL_law_949 ?_
  refine g_topi (nI_add _ _ : _ = nI (6 * k + 2)) ?_
  refine g_sld (i := 6 * k + 2) hS (by omega) C dL_law_950 ?_
  refine g_aload_n 3 0 C dL_law_951 rfl rfl ?_
  refine g_iload_n 0 3 C dL_law_952 rfl rfl ?_
  refine g_iconst (v := nI 3) C dL_law_953 (by decide) ?_
  refine g_iadd C dL_law_954 ?_
  refine g_topi (nI_add _ _ : _ = nI (6 * k + 3)) ?_
  refine g_sld (i := 6 * k + 3) hS (by omega) C dL_law_955 ?_
  refine g_callV (As := [.int (sc (6 * k + 1)), .int (sc (6 * k + 2)), .int (sc (6 * k + 3))]) (rest := []) C dL_law_956 (c_C_common hr hI.2.2.2) wC_X10_common wM_L_116 wI_X10_common wS_X10_common wN_X10 (kne hr.1.1.1) (pf_10 hr.1.1.1) rfl hd_X10_common ⟨by decide, by decide, by show 39 + 220 * k + 0 ≤ 600000; omega, by show 121234 + 5400 * k + 0 ≤ 7302250; omega⟩ (Nat.le_of_ble_eq_true rfl) (fun r_ S1 h_ => ?_)
  obtain ⟨rfl, hRC1, hFk⟩ := h_
  change Go X G _ 4 _ _ S1 959 [(3, .int (nI (6 * k))), (2, .ref y), (1, .ref x), (0, .ref b)] [.int (A_common Z (sc (6 * k + 1)) (sc (6 * k + 2)) (sc (6 * k + 3)))]
  refine Go.wide (k2 := 39 + 220 * k) (n2 := 121234 + 5400 * k) (Nat.le_refl _) (Nat.le_refl _) ?_
  have hm1 := hI.2.1.mv hFk
  have hR1 := RM_mv hI.2.2.1 hFk
  refine g_aload_n 1 2 C dL_law_959 rfl rfl ?_
  refine g_aload_n 3 0 C dL_law_960 rfl rfl ?_
  refine g_iload_n 0 3 C dL_law_961 rfl rfl ?_
  refine g_iconst (v := nI 1) C dL_law_962 (by decide) ?_
  refine g_iadd C dL_law_963 ?_
  refine g_topi (nI_add _ _ : _ = nI (6 * k + 1)) ?_
  refine g_sld (i := 6 * k + 1) hS (by omega) C dL_law_964 ?_
  refine g_aload_n 3 0 C dL_law_965 rfl rfl ?_
  refine g_iload_n 0 3 C dL_law_966 rfl rfl ?_
  refine g_iconst (v := nI 2) C dL_law_967 (by decide) ?_
  refine g_iadd C dL_law_968 ?_
  refine g_topi (nI_add _ _ : _ = nI (6 * k + 2)) ?_
  refine g_sld (i := 6 * k + 2) hS (by omega) C dL_law_969 ?_
  refine g_aload_n 3 0 C dL_law_970 rfl rfl ?_
  refine g_iload_n 0 3 C dL_law_971 rfl rfl ?_
  refine g_iconst (v := nI 3) C dL_law_972 (by decide) ?_
  refine g_iadd C dL_law_973 ?_
  refine g_topi (nI_add _ _ : _ = nI (6 * k + 3)) ?_
  refine g_sld (i := 6 * k + 3) hS (by omega) C dL_law_974 ?_
  refine g_st (S' := mo_ S1 (mo S1)) rfl ?_
  refine g_callV (As := [.int (sc (6 * k + 1)), .int (sc (6 * k + 2)), .int (sc (6 * k + 3))]) (rest := [.int (A_common Z (sc (6 * k + 1)) (sc (6 * k + 2)) (sc (6 * k + 3)))]) C dL_law_975 (c_M_common (S := S1) (M := mo S1) hm1 hR1 hI.2.2.2) wC_X11_common wM_L_119 wI_X11_common wS_X11_common wN_X11 (kne hm1.1) (pf_11 hm1.1) rfl hd_X11_common ⟨by decide, by decide, by show 39 + 220 * k + 0 ≤ 600000; omega, by show 121234 + 5400 * k + 0 ≤ 7302250; omega⟩ (Nat.le_of_ble_eq_true rfl) (fun r_ S_ h_ => ?_)
  obtain ⟨M1, rfl, rfl, hmr, hRM⟩ := h_
  change Go X G _ 4 _ _ (mo_ S1 M1) 978 [(3, .int (nI (6 * k))), (2, .ref y), (1, .ref x), (0, .ref b)] [.int (A_common Z (sc (6 * k + 1)) (sc (6 * k + 2)) (sc (6 * k + 3))), .int (A_common Z (sc (6 * k + 1)) (sc (6 * k + 2)) (sc (6 * k + 3)))]
  refine Go.wide (k2 := 39 + 220 * k) (n2 := 121234 + 5400 * k) (Nat.le_refl _) (Nat.le_refl _) ?_
  refine g_icmp_eq 1414 C dL_law_978 (by decide) (fun _ => ?_) (fun z => absurd rfl z)
  refine Go.wide (k2 := 39 + 220 * k + 220) (n2 := 121234 + 5400 * k + 5400) (by omega) (by omega) ?_
  exact kk _ _ (Inv.next hRC1 hm1 hmr hRM hI.2.2.2)
set_option maxRecDepth 100000 in
set_option maxHeartbeats 1000000 in
theorem l_rank {X : Kx} {G : Gx} {Q : State → Prop} {nm : String} {b L x y : Nat} {sc : Nat → Int32} (C : Cok X G cL_law 4 RL ret nm room_1) (hS : Scr X G b L sc) {k : Nat} (hk : 6 * k + 6 ≤ L) {S : PS} {Z : ZT} (hI : Inv S Z x y) (kk : ∀ (S' : PS) (Z' : ZT), Inv S' Z' x y → Go X G Q 4 (39 + 220 * k + 220) (121234 + 5400 * k + 5400) S' 1414 [(3, .int (nI (6 * k))), (2, .ref y), (1, .ref x), (0, .ref b)] []) : Go X G Q 4 (39 + 220 * k) (121234 + 5400 * k) S 983 [(3, .int (nI (6 * k))), (2, .ref y), (1, .ref x), (0, .ref b)] [] := by
  have hL := hS.2.2.2
  obtain ⟨c, D, hr⟩ := hI.1
  refine g_aload_n 2 1 C dL_law_983 rfl rfl ?_
  refine g_aload_n 3 0 C dL_law_984 rfl rfl ?_
  refine g_iload_n 0 3 C dL_law_985 rfl rfl ?_
  refine g_iconst (v := nI 1) C dL_law_986 (by decide) ?_
  refine g_iadd C dL_law_987 ?_
  refine g_topi (nI_add _ _ : _ = nI (6 * k + 1)) ?_
  refine g_sld (i := 6 * k + 1) hS (by omega) C dL_law_988 ?_
  refine g_aload_n 3 0 C dL_law_989 rfl rfl ?_
  refine g_iload_n 0 3 C dL_law_990 rfl rfl ?_
  refine g_iconst (v := nI 2) C dL_law_991 (by decide) ?_
  refine g_iadd C dL_law_992 ?_
  refine g_topi (nI_add _ _ : _ = nI (6 * k + 2)) ?_
  refine g_sld (i := 6 * k + 2) hS (by omega) C dL_law_993 ?_
  refine g_callV (As := [.int (sc (6 * k + 1)), .int (sc (6 * k + 2))]) (rest := []) C dL_law_994 (c_C_rank hr hI.2.2.2) wC_X10_rank wM_L_120 wI_X10_rank wS_X10_rank wN_X10 (kne hr.1.1.1) (pf_10 hr.1.1.1) rfl hd_X10_rank ⟨by decide, by decide, by show 39 + 220 * k + 0 ≤ 600000; omega, by show 121234 + 5400 * k + 0 ≤ 7302250; omega⟩ (Nat.le_of_ble_eq_true rfl) (fun r_ S1 h_ => ?_)
  obtain ⟨rfl, hRC1, hFk⟩ := h_
  change Go X G _ 4 _ _ S1 997 [(3, .int (nI (6 * k))), (2, .ref y), (1, .ref x), (0, .ref b)] [.int (A_rank Z (sc (6 * k + 1)) (sc (6 * k + 2)))]
  refine Go.wide (k2 := 39 + 220 * k) (n2 := 121234 + 5400 * k) (Nat.le_refl _) (Nat.le_refl _) ?_
  have hm1 := hI.2.1.mv hFk
  have hR1 := RM_mv hI.2.2.1 hFk
  refine g_aload_n 1 2 C dL_law_997 rfl rfl ?_
  refine g_aload_n 3 0 C dL_law_998 rfl rfl ?_
  refine g_iload_n 0 3 C dL_law_999 rfl rfl ?_
  refine g_iconst (v := nI 1) C dL_law_1000 (by decide) ?_
  refine g_iadd C dL_law_1001 ?_
  refine g_topi (nI_add _ _ : _ = nI (6 * k + 1)) ?_
  refine g_sld (i := 6 * k + 1) hS (by omega) C dL_law_1002 ?_
  refine g_aload_n 3 0 C dL_law_1003 rfl rfl ?_
  refine g_iload_n 0 3 C dL_law_1004 rfl rfl ?_
  refine g_iconst (v := nI 2) C dL_law_1005 (by decide) ?_
  refine g_iadd C dL_law_1006 ?_
  refine g_topi (nI_add _ _ : _ = nI (6 * k + 2)) ?_
  refine g_sld (i := 6 * k + 2) hS (by omega) C dL_law_1007 ?_
  refine g_st (S' := mo_ S1 (mo S1)) rfl ?_
  refine g_callV (As := [.int (sc (6 * k + 1)), .int (sc (6 * k + 2))]) (rest := [.int (A_rank Z (sc (6 * k + 1)) (sc (6 * k + 2)))]) C dL_law_1008 (c_M_rank (S := S1) (M := mo S1) hm1 hR1 hI.2.2.2) wC_X11_rank wM_L_123 wI_X11_rank wS_X11_rank wN_X11 (kne hm1.1) (pf_11 hm1.1) rfl hd_X11_rank ⟨by decide, by decide, by show 39 + 220 * k + 0 ≤ 600000; omega, by show 121234 + 5400 * k + 0 ≤ 7302250; omega⟩ (Nat.le_of_ble_eq_true rfl) (fun r_ S_ h_ => ?_)
  obtain ⟨M1, rfl, rfl, hmr, hRM⟩ := h_
  change Go X G _ 4 _ _ (mo_ S1 M1) 1011 [(3, .int (nI (6 * k))), (2, .ref y), (1, .ref x), (0, .ref b)] [.int (A_rank Z (sc (6 * k + 1)) (sc (6 * k + 2))), .int (A_rank Z (sc (6 * k + 1)) (sc (6 * k + 2)))]
  refine Go.wide (k2 := 39 + 220 * k) (n2 := 121234 + 5400 * k) (Nat.le_refl _) (Nat.le_refl _) ?_
  refine g_icmp_eq 1414 C dL_law_1011 (by decide) (fun _ => ?_) (fun z => absurd rfl z)
  refine Go.wide (k2 := 39 + 220 * k + 220) (n2 := 121234 + 5400 * k + 5400) (by omega) (by omega) ?_
  exact kk _ _ (Inv.next hRC1 hm1 hmr hRM hI.2.2.2)
set_option maxRecDepth 100000 in
set_option maxHeartbeats 1000000 in
theorem l_select {X : Kx} {G : Gx} {Q : State → Prop} {nm : String} {b L x y : Nat} {sc : Nat → Int32} (C : Cok X G cL_law 4 RL ret nm room_1) (hS : Scr X G b L sc) {k : Nat} (hk : 6 * k + 6 ≤ L) {S : PS} {Z : ZT} (hI : Inv S Z x y) (kk : ∀ (S' : PS) (Z' : ZT), Inv S' Z' x y → Go X G Q 4 (39 + 220 * k + 220) (121234 + 5400 * k + 5400) S' 1414 [(3, .int (nI (6 * k))), (2, .ref y), (1, .ref x), (0, .ref b)] []) : Go X G Q 4 (39 + 220 * k) (121234 + 5400 * k) S 1016 [(3, .int (nI (6 * k))), (2, .ref y), (1, .ref x), (0, .ref b)] [] := by
  have hL := hS.2.2.2
  obtain ⟨c, D, hr⟩ := hI.1
  refine g_aload_n 2 1 C dL_law_1016 rfl rfl ?_
  refine g_aload_n 3 0 C dL_law_1017 rfl rfl ?_
  refine g_iload_n 0 3 C dL_law_1018 rfl rfl ?_
  refine g_iconst (v := nI 1) C dL_law_1019 (by decide) ?_
  refine g_iadd C dL_law_1020 ?_
  refine g_topi (nI_add _ _ : _ = nI (6 * k + 1)) ?_
  refine g_sld (i := 6 * k + 1) hS (by omega) C dL_law_1021 ?_
  refine g_aload_n 3 0 C dL_law_1022 rfl rfl ?_
  refine g_iload_n 0 3 C dL_law_1023 rfl rfl ?_
  refine g_iconst (v := nI 2) C dL_law_1024 (by decide) ?_
  refine g_iadd C dL_law_1025 ?_
  refine g_topi (nI_add _ _ : _ = nI (6 * k + 2)) ?_
  refine g_sld (i := 6 * k + 2) hS (by omega) C dL_law_1026 ?_
  refine g_callV (As := [.int (sc (6 * k + 1)), .int (sc (6 * k + 2))]) (rest := []) C dL_law_1027 (c_C_select hr hI.2.2.2) wC_X10_select wM_L_124 wI_X10_select wS_X10_select wN_X10 (kne hr.1.1.1) (pf_10 hr.1.1.1) rfl hd_X10_select ⟨by decide, by decide, by show 39 + 220 * k + 0 ≤ 600000; omega, by show 121234 + 5400 * k + 0 ≤ 7302250; omega⟩ (Nat.le_of_ble_eq_true rfl) (fun r_ S1 h_ => ?_)
  obtain ⟨rfl, hRC1, hFk⟩ := h_
  change Go X G _ 4 _ _ S1 1030 [(3, .int (nI (6 * k))), (2, .ref y), (1, .ref x), (0, .ref b)] [.int (A_select Z (sc (6 * k + 1)) (sc (6 * k + 2)))]
  refine Go.wide (k2 := 39 + 220 * k) (n2 := 121234 + 5400 * k) (Nat.le_refl _) (Nat.le_refl _) ?_
  have hm1 := hI.2.1.mv hFk
  have hR1 := RM_mv hI.2.2.1 hFk
  refine g_aload_n 1 2 C dL_law_1030 rfl rfl ?_
  refine g_aload_n 3 0 C dL_law_1031 rfl rfl ?_
  refine g_iload_n 0 3 C dL_law_1032 rfl rfl ?_
  refine g_iconst (v := nI 1) C dL_law_1033 (by decide) ?_
  refine g_iadd C dL_law_1034 ?_
  refine g_topi (nI_add _ _ : _ = nI (6 * k + 1)) ?_
  refine g_sld (i := 6 * k + 1) hS (by omega) C dL_law_1035 ?_
  refine g_aload_n 3 0 C dL_law_1036 rfl rfl ?_
  refine g_iload_n 0 3 C dL_law_1037 rfl rfl ?_
  refine g_iconst (v := nI 2) C dL_law_1038 (by decide) ?_
  refine g_iadd C dL_law_1039 ?_
  refine g_topi (nI_add _ _ : _ = nI (6 * k + 2)) ?_
  refine g_sld (i := 6 * k + 2) hS (by omega) C dL_law_1040 ?_
  refine g_st (S' := mo_ S1 (mo S1)) rfl ?_
  refine g_callV (As := [.int (sc (6 * k + 1)), .int (sc (6 * k + 2))]) (rest := [.int (A_select Z (sc (6 * k + 1)) (sc (6 * k + 2)))]) C dL_law_1041 (c_M_select (S := S1) (M := mo S1) hm1 hR1 hI.2.2.2) wC_X11_select wM_L_127 wI_X11_select wS_X11_select wN_X11 (kne hm1.1) (pf_11 hm1.1) rfl hd_X11_select ⟨by decide, by decide, by show 39 + 220 * k + 0 ≤ 600000; omega, by show 121234 + 5400 * k + 0 ≤ 7302250; omega⟩ (Nat.le_of_ble_eq_true rfl) (fun r_ S_ h_ => ?_)
  obtain ⟨M1, rfl, rfl, hmr, hRM⟩ := h_
  change Go X G _ 4 _ _ (mo_ S1 M1) 1044 [(3, .int (nI (6 * k))), (2, .ref y), (1, .ref x), (0, .ref b)] [.int (A_select Z (sc (6 * k + 1)) (sc (6 * k + 2))), .int (A_select Z (sc (6 * k + 1)) (sc (6 * k + 2)))]
  refine Go.wide (k2 := 39 + 220 * k) (n2 := 121234 + 5400 * k) (Nat.le_refl _) (Nat.le_refl _) ?_
  refine g_icmp_eq 1414 C dL_law_1044 (by decide) (fun _ => ?_) (fun z => absurd rfl z)
  refine Go.wide (k2 := 39 + 220 * k + 220) (n2 := 121234 + 5400 * k + 5400) (by omega) (by omega) ?_
  exact kk _ _ (Inv.next hRC1 hm1 hmr hRM hI.2.2.2)
