set_option maxRecDepth 100000 in
set_option maxHeartbeats 1000000 in
theorem l_bit {X : Kx} {G : Gx} {Q : State → Prop} {nm : String} {b L x y : Nat} {sc : Nat → Int32} (C : Cok X G cL_law 4 RL ret nm room_1) (hS : Scr X G b L sc) {k : Nat} (hk : 6 * k + 6 ≤ L) {S : PS} {Z : ZT} (hI : Inv S Z x y) (kk : ∀ (S' : PS) (Z' : ZT), Inv S' Z' x y → Go X G Q 4 (39 + 220 * k + 220) (121234 + 5400 * k + 5400) S' 1414 [(3, .int (nI (6 * k))), (2, .ref y), (1, .ref x), (0, .ref b)] []) : Go X G Q 4 (39 + 220 * k) (121234 + 5400 * k) S 1049 [(3, .int (nI (6 * k))), (2, .ref y), (1, .ref x), (0, .ref b)] [] := by
  have hL := hS.2.2.2
  obtain ⟨c, D, hr⟩ := hI.1
  refine g_aload_n 2 1 C dL_law_1049 rfl rfl ?_
  refine g_aload_n 3 0 C dL_law_1050 rfl rfl ?_
  refine g_iload_n 0 3 C dL_law_1051 rfl rfl ?_
  refine g_iconst (v := nI 1) C dL_law_1052 (by decide) ?_
  refine g_iadd C dL_law_1053 ?_
  refine g_topi (nI_add _ _ : _ = nI (6 * k + 1)) ?_
  refine g_sld (i := 6 * k + 1) hS (by omega) C dL_law_1054 ?_
  refine g_aload_n 3 0 C dL_law_1055 rfl rfl ?_
  refine g_iload_n 0 3 C dL_law_1056 rfl rfl ?_
  refine g_iconst (v := nI 2) C dL_law_1057 (by decide) ?_
  refine g_iadd C dL_law_1058 ?_
  refine g_topi (nI_add _ _ : _ = nI (6 * k + 2)) ?_
  refine g_sld (i := 6 * k + 2) hS (by omega) C dL_law_1059 ?_
  refine g_callV (As := [.int (sc (6 * k + 1)), .int (sc (6 * k + 2))]) (rest := []) C dL_law_1060 (c_C_bit hr hI.2.2.2) wC_X10_bit wM_L_128 wI_X10_bit wS_X10_bit wN_X10 (kne hr.1.1.1) (pf_10 hr.1.1.1) rfl hd_X10_bit ⟨by decide, by decide, by show 39 + 220 * k + 0 ≤ 600000; omega, by show 121234 + 5400 * k + 0 ≤ 7302250; omega⟩ (Nat.le_of_ble_eq_true rfl) (fun r_ S1 h_ => ?_)
  obtain ⟨rfl, hRC1, hFk⟩ := h_
  change Go X G _ 4 _ _ S1 1063 [(3, .int (nI (6 * k))), (2, .ref y), (1, .ref x), (0, .ref b)] [.int (A_bit Z (sc (6 * k + 1)) (sc (6 * k + 2)))]
  refine Go.wide (k2 := 39 + 220 * k) (n2 := 121234 + 5400 * k) (Nat.le_refl _) (Nat.le_refl _) ?_
  have hm1 := hI.2.1.mv hFk
  have hR1 := RM_mv hI.2.2.1 hFk
  refine g_aload_n 1 2 C dL_law_1063 rfl rfl ?_
  refine g_aload_n 3 0 C dL_law_1064 rfl rfl ?_
  refine g_iload_n 0 3 C dL_law_1065 rfl rfl ?_
  refine g_iconst (v := nI 1) C dL_law_1066 (by decide) ?_
  refine g_iadd C dL_law_1067 ?_
  refine g_topi (nI_add _ _ : _ = nI (6 * k + 1)) ?_
  refine g_sld (i := 6 * k + 1) hS (by omega) C dL_law_1068 ?_
  refine g_aload_n 3 0 C dL_law_1069 rfl rfl ?_
  refine g_iload_n 0 3 C dL_law_1070 rfl rfl ?_
  refine g_iconst (v := nI 2) C dL_law_1071 (by decide) ?_
  refine g_iadd C dL_law_1072 ?_
  refine g_topi (nI_add _ _ : _ = nI (6 * k + 2)) ?_
  refine g_sld (i := 6 * k + 2) hS (by omega) C dL_law_1073 ?_
  refine g_st (S' := mo_ S1 (mo S1)) rfl ?_
  refine g_callV (As := [.int (sc (6 * k + 1)), .int (sc (6 * k + 2))]) (rest := [.int (A_bit Z (sc (6 * k + 1)) (sc (6 * k + 2)))]) C dL_law_1074 (c_M_bit (S := S1) (M := mo S1) hm1 hR1 hI.2.2.2) wC_X11_bit wM_L_131 wI_X11_bit wS_X11_bit wN_X11 (kne hm1.1) (pf_11 hm1.1) rfl hd_X11_bit ⟨by decide, by decide, by show 39 + 220 * k + 0 ≤ 600000; omega, by show 121234 + 5400 * k + 0 ≤ 7302250; omega⟩ (Nat.le_of_ble_eq_true rfl) (fun r_ S_ h_ => ?_)
  obtain ⟨M1, rfl, rfl, hmr, hRM⟩ := h_
  change Go X G _ 4 _ _ (mo_ S1 M1) 1077 [(3, .int (nI (6 * k))), (2, .ref y), (1, .ref x), (0, .ref b)] [.int (A_bit Z (sc (6 * k + 1)) (sc (6 * k + 2))), .int (A_bit Z (sc (6 * k + 1)) (sc (6 * k + 2)))]
  refine Go.wide (k2 := 39 + 220 * k) (n2 := 121234 + 5400 * k) (Nat.le_refl _) (Nat.le_refl _) ?_
  refine g_icmp_eq 1414 C dL_law_1077 (by decide) (fun _ => ?_) (fun z => absurd rfl z)
  refine Go.wide (k2 := 39 + 220 * k + 220) (n2 := 121234 + 5400 * k + 5400) (by omega) (by omega) ?_
  exact kk _ _ (Inv.next hRC1 hm1 hmr hRM hI.2.2.2)
set_option maxRecDepth 100000 in
set_option maxHeartbeats 1000000 in
theorem l_flip {X : Kx} {G : Gx} {Q : State → Prop} {nm : String} {b L x y : Nat} {sc : Nat → Int32} (C : Cok X G cL_law 4 RL ret nm room_1) (hS : Scr X G b L sc) {k : Nat} (hk : 6 * k + 6 ≤ L) {S : PS} {Z : ZT} (hI : Inv S Z x y) (kk : ∀ (S' : PS) (Z' : ZT), Inv S' Z' x y → Go X G Q 4 (39 + 220 * k + 220) (121234 + 5400 * k + 5400) S' 1414 [(3, .int (nI (6 * k))), (2, .ref y), (1, .ref x), (0, .ref b)] []) : Go X G Q 4 (39 + 220 * k) (121234 + 5400 * k) S 1082 [(3, .int (nI (6 * k))), (2, .ref y), (1, .ref x), (0, .ref b)] [] := by
  have hL := hS.2.2.2
  obtain ⟨c, D, hr⟩ := hI.1
  refine g_aload_n 2 1 C dL_law_1082 rfl rfl ?_
  refine g_aload_n 3 0 C dL_law_1083 rfl rfl ?_
  refine g_iload_n 0 3 C dL_law_1084 rfl rfl ?_
  refine g_iconst (v := nI 1) C dL_law_1085 (by decide) ?_
  refine g_iadd C dL_law_1086 ?_
  refine g_topi (nI_add _ _ : _ = nI (6 * k + 1)) ?_
  refine g_sld (i := 6 * k + 1) hS (by omega) C dL_law_1087 ?_
  refine g_aload_n 3 0 C dL_law_1088 rfl rfl ?_
  refine g_iload_n 0 3 C dL_law_1089 rfl rfl ?_
  refine g_iconst (v := nI 2) C dL_law_1090 (by decide) ?_
  refine g_iadd C dL_law_1091 ?_
  refine g_topi (nI_add _ _ : _ = nI (6 * k + 2)) ?_
  refine g_sld (i := 6 * k + 2) hS (by omega) C dL_law_1092 ?_
  refine g_aload_n 3 0 C dL_law_1093 rfl rfl ?_
  refine g_iload_n 0 3 C dL_law_1094 rfl rfl ?_
  refine g_iconst (v := nI 3) C dL_law_1095 (by decide) ?_
  refine g_iadd C dL_law_1096 ?_
  refine g_topi (nI_add _ _ : _ = nI (6 * k + 3)) ?_
  refine g_sld (i := 6 * k + 3) hS (by omega) C dL_law_1097 ?_
  refine g_if_eq 1105 C dL_law_1098 (by decide) (fun c1098 => ?_) (fun c1098 => ?_)
  · refine g_iconst (v := nI 0) C dL_law_1105 (by decide) ?_
    refine g_callV (As := [.int (sc (6 * k + 1)), .int (sc (6 * k + 2)), .int (nI 0)]) (rest := []) C dL_law_1106 (c_C_flip (one := false) hr hI.2.2.2) wC_X10_flip wM_L_132 wI_X10_flip wS_X10_flip wN_X10 (kne hr.1.1.1) (pf_10 hr.1.1.1) rfl hd_X10_flip ⟨by decide, by decide, by show 39 + 220 * k + 0 ≤ 600000; omega, by show 121234 + 5400 * k + 0 ≤ 7302250; omega⟩ (Nat.le_of_ble_eq_true rfl) (fun r_ S1 h_ => ?_)
    obtain ⟨rfl, hRC1, hFk⟩ := h_
    change Go X G _ 4 _ _ S1 1109 [(3, .int (nI (6 * k))), (2, .ref y), (1, .ref x), (0, .ref b)] [.int (A_flip Z (sc (6 * k + 1)) (sc (6 * k + 2)))]
    refine Go.wide (k2 := 39 + 220 * k) (n2 := 121234 + 5400 * k) (Nat.le_refl _) (Nat.le_refl _) ?_
    have hm1 := hI.2.1.mv hFk
    have hR1 := RM_mv hI.2.2.1 hFk
    refine g_aload_n 1 2 C dL_law_1109 rfl rfl ?_
    refine g_aload_n 3 0 C dL_law_1110 rfl rfl ?_
    refine g_iload_n 0 3 C dL_law_1111 rfl rfl ?_
    refine g_iconst (v := nI 1) C dL_law_1112 (by decide) ?_
    refine g_iadd C dL_law_1113 ?_
    refine g_topi (nI_add _ _ : _ = nI (6 * k + 1)) ?_
    refine g_sld (i := 6 * k + 1) hS (by omega) C dL_law_1114 ?_
    refine g_aload_n 3 0 C dL_law_1115 rfl rfl ?_
    refine g_iload_n 0 3 C dL_law_1116 rfl rfl ?_
    refine g_iconst (v := nI 2) C dL_law_1117 (by decide) ?_
    refine g_iadd C dL_law_1118 ?_
    refine g_topi (nI_add _ _ : _ = nI (6 * k + 2)) ?_
    refine g_sld (i := 6 * k + 2) hS (by omega) C dL_law_1119 ?_
    refine g_aload_n 3 0 C dL_law_1120 rfl rfl ?_
    refine g_iload_n 0 3 C dL_law_1121 rfl rfl ?_
    refine g_iconst (v := nI 3) C dL_law_1122 (by decide) ?_
    refine g_iadd C dL_law_1123 ?_
    refine g_topi (nI_add _ _ : _ = nI (6 * k + 3)) ?_
    refine g_sld (i := 6 * k + 3) hS (by omega) C dL_law_1124 ?_
    refine g_if_eq 1132 C dL_law_1125 (by decide) (fun c1125 => ?_) (fun c1125 => ?_)
    · refine g_iconst (v := nI 0) C dL_law_1132 (by decide) ?_
      refine g_st (S' := mo_ S1 (mo S1)) rfl ?_
      refine g_callV (As := [.int (sc (6 * k + 1)), .int (sc (6 * k + 2)), .int (nI 0)]) (rest := [.int (A_flip Z (sc (6 * k + 1)) (sc (6 * k + 2)))]) C dL_law_1133 (c_M_flip (one := false) (S := S1) (M := mo S1) hm1 hR1 hI.2.2.2) wC_X11_flip wM_L_136 wI_X11_flip wS_X11_flip wN_X11 (kne hm1.1) (pf_11 hm1.1) rfl hd_X11_flip ⟨by decide, by decide, by show 39 + 220 * k + 0 ≤ 600000; omega, by show 121234 + 5400 * k + 0 ≤ 7302250; omega⟩ (Nat.le_of_ble_eq_true rfl) (fun r_ S_ h_ => ?_)
      obtain ⟨M1, rfl, rfl, hmr, hRM⟩ := h_
      change Go X G _ 4 _ _ (mo_ S1 M1) 1136 [(3, .int (nI (6 * k))), (2, .ref y), (1, .ref x), (0, .ref b)] [.int (A_flip Z (sc (6 * k + 1)) (sc (6 * k + 2))), .int (A_flip Z (sc (6 * k + 1)) (sc (6 * k + 2)))]
      refine Go.wide (k2 := 39 + 220 * k) (n2 := 121234 + 5400 * k) (Nat.le_refl _) (Nat.le_refl _) ?_
      refine g_icmp_eq 1414 C dL_law_1136 (by decide) (fun _ => ?_) (fun z => absurd rfl z)
      refine Go.wide (k2 := 39 + 220 * k + 220) (n2 := 121234 + 5400 * k + 5400) (by omega) (by omega) ?_
      exact kk _ _ (Inv.next hRC1 hm1 hmr hRM (okZ_flip hI.2.2.2 _ _ _))
    · exact absurd c1098 c1125
  · refine g_iconst (v := nI 1) C dL_law_1101 (by decide) ?_
    refine g_goto 1106 C dL_law_1102 (by decide) ?_
    refine g_callV (As := [.int (sc (6 * k + 1)), .int (sc (6 * k + 2)), .int (nI 1)]) (rest := []) C dL_law_1106 (c_C_flip (one := true) hr hI.2.2.2) wC_X10_flip wM_L_132 wI_X10_flip wS_X10_flip wN_X10 (kne hr.1.1.1) (pf_10 hr.1.1.1) rfl hd_X10_flip ⟨by decide, by decide, by show 39 + 220 * k + 0 ≤ 600000; omega, by show 121234 + 5400 * k + 0 ≤ 7302250; omega⟩ (Nat.le_of_ble_eq_true rfl) (fun r_ S1 h_ => ?_)
    obtain ⟨rfl, hRC1, hFk⟩ := h_
    change Go X G _ 4 _ _ S1 1109 [(3, .int (nI (6 * k))), (2, .ref y), (1, .ref x), (0, .ref b)] [.int (A_flip Z (sc (6 * k + 1)) (sc (6 * k + 2)))]
    refine Go.wide (k2 := 39 + 220 * k) (n2 := 121234 + 5400 * k) (Nat.le_refl _) (Nat.le_refl _) ?_
    have hm1 := hI.2.1.mv hFk
    have hR1 := RM_mv hI.2.2.1 hFk
    refine g_aload_n 1 2 C dL_law_1109 rfl rfl ?_
    refine g_aload_n 3 0 C dL_law_1110 rfl rfl ?_
    refine g_iload_n 0 3 C dL_law_1111 rfl rfl ?_
    refine g_iconst (v := nI 1) C dL_law_1112 (by decide) ?_
    refine g_iadd C dL_law_1113 ?_
    refine g_topi (nI_add _ _ : _ = nI (6 * k + 1)) ?_
    refine g_sld (i := 6 * k + 1) hS (by omega) C dL_law_1114 ?_
    refine g_aload_n 3 0 C dL_law_1115 rfl rfl ?_
    refine g_iload_n 0 3 C dL_law_1116 rfl rfl ?_
    refine g_iconst (v := nI 2) C dL_law_1117 (by decide) ?_
    refine g_iadd C dL_law_1118 ?_
    refine g_topi (nI_add _ _ : _ = nI (6 * k + 2)) ?_
    refine g_sld (i := 6 * k + 2) hS (by omega) C dL_law_1119 ?_
    refine g_aload_n 3 0 C dL_law_1120 rfl rfl ?_
    refine g_iload_n 0 3 C dL_law_1121 rfl rfl ?_
    refine g_iconst (v := nI 3) C dL_law_1122 (by decide) ?_
    refine g_iadd C dL_law_1123 ?_
    refine g_topi (nI_add _ _ : _ = nI (6 * k + 3)) ?_
    refine g_sld (i := 6 * k + 3) hS (by omega) C dL_law_1124 ?_
    refine g_if_eq 1132 C dL_law_1125 (by decide) (fun c1125 => ?_) (fun c1125 => ?_)
    · exact absurd c1125 c1098
    · refine g_iconst (v := nI 1) C dL_law_1128 (by decide) ?_
      refine g_goto 1133 C dL_law_1129 (by decide) ?_
      refine g_st (S' := mo_ S1 (mo S1)) rfl ?_
      refine g_callV (As := [.int (sc (6 * k + 1)), .int (sc (6 * k + 2)), .int (nI 1)]) (rest := [.int (A_flip Z (sc (6 * k + 1)) (sc (6 * k + 2)))]) C dL_law_1133 (c_M_flip (one := true) (S := S1) (M := mo S1) hm1 hR1 hI.2.2.2) wC_X11_flip wM_L_136 wI_X11_flip wS_X11_flip wN_X11 (kne hm1.1) (pf_11 hm1.1) rfl hd_X11_flip ⟨by decide, by decide, by show 39 + 220 * k + 0 ≤ 600000; omega, by show 121234 + 5400 * k + 0 ≤ 7302250; omega⟩ (Nat.le_of_ble_eq_true rfl) (fun r_ S_ h_ => ?_)
      obtain ⟨M1, rfl, rfl, hmr, hRM⟩ := h_
      change Go X G _ 4 _ _ (mo_ S1 M1) 1136 [(3, .int (nI (6 * k))), (2, .ref y), (1, .ref x), (0, .ref b)] [.int (A_flip Z (sc (6 * k + 1)) (sc (6 * k + 2))), .int (A_flip Z (sc (6 * k + 1)) (sc (6 * k + 2)))]
      refine Go.wide (k2 := 39 + 220 * k) (n2 := 121234 + 5400 * k) (Nat.le_refl _) (Nat.le_refl _) ?_
      refine g_icmp_eq 1414 C dL_law_1136 (by decide) (fun _ => ?_) (fun z => absurd rfl z)
      refine Go.wide (k2 := 39 + 220 * k + 220) (n2 := 121234 + 5400 * k + 5400) (by omega) (by omega) ?_
      exact kk _ _ (Inv.next hRC1 hm1 hmr hRM (okZ_flip hI.2.2.2 _ _ _))
set_option maxRecDepth 100000 in
set_option maxHeartbeats 1000000 in
theorem l_about {X : Kx} {G : Gx} {Q : State → Prop} {nm : String} {b L x y : Nat} {sc : Nat → Int32} (C : Cok X G cL_law 4 RL ret nm room_1) (hS : Scr X G b L sc) {k : Nat} (hk : 6 * k + 6 ≤ L) {S : PS} {Z : ZT} (hI : Inv S Z x y) (kk : ∀ (S' : PS) (Z' : ZT), Inv S' Z' x y → Go X G Q 4 (39 + 220 * k + 220) (121234 + 5400 * k + 5400) S' 1414 [(3, .int (nI (6 * k))), (2, .ref y), (1, .ref x), (0, .ref b)] []) : Go X G Q 4 (39 + 220 * k) (121234 + 5400 * k) S 1141 [(3, .int (nI (6 * k))), (2, .ref y), (1, .ref x), (0, .ref b)] [] := by
  have hL := hS.2.2.2
  obtain ⟨c, D, hr⟩ := hI.1
  refine g_aload_n 2 1 C dL_law_1141 rfl rfl ?_
  refine g_aload_n 3 0 C dL_law_1142 rfl rfl ?_
  refine g_iload_n 0 3 C dL_law_1143 rfl rfl ?_
  refine g_iconst (v := nI 1) C dL_law_1144 (by decide) ?_
  refine g_iadd C dL_law_1145 ?_
  refine g_topi (nI_add _ _ : _ = nI (6 * k + 1)) ?_
  refine g_sld (i := 6 * k + 1) hS (by omega) C dL_law_1146 ?_
  refine g_aload_n 3 0 C dL_law_1147 rfl rfl ?_
  refine g_iload_n 0 3 C dL_law_1148 rfl rfl ?_
  refine g_iconst (v := nI 2) C dL_law_1149 (by decide) ?_
  refine g_iadd C dL_law_1150 ?_
  refine g_topi (nI_add _ _ : _ = nI (6 * k + 2)) ?_
  refine g_sld (i := 6 * k + 2) hS (by omega) C dL_law_1151 ?_
  refine g_callV (As := [.int (sc (6 * k + 1)), .int (sc (6 * k + 2))]) (rest := []) C dL_law_1152 (c_C_about hr hI.2.2.2) wC_X10_about wM_L_137 wI_X10_about wS_X10_about wN_X10 (kne hr.1.1.1) (pf_10 hr.1.1.1) rfl hd_X10_about ⟨by decide, by decide, by show 39 + 220 * k + 0 ≤ 600000; omega, by show 121234 + 5400 * k + 0 ≤ 7302250; omega⟩ (Nat.le_of_ble_eq_true rfl) (fun r_ S1 h_ => ?_)
  obtain ⟨rfl, hRC1, hFk⟩ := h_
  change Go X G _ 4 _ _ S1 1155 [(3, .int (nI (6 * k))), (2, .ref y), (1, .ref x), (0, .ref b)] [.int (A_about Z (sc (6 * k + 1)) (sc (6 * k + 2)))]
  refine Go.wide (k2 := 39 + 220 * k) (n2 := 121234 + 5400 * k) (Nat.le_refl _) (Nat.le_refl _) ?_
  have hm1 := hI.2.1.mv hFk
  have hR1 := RM_mv hI.2.2.1 hFk
  refine g_aload_n 1 2 C dL_law_1155 rfl rfl ?_
  refine g_aload_n 3 0 C dL_law_1156 rfl rfl ?_
  refine g_iload_n 0 3 C dL_law_1157 rfl rfl ?_
  refine g_iconst (v := nI 1) C dL_law_1158 (by decide) ?_
  refine g_iadd C dL_law_1159 ?_
  refine g_topi (nI_add _ _ : _ = nI (6 * k + 1)) ?_
  refine g_sld (i := 6 * k + 1) hS (by omega) C dL_law_1160 ?_
  refine g_aload_n 3 0 C dL_law_1161 rfl rfl ?_
  refine g_iload_n 0 3 C dL_law_1162 rfl rfl ?_
  refine g_iconst (v := nI 2) C dL_law_1163 (by decide) ?_
  refine g_iadd C dL_law_1164 ?_
  refine g_topi (nI_add _ _ : _ = nI (6 * k + 2)) ?_
  refine g_sld (i := 6 * k + 2) hS (by omega) C dL_law_1165 ?_
  refine g_st (S' := mo_ S1 (mo S1)) rfl ?_
  refine g_callV (As := [.int (sc (6 * k + 1)), .int (sc (6 * k + 2))]) (rest := [.int (A_about Z (sc (6 * k + 1)) (sc (6 * k + 2)))]) C dL_law_1166 (c_M_about (S := S1) (M := mo S1) hm1 hR1 hI.2.2.2) wC_X11_about wM_L_140 wI_X11_about wS_X11_about wN_X11 (kne hm1.1) (pf_11 hm1.1) rfl hd_X11_about ⟨by decide, by decide, by show 39 + 220 * k + 0 ≤ 600000; omega, by show 121234 + 5400 * k + 0 ≤ 7302250; omega⟩ (Nat.le_of_ble_eq_true rfl) (fun r_ S_ h_ => ?_)
  obtain ⟨M1, rfl, rfl, hmr, hRM⟩ := h_
  change Go X G _ 4 _ _ (mo_ S1 M1) 1169 [(3, .int (nI (6 * k))), (2, .ref y), (1, .ref x), (0, .ref b)] [.int (A_about Z (sc (6 * k + 1)) (sc (6 * k + 2))), .int (A_about Z (sc (6 * k + 1)) (sc (6 * k + 2)))]
  refine Go.wide (k2 := 39 + 220 * k) (n2 := 121234 + 5400 * k) (Nat.le_refl _) (Nat.le_refl _) ?_
  refine g_icmp_eq 1414 C dL_law_1169 (by decide) (fun _ => ?_) (fun z => absurd rfl z)
  refine Go.wide (k2 := 39 + 220 * k + 220) (n2 := 121234 + 5400 * k + 5400) (by omega) (by omega) ?_
  exact kk _ _ (Inv.next hRC1 hm1 hmr hRM hI.2.2.2)
set_option maxRecDepth 100000 in
set_option maxHeartbeats 1000000 in
theorem l_lose {X : Kx} {G : Gx} {Q : State → Prop} {nm : String} {b L x y : Nat} {sc : Nat → Int32} (C : Cok X G cL_law 4 RL ret nm room_1) (hS : Scr X G b L sc) {k : Nat} (hk : 6 * k + 6 ≤ L) {S : PS} {Z : ZT} (hI : Inv S Z x y) (kk : ∀ (S' : PS) (Z' : ZT), Inv S' Z' x y → Go X G Q 4 (39 + 220 * k + 220) (121234 + 5400 * k + 5400) S' 1414 [(3, .int (nI (6 * k))), (2, .ref y), (1, .ref x), (0, .ref b)] []) : Go X G Q 4 (39 + 220 * k) (121234 + 5400 * k) S 1174 [(3, .int (nI (6 * k))), (2, .ref y), (1, .ref x), (0, .ref b)] [] := by
  have hL := hS.2.2.2
  obtain ⟨c, D, hr⟩ := hI.1
  refine g_aload_n 2 1 C dL_law_1174 rfl rfl ?_
  refine g_aload_n 3 0 C dL_law_1175 rfl rfl ?_
  refine g_iload_n 0 3 C dL_law_1176 rfl rfl ?_
  refine g_iconst (v := nI 1) C dL_law_1177 (by decide) ?_
  refine g_iadd C dL_law_1178 ?_
  refine g_topi (nI_add _ _ : _ = nI (6 * k + 1)) ?_
  refine g_sld (i := 6 * k + 1) hS (by omega) C dL_law_1179 ?_
  refine g_aload_n 3 0 C dL_law_1180 rfl rfl ?_
  refine g_iload_n 0 3 C dL_law_1181 rfl rfl ?_
  refine g_iconst (v := nI 2) C dL_law_1182 (by decide) ?_
  refine g_iadd C dL_law_1183 ?_
  refine g_topi (nI_add _ _ : _ = nI (6 * k + 2)) ?_
  refine g_sld (i := 6 * k + 2) hS (by omega) C dL_law_1184 ?_
  refine g_callV (As := [.int (sc (6 * k + 1)), .int (sc (6 * k + 2))]) (rest := []) C dL_law_1185 (c_C_lose hr hI.2.2.2) wC_X10_lose wM_L_141 wI_X10_lose wS_X10_lose wN_X10 (kne hr.1.1.1) (pf_10 hr.1.1.1) rfl hd_X10_lose ⟨by decide, by decide, by show 39 + 220 * k + 0 ≤ 600000; omega, by show 121234 + 5400 * k + 0 ≤ 7302250; omega⟩ (Nat.le_of_ble_eq_true rfl) (fun r_ S1 h_ => ?_)
  obtain ⟨rfl, hRC1, hFk⟩ := h_
  change Go X G _ 4 _ _ S1 1188 [(3, .int (nI (6 * k))), (2, .ref y), (1, .ref x), (0, .ref b)] [.int (A_lose Z (sc (6 * k + 1)) (sc (6 * k + 2)))]
  refine Go.wide (k2 := 39 + 220 * k) (n2 := 121234 + 5400 * k) (Nat.le_refl _) (Nat.le_refl _) ?_
  have hm1 := hI.2.1.mv hFk
  have hR1 := RM_mv hI.2.2.1 hFk
  refine g_aload_n 1 2 C dL_law_1188 rfl rfl ?_
  refine g_aload_n 3 0 C dL_law_1189 rfl rfl ?_
  refine g_iload_n 0 3 C dL_law_1190 rfl rfl ?_
  refine g_iconst (v := nI 1) C dL_law_1191 (by decide) ?_
  refine g_iadd C dL_law_1192 ?_
  refine g_topi (nI_add _ _ : _ = nI (6 * k + 1)) ?_
  refine g_sld (i := 6 * k + 1) hS (by omega) C dL_law_1193 ?_
  refine g_aload_n 3 0 C dL_law_1194 rfl rfl ?_
  refine g_iload_n 0 3 C dL_law_1195 rfl rfl ?_
  refine g_iconst (v := nI 2) C dL_law_1196 (by decide) ?_
  refine g_iadd C dL_law_1197 ?_
  refine g_topi (nI_add _ _ : _ = nI (6 * k + 2)) ?_
  refine g_sld (i := 6 * k + 2) hS (by omega) C dL_law_1198 ?_
  refine g_st (S' := mo_ S1 (mo S1)) rfl ?_
  refine g_callV (As := [.int (sc (6 * k + 1)), .int (sc (6 * k + 2))]) (rest := [.int (A_lose Z (sc (6 * k + 1)) (sc (6 * k + 2)))]) C dL_law_1199 (c_M_lose (S := S1) (M := mo S1) hm1 hR1 hI.2.2.2) wC_X11_lose wM_L_144 wI_X11_lose wS_X11_lose wN_X11 (kne hm1.1) (pf_11 hm1.1) rfl hd_X11_lose ⟨by decide, by decide, by show 39 + 220 * k + 0 ≤ 600000; omega, by show 121234 + 5400 * k + 0 ≤ 7302250; omega⟩ (Nat.le_of_ble_eq_true rfl) (fun r_ S_ h_ => ?_)
  obtain ⟨M1, rfl, rfl, hmr, hRM⟩ := h_
  change Go X G _ 4 _ _ (mo_ S1 M1) 1202 [(3, .int (nI (6 * k))), (2, .ref y), (1, .ref x), (0, .ref b)] [.int (A_lose Z (sc (6 * k + 1)) (sc (6 * k + 2))), .int (A_lose Z (sc (6 * k + 1)) (sc (6 * k + 2)))]
  refine Go.wide (k2 := 39 + 220 * k) (n2 := 121234 + 5400 * k) (Nat.le_refl _) (Nat.le_refl _) ?_
  refine g_icmp_eq 1414 C dL_law_1202 (by decide) (fun _ => ?_) (fun z => absurd rfl z)
  refine Go.wide (k2 := 39 + 220 * k + 220) (n2 := 121234 + 5400 * k + 5400) (by omega) (by omega) ?_
  exact kk _ _ (Inv.next hRC1 hm1 hmr hRM (okZ_lose hI.2.2.2 _ _))
set_option maxRecDepth 100000 in
set_option maxHeartbeats 1000000 in
theorem l_mend {X : Kx} {G : Gx} {Q : State → Prop} {nm : String} {b L x y : Nat} {sc : Nat → Int32} (C : Cok X G cL_law 4 RL ret nm room_1) (hS : Scr X G b L sc) {k : Nat} (hk : 6 * k + 6 ≤ L) {S : PS} {Z : ZT} (hI : Inv S Z x y) (kk : ∀ (S' : PS) (Z' : ZT), Inv S' Z' x y → Go X G Q 4 (39 + 220 * k + 220) (121234 + 5400 * k + 5400) S' 1414 [(3, .int (nI (6 * k))), (2, .ref y), (1, .ref x), (0, .ref b)] []) : Go X G Q 4 (39 + 220 * k) (121234 + 5400 * k) S 1207 [(3, .int (nI (6 * k))), (2, .ref y), (1, .ref x), (0, .ref b)] [] := by
  have hL := hS.2.2.2
  obtain ⟨c, D, hr⟩ := hI.1
  refine g_aload_n 2 1 C dL_law_1207 rfl rfl ?_
  refine g_aload_n 3 0 C dL_law_1208 rfl rfl ?_
  refine g_iload_n 0 3 C dL_law_1209 rfl rfl ?_
  refine g_iconst (v := nI 1) C dL_law_1210 (by decide) ?_
  refine g_iadd C dL_law_1211 ?_
  refine g_topi (nI_add _ _ : _ = nI (6 * k + 1)) ?_
  refine g_sld (i := 6 * k + 1) hS (by omega) C dL_law_1212 ?_
  refine g_callV (As := [.int (sc (6 * k + 1))]) (rest := []) C dL_law_1213 (c_C_mend hr hI.2.2.2) wC_X10_mend wM_L_145 wI_X10_mend wS_X10_mend wN_X10 (kne hr.1.1.1) (pf_10 hr.1.1.1) rfl hd_X10_mend ⟨by decide, by decide, by show 39 + 220 * k + 0 ≤ 600000; omega, by show 121234 + 5400 * k + 0 ≤ 7302250; omega⟩ (Nat.le_of_ble_eq_true rfl) (fun r_ S1 h_ => ?_)
  obtain ⟨rfl, hRC1, hFk⟩ := h_
  change Go X G _ 4 _ _ S1 1216 [(3, .int (nI (6 * k))), (2, .ref y), (1, .ref x), (0, .ref b)] [.int (A_mend Z (sc (6 * k + 1)))]
  refine Go.wide (k2 := 39 + 220 * k) (n2 := 121234 + 5400 * k) (Nat.le_refl _) (Nat.le_refl _) ?_
  have hm1 := hI.2.1.mv hFk
  have hR1 := RM_mv hI.2.2.1 hFk
  refine g_aload_n 1 2 C dL_law_1216 rfl rfl ?_
  refine g_aload_n 3 0 C dL_law_1217 rfl rfl ?_
  refine g_iload_n 0 3 C dL_law_1218 rfl rfl ?_
  refine g_iconst (v := nI 1) C dL_law_1219 (by decide) ?_
  refine g_iadd C dL_law_1220 ?_
  refine g_topi (nI_add _ _ : _ = nI (6 * k + 1)) ?_
  refine g_sld (i := 6 * k + 1) hS (by omega) C dL_law_1221 ?_
  refine g_st (S' := mo_ S1 (mo S1)) rfl ?_
  refine g_callV (As := [.int (sc (6 * k + 1))]) (rest := [.int (A_mend Z (sc (6 * k + 1)))]) C dL_law_1222 (c_M_mend (S := S1) (M := mo S1) hm1 hR1 hI.2.2.2) wC_X11_mend wM_L_148 wI_X11_mend wS_X11_mend wN_X11 (kne hm1.1) (pf_11 hm1.1) rfl hd_X11_mend ⟨by decide, by decide, by show 39 + 220 * k + 0 ≤ 600000; omega, by show 121234 + 5400 * k + 0 ≤ 7302250; omega⟩ (Nat.le_of_ble_eq_true rfl) (fun r_ S_ h_ => ?_)
  obtain ⟨M1, rfl, rfl, hmr, hRM⟩ := h_
  change Go X G _ 4 _ _ (mo_ S1 M1) 1225 [(3, .int (nI (6 * k))), (2, .ref y), (1, .ref x), (0, .ref b)] [.int (A_mend Z (sc (6 * k + 1))), .int (A_mend Z (sc (6 * k + 1)))]
  refine Go.wide (k2 := 39 + 220 * k) (n2 := 121234 + 5400 * k) (Nat.le_refl _) (Nat.le_refl _) ?_
  refine g_icmp_eq 1414 C dL_law_1225 (by decide) (fun _ => ?_) (fun z => absurd rfl z)
  refine Go.wide (k2 := 39 + 220 * k + 220) (n2 := 121234 + 5400 * k + 5400) (by omega) (by omega) ?_
  exact kk _ _ (Inv.next hRC1 hm1 hmr hRM (okZ_mend hI.2.2.2 _))
set_option maxRecDepth 100000 in
set_option maxHeartbeats 1000000 in
theorem l_witness {X : Kx} {G : Gx} {Q : State → Prop} {nm : String} {b L x y : Nat} {sc : Nat → Int32} (C : Cok X G cL_law 4 RL ret nm room_1) (hS : Scr X G b L sc) {k : Nat} (hk : 6 * k + 6 ≤ L) {S : PS} {Z : ZT} (hI : Inv S Z x y) (kk : ∀ (S' : PS) (Z' : ZT), Inv S' Z' x y → Go X G Q 4 (39 + 220 * k + 220) (121234 + 5400 * k + 5400) S' 1414 [(3, .int (nI (6 * k))), (2, .ref y), (1, .ref x), (0, .ref b)] []) : Go X G Q 4 (39 + 220 * k) (121234 + 5400 * k) S 1230 [(3, .int (nI (6 * k))), (2, .ref y), (1, .ref x), (0, .ref b)] [] := by
  have hL := hS.2.2.2
  obtain ⟨c, D, hr⟩ := hI.1
  refine g_aload_n 2 1 C dL_law_1230 rfl rfl ?_
  refine g_aload_n 3 0 C dL_law_1231 rfl rfl ?_
  refine g_iload_n 0 3 C dL_law_1232 rfl rfl ?_
  refine g_iconst (v := nI 1) C dL_law_1233 (by decide) ?_
  refine g_iadd C dL_law_1234 ?_
  refine g_topi (nI_add _ _ : _ = nI (6 * k + 1)) ?_
  refine g_sld (i := 6 * k + 1) hS (by omega) C dL_law_1235 ?_
  refine g_callV (As := [.int (sc (6 * k + 1))]) (rest := []) C dL_law_1236 (c_C_witness hr hI.2.2.2) wC_X10_witness wM_L_149 wI_X10_witness wS_X10_witness wN_X10 (kne hr.1.1.1) (pf_10 hr.1.1.1) rfl hd_X10_witness ⟨by decide, by decide, by show 39 + 220 * k + 2 ≤ 600000; omega, by show 121234 + 5400 * k + 25 ≤ 7302250; omega⟩ (Nat.le_of_ble_eq_true rfl) (fun r_ S1 h_ => ?_)
  obtain ⟨rfl, hRC1, hFk⟩ := h_
  change Go X G _ 4 _ _ S1 1239 [(3, .int (nI (6 * k))), (2, .ref y), (1, .ref x), (0, .ref b)] [.int (A_witness Z (sc (6 * k + 1)))]
  refine Go.wide (k2 := (39 + 220 * k + 2)) (n2 := (121234 + 5400 * k + 25)) (Nat.le_refl _) (Nat.le_refl _) ?_
  have hm1 := hI.2.1.mv hFk
  have hR1 := RM_mv hI.2.2.1 hFk
  refine g_aload_n 1 2 C dL_law_1239 rfl rfl ?_
  refine g_aload_n 3 0 C dL_law_1240 rfl rfl ?_
  refine g_iload_n 0 3 C dL_law_1241 rfl rfl ?_
  refine g_iconst (v := nI 1) C dL_law_1242 (by decide) ?_
  refine g_iadd C dL_law_1243 ?_
  refine g_topi (nI_add _ _ : _ = nI (6 * k + 1)) ?_
  refine g_sld (i := 6 * k + 1) hS (by omega) C dL_law_1244 ?_
  refine g_st (S' := mo_ S1 (mo S1)) rfl ?_
  refine g_callV (As := [.int (sc (6 * k + 1))]) (rest := [.int (A_witness Z (sc (6 * k + 1)))]) C dL_law_1245 (c_M_witness (S := S1) (M := mo S1) hm1 hR1 hI.2.2.2) wC_X11_witness wM_L_152 wI_X11_witness wS_X11_witness wN_X11 (kne hm1.1) (pf_11 hm1.1) rfl hd_X11_witness ⟨by decide, by decide, by show (39 + 220 * k + 2) + 0 ≤ 600000; omega, by show (121234 + 5400 * k + 25) + 0 ≤ 7302250; omega⟩ (Nat.le_of_ble_eq_true rfl) (fun r_ S_ h_ => ?_)
  obtain ⟨M1, rfl, rfl, hmr, hRM⟩ := h_
  change Go X G _ 4 _ _ (mo_ S1 M1) 1248 [(3, .int (nI (6 * k))), (2, .ref y), (1, .ref x), (0, .ref b)] [.int (A_witness Z (sc (6 * k + 1))), .int (A_witness Z (sc (6 * k + 1)))]
  refine Go.wide (k2 := (39 + 220 * k + 2)) (n2 := (121234 + 5400 * k + 25)) (Nat.le_refl _) (Nat.le_refl _) ?_
  refine g_icmp_eq 1414 C dL_law_1248 (by decide) (fun _ => ?_) (fun z => absurd rfl z)
  refine Go.wide (k2 := 39 + 220 * k + 220) (n2 := 121234 + 5400 * k + 5400) (by omega) (by omega) ?_
  exact kk _ _ (Inv.next hRC1 hm1 hmr hRM (okZ_witness hI.2.2.2 _))
set_option maxRecDepth 100000 in
set_option maxHeartbeats 1000000 in
theorem l_witnessed {X : Kx} {G : Gx} {Q : State → Prop} {nm : String} {b L x y : Nat} {sc : Nat → Int32} (C : Cok X G cL_law 4 RL ret nm room_1) (hS : Scr X G b L sc) {k : Nat} (hk : 6 * k + 6 ≤ L) {S : PS} {Z : ZT} (hI : Inv S Z x y) (kk : ∀ (S' : PS) (Z' : ZT), Inv S' Z' x y → Go X G Q 4 (39 + 220 * k + 220) (121234 + 5400 * k + 5400) S' 1414 [(3, .int (nI (6 * k))), (2, .ref y), (1, .ref x), (0, .ref b)] []) : Go X G Q 4 (39 + 220 * k) (121234 + 5400 * k) S 1253 [(3, .int (nI (6 * k))), (2, .ref y), (1, .ref x), (0, .ref b)] [] := by
  have hL := hS.2.2.2
  obtain ⟨c, D, hr⟩ := hI.1
  refine g_aload_n 2 1 C dL_law_1253 rfl rfl ?_
  refine g_callV (As := []) (rest := []) C dL_law_1254 (c_C_witnessed hr hI.2.2.2) wC_X10_witnessed wM_L_153 wI_X10_witnessed wS_X10_witnessed wN_X10 (kne hr.1.1.1) (pf_10 hr.1.1.1) rfl hd_X10_witnessed ⟨by decide, by decide, by show 39 + 220 * k + 0 ≤ 600000; omega, by show 121234 + 5400 * k + 0 ≤ 7302250; omega⟩ (Nat.le_of_ble_eq_true rfl) (fun r_ S_ h_ => ?_)
  obtain ⟨rfl, rfl⟩ := h_
  change Go X G _ 4 _ _ S 1257 [(3, .int (nI (6 * k))), (2, .ref y), (1, .ref x), (0, .ref b)] [.int (nI (zW Z).length)]
  refine Go.wide (k2 := 39 + 220 * k) (n2 := 121234 + 5400 * k) (Nat.le_refl _) (Nat.le_refl _) ?_
  refine g_aload_n 1 2 C dL_law_1257 rfl rfl ?_
  refine g_st (S' := mo_ S (mo S)) rfl ?_
  refine g_callV (As := []) (rest := [.int (nI (zW Z).length)]) C dL_law_1258 (c_M_witnessed (S := S) (M := mo S) hI.2.1 hI.2.2.1 hI.2.2.2) wC_X11_witnessed wM_L_156 wI_X11_witnessed wS_X11_witnessed wN_X11 (kne hI.2.1.1) (pf_11 hI.2.1.1) rfl hd_X11_witnessed ⟨by decide, by decide, by show 39 + 220 * k + 0 ≤ 600000; omega, by show 121234 + 5400 * k + 0 ≤ 7302250; omega⟩ (Nat.le_of_ble_eq_true rfl) (fun r_ S_ h_ => ?_)
  obtain ⟨rfl, rfl⟩ := h_
  change Go X G _ 4 _ _ (mo_ S (mo S)) 1261 [(3, .int (nI (6 * k))), (2, .ref y), (1, .ref x), (0, .ref b)] [.int (nI (zW Z).length), .int (nI (zW Z).length)]
  refine Go.wide (k2 := 39 + 220 * k) (n2 := 121234 + 5400 * k) (Nat.le_refl _) (Nat.le_refl _) ?_
  refine g_icmp_eq 1414 C dL_law_1261 (by decide) (fun _ => ?_) (fun z => absurd rfl z)
  refine Go.wide (k2 := 39 + 220 * k + 220) (n2 := 121234 + 5400 * k + 5400) (by omega) (by omega) ?_
  exact kk S Z hI
set_option maxRecDepth 100000 in
set_option maxHeartbeats 1000000 in
theorem l_told {X : Kx} {G : Gx} {Q : State → Prop} {nm : String} {b L x y : Nat} {sc : Nat → Int32} (C : Cok X G cL_law 4 RL ret nm room_1) (hS : Scr X G b L sc) {k : Nat} (hk : 6 * k + 6 ≤ L) {S : PS} {Z : ZT} (hI : Inv S Z x y) (kk : ∀ (S' : PS) (Z' : ZT), Inv S' Z' x y → Go X G Q 4 (39 + 220 * k + 220) (121234 + 5400 * k + 5400) S' 1414 [(3, .int (nI (6 * k))), (2, .ref y), (1, .ref x), (0, .ref b)] []) : Go X G Q 4 (39 + 220 * k) (121234 + 5400 * k) S 1266 [(3, .int (nI (6 * k))), (2, .ref y), (1, .ref x), (0, .ref b)] [] := by
  have hL := hS.2.2.2
  obtain ⟨c, D, hr⟩ := hI.1
  refine g_aload_n 2 1 C dL_law_1266 rfl rfl ?_
  refine g_aload_n 3 0 C dL_law_1267 rfl rfl ?_
  refine g_iload_n 0 3 C dL_law_1268 rfl rfl ?_
  refine g_iconst (v := nI 1) C dL_law_1269 (by decide) ?_
  refine g_iadd C dL_law_1270 ?_
  refine g_topi (nI_add _ _ : _ = nI (6 * k + 1)) ?_
  refine g_sld (i := 6 * k + 1) hS (by omega) C dL_law_1271 ?_
  refine g_callV (As := [.int (sc (6 * k + 1))]) (rest := []) C dL_law_1272 (c_C_told hr hI.2.2.2) wC_X10_told wM_L_157 wI_X10_told wS_X10_told wN_X10 (kne hr.1.1.1) (pf_10 hr.1.1.1) rfl hd_X10_told ⟨by decide, by decide, by show 39 + 220 * k + 0 ≤ 600000; omega, by show 121234 + 5400 * k + 0 ≤ 7302250; omega⟩ (Nat.le_of_ble_eq_true rfl) (fun r_ S_ h_ => ?_)
  obtain ⟨rfl, rfl⟩ := h_
  change Go X G _ 4 _ _ S 1275 [(3, .int (nI (6 * k))), (2, .ref y), (1, .ref x), (0, .ref b)] [.int (A_told Z (sc (6 * k + 1)))]
  refine Go.wide (k2 := 39 + 220 * k) (n2 := 121234 + 5400 * k) (Nat.le_refl _) (Nat.le_refl _) ?_
  refine g_aload_n 1 2 C dL_law_1275 rfl rfl ?_
  refine g_aload_n 3 0 C dL_law_1276 rfl rfl ?_
  refine g_iload_n 0 3 C dL_law_1277 rfl rfl ?_
  refine g_iconst (v := nI 1) C dL_law_1278 (by decide) ?_
  refine g_iadd C dL_law_1279 ?_
  refine g_topi (nI_add _ _ : _ = nI (6 * k + 1)) ?_
  refine g_sld (i := 6 * k + 1) hS (by omega) C dL_law_1280 ?_
  refine g_st (S' := mo_ S (mo S)) rfl ?_
  refine g_callV (As := [.int (sc (6 * k + 1))]) (rest := [.int (A_told Z (sc (6 * k + 1)))]) C dL_law_1281 (c_M_told (S := S) (M := mo S) hI.2.1 hI.2.2.1 hI.2.2.2) wC_X11_told wM_L_160 wI_X11_told wS_X11_told wN_X11 (kne hI.2.1.1) (pf_11 hI.2.1.1) rfl hd_X11_told ⟨by decide, by decide, by show 39 + 220 * k + 0 ≤ 600000; omega, by show 121234 + 5400 * k + 0 ≤ 7302250; omega⟩ (Nat.le_of_ble_eq_true rfl) (fun r_ S_ h_ => ?_)
  obtain ⟨rfl, rfl⟩ := h_
  change Go X G _ 4 _ _ (mo_ S (mo S)) 1284 [(3, .int (nI (6 * k))), (2, .ref y), (1, .ref x), (0, .ref b)] [.int (A_told Z (sc (6 * k + 1))), .int (A_told Z (sc (6 * k + 1)))]
  refine Go.wide (k2 := 39 + 220 * k) (n2 := 121234 + 5400 * k) (Nat.le_refl _) (Nat.le_refl _) ?_
  refine g_icmp_eq 1414 C dL_law_1284 (by decide) (fun _ => ?_) (fun z => absurd rfl z)
  refine Go.wide (k2 := 39 + 220 * k + 220) (n2 := 121234 + 5400 * k + 5400) (by omega) (by omega) ?_
  exact kk S Z hI
set_option maxRecDepth 100000 in
set_option maxHeartbeats 1000000 in
theorem l_forge {X : Kx} {G : Gx} {Q : State → Prop} {nm : String} {b L x y : Nat} {sc : Nat → Int32} (C : Cok X G cL_law 4 RL ret nm room_1) (hS : Scr X G b L sc) {k : Nat} (hk : 6 * k + 6 ≤ L) {S : PS} {Z : ZT} (hI : Inv S Z x y) (kk : ∀ (S' : PS) (Z' : ZT), Inv S' Z' x y → Go X G Q 4 (39 + 220 * k + 220) (121234 + 5400 * k + 5400) S' 1414 [(3, .int (nI (6 * k))), (2, .ref y), (1, .ref x), (0, .ref b)] []) : Go X G Q 4 (39 + 220 * k) (121234 + 5400 * k) S 1289 [(3, .int (nI (6 * k))), (2, .ref y), (1, .ref x), (0, .ref b)] [] := by
  have hL := hS.2.2.2
  obtain ⟨c, D, hr⟩ := hI.1
  refine g_aload_n 2 1 C dL_law_1289 rfl rfl ?_
  refine g_aload_n 3 0 C dL_law_1290 rfl rfl ?_
  refine g_iload_n 0 3 C dL_law_1291 rfl rfl ?_
  refine g_iconst (v := nI 1) C dL_law_1292 (by decide) ?_
  refine g_iadd C dL_law_1293 ?_
  refine g_topi (nI_add _ _ : _ = nI (6 * k + 1)) ?_
  refine g_sld (i := 6 * k + 1) hS (by omega) C dL_law_1294 ?_
  refine g_aload_n 3 0 C dL_law_1295 rfl rfl ?_
  refine g_iload_n 0 3 C dL_law_1296 rfl rfl ?_
  refine g_iconst (v := nI 2) C dL_law_1297 (by decide) ?_
  refine g_iadd C dL_law_1298 ?_
  refine g_topi (nI_add _ _ : _ = nI (6 * k + 2)) ?_
  refine g_sld (i := 6 * k + 2) hS (by omega) C dL_law_1299 ?_
  refine g_callV (As := [.int (sc (6 * k + 1)), .int (sc (6 * k + 2))]) (rest := []) C dL_law_1300 (c_C_forge hr hI.2.2.2) wC_X10_forge wM_L_161 wI_X10_forge wS_X10_forge wN_X10 (kne hr.1.1.1) (pf_10 hr.1.1.1) rfl hd_X10_forge ⟨by decide, by decide, by show 39 + 220 * k + 0 ≤ 600000; omega, by show 121234 + 5400 * k + 0 ≤ 7302250; omega⟩ (Nat.le_of_ble_eq_true rfl) (fun r_ S1 h_ => ?_)
  obtain ⟨rfl, hRC1, hFk⟩ := h_
  change Go X G _ 4 _ _ S1 1303 [(3, .int (nI (6 * k))), (2, .ref y), (1, .ref x), (0, .ref b)] [.int (A_forge Z (sc (6 * k + 1)))]
  refine Go.wide (k2 := 39 + 220 * k) (n2 := 121234 + 5400 * k) (Nat.le_refl _) (Nat.le_refl _) ?_
  have hm1 := hI.2.1.mv hFk
  have hR1 := RM_mv hI.2.2.1 hFk
  refine g_aload_n 1 2 C dL_law_1303 rfl rfl ?_
  refine g_aload_n 3 0 C dL_law_1304 rfl rfl ?_
  refine g_iload_n 0 3 C dL_law_1305 rfl rfl ?_
  refine g_iconst (v := nI 1) C dL_law_1306 (by decide) ?_
  refine g_iadd C dL_law_1307 ?_
  refine g_topi (nI_add _ _ : _ = nI (6 * k + 1)) ?_
  refine g_sld (i := 6 * k + 1) hS (by omega) C dL_law_1308 ?_
  refine g_aload_n 3 0 C dL_law_1309 rfl rfl ?_
  refine g_iload_n 0 3 C dL_law_1310 rfl rfl ?_
  refine g_iconst (v := nI 2) C dL_law_1311 (by decide) ?_
  refine g_iadd C dL_law_1312 ?_
  refine g_topi (nI_add _ _ : _ = nI (6 * k + 2)) ?_
  refine g_sld (i := 6 * k + 2) hS (by omega) C dL_law_1313 ?_
  refine g_st (S' := mo_ S1 (mo S1)) rfl ?_
  refine g_callV (As := [.int (sc (6 * k + 1)), .int (sc (6 * k + 2))]) (rest := [.int (A_forge Z (sc (6 * k + 1)))]) C dL_law_1314 (c_M_forge (S := S1) (M := mo S1) hm1 hR1 hI.2.2.2) wC_X11_forge wM_L_164 wI_X11_forge wS_X11_forge wN_X11 (kne hm1.1) (pf_11 hm1.1) rfl hd_X11_forge ⟨by decide, by decide, by show 39 + 220 * k + 0 ≤ 600000; omega, by show 121234 + 5400 * k + 0 ≤ 7302250; omega⟩ (Nat.le_of_ble_eq_true rfl) (fun r_ S_ h_ => ?_)
  obtain ⟨M1, rfl, rfl, hmr, hRM⟩ := h_
  change Go X G _ 4 _ _ (mo_ S1 M1) 1317 [(3, .int (nI (6 * k))), (2, .ref y), (1, .ref x), (0, .ref b)] [.int (A_forge Z (sc (6 * k + 1))), .int (A_forge Z (sc (6 * k + 1)))]
  refine Go.wide (k2 := 39 + 220 * k) (n2 := 121234 + 5400 * k) (Nat.le_refl _) (Nat.le_refl _) ?_
  refine g_icmp_eq 1414 C dL_law_1317 (by decide) (fun _ => ?_) (fun z => absurd rfl z)
  refine Go.wide (k2 := 39 + 220 * k + 220) (n2 := 121234 + 5400 * k + 5400) (by omega) (by omega) ?_
  exact kk _ _ (Inv.next hRC1 hm1 hmr hRM (okZ_forge hI.2.2.2 _ _))
set_option maxRecDepth 100000 in
set_option maxHeartbeats 1000000 in
theorem l_check {X : Kx} {G : Gx} {Q : State → Prop} {nm : String} {b L x y : Nat} {sc : Nat → Int32} (C : Cok X G cL_law 4 RL ret nm room_1) (hS : Scr X G b L sc) {k : Nat} (hk : 6 * k + 6 ≤ L) {S : PS} {Z : ZT} (hI : Inv S Z x y) (kk : ∀ (S' : PS) (Z' : ZT), Inv S' Z' x y → Go X G Q 4 (39 + 220 * k + 220) (121234 + 5400 * k + 5400) S' 1414 [(3, .int (nI (6 * k))), (2, .ref y), (1, .ref x), (0, .ref b)] []) : Go X G Q 4 (39 + 220 * k) (121234 + 5400 * k) S 1322 [(3, .int (nI (6 * k))), (2, .ref y), (1, .ref x), (0, .ref b)] [] := by
  have hL := hS.2.2.2
  obtain ⟨c, D, hr⟩ := hI.1
  refine g_aload_n 2 1 C dL_law_1322 rfl rfl ?_
  refine g_aload_n 3 0 C dL_law_1323 rfl rfl ?_
  refine g_iload_n 0 3 C dL_law_1324 rfl rfl ?_
  refine g_iconst (v := nI 1) C dL_law_1325 (by decide) ?_
  refine g_iadd C dL_law_1326 ?_
  refine g_topi (nI_add _ _ : _ = nI (6 * k + 1)) ?_
  refine g_sld (i := 6 * k + 1) hS (by omega) C dL_law_1327 ?_
  refine g_callV (As := [.int (sc (6 * k + 1))]) (rest := []) C dL_law_1328 (c_C_check hr hI.2.2.2) wC_X10_check wM_L_165 wI_X10_check wS_X10_check wN_X10 (kne hr.1.1.1) (pf_10 hr.1.1.1) rfl hd_X10_check ⟨by decide, by decide, by show 39 + 220 * k + 2 ≤ 600000; omega, by show 121234 + 5400 * k + 25 ≤ 7302250; omega⟩ (Nat.le_of_ble_eq_true rfl) (fun r_ S1 h_ => ?_)
  obtain ⟨rfl, hRC1, hFk⟩ := h_
  change Go X G _ 4 _ _ S1 1331 [(3, .int (nI (6 * k))), (2, .ref y), (1, .ref x), (0, .ref b)] [.int (A_check Z (sc (6 * k + 1)))]
  refine Go.wide (k2 := (39 + 220 * k + 2)) (n2 := (121234 + 5400 * k + 25)) (Nat.le_refl _) (Nat.le_refl _) ?_
  have hm1 := hI.2.1.mv hFk
  have hR1 := RM_mv hI.2.2.1 hFk
  refine g_aload_n 1 2 C dL_law_1331 rfl rfl ?_
  refine g_aload_n 3 0 C dL_law_1332 rfl rfl ?_
  refine g_iload_n 0 3 C dL_law_1333 rfl rfl ?_
  refine g_iconst (v := nI 1) C dL_law_1334 (by decide) ?_
  refine g_iadd C dL_law_1335 ?_
  refine g_topi (nI_add _ _ : _ = nI (6 * k + 1)) ?_
  refine g_sld (i := 6 * k + 1) hS (by omega) C dL_law_1336 ?_
  refine g_st (S' := mo_ S1 (mo S1)) rfl ?_
  refine g_callV (As := [.int (sc (6 * k + 1))]) (rest := [.int (A_check Z (sc (6 * k + 1)))]) C dL_law_1337 (c_M_check (S := S1) (M := mo S1) hm1 hR1 hI.2.2.2) wC_X11_check wM_L_168 wI_X11_check wS_X11_check wN_X11 (kne hm1.1) (pf_11 hm1.1) rfl hd_X11_check ⟨by decide, by decide, by show (39 + 220 * k + 2) + 0 ≤ 600000; omega, by show (121234 + 5400 * k + 25) + 0 ≤ 7302250; omega⟩ (Nat.le_of_ble_eq_true rfl) (fun r_ S_ h_ => ?_)
  obtain ⟨M1, rfl, rfl, hmr, hRM⟩ := h_
  change Go X G _ 4 _ _ (mo_ S1 M1) 1340 [(3, .int (nI (6 * k))), (2, .ref y), (1, .ref x), (0, .ref b)] [.int (A_check Z (sc (6 * k + 1))), .int (A_check Z (sc (6 * k + 1)))]
  refine Go.wide (k2 := (39 + 220 * k + 2)) (n2 := (121234 + 5400 * k + 25)) (Nat.le_refl _) (Nat.le_refl _) ?_
  refine g_icmp_eq 1414 C dL_law_1340 (by decide) (fun _ => ?_) (fun z => absurd rfl z)
  refine Go.wide (k2 := 39 + 220 * k + 220) (n2 := 121234 + 5400 * k + 5400) (by omega) (by omega) ?_
  exact kk _ _ (Inv.next hRC1 hm1 hmr hRM (okZ_fork hI.2.2.2 _))
set_option maxRecDepth 100000 in
set_option maxHeartbeats 1000000 in
theorem l_image {X : Kx} {G : Gx} {Q : State → Prop} {nm : String} {b L x y : Nat} {sc : Nat → Int32} (C : Cok X G cL_law 4 RL ret nm room_1) (hS : Scr X G b L sc) {k : Nat} (hk : 6 * k + 6 ≤ L) {S : PS} {Z : ZT} (hI : Inv S Z x y) (kk : ∀ (S' : PS) (Z' : ZT), Inv S' Z' x y → Go X G Q 4 (39 + 220 * k + 220) (121234 + 5400 * k + 5400) S' 1414 [(3, .int (nI (6 * k))), (2, .ref y), (1, .ref x), (0, .ref b)] []) : Go X G Q 4 (39 + 220 * k) (121234 + 5400 * k) S 1345 [(3, .int (nI (6 * k))), (2, .ref y), (1, .ref x), (0, .ref b)] [] := by
  have hL := hS.2.2.2
  obtain ⟨c, D, hr⟩ := hI.1
  refine g_aload_n 2 1 C dL_law_1345 rfl rfl ?_
  refine g_aload_n 3 0 C dL_law_1346 rfl rfl ?_
  refine g_iload_n 0 3 C dL_law_1347 rfl rfl ?_
  refine g_iconst (v := nI 1) C dL_law_1348 (by decide) ?_
  refine g_iadd C dL_law_1349 ?_
  refine g_topi (nI_add _ _ : _ = nI (6 * k + 1)) ?_
  refine g_sld (i := 6 * k + 1) hS (by omega) C dL_law_1350 ?_
  refine g_callV (As := [.int (sc (6 * k + 1))]) (rest := []) C dL_law_1351 (c_C_image hr hI.2.2.2) wC_X10_image wM_L_169 wI_X10_image wS_X10_image wN_X10 (kne hr.1.1.1) (pf_10 hr.1.1.1) rfl hd_X10_image ⟨by decide, by decide, by show 39 + 220 * k + 0 ≤ 600000; omega, by show 121234 + 5400 * k + 0 ≤ 7302250; omega⟩ (Nat.le_of_ble_eq_true rfl) (fun r_ S1 h_ => ?_)
  obtain ⟨rfl, hRC1, hFk⟩ := h_
  change Go X G _ 4 _ _ S1 1354 [(3, .int (nI (6 * k))), (2, .ref y), (1, .ref x), (0, .ref b)] [.int (A_image Z (sc (6 * k + 1)))]
  refine Go.wide (k2 := 39 + 220 * k) (n2 := 121234 + 5400 * k) (Nat.le_refl _) (Nat.le_refl _) ?_
  have hm1 := hI.2.1.mv hFk
  have hR1 := RM_mv hI.2.2.1 hFk
  refine g_aload_n 1 2 C dL_law_1354 rfl rfl ?_
  refine g_aload_n 3 0 C dL_law_1355 rfl rfl ?_
  refine g_iload_n 0 3 C dL_law_1356 rfl rfl ?_
  refine g_iconst (v := nI 1) C dL_law_1357 (by decide) ?_
  refine g_iadd C dL_law_1358 ?_
  refine g_topi (nI_add _ _ : _ = nI (6 * k + 1)) ?_
  refine g_sld (i := 6 * k + 1) hS (by omega) C dL_law_1359 ?_
  refine g_st (S' := mo_ S1 (mo S1)) rfl ?_
  refine g_callV (As := [.int (sc (6 * k + 1))]) (rest := [.int (A_image Z (sc (6 * k + 1)))]) C dL_law_1360 (c_M_image (S := S1) (M := mo S1) hm1 hR1 hI.2.2.2) wC_X11_image wM_L_172 wI_X11_image wS_X11_image wN_X11 (kne hm1.1) (pf_11 hm1.1) rfl hd_X11_image ⟨by decide, by decide, by show 39 + 220 * k + 0 ≤ 600000; omega, by show 121234 + 5400 * k + 0 ≤ 7302250; omega⟩ (Nat.le_of_ble_eq_true rfl) (fun r_ S_ h_ => ?_)
  obtain ⟨M1, rfl, rfl, hmr, hRM⟩ := h_
  change Go X G _ 4 _ _ (mo_ S1 M1) 1363 [(3, .int (nI (6 * k))), (2, .ref y), (1, .ref x), (0, .ref b)] [.int (A_image Z (sc (6 * k + 1))), .int (A_image Z (sc (6 * k + 1)))]
  refine Go.wide (k2 := 39 + 220 * k) (n2 := 121234 + 5400 * k) (Nat.le_refl _) (Nat.le_refl _) ?_
  refine g_icmp_eq 1414 C dL_law_1363 (by decide) (fun _ => ?_) (fun z => absurd rfl z)
  refine Go.wide (k2 := 39 + 220 * k + 220) (n2 := 121234 + 5400 * k + 5400) (by omega) (by omega) ?_
  exact kk _ _ (Inv.next hRC1 hm1 hmr hRM (okZ_image hI.2.2.2 _))
set_option maxRecDepth 100000 in
set_option maxHeartbeats 1000000 in
theorem l_load {X : Kx} {G : Gx} {Q : State → Prop} {nm : String} {b L x y : Nat} {sc : Nat → Int32} (C : Cok X G cL_law 4 RL ret nm room_1) (hS : Scr X G b L sc) {k : Nat} (hk : 6 * k + 6 ≤ L) {S : PS} {Z : ZT} (hI : Inv S Z x y) (kk : ∀ (S' : PS) (Z' : ZT), Inv S' Z' x y → Go X G Q 4 (39 + 220 * k + 220) (121234 + 5400 * k + 5400) S' 1414 [(3, .int (nI (6 * k))), (2, .ref y), (1, .ref x), (0, .ref b)] []) : Go X G Q 4 (39 + 220 * k) (121234 + 5400 * k) S 1368 [(3, .int (nI (6 * k))), (2, .ref y), (1, .ref x), (0, .ref b)] [] := by
  have hL := hS.2.2.2
  obtain ⟨c, D, hr⟩ := hI.1
  refine g_aload_n 2 1 C dL_law_1368 rfl rfl ?_
  refine g_aload_n 3 0 C dL_law_1369 rfl rfl ?_
  refine g_iload_n 0 3 C dL_law_1370 rfl rfl ?_
  refine g_iconst (v := nI 1) C dL_law_1371 (by decide) ?_
  refine g_iadd C dL_law_1372 ?_
  refine g_topi (nI_add _ _ : _ = nI (6 * k + 1)) ?_
  refine g_sld (i := 6 * k + 1) hS (by omega) C dL_law_1373 ?_
  refine g_callV (As := [.int (sc (6 * k + 1))]) (rest := []) C dL_law_1374 (c_C_load hr hI.2.2.2) wC_X10_load wM_L_173 wI_X10_load wS_X10_load wN_X10 (kne hr.1.1.1) (pf_10 hr.1.1.1) rfl hd_X10_load ⟨by decide, by decide, by show 39 + 220 * k + 220 ≤ 600000; omega, by show 121234 + 5400 * k + 5400 ≤ 7302250; omega⟩ (Nat.le_of_ble_eq_true rfl) (fun r_ S1 h_ => ?_)
  obtain ⟨rfl, hRC1, hFk⟩ := h_
  change Go X G _ 4 _ _ S1 1377 [(3, .int (nI (6 * k))), (2, .ref y), (1, .ref x), (0, .ref b)] [.int (A_load Z (sc (6 * k + 1)))]
  refine Go.wide (k2 := (39 + 220 * k + 220)) (n2 := (121234 + 5400 * k + 5400)) (Nat.le_refl _) (Nat.le_refl _) ?_
  have hm1 := hI.2.1.mv hFk
  have hR1 := RM_mv hI.2.2.1 hFk
  refine g_aload_n 1 2 C dL_law_1377 rfl rfl ?_
  refine g_aload_n 3 0 C dL_law_1378 rfl rfl ?_
  refine g_iload_n 0 3 C dL_law_1379 rfl rfl ?_
  refine g_iconst (v := nI 1) C dL_law_1380 (by decide) ?_
  refine g_iadd C dL_law_1381 ?_
  refine g_topi (nI_add _ _ : _ = nI (6 * k + 1)) ?_
  refine g_sld (i := 6 * k + 1) hS (by omega) C dL_law_1382 ?_
  refine g_st (S' := mo_ S1 (mo S1)) rfl ?_
  refine g_callV (As := [.int (sc (6 * k + 1))]) (rest := [.int (A_load Z (sc (6 * k + 1)))]) C dL_law_1383 (c_M_load (S := S1) (M := mo S1) hm1 hR1 hI.2.2.2) wC_X11_load wM_L_176 wI_X11_load wS_X11_load wN_X11 (kne hm1.1) (pf_11 hm1.1) rfl hd_X11_load ⟨by decide, by decide, by show (39 + 220 * k + 220) + 0 ≤ 600000; omega, by show (121234 + 5400 * k + 5400) + 0 ≤ 7302250; omega⟩ (Nat.le_of_ble_eq_true rfl) (fun r_ S_ h_ => ?_)
  obtain ⟨M1, rfl, rfl, hmr, hRM⟩ := h_
  change Go X G _ 4 _ _ (mo_ S1 M1) 1386 [(3, .int (nI (6 * k))), (2, .ref y), (1, .ref x), (0, .ref b)] [.int (A_load Z (sc (6 * k + 1))), .int (A_load Z (sc (6 * k + 1)))]
  refine Go.wide (k2 := (39 + 220 * k + 220)) (n2 := (121234 + 5400 * k + 5400)) (Nat.le_refl _) (Nat.le_refl _) ?_
  refine g_icmp_eq 1414 C dL_law_1386 (by decide) (fun _ => ?_) (fun z => absurd rfl z)
  refine Go.wide (k2 := 39 + 220 * k + 220) (n2 := 121234 + 5400 * k + 5400) (by omega) (by omega) ?_
  exact kk _ _ (Inv.next hRC1 hm1 hmr hRM (okZ_load hI.2.2.2 _))
set_option maxRecDepth 100000 in
set_option maxHeartbeats 1000000 in
theorem l_same {X : Kx} {G : Gx} {Q : State → Prop} {nm : String} {b L x y : Nat} {sc : Nat → Int32} (C : Cok X G cL_law 4 RL ret nm room_1) (hS : Scr X G b L sc) {k : Nat} (hk : 6 * k + 6 ≤ L) {S : PS} {Z : ZT} (hI : Inv S Z x y) (kk : ∀ (S' : PS) (Z' : ZT), Inv S' Z' x y → Go X G Q 4 (39 + 220 * k + 220) (121234 + 5400 * k + 5400) S' 1414 [(3, .int (nI (6 * k))), (2, .ref y), (1, .ref x), (0, .ref b)] []) : Go X G Q 4 (39 + 220 * k) (121234 + 5400 * k) S 1391 [(3, .int (nI (6 * k))), (2, .ref y), (1, .ref x), (0, .ref b)] [] := by
  have hL := hS.2.2.2
  obtain ⟨c, D, hr⟩ := hI.1
  refine g_aload_n 2 1 C dL_law_1391 rfl rfl ?_
  refine g_aload_n 3 0 C dL_law_1392 rfl rfl ?_
  refine g_iload_n 0 3 C dL_law_1393 rfl rfl ?_
  refine g_iconst (v := nI 1) C dL_law_1394 (by decide) ?_
  refine g_iadd C dL_law_1395 ?_
  refine g_topi (nI_add _ _ : _ = nI (6 * k + 1)) ?_
  refine g_sld (i := 6 * k + 1) hS (by omega) C dL_law_1396 ?_
  refine g_callV (As := [.int (sc (6 * k + 1))]) (rest := []) C dL_law_1397 (c_C_same hr hI.2.2.2) wC_X10_same wM_L_177 wI_X10_same wS_X10_same wN_X10 (kne hr.1.1.1) (pf_10 hr.1.1.1) rfl hd_X10_same ⟨by decide, by decide, by show 39 + 220 * k + 0 ≤ 600000; omega, by show 121234 + 5400 * k + 0 ≤ 7302250; omega⟩ (Nat.le_of_ble_eq_true rfl) (fun r_ S_ h_ => ?_)
  obtain ⟨rfl, rfl⟩ := h_
  change Go X G _ 4 _ _ S 1400 [(3, .int (nI (6 * k))), (2, .ref y), (1, .ref x), (0, .ref b)] [.int (A_same Z (sc (6 * k + 1)))]
  refine Go.wide (k2 := 39 + 220 * k) (n2 := 121234 + 5400 * k) (Nat.le_refl _) (Nat.le_refl _) ?_
  refine g_aload_n 1 2 C dL_law_1400 rfl rfl ?_
  refine g_aload_n 3 0 C dL_law_1401 rfl rfl ?_
  refine g_iload_n 0 3 C dL_law_1402 rfl rfl ?_
  refine g_iconst (v := nI 1) C dL_law_1403 (by decide) ?_
  refine g_iadd C dL_law_1404 ?_
  refine g_topi (nI_add _ _ : _ = nI (6 * k + 1)) ?_
  refine g_sld (i := 6 * k + 1) hS (by omega) C dL_law_1405 ?_
  refine g_st (S' := mo_ S (mo S)) rfl ?_
  refine g_callV (As := [.int (sc (6 * k + 1))]) (rest := [.int (A_same Z (sc (6 * k + 1)))]) C dL_law_1406 (c_M_same (S := S) (M := mo S) hI.2.1 hI.2.2.1 hI.2.2.2) wC_X11_same wM_L_180 wI_X11_same wS_X11_same wN_X11 (kne hI.2.1.1) (pf_11 hI.2.1.1) rfl hd_X11_same ⟨by decide, by decide, by show 39 + 220 * k + 0 ≤ 600000; omega, by show 121234 + 5400 * k + 0 ≤ 7302250; omega⟩ (Nat.le_of_ble_eq_true rfl) (fun r_ S_ h_ => ?_)
  obtain ⟨rfl, rfl⟩ := h_
  change Go X G _ 4 _ _ (mo_ S (mo S)) 1409 [(3, .int (nI (6 * k))), (2, .ref y), (1, .ref x), (0, .ref b)] [.int (A_same Z (sc (6 * k + 1))), .int (A_same Z (sc (6 * k + 1)))]
  refine Go.wide (k2 := 39 + 220 * k) (n2 := 121234 + 5400 * k) (Nat.le_refl _) (Nat.le_refl _) ?_
  refine g_icmp_eq 1414 C dL_law_1409 (by decide) (fun _ => ?_) (fun z => absurd rfl z)
  refine Go.wide (k2 := 39 + 220 * k + 220) (n2 := 121234 + 5400 * k + 5400) (by omega) (by omega) ?_
  exact kk S Z hI
