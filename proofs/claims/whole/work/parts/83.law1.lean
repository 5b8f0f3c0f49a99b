set_option maxRecDepth 100000 in
set_option maxHeartbeats 1000000 in
theorem l_feed {X : Kx} {G : Gx} {Q : State → Prop} {nm : String} {b L x y : Nat} {sc : Nat → Int32} (C : Cok X G cL_law 4 RL ret nm room_1) (hS : Scr X G b L sc) {k : Nat} (hk : 6 * k + 6 ≤ L) {S : PS} {Z : ZT} (hI : Inv S Z x y) (kk : ∀ (S' : PS) (Z' : ZT), Inv S' Z' x y → Go X G Q 4 (39 + 220 * k + 220) (121234 + 5400 * k + 5400) S' 1414 [(3, .int (nI (6 * k))), (2, .ref y), (1, .ref x), (0, .ref b)] []) : Go X G Q 4 (39 + 220 * k) (121234 + 5400 * k) S 204 [(3, .int (nI (6 * k))), (2, .ref y), (1, .ref x), (0, .ref b)] [] := by
  have hL := hS.2.2.2
  obtain ⟨c, D, hr⟩ := hI.1
  refine g_aload_n 2 1 C dL_law_204 rfl rfl ?_
  refine g_aload_n 3 0 C dL_law_205 rfl rfl ?_
  refine g_iload_n 0 3 C dL_law_206 rfl rfl ?_
  refine g_iconst (v := nI 1) C dL_law_207 (by decide) ?_
  refine g_iadd C dL_law_208 ?_
  refine g_topi (nI_add _ _ : _ = nI (6 * k + 1)) ?_
  refine g_sld (i := 6 * k + 1) hS (by omega) C dL_law_209 ?_
  refine g_i2l C dL_law_210 ?_
  refine g_bipush (v := nI 32) C dL_law_211 (by decide) ?_
  refine g_lshl C dL_law_213 ?_
  refine g_aload_n 3 0 C dL_law_214 rfl rfl ?_
  refine g_iload_n 0 3 C dL_law_215 rfl rfl ?_
  refine g_iconst (v := nI 2) C dL_law_216 (by decide) ?_
  refine g_iadd C dL_law_217 ?_
  refine g_topi (nI_add _ _ : _ = nI (6 * k + 2)) ?_
  refine g_sld (i := 6 * k + 2) hS (by omega) C dL_law_218 ?_
  refine g_i2l C dL_law_219 ?_
  refine g_ldc2 (v := 4294967295) C dL_law_220 wG_L_13 ?_
  refine g_land C dL_law_223 ?_
  refine g_lor C dL_law_224 ?_
  refine g_aload_n 3 0 C dL_law_225 rfl rfl ?_
  refine g_iload_n 0 3 C dL_law_226 rfl rfl ?_
  refine g_iconst (v := nI 3) C dL_law_227 (by decide) ?_
  refine g_iadd C dL_law_228 ?_
  refine g_topi (nI_add _ _ : _ = nI (6 * k + 3)) ?_
  refine g_sld (i := 6 * k + 3) hS (by omega) C dL_law_229 ?_
  refine g_callV (As := [.long ((((sc (6 * k + 1)).toInt64) <<< ((nI 32).toInt64 &&& 63)) ||| (((sc (6 * k + 2)).toInt64) &&& 4294967295)), .int (sc (6 * k + 3))]) (rest := []) C dL_law_230 (c_C_feed hr hI.2.2.2) wC_X10_feed wM_L_15 wI_X10_feed wS_X10_feed wN_X10 (kne hr.1.1.1) (pf_10 hr.1.1.1) rfl hd_X10_feed ⟨by decide, by decide, by show 39 + 220 * k + 0 ≤ 600000; omega, by show 121234 + 5400 * k + 0 ≤ 7302250; omega⟩ (Nat.le_of_ble_eq_true rfl) (fun r_ S1 h_ => ?_)
  obtain ⟨rfl, hRC1, hFk⟩ := h_
  change Go X G _ 4 _ _ S1 233 [(3, .int (nI (6 * k))), (2, .ref y), (1, .ref x), (0, .ref b)] [.int (A_feed Z (sc (6 * k + 3)))]
  refine Go.wide (k2 := 39 + 220 * k) (n2 := 121234 + 5400 * k) (Nat.le_refl _) (Nat.le_refl _) ?_
  have hm1 := hI.2.1.mv hFk
  have hR1 := RM_mv hI.2.2.1 hFk
  refine g_aload_n 1 2 C dL_law_233 rfl rfl ?_
  refine g_aload_n 3 0 C dL_law_234 rfl rfl ?_
  refine g_iload_n 0 3 C dL_law_235 rfl rfl ?_
  refine g_iconst (v := nI 1) C dL_law_236 (by decide) ?_
  refine g_iadd C dL_law_237 ?_
  refine g_topi (nI_add _ _ : _ = nI (6 * k + 1)) ?_
  refine g_sld (i := 6 * k + 1) hS (by omega) C dL_law_238 ?_
  refine g_i2l C dL_law_239 ?_
  refine g_bipush (v := nI 32) C dL_law_240 (by decide) ?_
  refine g_lshl C dL_law_242 ?_
  refine g_aload_n 3 0 C dL_law_243 rfl rfl ?_
  refine g_iload_n 0 3 C dL_law_244 rfl rfl ?_
  refine g_iconst (v := nI 2) C dL_law_245 (by decide) ?_
  refine g_iadd C dL_law_246 ?_
  refine g_topi (nI_add _ _ : _ = nI (6 * k + 2)) ?_
  refine g_sld (i := 6 * k + 2) hS (by omega) C dL_law_247 ?_
  refine g_i2l C dL_law_248 ?_
  refine g_ldc2 (v := 4294967295) C dL_law_249 wG_L_13 ?_
  refine g_land C dL_law_252 ?_
  refine g_lor C dL_law_253 ?_
  refine g_aload_n 3 0 C dL_law_254 rfl rfl ?_
  refine g_iload_n 0 3 C dL_law_255 rfl rfl ?_
  refine g_iconst (v := nI 3) C dL_law_256 (by decide) ?_
  refine g_iadd C dL_law_257 ?_
  refine g_topi (nI_add _ _ : _ = nI (6 * k + 3)) ?_
  refine g_sld (i := 6 * k + 3) hS (by omega) C dL_law_258 ?_
  refine g_st (S' := mo_ S1 (mo S1)) rfl ?_
  refine g_callV (As := [.long ((((sc (6 * k + 1)).toInt64) <<< ((nI 32).toInt64 &&& 63)) ||| (((sc (6 * k + 2)).toInt64) &&& 4294967295)), .int (sc (6 * k + 3))]) (rest := [.int (A_feed Z (sc (6 * k + 3)))]) C dL_law_259 (c_M_feed (S := S1) (M := mo S1) hm1 hR1 hI.2.2.2) wC_X11_feed wM_L_19 wI_X11_feed wS_X11_feed wN_X11 (kne hm1.1) (pf_11 hm1.1) rfl hd_X11_feed ⟨by decide, by decide, by show 39 + 220 * k + 0 ≤ 600000; omega, by show 121234 + 5400 * k + 0 ≤ 7302250; omega⟩ (Nat.le_of_ble_eq_true rfl) (fun r_ S_ h_ => ?_)
  obtain ⟨M1, rfl, rfl, hmr, hRM⟩ := h_
  change Go X G _ 4 _ _ (mo_ S1 M1) 262 [(3, .int (nI (6 * k))), (2, .ref y), (1, .ref x), (0, .ref b)] [.int (A_feed Z (sc (6 * k + 3))), .int (A_feed Z (sc (6 * k + 3)))]
  refine Go.wide (k2 := 39 + 220 * k) (n2 := 121234 + 5400 * k) (Nat.le_refl _) (Nat.le_refl _) ?_
  refine g_icmp_eq 1414 C dL_law_262 (by decide) (fun _ => ?_) (fun z => absurd rfl z)
  refine Go.wide (k2 := 39 + 220 * k + 220) (n2 := 121234 + 5400 * k + 5400) (by omega) (by omega) ?_
  exact kk _ _ (Inv.next hRC1 hm1 hmr hRM (okZ_feed hI.2.2.2 _ _))
set_option maxRecDepth 100000 in
set_option maxHeartbeats 1000000 in
theorem l_cut {X : Kx} {G : Gx} {Q : State → Prop} {nm : String} {b L x y : Nat} {sc : Nat → Int32} (C : Cok X G cL_law 4 RL ret nm room_1) (hS : Scr X G b L sc) {k : Nat} (hk : 6 * k + 6 ≤ L) {S : PS} {Z : ZT} (hI : Inv S Z x y) (kk : ∀ (S' : PS) (Z' : ZT), Inv S' Z' x y → Go X G Q 4 (39 + 220 * k + 220) (121234 + 5400 * k + 5400) S' 1414 [(3, .int (nI (6 * k))), (2, .ref y), (1, .ref x), (0, .ref b)] []) : Go X G Q 4 (39 + 220 * k) (121234 + 5400 * k) S 267 [(3, .int (nI (6 * k))), (2, .ref y), (1, .ref x), (0, .ref b)] [] := by
  have hL := hS.2.2.2
  obtain ⟨c, D, hr⟩ := hI.1
  refine g_aload_n 2 1 C dL_law_267 rfl rfl ?_
  refine g_aload_n 3 0 C dL_law_268 rfl rfl ?_
  refine g_iload_n 0 3 C dL_law_269 rfl rfl ?_
  refine g_iconst (v := nI 1) C dL_law_270 (by decide) ?_
  refine g_iadd C dL_law_271 ?_
  refine g_topi (nI_add _ _ : _ = nI (6 * k + 1)) ?_
  refine g_sld (i := 6 * k + 1) hS (by omega) C dL_law_272 ?_
  refine g_callV (As := [.int (sc (6 * k + 1))]) (rest := []) C dL_law_273 (c_C_cut hr hI.2.2.2) wC_X10_cut wM_L_20 wI_X10_cut wS_X10_cut wN_X10 (kne hr.1.1.1) (pf_10 hr.1.1.1) rfl hd_X10_cut ⟨by decide, by decide, by show 39 + 220 * k + 0 ≤ 600000; omega, by show 121234 + 5400 * k + 0 ≤ 7302250; omega⟩ (Nat.le_of_ble_eq_true rfl) (fun r_ S1 h_ => ?_)
  obtain ⟨rfl, hRC1, hFk⟩ := h_
  change Go X G _ 4 _ _ S1 276 [(3, .int (nI (6 * k))), (2, .ref y), (1, .ref x), (0, .ref b)] [.int (A_cut Z (sc (6 * k + 1)))]
  refine Go.wide (k2 := 39 + 220 * k) (n2 := 121234 + 5400 * k) (Nat.le_refl _) (Nat.le_refl _) ?_
  have hm1 := hI.2.1.mv hFk
  have hR1 := RM_mv hI.2.2.1 hFk
  refine g_aload_n 1 2 C dL_law_276 rfl rfl ?_
  refine g_aload_n 3 0 C dL_law_277 rfl rfl ?_
  refine g_iload_n 0 3 C dL_law_278 rfl rfl ?_
  refine g_iconst (v := nI 1) C dL_law_279 (by decide) ?_
  refine g_iadd C dL_law_280 ?_
  refine g_topi (nI_add _ _ : _ = nI (6 * k + 1)) ?_
  refine g_sld (i := 6 * k + 1) hS (by omega) C dL_law_281 ?_
  refine g_st (S' := mo_ S1 (mo S1)) rfl ?_
  refine g_callV (As := [.int (sc (6 * k + 1))]) (rest := [.int (A_cut Z (sc (6 * k + 1)))]) C dL_law_282 (c_M_cut (S := S1) (M := mo S1) hm1 hR1 hI.2.2.2) wC_X11_cut wM_L_24 wI_X11_cut wS_X11_cut wN_X11 (kne hm1.1) (pf_11 hm1.1) rfl hd_X11_cut ⟨by decide, by decide, by show 39 + 220 * k + 0 ≤ 600000; omega, by show 121234 + 5400 * k + 0 ≤ 7302250; omega⟩ (Nat.le_of_ble_eq_true rfl) (fun r_ S_ h_ => ?_)
  obtain ⟨M1, rfl, rfl, hmr, hRM⟩ := h_
  change Go X G _ 4 _ _ (mo_ S1 M1) 285 [(3, .int (nI (6 * k))), (2, .ref y), (1, .ref x), (0, .ref b)] [.int (A_cut Z (sc (6 * k + 1))), .int (A_cut Z (sc (6 * k + 1)))]
  refine Go.wide (k2 := 39 + 220 * k) (n2 := 121234 + 5400 * k) (Nat.le_refl _) (Nat.le_refl _) ?_
  refine g_icmp_eq 1414 C dL_law_285 (by decide) (fun _ => ?_) (fun z => absurd rfl z)
  refine Go.wide (k2 := 39 + 220 * k + 220) (n2 := 121234 + 5400 * k + 5400) (by omega) (by omega) ?_
  exact kk _ _ (Inv.next hRC1 hm1 hmr hRM (okZ_cut hI.2.2.2 _))
set_option maxRecDepth 100000 in
set_option maxHeartbeats 1000000 in
theorem l_tape {X : Kx} {G : Gx} {Q : State → Prop} {nm : String} {b L x y : Nat} {sc : Nat → Int32} (C : Cok X G cL_law 4 RL ret nm room_1) (hS : Scr X G b L sc) {k : Nat} (hk : 6 * k + 6 ≤ L) {S : PS} {Z : ZT} (hI : Inv S Z x y) (kk : ∀ (S' : PS) (Z' : ZT), Inv S' Z' x y → Go X G Q 4 (39 + 220 * k + 220) (121234 + 5400 * k + 5400) S' 1414 [(3, .int (nI (6 * k))), (2, .ref y), (1, .ref x), (0, .ref b)] []) : Go X G Q 4 (39 + 220 * k) (121234 + 5400 * k) S 290 [(3, .int (nI (6 * k))), (2, .ref y), (1, .ref x), (0, .ref b)] [] := by
  have hL := hS.2.2.2
  obtain ⟨c, D, hr⟩ := hI.1
  refine g_aload_n 2 1 C dL_law_290 rfl rfl ?_
  refine g_aload_n 3 0 C dL_law_291 rfl rfl ?_
  refine g_iload_n 0 3 C dL_law_292 rfl rfl ?_
  refine g_iconst (v := nI 1) C dL_law_293 (by decide) ?_
  refine g_iadd C dL_law_294 ?_
  refine g_topi (nI_add _ _ : _ = nI (6 * k + 1)) ?_
  refine g_sld (i := 6 * k + 1) hS (by omega) C dL_law_295 ?_
  refine g_callV (As := [.int (sc (6 * k + 1))]) (rest := []) C dL_law_296 (c_C_tape hr hI.2.2.2) wC_X10_tape wM_L_25 wI_X10_tape wS_X10_tape wN_X10 (kne hr.1.1.1) (pf_10 hr.1.1.1) rfl hd_X10_tape ⟨by decide, by decide, by show 39 + 220 * k + 0 ≤ 600000; omega, by show 121234 + 5400 * k + 0 ≤ 7302250; omega⟩ (Nat.le_of_ble_eq_true rfl) (fun r_ S_ h_ => ?_)
  obtain ⟨rfl, rfl⟩ := h_
  change Go X G _ 4 _ _ S 299 [(3, .int (nI (6 * k))), (2, .ref y), (1, .ref x), (0, .ref b)] [.int (A_tape Z (sc (6 * k + 1)))]
  refine Go.wide (k2 := 39 + 220 * k) (n2 := 121234 + 5400 * k) (Nat.le_refl _) (Nat.le_refl _) ?_
  refine g_aload_n 1 2 C dL_law_299 rfl rfl ?_
  refine g_aload_n 3 0 C dL_law_300 rfl rfl ?_
  refine g_iload_n 0 3 C dL_law_301 rfl rfl ?_
  refine g_iconst (v := nI 1) C dL_law_302 (by decide) ?_
  refine g_iadd C dL_law_303 ?_
  refine g_topi (nI_add _ _ : _ = nI (6 * k + 1)) ?_
  refine g_sld (i := 6 * k + 1) hS (by omega) C dL_law_304 ?_
  refine g_st (S' := mo_ S (mo S)) rfl ?_
  refine g_callV (As := [.int (sc (6 * k + 1))]) (rest := [.int (A_tape Z (sc (6 * k + 1)))]) C dL_law_305 (c_M_tape (S := S) (M := mo S) hI.2.1 hI.2.2.1 hI.2.2.2) wC_X11_tape wM_L_28 wI_X11_tape wS_X11_tape wN_X11 (kne hI.2.1.1) (pf_11 hI.2.1.1) rfl hd_X11_tape ⟨by decide, by decide, by show 39 + 220 * k + 0 ≤ 600000; omega, by show 121234 + 5400 * k + 0 ≤ 7302250; omega⟩ (Nat.le_of_ble_eq_true rfl) (fun r_ S_ h_ => ?_)
  obtain ⟨rfl, rfl⟩ := h_
  change Go X G _ 4 _ _ (mo_ S (mo S)) 308 [(3, .int (nI (6 * k))), (2, .ref y), (1, .ref x), (0, .ref b)] [.int (A_tape Z (sc (6 * k + 1))), .int (A_tape Z (sc (6 * k + 1)))]
  refine Go.wide (k2 := 39 + 220 * k) (n2 := 121234 + 5400 * k) (Nat.le_refl _) (Nat.le_refl _) ?_
  refine g_icmp_eq 1414 C dL_law_308 (by decide) (fun _ => ?_) (fun z => absurd rfl z)
  refine Go.wide (k2 := 39 + 220 * k + 220) (n2 := 121234 + 5400 * k + 5400) (by omega) (by omega) ?_
  exact kk S Z hI
set_option maxRecDepth 100000 in
set_option maxHeartbeats 1000000 in
theorem l_draft {X : Kx} {G : Gx} {Q : State → Prop} {nm : String} {b L x y : Nat} {sc : Nat → Int32} (C : Cok X G cL_law 4 RL ret nm room_1) (hS : Scr X G b L sc) {k : Nat} (hk : 6 * k + 6 ≤ L) {S : PS} {Z : ZT} (hI : Inv S Z x y) (kk : ∀ (S' : PS) (Z' : ZT), Inv S' Z' x y → Go X G Q 4 (39 + 220 * k + 220) (121234 + 5400 * k + 5400) S' 1414 [(3, .int (nI (6 * k))), (2, .ref y), (1, .ref x), (0, .ref b)] []) : Go X G Q 4 (39 + 220 * k) (121234 + 5400 * k) S 313 [(3, .int (nI (6 * k))), (2, .ref y), (1, .ref x), (0, .ref b)] [] := by
  have hL := hS.2.2.2
  obtain ⟨c, D, hr⟩ := hI.1
  refine g_aload_n 2 1 C dL_law_313 rfl rfl ?_
  refine g_aload_n 3 0 C dL_law_314 rfl rfl ?_
  refine g_iload_n 0 3 C dL_law_315 rfl rfl ?_
  refine g_iconst (v := nI 1) C dL_law_316 (by decide) ?_
  refine g_iadd C dL_law_317 ?_
  refine g_topi (nI_add _ _ : _ = nI (6 * k + 1)) ?_
  refine g_sld (i := 6 * k + 1) hS (by omega) C dL_law_318 ?_
  refine g_callV (As := [.int (sc (6 * k + 1))]) (rest := []) C dL_law_319 (c_C_draft hr hI.2.2.2) wC_X10_draft wM_L_29 wI_X10_draft wS_X10_draft wN_X10 (kne hr.1.1.1) (pf_10 hr.1.1.1) rfl hd_X10_draft ⟨by decide, by decide, by show 39 + 220 * k + 4 ≤ 600000; omega, by show 121234 + 5400 * k + 205 ≤ 7302250; omega⟩ (Nat.le_of_ble_eq_true rfl) (fun r_ S1 h_ => ?_)
  obtain ⟨rfl, hRC1, hFk⟩ := h_
  change Go X G _ 4 _ _ S1 322 [(3, .int (nI (6 * k))), (2, .ref y), (1, .ref x), (0, .ref b)] [.int (A_draft (sc (6 * k + 1)))]
  refine Go.wide (k2 := (39 + 220 * k + 4)) (n2 := (121234 + 5400 * k + 205)) (Nat.le_refl _) (Nat.le_refl _) ?_
  have hm1 := hI.2.1.mv hFk
  have hR1 := RM_mv hI.2.2.1 hFk
  refine g_aload_n 1 2 C dL_law_322 rfl rfl ?_
  refine g_aload_n 3 0 C dL_law_323 rfl rfl ?_
  refine g_iload_n 0 3 C dL_law_324 rfl rfl ?_
  refine g_iconst (v := nI 1) C dL_law_325 (by decide) ?_
  refine g_iadd C dL_law_326 ?_
  refine g_topi (nI_add _ _ : _ = nI (6 * k + 1)) ?_
  refine g_sld (i := 6 * k + 1) hS (by omega) C dL_law_327 ?_
  refine g_st (S' := mo_ S1 (mo S1)) rfl ?_
  refine g_callV (As := [.int (sc (6 * k + 1))]) (rest := [.int (A_draft (sc (6 * k + 1)))]) C dL_law_328 (c_M_draft (S := S1) (M := mo S1) hm1 hR1 hI.2.2.2) wC_X11_draft wM_L_32 wI_X11_draft wS_X11_draft wN_X11 (kne hm1.1) (pf_11 hm1.1) rfl hd_X11_draft ⟨by decide, by decide, by show (39 + 220 * k + 4) + 0 ≤ 600000; omega, by show (121234 + 5400 * k + 205) + 0 ≤ 7302250; omega⟩ (Nat.le_of_ble_eq_true rfl) (fun r_ S_ h_ => ?_)
  obtain ⟨M1, rfl, rfl, hmr, hRM⟩ := h_
  change Go X G _ 4 _ _ (mo_ S1 M1) 331 [(3, .int (nI (6 * k))), (2, .ref y), (1, .ref x), (0, .ref b)] [.int (A_draft (sc (6 * k + 1))), .int (A_draft (sc (6 * k + 1)))]
  refine Go.wide (k2 := (39 + 220 * k + 4)) (n2 := (121234 + 5400 * k + 205)) (Nat.le_refl _) (Nat.le_refl _) ?_
  refine g_icmp_eq 1414 C dL_law_331 (by decide) (fun _ => ?_) (fun z => absurd rfl z)
  refine Go.wide (k2 := 39 + 220 * k + 220) (n2 := 121234 + 5400 * k + 5400) (by omega) (by omega) ?_
  exact kk _ _ (Inv.next hRC1 hm1 hmr hRM (okZ_draft hI.2.2.2 _))
set_option maxRecDepth 100000 in
set_option maxHeartbeats 1000000 in
theorem l_row {X : Kx} {G : Gx} {Q : State → Prop} {nm : String} {b L x y : Nat} {sc : Nat → Int32} (C : Cok X G cL_law 4 RL ret nm room_1) (hS : Scr X G b L sc) {k : Nat} (hk : 6 * k + 6 ≤ L) {S : PS} {Z : ZT} (hI : Inv S Z x y) (kk : ∀ (S' : PS) (Z' : ZT), Inv S' Z' x y → Go X G Q 4 (39 + 220 * k + 220) (121234 + 5400 * k + 5400) S' 1414 [(3, .int (nI (6 * k))), (2, .ref y), (1, .ref x), (0, .ref b)] []) : Go X G Q 4 (39 + 220 * k) (121234 + 5400 * k) S 336 [(3, .int (nI (6 * k))), (2, .ref y), (1, .ref x), (0, .ref b)] [] := by
  have hL := hS.2.2.2
  obtain ⟨c, D, hr⟩ := hI.1
  refine g_aload_n 2 1 C dL_law_336 rfl rfl ?_
  refine g_aload_n 3 0 C dL_law_337 rfl rfl ?_
  refine g_iload_n 0 3 C dL_law_338 rfl rfl ?_
  refine g_iconst (v := nI 1) C dL_law_339 (by decide) ?_
  refine g_iadd C dL_law_340 ?_
  refine g_topi (nI_add _ _ : _ = nI (6 * k + 1)) ?_
  refine g_sld (i := 6 * k + 1) hS (by omega) C dL_law_341 ?_
  refine g_aload_n 3 0 C dL_law_342 rfl rfl ?_
  refine g_iload_n 0 3 C dL_law_343 rfl rfl ?_
  refine g_iconst (v := nI 2) C dL_law_344 (by decide) ?_
  refine g_iadd C dL_law_345 ?_
  refine g_topi (nI_add _ _ : _ = nI (6 * k + 2)) ?_
  refine g_sld (i := 6 * k + 2) hS (by omega) C dL_law_346 ?_
  refine g_callV (As := [.int (sc (6 * k + 1)), .int (sc (6 * k + 2))]) (rest := []) C dL_law_347 (c_C_row hr hI.2.2.2) wC_X10_row wM_L_33 wI_X10_row wS_X10_row wN_X10 (kne hr.1.1.1) (pf_10 hr.1.1.1) rfl hd_X10_row ⟨by decide, by decide, by show 39 + 220 * k + 5 ≤ 600000; omega, by show 121234 + 5400 * k + 171 ≤ 7302250; omega⟩ (Nat.le_of_ble_eq_true rfl) (fun r_ S1 h_ => ?_)
  obtain ⟨rfl, hRC1, hFk⟩ := h_
  change Go X G _ 4 _ _ S1 350 [(3, .int (nI (6 * k))), (2, .ref y), (1, .ref x), (0, .ref b)] [.int (A_row (sc (6 * k + 1)) (sc (6 * k + 2)))]
  refine Go.wide (k2 := (39 + 220 * k + 5)) (n2 := (121234 + 5400 * k + 171)) (Nat.le_refl _) (Nat.le_refl _) ?_
  have hm1 := hI.2.1.mv hFk
  have hR1 := RM_mv hI.2.2.1 hFk
  refine g_aload_n 1 2 C dL_law_350 rfl rfl ?_
  refine g_aload_n 3 0 C dL_law_351 rfl rfl ?_
  refine g_iload_n 0 3 C dL_law_352 rfl rfl ?_
  refine g_iconst (v := nI 1) C dL_law_353 (by decide) ?_
  refine g_iadd C dL_law_354 ?_
  refine g_topi (nI_add _ _ : _ = nI (6 * k + 1)) ?_
  refine g_sld (i := 6 * k + 1) hS (by omega) C dL_law_355 ?_
  refine g_aload_n 3 0 C dL_law_356 rfl rfl ?_
  refine g_iload_n 0 3 C dL_law_357 rfl rfl ?_
  refine g_iconst (v := nI 2) C dL_law_358 (by decide) ?_
  refine g_iadd C dL_law_359 ?_
  refine g_topi (nI_add _ _ : _ = nI (6 * k + 2)) ?_
  refine g_sld (i := 6 * k + 2) hS (by omega) C dL_law_360 ?_
  refine g_st (S' := mo_ S1 (mo S1)) rfl ?_
  refine g_callV (As := [.int (sc (6 * k + 1)), .int (sc (6 * k + 2))]) (rest := [.int (A_row (sc (6 * k + 1)) (sc (6 * k + 2)))]) C dL_law_361 (c_M_row (S := S1) (M := mo S1) hm1 hR1 hI.2.2.2) wC_X11_row wM_L_37 wI_X11_row wS_X11_row wN_X11 (kne hm1.1) (pf_11 hm1.1) rfl hd_X11_row ⟨by decide, by decide, by show (39 + 220 * k + 5) + 0 ≤ 600000; omega, by show (121234 + 5400 * k + 171) + 0 ≤ 7302250; omega⟩ (Nat.le_of_ble_eq_true rfl) (fun r_ S_ h_ => ?_)
  obtain ⟨M1, rfl, rfl, hmr, hRM⟩ := h_
  change Go X G _ 4 _ _ (mo_ S1 M1) 364 [(3, .int (nI (6 * k))), (2, .ref y), (1, .ref x), (0, .ref b)] [.int (A_row (sc (6 * k + 1)) (sc (6 * k + 2))), .int (A_row (sc (6 * k + 1)) (sc (6 * k + 2)))]
  refine Go.wide (k2 := (39 + 220 * k + 5)) (n2 := (121234 + 5400 * k + 171)) (Nat.le_refl _) (Nat.le_refl _) ?_
  refine g_icmp_eq 1414 C dL_law_364 (by decide) (fun _ => ?_) (fun z => absurd rfl z)
  refine Go.wide (k2 := 39 + 220 * k + 220) (n2 := 121234 + 5400 * k + 5400) (by omega) (by omega) ?_
  exact kk _ _ (Inv.next hRC1 hm1 hmr hRM (okZ_row hI.2.2.2 _ _))
set_option maxRecDepth 100000 in
set_option maxHeartbeats 1000000 in
theorem l_clear {X : Kx} {G : Gx} {Q : State → Prop} {nm : String} {b L x y : Nat} {sc : Nat → Int32} (C : Cok X G cL_law 4 RL ret nm room_1) (hS : Scr X G b L sc) {k : Nat} (hk : 6 * k + 6 ≤ L) {S : PS} {Z : ZT} (hI : Inv S Z x y) (kk : ∀ (S' : PS) (Z' : ZT), Inv S' Z' x y → Go X G Q 4 (39 + 220 * k + 220) (121234 + 5400 * k + 5400) S' 1414 [(3, .int (nI (6 * k))), (2, .ref y), (1, .ref x), (0, .ref b)] []) : Go X G Q 4 (39 + 220 * k) (121234 + 5400 * k) S 369 [(3, .int (nI (6 * k))), (2, .ref y), (1, .ref x), (0, .ref b)] [] := by
  have hL := hS.2.2.2
  obtain ⟨c, D, hr⟩ := hI.1
  refine g_aload_n 2 1 C dL_law_369 rfl rfl ?_
  refine g_aload_n 3 0 C dL_law_370 rfl rfl ?_
  refine g_iload_n 0 3 C dL_law_371 rfl rfl ?_
  refine g_iconst (v := nI 1) C dL_law_372 (by decide) ?_
  refine g_iadd C dL_law_373 ?_
  refine g_topi (nI_add _ _ : _ = nI (6 * k + 1)) ?_
  refine g_sld (i := 6 * k + 1) hS (by omega) C dL_law_374 ?_
  refine g_callV (As := [.int (sc (6 * k + 1))]) (rest := []) C dL_law_375 (c_C_clear hr hI.2.2.2) wC_X10_clear wM_L_38 wI_X10_clear wS_X10_clear wN_X10 (kne hr.1.1.1) (pf_10 hr.1.1.1) rfl hd_X10_clear ⟨by decide, by decide, by show 39 + 220 * k + 0 ≤ 600000; omega, by show 121234 + 5400 * k + 0 ≤ 7302250; omega⟩ (Nat.le_of_ble_eq_true rfl) (fun r_ S1 h_ => ?_)
  obtain ⟨rfl, hRC1, hFk⟩ := h_
  change Go X G _ 4 _ _ S1 378 [(3, .int (nI (6 * k))), (2, .ref y), (1, .ref x), (0, .ref b)] [.int (A_kind Z (sc (6 * k + 1)))]
  refine Go.wide (k2 := 39 + 220 * k) (n2 := 121234 + 5400 * k) (Nat.le_refl _) (Nat.le_refl _) ?_
  have hm1 := hI.2.1.mv hFk
  have hR1 := RM_mv hI.2.2.1 hFk
  refine g_aload_n 1 2 C dL_law_378 rfl rfl ?_
  refine g_aload_n 3 0 C dL_law_379 rfl rfl ?_
  refine g_iload_n 0 3 C dL_law_380 rfl rfl ?_
  refine g_iconst (v := nI 1) C dL_law_381 (by decide) ?_
  refine g_iadd C dL_law_382 ?_
  refine g_topi (nI_add _ _ : _ = nI (6 * k + 1)) ?_
  refine g_sld (i := 6 * k + 1) hS (by omega) C dL_law_383 ?_
  refine g_st (S' := mo_ S1 (mo S1)) rfl ?_
  refine g_callV (As := [.int (sc (6 * k + 1))]) (rest := [.int (A_kind Z (sc (6 * k + 1)))]) C dL_law_384 (c_M_clear (S := S1) (M := mo S1) hm1 hR1 hI.2.2.2) wC_X11_clear wM_L_41 wI_X11_clear wS_X11_clear wN_X11 (kne hm1.1) (pf_11 hm1.1) rfl hd_X11_clear ⟨by decide, by decide, by show 39 + 220 * k + 0 ≤ 600000; omega, by show 121234 + 5400 * k + 0 ≤ 7302250; omega⟩ (Nat.le_of_ble_eq_true rfl) (fun r_ S_ h_ => ?_)
  obtain ⟨M1, rfl, rfl, hmr, hRM⟩ := h_
  change Go X G _ 4 _ _ (mo_ S1 M1) 387 [(3, .int (nI (6 * k))), (2, .ref y), (1, .ref x), (0, .ref b)] [.int (A_kind Z (sc (6 * k + 1))), .int (A_kind Z (sc (6 * k + 1)))]
  refine Go.wide (k2 := 39 + 220 * k) (n2 := 121234 + 5400 * k) (Nat.le_refl _) (Nat.le_refl _) ?_
  refine g_icmp_eq 1414 C dL_law_387 (by decide) (fun _ => ?_) (fun z => absurd rfl z)
  refine Go.wide (k2 := 39 + 220 * k + 220) (n2 := 121234 + 5400 * k + 5400) (by omega) (by omega) ?_
  exact kk _ _ (Inv.next hRC1 hm1 hmr hRM (okZ_clear hI.2.2.2 _))
set_option maxRecDepth 100000 in
set_option maxHeartbeats 1000000 in
theorem l_share {X : Kx} {G : Gx} {Q : State → Prop} {nm : String} {b L x y : Nat} {sc : Nat → Int32} (C : Cok X G cL_law 4 RL ret nm room_1) (hS : Scr X G b L sc) {k : Nat} (hk : 6 * k + 6 ≤ L) {S : PS} {Z : ZT} (hI : Inv S Z x y) (kk : ∀ (S' : PS) (Z' : ZT), Inv S' Z' x y → Go X G Q 4 (39 + 220 * k + 220) (121234 + 5400 * k + 5400) S' 1414 [(3, .int (nI (6 * k))), (2, .ref y), (1, .ref x), (0, .ref b)] []) : Go X G Q 4 (39 + 220 * k) (121234 + 5400 * k) S 392 [(3, .int (nI (6 * k))), (2, .ref y), (1, .ref x), (0, .ref b)] [] := by
  have hL := hS.2.2.2
  obtain ⟨c, D, hr⟩ := hI.1
  refine g_aload_n 2 1 C dL_law_392 rfl rfl ?_
  refine g_aload_n 3 0 C dL_law_393 rfl rfl ?_
  refine g_iload_n 0 3 C dL_law_394 rfl rfl ?_
  refine g_iconst (v := nI 1) C dL_law_395 (by decide) ?_
  refine g_iadd C dL_law_396 ?_
  refine g_topi (nI_add _ _ : _ = nI (6 * k + 1)) ?_
  refine g_sld (i := 6 * k + 1) hS (by omega) C dL_law_397 ?_
  refine g_aload_n 3 0 C dL_law_398 rfl rfl ?_
  refine g_iload_n 0 3 C dL_law_399 rfl rfl ?_
  refine g_iconst (v := nI 2) C dL_law_400 (by decide) ?_
  refine g_iadd C dL_law_401 ?_
  refine g_topi (nI_add _ _ : _ = nI (6 * k + 2)) ?_
  refine g_sld (i := 6 * k + 2) hS (by omega) C dL_law_402 ?_
  refine g_callV (As := [.int (sc (6 * k + 1)), .int (sc (6 * k + 2))]) (rest := []) C dL_law_403 (c_C_share hr hI.2.2.2) wC_X10_share wM_L_42 wI_X10_share wS_X10_share wN_X10 (kne hr.1.1.1) (pf_10 hr.1.1.1) rfl hd_X10_share ⟨by decide, by decide, by show 39 + 220 * k + 0 ≤ 600000; omega, by show 121234 + 5400 * k + 0 ≤ 7302250; omega⟩ (Nat.le_of_ble_eq_true rfl) (fun r_ S1 h_ => ?_)
  obtain ⟨rfl, hRC1, hFk⟩ := h_
  change Go X G _ 4 _ _ S1 406 [(3, .int (nI (6 * k))), (2, .ref y), (1, .ref x), (0, .ref b)] [.int (A_share Z (sc (6 * k + 1)) (sc (6 * k + 2)))]
  refine Go.wide (k2 := 39 + 220 * k) (n2 := 121234 + 5400 * k) (Nat.le_refl _) (Nat.le_refl _) ?_
  have hm1 := hI.2.1.mv hFk
  have hR1 := RM_mv hI.2.2.1 hFk
  refine g_aload_n 1 2 C dL_law_406 rfl rfl ?_
  refine g_aload_n 3 0 C dL_law_407 rfl rfl ?_
  refine g_iload_n 0 3 C dL_law_408 rfl rfl ?_
  refine g_iconst (v := nI 1) C dL_law_409 (by decide) ?_
  refine g_iadd C dL_law_410 ?_
  refine g_topi (nI_add _ _ : _ = nI (6 * k + 1)) ?_
  refine g_sld (i := 6 * k + 1) hS (by omega) C dL_law_411 ?_
  refine g_aload_n 3 0 C dL_law_412 rfl rfl ?_
  refine g_iload_n 0 3 C dL_law_413 rfl rfl ?_
  refine g_iconst (v := nI 2) C dL_law_414 (by decide) ?_
  refine g_iadd C dL_law_415 ?_
  refine g_topi (nI_add _ _ : _ = nI (6 * k + 2)) ?_
  refine g_sld (i := 6 * k + 2) hS (by omega) C dL_law_416 ?_
  refine g_st (S' := mo_ S1 (mo S1)) rfl ?_
  refine g_callV (As := [.int (sc (6 * k + 1)), .int (sc (6 * k + 2))]) (rest := [.int (A_share Z (sc (6 * k + 1)) (sc (6 * k + 2)))]) C dL_law_417 (c_M_share (S := S1) (M := mo S1) hm1 hR1 hI.2.2.2) wC_X11_share wM_L_45 wI_X11_share wS_X11_share wN_X11 (kne hm1.1) (pf_11 hm1.1) rfl hd_X11_share ⟨by decide, by decide, by show 39 + 220 * k + 0 ≤ 600000; omega, by show 121234 + 5400 * k + 0 ≤ 7302250; omega⟩ (Nat.le_of_ble_eq_true rfl) (fun r_ S_ h_ => ?_)
  obtain ⟨M1, rfl, rfl, hmr, hRM⟩ := h_
  change Go X G _ 4 _ _ (mo_ S1 M1) 420 [(3, .int (nI (6 * k))), (2, .ref y), (1, .ref x), (0, .ref b)] [.int (A_share Z (sc (6 * k + 1)) (sc (6 * k + 2))), .int (A_share Z (sc (6 * k + 1)) (sc (6 * k + 2)))]
  refine Go.wide (k2 := 39 + 220 * k) (n2 := 121234 + 5400 * k) (Nat.le_refl _) (Nat.le_refl _) ?_
  refine g_icmp_eq 1414 C dL_law_420 (by decide) (fun _ => ?_) (fun z => absurd rfl z)
  refine Go.wide (k2 := 39 + 220 * k + 220) (n2 := 121234 + 5400 * k + 5400) (by omega) (by omega) ?_
  exact kk _ _ (Inv.next hRC1 hm1 hmr hRM (okZ_share hI.2.2.2 _ _))
set_option maxRecDepth 100000 in
set_option maxHeartbeats 1000000 in
theorem l_kind {X : Kx} {G : Gx} {Q : State → Prop} {nm : String} {b L x y : Nat} {sc : Nat → Int32} (C : Cok X G cL_law 4 RL ret nm room_1) (hS : Scr X G b L sc) {k : Nat} (hk : 6 * k + 6 ≤ L) {S : PS} {Z : ZT} (hI : Inv S Z x y) (kk : ∀ (S' : PS) (Z' : ZT), Inv S' Z' x y → Go X G Q 4 (39 + 220 * k + 220) (121234 + 5400 * k + 5400) S' 1414 [(3, .int (nI (6 * k))), (2, .ref y), (1, .ref x), (0, .ref b)] []) : Go X G Q 4 (39 + 220 * k) (121234 + 5400 * k) S 425 [(3, .int (nI (6 * k))), (2, .ref y), (1, .ref x), (0, .ref b)] [] := by
  have hL := hS.2.2.2
  obtain ⟨c, D, hr⟩ := hI.1
  refine g_aload_n 2 1 C dL_law_425 rfl rfl ?_
  refine g_aload_n 3 0 C dL_law_426 rfl rfl ?_
  refine g_iload_n 0 3 C dL_law_427 rfl rfl ?_
  refine g_iconst (v := nI 1) C dL_law_428 (by decide) ?_
  refine g_iadd C dL_law_429 ?_
  refine g_topi (nI_add _ _ : _ = nI (6 * k + 1)) ?_
  refine g_sld (i := 6 * k + 1) hS (by omega) C dL_law_430 ?_
  refine g_callV (As := [.int (sc (6 * k + 1))]) (rest := []) C dL_law_431 (c_C_kind hr hI.2.2.2) wC_X10_kind wM_L_46 wI_X10_kind wS_X10_kind wN_X10 (kne hr.1.1.1) (pf_10 hr.1.1.1) rfl hd_X10_kind ⟨by decide, by decide, by show 39 + 220 * k + 0 ≤ 600000; omega, by show 121234 + 5400 * k + 0 ≤ 7302250; omega⟩ (Nat.le_of_ble_eq_true rfl) (fun r_ S_ h_ => ?_)
  obtain ⟨rfl, rfl⟩ := h_
  change Go X G _ 4 _ _ S 434 [(3, .int (nI (6 * k))), (2, .ref y), (1, .ref x), (0, .ref b)] [.int (A_kind Z (sc (6 * k + 1)))]
  refine Go.wide (k2 := 39 + 220 * k) (n2 := 121234 + 5400 * k) (Nat.le_refl _) (Nat.le_refl _) ?_
  refine g_aload_n 1 2 C dL_law_434 rfl rfl ?_
  refine g_aload_n 3 0 C dL_law_435 rfl rfl ?_
  refine g_iload_n 0 3 C dL_law_436 rfl rfl ?_
  refine g_iconst (v := nI 1) C dL_law_437 (by decide) ?_
  refine g_iadd C dL_law_438 ?_
  refine g_topi (nI_add _ _ : _ = nI (6 * k + 1)) ?_
  refine g_sld (i := 6 * k + 1) hS (by omega) C dL_law_439 ?_
  refine g_st (S' := mo_ S (mo S)) rfl ?_
  refine g_callV (As := [.int (sc (6 * k + 1))]) (rest := [.int (A_kind Z (sc (6 * k + 1)))]) C dL_law_440 (c_M_kind (S := S) (M := mo S) hI.2.1 hI.2.2.1 hI.2.2.2) wC_X11_kind wM_L_49 wI_X11_kind wS_X11_kind wN_X11 (kne hI.2.1.1) (pf_11 hI.2.1.1) rfl hd_X11_kind ⟨by decide, by decide, by show 39 + 220 * k + 0 ≤ 600000; omega, by show 121234 + 5400 * k + 0 ≤ 7302250; omega⟩ (Nat.le_of_ble_eq_true rfl) (fun r_ S_ h_ => ?_)
  obtain ⟨rfl, rfl⟩ := h_
  change Go X G _ 4 _ _ (mo_ S (mo S)) 443 [(3, .int (nI (6 * k))), (2, .ref y), (1, .ref x), (0, .ref b)] [.int (A_kind Z (sc (6 * k + 1))), .int (A_kind Z (sc (6 * k + 1)))]
  refine Go.wide (k2 := 39 + 220 * k) (n2 := 121234 + 5400 * k) (Nat.le_refl _) (Nat.le_refl _) ?_
  refine g_icmp_eq 1414 C dL_law_443 (by decide) (fun _ => ?_) (fun z => absurd rfl z)
  refine Go.wide (k2 := 39 + 220 * k + 220) (n2 := 121234 + 5400 * k + 5400) (by omega) (by omega) ?_
  exact kk S Z hI
set_option maxRecDepth 100000 in
set_option maxHeartbeats 1000000 in
theorem l_put {X : Kx} {G : Gx} {Q : State → Prop} {nm : String} {b L x y : Nat} {sc : Nat → Int32} (C : Cok X G cL_law 4 RL ret nm room_1) (hS : Scr X G b L sc) {k : Nat} (hk : 6 * k + 6 ≤ L) {S : PS} {Z : ZT} (hI : Inv S Z x y) (kk : ∀ (S' : PS) (Z' : ZT), Inv S' Z' x y → Go X G Q 4 (39 + 220 * k + 220) (121234 + 5400 * k + 5400) S' 1414 [(3, .int (nI (6 * k))), (2, .ref y), (1, .ref x), (0, .ref b)] []) : Go X G Q 4 (39 + 220 * k) (121234 + 5400 * k) S 448 [(3, .int (nI (6 * k))), (2, .ref y), (1, .ref x), (0, .ref b)] [] := by
  have hL := hS.2.2.2
  obtain ⟨c, D, hr⟩ := hI.1
  refine g_aload_n 2 1 C dL_law_448 rfl rfl ?_
  refine g_aload_n 3 0 C dL_law_449 rfl rfl ?_
  refine g_iload_n 0 3 C dL_law_450 rfl rfl ?_
  refine g_iconst (v := nI 1) C dL_law_451 (by decide) ?_
  refine g_iadd C dL_law_452 ?_
  refine g_topi (nI_add _ _ : _ = nI (6 * k + 1)) ?_
  refine g_sld (i := 6 * k + 1) hS (by omega) C dL_law_453 ?_
  refine g_aload_n 3 0 C dL_law_454 rfl rfl ?_
  refine g_iload_n 0 3 C dL_law_455 rfl rfl ?_
  refine g_iconst (v := nI 2) C dL_law_456 (by decide) ?_
  refine g_iadd C dL_law_457 ?_
  refine g_topi (nI_add _ _ : _ = nI (6 * k + 2)) ?_
  refine g_sld (i := 6 * k + 2) hS (by omega) C dL_law_458 ?_
  refine g_i2l C dL_law_459 ?_
  refine g_bipush (v := nI 32) C dL_law_460 (by decide) ?_
  refine g_lshl C dL_law_462 ?_
  refine g_aload_n 3 0 C dL_law_463 rfl rfl ?_
  refine g_iload_n 0 3 C dL_law_464 rfl rfl ?_
  refine g_iconst (v := nI 3) C dL_law_465 (by decide) ?_
  refine g_iadd C dL_law_466 ?_
  refine g_topi (nI_add _ _ : _ = nI (6 * k + 3)) ?_
  refine g_sld (i := 6 * k + 3) hS (by omega) C dL_law_467 ?_
  refine g_i2l C dL_law_468 ?_
  refine g_ldc2 (v := 4294967295) C dL_law_469 wG_L_13 ?_
  refine g_land C dL_law_472 ?_
  refine g_lor C dL_law_473 ?_
  refine g_callV (As := [.int (sc (6 * k + 1)), .long ((((sc (6 * k + 2)).toInt64) <<< ((nI 32).toInt64 &&& 63)) ||| (((sc (6 * k + 3)).toInt64) &&& 4294967295))]) (rest := []) C dL_law_474 (c_C_put hr hI.2.2.2) wC_X10_put wM_L_50 wI_X10_put wS_X10_put wN_X10 (kne hr.1.1.1) (pf_10 hr.1.1.1) rfl hd_X10_put ⟨by decide, by decide, by show 39 + 220 * k + 2 ≤ 600000; omega, by show 121234 + 5400 * k + 25 ≤ 7302250; omega⟩ (Nat.le_of_ble_eq_true rfl) (fun r_ S1 h_ => ?_)
  obtain ⟨rfl, hRC1, hFk⟩ := h_
  change Go X G _ 4 _ _ S1 477 [(3, .int (nI (6 * k))), (2, .ref y), (1, .ref x), (0, .ref b)] [.int (A_put Z (sc (6 * k + 1)))]
  refine Go.wide (k2 := (39 + 220 * k + 2)) (n2 := (121234 + 5400 * k + 25)) (Nat.le_refl _) (Nat.le_refl _) ?_
  have hm1 := hI.2.1.mv hFk
  have hR1 := RM_mv hI.2.2.1 hFk
  refine g_aload_n 1 2 C dL_law_477 rfl rfl ?_
  refine g_aload_n 3 0 C dL_law_478 rfl rfl ?_
  refine g_iload_n 0 3 C dL_law_479 rfl rfl ?_
  refine g_iconst (v := nI 1) C dL_law_480 (by decide) ?_
  refine g_iadd C dL_law_481 ?_
  refine g_topi (nI_add _ _ : _ = nI (6 * k + 1)) ?_
  refine g_sld (i := 6 * k + 1) hS (by omega) C dL_law_482 ?_
  refine g_aload_n 3 0 C dL_law_483 rfl rfl ?_
  refine g_iload_n 0 3 C dL_law_484 rfl rfl ?_
  refine g_iconst (v := nI 2) C dL_law_485 (by decide) ?_
  refine g_iadd C dL_law_486 ?_
  refine g_topi (nI_add _ _ : _ = nI (6 * k + 2)) ?_
  refine g_sld (i := 6 * k + 2) hS (by omega) C dL_law_487 ?_
  refine g_i2l C dL_law_488 ?_
  refine g_bipush (v := nI 32) C dL_law_489 (by decide) ?_
  refine g_lshl C dL_law_491 ?_
  refine g_aload_n 3 0 C dL_law_492 rfl rfl ?_
  refine g_iload_n 0 3 C dL_law_493 rfl rfl ?_
  refine g_iconst (v := nI 3) C dL_law_494 (by decide) ?_
  refine g_iadd C dL_law_495 ?_
  refine g_topi (nI_add _ _ : _ = nI (6 * k + 3)) ?_
  refine g_sld (i := 6 * k + 3) hS (by omega) C dL_law_496 ?_
  refine g_i2l C dL_law_497 ?_
  refine g_ldc2 (v := 4294967295) C dL_law_498 wG_L_13 ?_
  refine g_land C dL_law_501 ?_
  refine g_lor C dL_law_502 ?_
  refine g_st (S' := mo_ S1 (mo S1)) rfl ?_
  refine g_callV (As := [.int (sc (6 * k + 1)), .long ((((sc (6 * k + 2)).toInt64) <<< ((nI 32).toInt64 &&& 63)) ||| (((sc (6 * k + 3)).toInt64) &&& 4294967295))]) (rest := [.int (A_put Z (sc (6 * k + 1)))]) C dL_law_503 (c_M_put (S := S1) (M := mo S1) hm1 hR1 hI.2.2.2) wC_X11_put wM_L_54 wI_X11_put wS_X11_put wN_X11 (kne hm1.1) (pf_11 hm1.1) rfl hd_X11_put ⟨by decide, by decide, by show (39 + 220 * k + 2) + 0 ≤ 600000; omega, by show (121234 + 5400 * k + 25) + 0 ≤ 7302250; omega⟩ (Nat.le_of_ble_eq_true rfl) (fun r_ S_ h_ => ?_)
  obtain ⟨M1, rfl, rfl, hmr, hRM⟩ := h_
  change Go X G _ 4 _ _ (mo_ S1 M1) 506 [(3, .int (nI (6 * k))), (2, .ref y), (1, .ref x), (0, .ref b)] [.int (A_put Z (sc (6 * k + 1))), .int (A_put Z (sc (6 * k + 1)))]
  refine Go.wide (k2 := (39 + 220 * k + 2)) (n2 := (121234 + 5400 * k + 25)) (Nat.le_refl _) (Nat.le_refl _) ?_
  refine g_icmp_eq 1414 C dL_law_506 (by decide) (fun _ => ?_) (fun z => absurd rfl z)
  refine Go.wide (k2 := 39 + 220 * k + 220) (n2 := 121234 + 5400 * k + 5400) (by omega) (by omega) ?_
  exact kk _ _ (Inv.next hRC1 hm1 hmr hRM (okZ_put hI.2.2.2 _ _))
set_option maxRecDepth 100000 in
set_option maxHeartbeats 1000000 in
theorem l_unput {X : Kx} {G : Gx} {Q : State → Prop} {nm : String} {b L x y : Nat} {sc : Nat → Int32} (C : Cok X G cL_law 4 RL ret nm room_1) (hS : Scr X G b L sc) {k : Nat} (hk : 6 * k + 6 ≤ L) {S : PS} {Z : ZT} (hI : Inv S Z x y) (kk : ∀ (S' : PS) (Z' : ZT), Inv S' Z' x y → Go X G Q 4 (39 + 220 * k + 220) (121234 + 5400 * k + 5400) S' 1414 [(3, .int (nI (6 * k))), (2, .ref y), (1, .ref x), (0, .ref b)] []) : Go X G Q 4 (39 + 220 * k) (121234 + 5400 * k) S 511 [(3, .int (nI (6 * k))), (2, .ref y), (1, .ref x), (0, .ref b)] [] := by
  have hL := hS.2.2.2
  obtain ⟨c, D, hr⟩ := hI.1
  refine g_aload_n 2 1 C dL_law_511 rfl rfl ?_
  refine g_aload_n 3 0 C dL_law_512 rfl rfl ?_
  refine g_iload_n 0 3 C dL_law_513 rfl rfl ?_
  refine g_iconst (v := nI 1) C dL_law_514 (by decide) ?_
  refine g_iadd C dL_law_515 ?_
  refine g_topi (nI_add _ _ : _ = nI (6 * k + 1)) ?_
  refine g_sld (i := 6 * k + 1) hS (by omega) C dL_law_516 ?_
  refine g_callV (As := [.int (sc (6 * k + 1))]) (rest := []) C dL_law_517 (c_C_unput hr hI.2.2.2) wC_X10_unput wM_L_55 wI_X10_unput wS_X10_unput wN_X10 (kne hr.1.1.1) (pf_10 hr.1.1.1) rfl hd_X10_unput ⟨by decide, by decide, by show 39 + 220 * k + 2 ≤ 600000; omega, by show 121234 + 5400 * k + 25 ≤ 7302250; omega⟩ (Nat.le_of_ble_eq_true rfl) (fun r_ S1 h_ => ?_)
  obtain ⟨rfl, hRC1, hFk⟩ := h_
  change Go X G _ 4 _ _ S1 520 [(3, .int (nI (6 * k))), (2, .ref y), (1, .ref x), (0, .ref b)] [.int (A_unput Z (sc (6 * k + 1)))]
  refine Go.wide (k2 := (39 + 220 * k + 2)) (n2 := (121234 + 5400 * k + 25)) (Nat.le_refl _) (Nat.le_refl _) ?_
  have hm1 := hI.2.1.mv hFk
  have hR1 := RM_mv hI.2.2.1 hFk
  refine g_aload_n 1 2 C dL_law_520 rfl rfl ?_
  refine g_aload_n 3 0 C dL_law_521 rfl rfl ?_
  refine g_iload_n 0 3 C dL_law_522 rfl rfl ?_
  refine g_iconst (v := nI 1) C dL_law_523 (by decide) ?_
  refine g_iadd C dL_law_524 ?_
  refine g_topi (nI_add _ _ : _ = nI (6 * k + 1)) ?_
  refine g_sld (i := 6 * k + 1) hS (by omega) C dL_law_525 ?_
  refine g_st (S' := mo_ S1 (mo S1)) rfl ?_
  refine g_callV (As := [.int (sc (6 * k + 1))]) (rest := [.int (A_unput Z (sc (6 * k + 1)))]) C dL_law_526 (c_M_unput (S := S1) (M := mo S1) hm1 hR1 hI.2.2.2) wC_X11_unput wM_L_58 wI_X11_unput wS_X11_unput wN_X11 (kne hm1.1) (pf_11 hm1.1) rfl hd_X11_unput ⟨by decide, by decide, by show (39 + 220 * k + 2) + 0 ≤ 600000; omega, by show (121234 + 5400 * k + 25) + 0 ≤ 7302250; omega⟩ (Nat.le_of_ble_eq_true rfl) (fun r_ S_ h_ => ?_)
  obtain ⟨M1, rfl, rfl, hmr, hRM⟩ := h_
  change Go X G _ 4 _ _ (mo_ S1 M1) 529 [(3, .int (nI (6 * k))), (2, .ref y), (1, .ref x), (0, .ref b)] [.int (A_unput Z (sc (6 * k + 1))), .int (A_unput Z (sc (6 * k + 1)))]
  refine Go.wide (k2 := (39 + 220 * k + 2)) (n2 := (121234 + 5400 * k + 25)) (Nat.le_refl _) (Nat.le_refl _) ?_
  refine g_icmp_eq 1414 C dL_law_529 (by decide) (fun _ => ?_) (fun z => absurd rfl z)
  refine Go.wide (k2 := 39 + 220 * k + 220) (n2 := 121234 + 5400 * k + 5400) (by omega) (by omega) ?_
  exact kk _ _ (Inv.next hRC1 hm1 hmr hRM (okZ_unput hI.2.2.2 _))
set_option maxRecDepth 100000 in
set_option maxHeartbeats 1000000 in
theorem l_seal {X : Kx} {G : Gx} {Q : State → Prop} {nm : String} {b L x y : Nat} {sc : Nat → Int32} (C : Cok X G cL_law 4 RL ret nm room_1) (hS : Scr X G b L sc) {k : Nat} (hk : 6 * k + 6 ≤ L) {S : PS} {Z : ZT} (hI : Inv S Z x y) (kk : ∀ (S' : PS) (Z' : ZT), Inv S' Z' x y → Go X G Q 4 (39 + 220 * k + 220) (121234 + 5400 * k + 5400) S' 1414 [(3, .int (nI (6 * k))), (2, .ref y), (1, .ref x), (0, .ref b)] []) : Go X G Q 4 (39 + 220 * k) (121234 + 5400 * k) S 534 [(3, .int (nI (6 * k))), (2, .ref y), (1, .ref x), (0, .ref b)] [] := by
  have hL := hS.2.2.2
  obtain ⟨c, D, hr⟩ := hI.1
  refine g_aload_n 2 1 C dL_law_534 rfl rfl ?_
  refine g_aload_n 3 0 C dL_law_535 rfl rfl ?_
  refine g_iload_n 0 3 C dL_law_536 rfl rfl ?_
  refine g_iconst (v := nI 1) C dL_law_537 (by decide) ?_
  refine g_iadd C dL_law_538 ?_
  refine g_topi (nI_add _ _ : _ = nI (6 * k + 1)) ?_
  refine g_sld (i := 6 * k + 1) hS (by omega) C dL_law_539 ?_
  refine g_aload_n 3 0 C dL_law_540 rfl rfl ?_
  refine g_iload_n 0 3 C dL_law_541 rfl rfl ?_
  refine g_iconst (v := nI 2) C dL_law_542 (by decide) ?_
  refine g_iadd C dL_law_543 ?_
  refine g_topi (nI_add _ _ : _ = nI (6 * k + 2)) ?_
  refine g_sld (i := 6 * k + 2) hS (by omega) C dL_law_544 ?_
  refine g_aload_n 3 0 C dL_law_545 rfl rfl ?_
  refine g_iload_n 0 3 C dL_law_546 rfl rfl ?_
  refine g_iconst (v := nI 3) C dL_law_547 (by decide) ?_
  refine g_iadd C dL_law_548 ?_
  refine g_topi (nI_add _ _ : _ = nI (6 * k + 3)) ?_
  refine g_sld (i := 6 * k + 3) hS (by omega) C dL_law_549 ?_
  refine g_callV (As := [.int (sc (6 * k + 1)), .int (sc (6 * k + 2)), .int (sc (6 * k + 3))]) (rest := []) C dL_law_550 (c_C_seal hr hI.2.2.2) wC_X10_seal wM_L_59 wI_X10_seal wS_X10_seal wN_X10 (kne hr.1.1.1) (pf_10 hr.1.1.1) rfl hd_X10_seal ⟨by decide, by decide, by show 39 + 220 * k + 10 ≤ 600000; omega, by show 121234 + 5400 * k + 2778 ≤ 7302250; omega⟩ (Nat.le_of_ble_eq_true rfl) (fun r_ S1 h_ => ?_)
  obtain ⟨rfl, hRC1, hFk⟩ := h_
  change Go X G _ 4 _ _ S1 553 [(3, .int (nI (6 * k))), (2, .ref y), (1, .ref x), (0, .ref b)] [.int (A_seal Z (sc (6 * k + 1)) (sc (6 * k + 2)) (sc (6 * k + 3)))]
  refine Go.wide (k2 := (39 + 220 * k + 10)) (n2 := (121234 + 5400 * k + 2778)) (Nat.le_refl _) (Nat.le_refl _) ?_
  have hm1 := hI.2.1.mv hFk
  have hR1 := RM_mv hI.2.2.1 hFk
  refine g_aload_n 1 2 C dL_law_553 rfl rfl ?_
  refine g_aload_n 3 0 C dL_law_554 rfl rfl ?_
  refine g_iload_n 0 3 C dL_law_555 rfl rfl ?_
  refine g_iconst (v := nI 1) C dL_law_556 (by decide) ?_
  refine g_iadd C dL_law_557 ?_
  refine g_topi (nI_add _ _ : _ = nI (6 * k + 1)) ?_
  refine g_sld (i := 6 * k + 1) hS (by omega) C dL_law_558 ?_
  refine g_aload_n 3 0 C dL_law_559 rfl rfl ?_
  refine g_iload_n 0 3 C dL_law_560 rfl rfl ?_
  refine g_iconst (v := nI 2) C dL_law_561 (by decide) ?_
  refine g_iadd C dL_law_562 ?_
  refine g_topi (nI_add _ _ : _ = nI (6 * k + 2)) ?_
  refine g_sld (i := 6 * k + 2) hS (by omega) C dL_law_563 ?_
  refine g_aload_n 3 0 C dL_law_564 rfl rfl ?_
  refine g_iload_n 0 3 C dL_law_565 rfl rfl ?_
  refine g_iconst (v := nI 3) C dL_law_566 (by decide) ?_
  refine g_iadd C dL_law_567 ?_
  refine g_topi (nI_add _ _ : _ = nI (6 * k + 3)) ?_
  refine g_sld (i := 6 * k + 3) hS (by omega) C dL_law_568 ?_
  refine g_st (S' := mo_ S1 (mo S1)) rfl ?_
  refine g_callV (As := [.int (sc (6 * k + 1)), .int (sc (6 * k + 2)), .int (sc (6 * k + 3))]) (rest := [.int (A_seal Z (sc (6 * k + 1)) (sc (6 * k + 2)) (sc (6 * k + 3)))]) C dL_law_569 (c_M_seal (S := S1) (M := mo S1) hm1 hR1 hI.2.2.2) wC_X11_seal wM_L_63 wI_X11_seal wS_X11_seal wN_X11 (kne hm1.1) (pf_11 hm1.1) rfl hd_X11_seal ⟨by decide, by decide, by show (39 + 220 * k + 10) + 0 ≤ 600000; omega, by show (121234 + 5400 * k + 2778) + 0 ≤ 7302250; omega⟩ (Nat.le_of_ble_eq_true rfl) (fun r_ S_ h_ => ?_)
  obtain ⟨M1, rfl, rfl, hmr, hRM⟩ := h_
  change Go X G _ 4 _ _ (mo_ S1 M1) 572 [(3, .int (nI (6 * k))), (2, .ref y), (1, .ref x), (0, .ref b)] [.int (A_seal Z (sc (6 * k + 1)) (sc (6 * k + 2)) (sc (6 * k + 3))), .int (A_seal Z (sc (6 * k + 1)) (sc (6 * k + 2)) (sc (6 * k + 3)))]
  refine Go.wide (k2 := (39 + 220 * k + 10)) (n2 := (121234 + 5400 * k + 2778)) (Nat.le_refl _) (Nat.le_refl _) ?_
  refine g_icmp_eq 1414 C dL_law_572 (by decide) (fun _ => ?_) (fun z => absurd rfl z)
  refine Go.wide (k2 := 39 + 220 * k + 220) (n2 := 121234 + 5400 * k + 5400) (by omega) (by omega) ?_
  exact kk _ _ (Inv.next hRC1 hm1 hmr hRM (okZ_seal hI.2.2.2 _ _ _))
set_option maxRecDepth 100000 in
set_option maxHeartbeats 1000000 in
theorem l_unseal {X : Kx} {G : Gx} {Q : State → Prop} {nm : String} {b L x y : Nat} {sc : Nat → Int32} (C : Cok X G cL_law 4 RL ret nm room_1) (hS : Scr X G b L sc) {k : Nat} (hk : 6 * k + 6 ≤ L) {S : PS} {Z : ZT} (hI : Inv S Z x y) (kk : ∀ (S' : PS) (Z' : ZT), Inv S' Z' x y → Go X G Q 4 (39 + 220 * k + 220) (121234 + 5400 * k + 5400) S' 1414 [(3, .int (nI (6 * k))), (2, .ref y), (1, .ref x), (0, .ref b)] []) : Go X G Q 4 (39 + 220 * k) (121234 + 5400 * k) S 577 [(3, .int (nI (6 * k))), (2, .ref y), (1, .ref x), (0, .ref b)] [] := by
  have hL := hS.2.2.2
  obtain ⟨c, D, hr⟩ := hI.1
  refine g_aload_n 2 1 C dL_law_577 rfl rfl ?_
  refine g_aload_n 3 0 C dL_law_578 rfl rfl ?_
  refine g_iload_n 0 3 C dL_law_579 rfl rfl ?_
  refine g_iconst (v := nI 1) C dL_law_580 (by decide) ?_
  refine g_iadd C dL_law_581 ?_
  refine g_topi (nI_add _ _ : _ = nI (6 * k + 1)) ?_
  refine g_sld (i := 6 * k + 1) hS (by omega) C dL_law_582 ?_
  refine g_aload_n 3 0 C dL_law_583 rfl rfl ?_
  refine g_iload_n 0 3 C dL_law_584 rfl rfl ?_
  refine g_iconst (v := nI 2) C dL_law_585 (by decide) ?_
  refine g_iadd C dL_law_586 ?_
  refine g_topi (nI_add _ _ : _ = nI (6 * k + 2)) ?_
  refine g_sld (i := 6 * k + 2) hS (by omega) C dL_law_587 ?_
  refine g_callV (As := [.int (sc (6 * k + 1)), .int (sc (6 * k + 2))]) (rest := []) C dL_law_588 (c_C_unseal hr hI.2.2.2) wC_X10_unseal wM_L_64 wI_X10_unseal wS_X10_unseal wN_X10 (kne hr.1.1.1) (pf_10 hr.1.1.1) rfl hd_X10_unseal ⟨by decide, by decide, by show 39 + 220 * k + 4 ≤ 600000; omega, by show 121234 + 5400 * k + 205 ≤ 7302250; omega⟩ (Nat.le_of_ble_eq_true rfl) (fun r_ S1 h_ => ?_)
  obtain ⟨rfl, hRC1, hFk⟩ := h_
  change Go X G _ 4 _ _ S1 591 [(3, .int (nI (6 * k))), (2, .ref y), (1, .ref x), (0, .ref b)] [.int (A_unseal Z (sc (6 * k + 1)) (sc (6 * k + 2)))]
  refine Go.wide (k2 := (39 + 220 * k + 4)) (n2 := (121234 + 5400 * k + 205)) (Nat.le_refl _) (Nat.le_refl _) ?_
  have hm1 := hI.2.1.mv hFk
  have hR1 := RM_mv hI.2.2.1 hFk
  refine g_aload_n 1 2 C dL_law_591 rfl rfl ?_
  refine g_aload_n 3 0 C dL_law_592 rfl rfl ?_
  refine g_iload_n 0 3 C dL_law_593 rfl rfl ?_
  refine g_iconst (v := nI 1) C dL_law_594 (by decide) ?_
  refine g_iadd C dL_law_595 ?_
  refine g_topi (nI_add _ _ : _ = nI (6 * k + 1)) ?_
  refine g_sld (i := 6 * k + 1) hS (by omega) C dL_law_596 ?_
  refine g_aload_n 3 0 C dL_law_597 rfl rfl ?_
  refine g_iload_n 0 3 C dL_law_598 rfl rfl ?_
  refine g_iconst (v := nI 2) C dL_law_599 (by decide) ?_
  refine g_iadd C dL_law_600 ?_
  refine g_topi (nI_add _ _ : _ = nI (6 * k + 2)) ?_
  refine g_sld (i := 6 * k + 2) hS (by omega) C dL_law_601 ?_
  refine g_st (S' := mo_ S1 (mo S1)) rfl ?_
  refine g_callV (As := [.int (sc (6 * k + 1)), .int (sc (6 * k + 2))]) (rest := [.int (A_unseal Z (sc (6 * k + 1)) (sc (6 * k + 2)))]) C dL_law_602 (c_M_unseal (S := S1) (M := mo S1) hm1 hR1 hI.2.2.2) wC_X11_unseal wM_L_67 wI_X11_unseal wS_X11_unseal wN_X11 (kne hm1.1) (pf_11 hm1.1) rfl hd_X11_unseal ⟨by decide, by decide, by show (39 + 220 * k + 4) + 0 ≤ 600000; omega, by show (121234 + 5400 * k + 205) + 0 ≤ 7302250; omega⟩ (Nat.le_of_ble_eq_true rfl) (fun r_ S_ h_ => ?_)
  obtain ⟨M1, rfl, rfl, hmr, hRM⟩ := h_
  change Go X G _ 4 _ _ (mo_ S1 M1) 605 [(3, .int (nI (6 * k))), (2, .ref y), (1, .ref x), (0, .ref b)] [.int (A_unseal Z (sc (6 * k + 1)) (sc (6 * k + 2))), .int (A_unseal Z (sc (6 * k + 1)) (sc (6 * k + 2)))]
  refine Go.wide (k2 := (39 + 220 * k + 4)) (n2 := (121234 + 5400 * k + 205)) (Nat.le_refl _) (Nat.le_refl _) ?_
  refine g_icmp_eq 1414 C dL_law_605 (by decide) (fun _ => ?_) (fun z => absurd rfl z)
  refine Go.wide (k2 := 39 + 220 * k + 220) (n2 := 121234 + 5400 * k + 5400) (by omega) (by omega) ?_
  exact kk _ _ (Inv.next hRC1 hm1 hmr hRM (okZ_unseal hI.2.2.2 _ _))
set_option maxRecDepth 100000 in
set_option maxHeartbeats 1000000 in
theorem l_merge {X : Kx} {G : Gx} {Q : State → Prop} {nm : String} {b L x y : Nat} {sc : Nat → Int32} (C : Cok X G cL_law 4 RL ret nm room_1) (hS : Scr X G b L sc) {k : Nat} (hk : 6 * k + 6 ≤ L) {S : PS} {Z : ZT} (hI : Inv S Z x y) (kk : ∀ (S' : PS) (Z' : ZT), Inv S' Z' x y → Go X G Q 4 (39 + 220 * k + 220) (121234 + 5400 * k + 5400) S' 1414 [(3, .int (nI (6 * k))), (2, .ref y), (1, .ref x), (0, .ref b)] []) : Go X G Q 4 (39 + 220 * k) (121234 + 5400 * k) S 610 [(3, .int (nI (6 * k))), (2, .ref y), (1, .ref x), (0, .ref b)] [] := by
  have hL := hS.2.2.2
  obtain ⟨c, D, hr⟩ := hI.1
  refine g_aload_n 2 1 C dL_law_610 rfl rfl ?_
  refine g_aload_n 3 0 C dL_law_611 rfl rfl ?_
  refine g_iload_n 0 3 C dL_law_612 rfl rfl ?_
  refine g_iconst (v := nI 1) C dL_law_613 (by decide) ?_
  refine g_iadd C dL_law_614 ?_
  refine g_topi (nI_add _ _ : _ = nI (6 * k + 1)) ?_
  refine g_sld (i := 6 * k + 1) hS (by omega) C dL_law_615 ?_
  refine g_aload_n 3 0 C dL_law_616 rfl rfl ?_
  refine g_iload_n 0 3 C dL_law_617 rfl rfl ?_
  refine g_iconst (v := nI 2) C dL_law_618 (by decide) ?_
  refine g_iadd C dL_law_619 ?_
  refine g_topi (nI_add _ _ : _ = nI (6 * k + 2)) ?_
  refine g_sld (i := 6 * k + 2) hS (by omega) C dL_law_620 ?_
  refine g_aload_n 3 0 C dL_law_621 rfl rfl ?_
  refine g_iload_n 0 3 C dL_law_622 rfl rfl ?_
  refine g_iconst (v := nI 3) C dL_law_623 (by decide) ?_
  refine g_iadd C dL_law_624 ?_
  refine g_topi (nI_add _ _ : _ = nI (6 * k + 3)) ?_
  refine g_sld (i := 6 * k + 3) hS (by omega) C dL_law_625 ?_
  refine g_aload_n 3 0 C dL_law_626 rfl rfl ?_
  refine g_iload_n 0 3 C dL_law_627 rfl rfl ?_
  refine g_iconst (v := nI 4) C dL_law_628 (by decide) ?_
  refine g_iadd C dL_law_629 ?_
  refine g_topi (nI_add _ _ : _ = nI (6 * k + 4)) ?_
  refine g_sld (i := 6 * k + 4) hS (by omega) C dL_law_630 ?_
  refine g_aload_n 3 0 C dL_law_631 rfl rfl ?_
  refine g_iload_n 0 3 C dL_law_632 rfl rfl ?_
  refine g_iconst (v := nI 5) C dL_law_633 (by decide) ?_
  refine g_iadd C dL_law_634 ?_
  refine g_topi (nI_add _ _ : _ = nI (6 * k + 5)) ?_
  refine g_sld (i := 6 * k + 5) hS (by omega) C dL_law_635 ?_
  refine g_callV (As := [.int (sc (6 * k + 1)), .int (sc (6 * k + 2)), .int (sc (6 * k + 3)), .int (sc (6 * k + 4)), .int (sc (6 * k + 5))]) (rest := []) C dL_law_636 (c_C_merge hr hI.2.2.2) wC_X10_merge wM_L_68 wI_X10_merge wS_X10_merge wN_X10 (kne hr.1.1.1) (pf_10 hr.1.1.1) rfl hd_X10_merge ⟨by decide, by decide, by show 39 + 220 * k + 10 ≤ 600000; omega, by show 121234 + 5400 * k + 2778 ≤ 7302250; omega⟩ (Nat.le_of_ble_eq_true rfl) (fun r_ S1 h_ => ?_)
  obtain ⟨rfl, hRC1, hFk⟩ := h_
  change Go X G _ 4 _ _ S1 639 [(3, .int (nI (6 * k))), (2, .ref y), (1, .ref x), (0, .ref b)] [.int (A_merge Z (sc (6 * k + 1)) (sc (6 * k + 2)) (sc (6 * k + 3)) (sc (6 * k + 4)) (sc (6 * k + 5)))]
  refine Go.wide (k2 := (39 + 220 * k + 10)) (n2 := (121234 + 5400 * k + 2778)) (Nat.le_refl _) (Nat.le_refl _) ?_
  have hm1 := hI.2.1.mv hFk
  have hR1 := RM_mv hI.2.2.1 hFk
  refine g_aload_n 1 2 C dL_law_639 rfl rfl ?_
  refine g_aload_n 3 0 C dL_law_640 rfl rfl ?_
  refine g_iload_n 0 3 C dL_law_641 rfl rfl ?_
  refine g_iconst (v := nI 1) C dL_law_642 (by decide) ?_
  refine g_iadd C dL_law_643 ?_
  refine g_topi (nI_add _ _ : _ = nI (6 * k + 1)) ?_
  refine g_sld (i := 6 * k + 1) hS (by omega) C dL_law_644 ?_
  refine g_aload_n 3 0 C dL_law_645 rfl rfl ?_
  refine g_iload_n 0 3 C dL_law_646 rfl rfl ?_
  refine g_iconst (v := nI 2) C dL_law_647 (by decide) ?_
  refine g_iadd C dL_law_648 ?_
  refine g_topi (nI_add _ _ : _ = nI (6 * k + 2)) ?_
  refine g_sld (i := 6 * k + 2) hS (by omega) C dL_law_649 ?_
  refine g_aload_n 3 0 C dL_law_650 rfl rfl ?_
  refine g_iload_n 0 3 C dL_law_651 rfl rfl ?_
  refine g_iconst (v := nI 3) C dL_law_652 (by decide) ?_
  refine g_iadd C dL_law_653 ?_
  refine g_topi (nI_add _ _ : _ = nI (6 * k + 3)) ?_
  refine g_sld (i := 6 * k + 3) hS (by omega) C dL_law_654 ?_
  refine g_aload_n 3 0 C dL_law_655 rfl rfl ?_
  refine g_iload_n 0 3 C dL_law_656 rfl rfl ?_
  refine g_iconst (v := nI 4) C dL_law_657 (by decide) ?_
  refine g_iadd C dL_law_658 ?_
  refine g_topi (nI_add _ _ : _ = nI (6 * k + 4)) ?_
  refine g_sld (i := 6 * k + 4) hS (by omega) C dL_law_659 ?_
  refine g_aload_n 3 0 C dL_law_660 rfl rfl ?_
  refine g_iload_n 0 3 C dL_law_661 rfl rfl ?_
  refine g_iconst (v := nI 5) C dL_law_662 (by decide) ?_
  refine g_iadd C dL_law_663 ?_
  refine g_topi (nI_add _ _ : _ = nI (6 * k + 5)) ?_
  refine g_sld (i := 6 * k + 5) hS (by omega) C dL_law_664 ?_
  refine g_st (S' := mo_ S1 (mo S1)) rfl ?_
  refine g_callV (As := [.int (sc (6 * k + 1)), .int (sc (6 * k + 2)), .int (sc (6 * k + 3)), .int (sc (6 * k + 4)), .int (sc (6 * k + 5))]) (rest := [.int (A_merge Z (sc (6 * k + 1)) (sc (6 * k + 2)) (sc (6 * k + 3)) (sc (6 * k + 4)) (sc (6 * k + 5)))]) C dL_law_665 (c_M_merge (S := S1) (M := mo S1) hm1 hR1 hI.2.2.2) wC_X11_merge wM_L_72 wI_X11_merge wS_X11_merge wN_X11 (kne hm1.1) (pf_11 hm1.1) rfl hd_X11_merge ⟨by decide, by decide, by show (39 + 220 * k + 10) + 0 ≤ 600000; omega, by show (121234 + 5400 * k + 2778) + 0 ≤ 7302250; omega⟩ (Nat.le_of_ble_eq_true rfl) (fun r_ S_ h_ => ?_)
  obtain ⟨M1, rfl, rfl, hmr, hRM⟩ := h_
  change Go X G _ 4 _ _ (mo_ S1 M1) 668 [(3, .int (nI (6 * k))), (2, .ref y), (1, .ref x), (0, .ref b)] [.int (A_merge Z (sc (6 * k + 1)) (sc (6 * k + 2)) (sc (6 * k + 3)) (sc (6 * k + 4)) (sc (6 * k + 5))), .int (A_merge Z (sc (6 * k + 1)) (sc (6 * k + 2)) (sc (6 * k + 3)) (sc (6 * k + 4)) (sc (6 * k + 5)))]
  refine Go.wide (k2 := (39 + 220 * k + 10)) (n2 := (121234 + 5400 * k + 2778)) (Nat.le_refl _) (Nat.le_refl _) ?_
  refine g_icmp_eq 1414 C dL_law_668 (by decide) (fun _ => ?_) (fun z => absurd rfl z)
  refine Go.wide (k2 := 39 + 220 * k + 220) (n2 := 121234 + 5400 * k + 5400) (by omega) (by omega) ?_
  exact kk _ _ (Inv.next hRC1 hm1 hmr hRM (okZ_merge hI.2.2.2 _ _ _ _ _))
