def lbF (l : List Ent) (ns : List Nd) (fo : Bool) (v : Nat) : Nat := if 0 < v ∧ ¬ (fo = true ∧ again l ns v = true) then (ns.getD v (0, 0, 0, 0)).2.2.1 - (ns.getD v (0, 0, 0, 0)).2.2.2 else 0
theorem lbF_le {l : List Ent} (hl : okL l) {ns : List Nd} (hok : ∀ u, u < ns.length → okNd l (ns.getD u (0, 0, 0, 0))) {fo : Bool} : ∀ v, v ≤ ns.length → sumN (lbF l ns fo) v ≤ 24 * v := by
  intro v
  induction v with
  | zero => intro _; exact Nat.le_refl _
  | succ v ih =>
    intro hv
    have h1 := ih (by omega)
    have h2 := hok v (by omega)
    have h3 : (nm l (ns.getD v (0, 0, 0, 0)).1).length ≤ 24 := (hl.2.1 _ (by have := h2.1; have := h2.2.1; omega)).2.1
    have h4 := h2.2.2.1
    show sumN _ v + lbF l ns fo v ≤ _
    have h5 : lbF l ns fo v ≤ 24 := by
      unfold lbF
      split <;> omega
    omega
set_option maxRecDepth 100000 in
set_option maxHeartbeats 400000 in
theorem c_B_bytes {lX : Launch} {G : Gx} {S : PS} {x : Nat} {c : Nat → Nat} (hC : CoC S x c) {a nr va room : Nat} {l : List Ent} (hL : listC S a nr va room l) (hl : okL l) {ns : List Nd} (hnd : ndF (fi_a S) (de_a S) (st_a S) ns) (hN : ns.length ≤ 2401) (hok : ∀ u, u < ns.length → okNd l (ns.getD u (0, 0, 0, 0))) (hn_ : bi_nodes S = nI ns.length) (h1_ : 1 ≤ ns.length) {fo : Bool} : Ct lX yX1_stringBytes cX1_stringBytes 5 (Option.some Jvm.ClassFile.FieldType.int) rm_X1_stringBytes G [.ref ((c 7)), .ref a, .int (bI fo)] S (fun r S' => r = some (.int (nI (sumN (lbF l ns fo) ns.length))) ∧ S = S') := by
  have hL' := hL
  obtain ⟨⟨k_a, ra_a, rb_a⟩, ⟨kn_a, ln_a⟩, ⟨kv_a, lv_a⟩, sz_a, le_a, rm_a, en_a⟩ := hL
  refine Ct.mk RX1 "stringBytes" hy_X1_stringBytes (Nat.le_of_ble_eq_true rfl) (fun X hX C => ?_)
  change Go X G _ 5 0 0 S 0 [(0, .ref ((c 7))), (1, .ref a), (2, .int (bI fo))] []
  refine g_iconst (v := nI 0) C dX1_stringBytes_0 (by decide) ?_
  refine g_istore_n (lv' := [(3, .int (nI 0)), (0, .ref ((c 7))), (1, .ref a), (2, .int (bI fo))]) C dX1_stringBytes_1 rfl (by decide) rfl ?_
  refine g_iconst (v := nI 1) C dX1_stringBytes_2 (by decide) ?_
  refine g_istore (lv' := [(4, .int (nI 1)), (3, .int (nI 0)), (0, .ref ((c 7))), (1, .ref a), (2, .int (bI fo))]) C dX1_stringBytes_3 (by decide) rfl ?_
  have lp : ∀ (n_ : Nat) (v : Nat), ns.length - v < n_ → (0 < v ∧ v ≤ ns.length) → Go X G (Qe X G (fun r S' => r = some (.int (nI (sumN (lbF l ns fo) ns.length))) ∧ S = S') rm_X1_stringBytes.cells rm_X1_stringBytes.slots) 5 0 0 S 5 [(4, .int (nI v)), (3, .int (nI (sumN (lbF l ns fo) v))), (0, .ref ((c 7))), (1, .ref a), (2, .int (bI fo))] [] := by
    intro n_
    induction n_ with
    | zero => intro v hm_; exact absurd hm_ (Nat.not_lt_zero _)
    | succ n_ ih_ =>
      intro v hm_ hh
      obtain ⟨i0, i1⟩ := hh
      refine g_iload 0 C dX1_stringBytes_5 rfl ?_
      refine g_aload_n 2 0 C dX1_stringBytes_7 rfl rfl ?_
      refine gf_bi_nodes C dX1_stringBytes_8 hC.2.2.2.2.1.2 wF_X1_27 ?_
      refine g_topi (hn_) ?_
      refine g_ncmp_ge 52 (by omega) (by omega) C dX1_stringBytes_11 (by decide) (fun c11 => ?_) (fun c11 => ?_)
      · have ev : v = ns.length := by omega
        refine g_iload_n 1 3 C dX1_stringBytes_52 rfl rfl ?_
        exact g_iret C dX1_stringBytes_53 (by decide) (by decide) (⟨by rw [ev], rfl⟩)
      · have hvv := hnd v c11
        have hs24 := lbF_le hl hok (fo := fo) v i1
        have ov := hok v c11
        have o4 := ov.2.2.2.2
        have o3 := ov.2.2.1
        have o5 : (nm l (ns.getD v (0, 0, 0, 0)).1).length ≤ 24 := (hl.2.1 _ (by have := ov.1; have := ov.2.1; omega)).2.1
        refine g_iload_n 4 2 C dX1_stringBytes_14 rfl rfl ?_
        refine g_if_eq 28 C dX1_stringBytes_15 (by decide) (fun c15 => ?_) (fun c15 => ?_)
        · have hf : lbF l ns fo v = (ns.getD v (0, 0, 0, 0)).2.2.1 - (ns.getD v (0, 0, 0, 0)).2.2.2 := by unfold lbF; rw [if_pos ⟨i0, by rintro ⟨z1, z2⟩; rw [bI_f c15] at z1; cases z1⟩]
          refine g_iload_n 1 3 C dX1_stringBytes_28 rfl rfl ?_
          refine g_aload_n 2 0 C dX1_stringBytes_29 rfl rfl ?_
          refine gr_bi_depth C dX1_stringBytes_30 hC.2.2.2.2.1.2 wF_X1_18 hC.2.2.2.2.2.2.2.1.1 ?_
          refine g_iload 0 C dX1_stringBytes_33 rfl ?_
          refine ga_de_a C dX1_stringBytes_35 hC.2.2.2.2.2.2.2.1.2 (by omega) ?_
          refine g_topi (hvv.2.1) ?_
          refine g_aload_n 2 0 C dX1_stringBytes_36 rfl rfl ?_
          refine gr_bi_stem C dX1_stringBytes_37 hC.2.2.2.2.1.2 wF_X1_21 hC.2.2.2.2.2.2.2.2.1.1 ?_
          refine g_iload 0 C dX1_stringBytes_40 rfl ?_
          refine ga_st_a C dX1_stringBytes_42 hC.2.2.2.2.2.2.2.2.1.2 (by omega) ?_
          refine g_topi (hvv.2.2) ?_
          refine g_isub C dX1_stringBytes_43 ?_
          refine g_topi (pk_sub (by omega) : _ = nI ((ns.getD v (0, 0, 0, 0)).2.2.1 - ((ns.getD v (0, 0, 0, 0)).2.2.2))) ?_
          refine g_iadd C dX1_stringBytes_44 ?_
          refine g_topi (nI_add _ _ : _ = nI (sumN (lbF l ns fo) v + ((ns.getD v (0, 0, 0, 0)).2.2.1 - ((ns.getD v (0, 0, 0, 0)).2.2.2)))) ?_
          refine g_istore_n (lv' := [(3, .int (nI (sumN (lbF l ns fo) v + ((ns.getD v (0, 0, 0, 0)).2.2.1 - ((ns.getD v (0, 0, 0, 0)).2.2.2))))), (4, .int (nI v)), (0, .ref ((c 7))), (1, .ref a), (2, .int (bI fo))]) C dX1_stringBytes_45 rfl (by decide) rfl ?_
          refine g_iinc (v := nI (v + 1)) (lv' := [(4, .int (nI (v + 1))), (3, .int (nI (sumN (lbF l ns fo) v + ((ns.getD v (0, 0, 0, 0)).2.2.1 - ((ns.getD v (0, 0, 0, 0)).2.2.2))))), (0, .ref ((c 7))), (1, .ref a), (2, .int (bI fo))]) 1 C dX1_stringBytes_46 rfl (nI_add _ 1) (by decide) rfl ?_
          refine g_goto 5 C dX1_stringBytes_49 (by decide) ?_
          rw [show sumN (lbF l ns fo) v + ((ns.getD v (0, 0, 0, 0)).2.2.1 - (ns.getD v (0, 0, 0, 0)).2.2.2) = sumN (lbF l ns fo) (v + 1) by show _ = _ + lbF l ns fo v; rw [hf]]
          exact ih_ (v + 1) (by omega) ⟨by omega, by omega⟩
        · refine g_aload_n 2 0 C dX1_stringBytes_18 rfl rfl ?_
          refine g_aload_n 3 1 C dX1_stringBytes_19 rfl rfl ?_
          refine g_iload 0 C dX1_stringBytes_20 rfl ?_
          refine g_callV (As := [.ref a, .int (nI v)]) (rest := []) C dX1_stringBytes_22 (c_B_before hC hL' hl hnd hN hok i0 c11) wC_X1_isStringBefore wM_X1_129 wI_X1_isStringBefore wS_X1_isStringBefore wN_X1 (kne hC.2.2.2.2.1.2) (pf_2 hC.2.2.2.2.1.2) rfl hd_X1_isStringBefore ⟨by decide, by decide, by decide, by decide⟩ (Nat.le_of_ble_eq_true rfl) (fun r_ S_ h_ => ?_)
          obtain ⟨rfl, rfl⟩ := h_
          change Go X G _ 5 _ _ S 25 [(4, .int (nI v)), (3, .int (nI (sumN (lbF l ns fo) v))), (0, .ref ((c 7))), (1, .ref a), (2, .int (bI fo))] [.int (bI (again l ns v))]
          refine g_if_ne 46 C dX1_stringBytes_25 (by decide) (fun c25 => ?_) (fun c25 => ?_)
          · have hf : lbF l ns fo v = 0 := by unfold lbF; rw [if_neg (by rintro ⟨z0, z1⟩; exact z1 ⟨bI_t c15, bI_t c25⟩)]
            refine g_iinc (v := nI (v + 1)) (lv' := [(4, .int (nI (v + 1))), (3, .int (nI (sumN (lbF l ns fo) v))), (0, .ref ((c 7))), (1, .ref a), (2, .int (bI fo))]) 0 C dX1_stringBytes_46 rfl (nI_add _ 1) (by decide) rfl ?_
            refine g_goto 5 C dX1_stringBytes_49 (by decide) ?_
            rw [show sumN (lbF l ns fo) v = sumN (lbF l ns fo) (v + 1) by show _ = _ + lbF l ns fo v; rw [hf]; rfl]
            exact ih_ (v + 1) (by omega) ⟨by omega, by omega⟩
          · have hf : lbF l ns fo v = (ns.getD v (0, 0, 0, 0)).2.2.1 - (ns.getD v (0, 0, 0, 0)).2.2.2 := by unfold lbF; rw [if_pos ⟨i0, by rintro ⟨z1, z2⟩; rw [bI_f c25] at z2; cases z2⟩]
            refine g_iload_n 1 3 C dX1_stringBytes_28 rfl rfl ?_
            refine g_aload_n 2 0 C dX1_stringBytes_29 rfl rfl ?_
            refine gr_bi_depth C dX1_stringBytes_30 hC.2.2.2.2.1.2 wF_X1_18 hC.2.2.2.2.2.2.2.1.1 ?_
            refine g_iload 0 C dX1_stringBytes_33 rfl ?_
            refine ga_de_a C dX1_stringBytes_35 hC.2.2.2.2.2.2.2.1.2 (by omega) ?_
            refine g_topi (hvv.2.1) ?_
            refine g_aload_n 2 0 C dX1_stringBytes_36 rfl rfl ?_
            refine gr_bi_stem C dX1_stringBytes_37 hC.2.2.2.2.1.2 wF_X1_21 hC.2.2.2.2.2.2.2.2.1.1 ?_
            refine g_iload 0 C dX1_stringBytes_40 rfl ?_
            refine ga_st_a C dX1_stringBytes_42 hC.2.2.2.2.2.2.2.2.1.2 (by omega) ?_
            refine g_topi (hvv.2.2) ?_
            refine g_isub C dX1_stringBytes_43 ?_
            refine g_topi (pk_sub (by omega) : _ = nI ((ns.getD v (0, 0, 0, 0)).2.2.1 - ((ns.getD v (0, 0, 0, 0)).2.2.2))) ?_
            refine g_iadd C dX1_stringBytes_44 ?_
            refine g_topi (nI_add _ _ : _ = nI (sumN (lbF l ns fo) v + ((ns.getD v (0, 0, 0, 0)).2.2.1 - ((ns.getD v (0, 0, 0, 0)).2.2.2)))) ?_
            refine g_istore_n (lv' := [(3, .int (nI (sumN (lbF l ns fo) v + ((ns.getD v (0, 0, 0, 0)).2.2.1 - ((ns.getD v (0, 0, 0, 0)).2.2.2))))), (4, .int (nI v)), (0, .ref ((c 7))), (1, .ref a), (2, .int (bI fo))]) C dX1_stringBytes_45 rfl (by decide) rfl ?_
            refine g_iinc (v := nI (v + 1)) (lv' := [(4, .int (nI (v + 1))), (3, .int (nI (sumN (lbF l ns fo) v + ((ns.getD v (0, 0, 0, 0)).2.2.1 - ((ns.getD v (0, 0, 0, 0)).2.2.2))))), (0, .ref ((c 7))), (1, .ref a), (2, .int (bI fo))]) 1 C dX1_stringBytes_46 rfl (nI_add _ 1) (by decide) rfl ?_
            refine g_goto 5 C dX1_stringBytes_49 (by decide) ?_
            rw [show sumN (lbF l ns fo) v + ((ns.getD v (0, 0, 0, 0)).2.2.1 - (ns.getD v (0, 0, 0, 0)).2.2.2) = sumN (lbF l ns fo) (v + 1) by show _ = _ + lbF l ns fo v; rw [hf]]
            exact ih_ (v + 1) (by omega) ⟨by omega, by omega⟩
  rw [show (0 : Nat) = sumN (lbF l ns fo) 1 by show _ = 0 + lbF l ns fo 0; unfold lbF; rw [if_neg (by rintro ⟨z, -⟩; exact absurd z (Nat.lt_irrefl _))]]
  exact lp (ns.length + 1) 1 (by omega) ⟨by omega, by omega⟩
