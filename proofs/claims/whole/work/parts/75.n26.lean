/-! a row that is zeros behind its first bits -/
def padB (p : List Nat) (n : Nat) : List Nat := p ++ List.replicate (n - p.length) 0
theorem padB_len {p : List Nat} {n : Nat} (h : p.length ≤ n) : (padB p n).length = n := by
  unfold padB; rw [List.length_append, List.length_replicate]; omega
theorem padB_full (p : List Nat) : padB p p.length = p := by
  unfold padB; rw [Nat.sub_self]; exact List.append_nil _
theorem padB_nil (n : Nat) : padB [] n = List.replicate n 0 := rfl
theorem padB_set {p : List Nat} {n : Nat} (h : p.length < n) : (padB p n).set p.length 1 = padB (p ++ [1]) n := by
  unfold padB
  rw [List.set_append_right _ _ (Nat.le_refl _), Nat.sub_self, show n - p.length = (n - (p ++ [1]).length) + 1 by rw [List.length_append]; show n - p.length = n - (p.length + 1) + 1; omega, List.replicate_succ, List.set_cons_zero, List.append_assoc]
  rfl
theorem padB_zero {p : List Nat} {n : Nat} (h : p.length < n) : padB (p ++ [0]) n = padB p n := by
  unfold padB
  rw [show n - p.length = (n - (p ++ [0]).length) + 1 by rw [List.length_append]; show n - p.length = n - (p.length + 1) + 1; omega, List.replicate_succ, List.append_assoc]
  rfl
theorem padB_pad {p : List Nat} {m n : Nat} (h : p.length ≤ m) (h2 : m ≤ n) : padB (padB p m) n = padB p n := by
  have := padB_len h
  unfold padB at this ⊢
  rw [this, List.append_assoc, List.replicate_append_replicate, show m - p.length + (n - m) = n - p.length by omega]
theorem bit01_app {p q : List Nat} (hp : bit01 p) (hq : bit01 q) : bit01 (p ++ q) := by
  intro i
  rw [getD_app]
  split
  · exact hp _
  · exact hq _
theorem bit01_rep (n v : Nat) (h : v ≤ 1) : bit01 (List.replicate n v) := by
  intro i
  rw [List.getD_eq_getElem?_getD]
  rcases Nat.lt_or_ge i n with z | z
  · rw [List.getElem?_eq_getElem (by rw [List.length_replicate]; exact z), List.getElem_replicate]; exact h
  · rw [List.getElem?_eq_none (by rw [List.length_replicate]; exact z)]; exact Nat.zero_le _
theorem bit01_pad {p : List Nat} {n : Nat} (hp : bit01 p) : bit01 (padB p n) := bit01_app hp (bit01_rep _ _ (by decide))
/-- so many ones and a zero, for each -/
def runB (K : Nat → Nat) : Nat → List Nat
  | 0 => []
  | v + 1 => runB K v ++ (List.replicate (K v) 1 ++ [0])
theorem runB_len (K : Nat → Nat) : ∀ v, (runB K v).length = sumN K v + v := by
  intro v
  induction v with
  | zero => rfl
  | succ v ih =>
    show (runB K v ++ (List.replicate (K v) 1 ++ [0])).length = sumN K v + K v + (v + 1)
    rw [List.length_append, List.length_append, List.length_replicate, ih]
    show _ + (K v + 1) = _
    omega
theorem runB_01 (K : Nat → Nat) : ∀ v, bit01 (runB K v) := by
  intro v
  induction v with
  | zero => intro i; exact Nat.zero_le _
  | succ v ih => exact bit01_app ih (bit01_app (bit01_rep _ _ (Nat.le_refl _)) (bit01_rep 1 0 (by decide)))
theorem runB_flat (K : Nat → Nat) : ∀ v, runB K v = (List.range v).flatMap fun u => List.replicate (K u) 1 ++ [0] := by
  intro v
  induction v with
  | zero => rfl
  | succ v ih => rw [List.range_succ, List.flatMap_append, ← ih]; show _ = _ ++ ((List.replicate (K v) 1 ++ [0]) ++ []); rw [List.append_nil]; rfl
theorem flat_get {α : Type} {β : Type} (g : α → List β) (d : α) : ∀ (L : List α), L.flatMap g = (List.range L.length).flatMap fun u => g (L.getD u d) := by
  intro L
  induction L with
  | nil => rfl
  | cons a L ih =>
    rw [List.length_cons, List.range_succ_eq_map, List.flatMap_cons, List.flatMap_cons, ih, List.flatMap_map]
    rfl
theorem sum_lep {f : Nat → Nat} {a b : Nat} (h : a ≤ b) : sumN f a ≤ sumN f b := by
  obtain ⟨d, rfl⟩ : ∃ d, b = a + d := ⟨b - a, by omega⟩
  rw [sumN_add]; omega
set_option maxRecDepth 100000 in
set_option maxHeartbeats 400000 in
theorem c_B_treeRow {lX : Launch} {G : Gx} {S : PS} {x : Nat} {c : Nat → Nat} (hC : CoC S x c) {n : Nat} {K : Nat → Nat} (hn_ : bi_nodes S = nI n) (h1 : 1 ≤ n) (hN : n ≤ 2401) (hd : ∀ u, u < n → dg_a S u = nI (K u)) (hs : sumN K n + 1 = n) : Ct lX yX1_treeRow cX1_treeRow 5 (Option.some (Jvm.ClassFile.FieldType.object "BitAlmanac$Row")) rm_X1_treeRow G [.ref ((c 7))] S (fun r S' => ∃ q wd ta tb, r = some (.ref q) ∧ Fr S S' No ∧ mu S' = mu S ∧ scr S' = scr S ∧ rowC S' q wd ta tb (runB K n) false false ∧ kd S q = 0 ∧ kd S wd = 0 ∧ kd S ta = 0 ∧ kd S tb = 0) := by
  refine Ct.mk RX1 "treeRow" hy_X1_treeRow (Nat.le_of_ble_eq_true rfl) (fun X hX C => ?_)
  change Go X G _ 5 0 0 S 0 [(0, .ref ((c 7)))] []
  refine gw_Row C dX1_treeRow_0 wK_X1_79 ⟨by decide, by decide⟩ (fun q1 h0_q1 => ?_)
  refine g_dup C dX1_treeRow_3 rfl ?_
  refine g_iconst (v := nI 2) C dX1_treeRow_4 (by decide) ?_
  refine g_aload_n 0 0 C dX1_treeRow_5 rfl rfl ?_
  refine gf_bi_nodes C dX1_treeRow_6 (kup h0_q1 hC.2.2.2.2.1.2) wF_X1_27 ?_
  refine g_topi (hn_) ?_
  refine g_imul C dX1_treeRow_9 ?_
  refine g_topi (pk_mul _ _ : _ = nI (2 * n)) ?_
  refine g_iconst (v := nI 1) C dX1_treeRow_10 (by decide) ?_
  refine g_isub C dX1_treeRow_11 ?_
  refine g_topi (pk_sub (by omega) : _ = nI (2 * n - 1)) ?_
  refine g_callI (As := [.int (nI (2 * n - 1))]) (rest := [.ref q1]) C dX1_treeRow_12 (c_R_init2 (S := nw_Row S q1) (n := (2 * n - 1)) (va_up_self _ _ _) (by omega)) wC_X6_init wM_X1_81 wI_X6_init wN_X6 rfl hd_X6_init.2 ⟨by decide, by decide, by decide, by decide⟩ (Nat.le_of_ble_eq_true rfl) (fun r_ Sl h_ => ?_)
  obtain ⟨wd, ta, tb, rfl, fl, hml, hscl, hll, hn0, hv0, hz0⟩ := h_
  change Go X G _ 5 _ _ Sl 15 [(0, .ref ((c 7)))] [.ref q1]
  have f1 : Fr S (nw_Row S q1) No := (Fr.refl S No).n_Row h0_q1
  have f2 : Fr S Sl No := f1.trans fl (fun b hb e => absurd h0_q1 (e ▸ hb))
  have hw0 : kd S wd = 0 := f1.new hn0
  have ht0 : kd S ta = 0 := f1.new hv0
  have hu0 : kd S tb = 0 := f1.new hz0
  refine Go.wide (k2 := 4) (n2 := 169) (by decide) (by decide) ?_
  refine g_astore_n (lv' := [(1, .ref q1), (0, .ref ((c 7)))]) C dX1_treeRow_15 rfl (by decide) rfl ?_
  refine g_iconst (v := nI 0) C dX1_treeRow_16 (by decide) ?_
  refine g_istore_n (lv' := [(2, .int (nI 0)), (1, .ref q1), (0, .ref ((c 7)))]) C dX1_treeRow_17 rfl (by decide) rfl ?_
  refine g_iconst (v := nI 0) C dX1_treeRow_18 (by decide) ?_
  refine g_istore_n (lv' := [(3, .int (nI 0)), (2, .int (nI 0)), (1, .ref q1), (0, .ref ((c 7)))]) C dX1_treeRow_19 rfl (by decide) rfl ?_
  have lp : ∀ (n_ : Nat) (v : Nat) (S2 : PS) (P : List Nat), n - v < n_ → (v ≤ n ∧ P = runB K v ∧ rowP S2 q1 wd ta tb (padB P (2 * n - 1)) false false ∧ Fr S S2 No ∧ mu S2 = mu S ∧ scr S2 = scr S) → Go X G (Qe X G (fun r S' => ∃ q wd ta tb, r = some (.ref q) ∧ Fr S S' No ∧ mu S' = mu S ∧ scr S' = scr S ∧ rowC S' q wd ta tb (runB K n) false false ∧ kd S q = 0 ∧ kd S wd = 0 ∧ kd S ta = 0 ∧ kd S tb = 0) rm_X1_treeRow.cells rm_X1_treeRow.slots) 5 4 169 S2 20 [(3, .int (nI v)), (2, .int (nI (P.length))), (1, .ref q1), (0, .ref ((c 7)))] [] := by
    intro n_
    induction n_ with
    | zero => intro v S2 P hm_; exact absurd hm_ (Nat.not_lt_zero _)
    | succ n_ ih_ =>
      intro v S2 P hm_ hh
      obtain ⟨j0, eP, hP, fs, hms, hss⟩ := hh
      have ns_ : bi_nodes S2 = nI n := (congrArg (fun q => q.1) hss).trans hn_
      have k7 := fs.kd_ hC.2.2.2.2.1.2
      have hlen : P.length = sumN K v + v := by rw [eP]; exact runB_len K v
      have hmo : sumN K v ≤ sumN K n := sum_lep j0
      refine g_iload_n 0 3 C dX1_treeRow_20 rfl rfl ?_
      refine g_aload_n 3 0 C dX1_treeRow_21 rfl rfl ?_
      refine gf_bi_nodes C dX1_treeRow_22 k7 wF_X1_27 ?_
      refine g_topi (ns_) ?_
      refine g_ncmp_ge 66 (by omega) (by omega) C dX1_treeRow_25 (by decide) (fun c25 => ?_) (fun c25 => ?_)
      · have ev : v = n := by omega
        have eb : padB P (2 * n - 1) = runB K n := by rw [show (2 * n - 1) = P.length by rw [hlen, ev]; omega, padB_full, eP, ev]
        rw [eb] at hP
        refine g_aload_n 2 1 C dX1_treeRow_66 rfl rfl ?_
        refine g_callV (As := []) (rest := []) C dX1_treeRow_67 (c_R_fill hP) wC_X6_fillTables wM_X1_98 wI_X6_fillTables wS_X6_fillTables wN_X6 (kne hP.1.1) (pf_7 hP.1.1) rfl hd_X6_fillTables ⟨by decide, by decide, by decide, by decide⟩ (Nat.le_of_ble_eq_true rfl) (fun r_ S_ h_ => ?_)
        obtain ⟨fa, fb, rfl, rfl, hfa, hfb⟩ := h_
        change Go X G _ 5 _ _ (flS S2 ta tb fa fb) 70 [(3, .int (nI v)), (2, .int (nI (P.length))), (1, .ref q1), (0, .ref ((c 7)))] []
        refine g_aload_n 2 1 C dX1_treeRow_70 rfl rfl ?_
        exact g_aret (r := some q1) C dX1_treeRow_71 (Or.inl ⟨_, rfl⟩) (by decide) (by decide) ⟨q1, wd, ta, tb, rfl, fs.fl (Or.inl ht0) (Or.inl hu0), hms, hss, hP.fl hfa hfb, h0_q1, hw0, ht0, hu0⟩
      · refine g_iconst (v := nI 0) C dX1_treeRow_28 (by decide) ?_
        refine g_istore (lv' := [(4, .int (nI 0)), (3, .int (nI v)), (2, .int (nI (P.length))), (1, .ref q1), (0, .ref ((c 7)))]) C dX1_treeRow_29 (by decide) rfl ?_
        have hmv : sumN K v + K v ≤ sumN K n := sum_lep (f := K) (show v + 1 ≤ n by omega)
        have lp2 : ∀ (n_ : Nat) (e : Nat) (S3 : PS) (P2 : List Nat), K v - e < n_ → (e ≤ K v ∧ P2.length = P.length + e ∧ P2 = P ++ List.replicate e 1 ∧ rowP S3 q1 wd ta tb (padB P2 (2 * n - 1)) false false ∧ Fr S S3 No ∧ mu S3 = mu S ∧ scr S3 = scr S) → Go X G (Qe X G (fun r S' => ∃ q wd ta tb, r = some (.ref q) ∧ Fr S S' No ∧ mu S' = mu S ∧ scr S' = scr S ∧ rowC S' q wd ta tb (runB K n) false false ∧ kd S q = 0 ∧ kd S wd = 0 ∧ kd S ta = 0 ∧ kd S tb = 0) rm_X1_treeRow.cells rm_X1_treeRow.slots) 5 4 169 S3 31 [(4, .int (nI e)), (2, .int (nI (P2.length))), (1, .ref q1), (0, .ref ((c 7))), (3, .int (nI v))] [] := by
          intro n_
          induction n_ with
          | zero => intro e S3 P2 hm_; exact absurd hm_ (Nat.not_lt_zero _)
          | succ n_ ih2_ =>
            intro e S3 P2 hm_ hh2
            obtain ⟨d0, d1, e2, hP2, fs2, hms2, hss2⟩ := hh2
            have dgv : dg_a S3 v = nI (K v) := (congrArg (fun q => q.2.2.2.2.2 v) hss2).trans (hd v (by omega))
            have k7 := fs2.kd_ hC.2.2.2.2.1.2
            have k12 := fs2.kd_ hC.2.2.2.2.2.2.2.2.2.1.2
            have r12 := (fe_bi_degree fs2.2.2).trans hC.2.2.2.2.2.2.2.2.2.1.1
            have h01 : bit01 P2 := by rw [e2, eP]; exact bit01_app (runB_01 K v) (bit01_rep e 1 (Nat.le_refl _))
            refine g_iload 0 C dX1_treeRow_31 rfl ?_
            refine g_aload_n 3 0 C dX1_treeRow_33 rfl rfl ?_
            refine gr_bi_degree C dX1_treeRow_34 k7 wF_X1_24 r12 ?_
            refine g_iload_n 4 3 C dX1_treeRow_37 rfl rfl ?_
            refine ga_dg_a C dX1_treeRow_38 k12 (by omega) ?_
            refine g_topi (dgv) ?_
            refine g_ncmp_ge 57 (by omega) (by omega) C dX1_treeRow_39 (by decide) (fun c39 => ?_) (fun c39 => ?_)
            · have ee : e = K v := by omega
              have eR : P2 ++ [0] = runB K (v + 1) := by rw [e2, ee, List.append_assoc, eP]; rfl
              refine g_iinc (v := nI (P2.length + 1)) (lv' := [(2, .int (nI (P2.length + 1))), (4, .int (nI e)), (1, .ref q1), (0, .ref ((c 7))), (3, .int (nI v))]) 1 C dX1_treeRow_57 rfl (nI_add _ 1) (by decide) rfl ?_
              refine g_iinc (v := nI (v + 1)) (lv' := [(3, .int (nI (v + 1))), (2, .int (nI (P2.length + 1))), (4, .int (nI e)), (1, .ref q1), (0, .ref ((c 7)))]) 4 C dX1_treeRow_60 rfl (nI_add _ 1) (by decide) rfl ?_
              refine g_goto 20 C dX1_treeRow_63 (by decide) ?_
              refine Go.pick (lv' := [(3, .int (nI (v + 1))), (2, .int (nI (P2.length + 1))), (1, .ref q1), (0, .ref ((c 7)))]) [0, 1, 3, 4] rfl ?_
              rw [show nI (P2.length + 1) = nI (P2 ++ [0]).length by rw [List.length_append]; rfl]
              exact ih_ (v + 1) S3 (P2 ++ [0]) (by omega) ⟨by omega, eR, by rw [padB_zero (by omega)]; exact hP2, fs2, hms2, hss2⟩
            · refine g_aload_n 2 1 C dX1_treeRow_42 rfl rfl ?_
              refine g_iload_n 1 2 C dX1_treeRow_43 rfl rfl ?_
              refine g_iconst (v := nI 1) C dX1_treeRow_44 (by decide) ?_
              refine g_callV (As := [.int (nI (P2.length)), .int (nI 1)]) (rest := []) C dX1_treeRow_45 (c_R_write (i := P2.length) (o := true) hP2 (by rw [padB_len (by omega)]; omega)) wC_X6_write wM_X1_94 wI_X6_write wS_X6_write wN_X6 (kne hP2.1.1) (pf_7 hP2.1.1) rfl hd_X6_write ⟨by decide, by decide, by decide, by decide⟩ (Nat.le_of_ble_eq_true rfl) (fun r_ S_ h_ => ?_)
              obtain ⟨f_, v_, rfl, rfl, hf_, hv_⟩ := h_
              change Go X G _ 5 _ _ (wrS S3 q1 wd f_ v_) 48 [(4, .int (nI e)), (2, .int (nI (P2.length))), (1, .ref q1), (0, .ref ((c 7))), (3, .int (nI v))] []
              have hW := hP2.wr (b' := padB (P2 ++ [1]) (2 * n - 1)) (f := f_) (v := v_) (by rw [padB_len (by rw [List.length_append]; show P2.length + 1 ≤ _; omega), padB_len (by omega)]) (bit01_pad (bit01_app h01 (bit01_rep 1 1 (Nat.le_refl _)))) (by rw [← padB_set (by omega)]; exact hf_) (by rw [← padB_set (by omega)]; exact hv_)
              have fW := fs2.wr (a := q1) (wd := wd) (f := f_) (v := v_) (Or.inl h0_q1) (Or.inl hw0)
              refine g_iinc (v := nI (P2.length + 1)) (lv' := [(2, .int (nI (P2.length + 1))), (4, .int (nI e)), (1, .ref q1), (0, .ref ((c 7))), (3, .int (nI v))]) 1 C dX1_treeRow_48 rfl (nI_add _ 1) (by decide) rfl ?_
              refine g_iinc (v := nI (e + 1)) (lv' := [(4, .int (nI (e + 1))), (2, .int (nI (P2.length + 1))), (1, .ref q1), (0, .ref ((c 7))), (3, .int (nI v))]) 1 C dX1_treeRow_51 rfl (nI_add _ 1) (by decide) rfl ?_
              refine g_goto 31 C dX1_treeRow_54 (by decide) ?_
              rw [show nI (P2.length + 1) = nI (P2 ++ [1]).length by rw [List.length_append]; rfl]
              exact ih2_ (e + 1) _ (P2 ++ [1]) (by omega) ⟨by omega, by rw [List.length_append]; show P2.length + 1 = _; omega, by rw [e2, List.append_assoc, show List.replicate (e + 1) 1 = List.replicate e 1 ++ [1] from List.replicate_succ' ..], hW, fW, hms2, hss2⟩
        refine Go.pick (lv' := [(4, .int (nI 0)), (2, .int (nI (P.length))), (1, .ref q1), (0, .ref ((c 7))), (3, .int (nI v))]) [0, 2, 3, 4, 1] rfl ?_
        exact lp2 (K v + 1) 0 S2 P (by omega) ⟨Nat.zero_le _, rfl, (List.append_nil _).symm, hP, fs, hms, hss⟩
  exact lp (n + 1) 0 Sl [] (by omega) ⟨Nat.zero_le _, rfl, hll.1, f2, hml, hscl⟩
