theorem kne {S : PS} {a k : Nat} (h : kd S a = k) (hk : k ≠ 0 := by decide) : kd S a ≠ 0 := by rw [h]; exact hk
section MathRows
variable {X : Kx} {G : Gx} {Q : State → Prop} {nL kc ks : Nat} {S : PS} {pc : Nat} {lv lv' : List (Nat × Value)} {st : List Value} {cc : ByteArray} {own nm : String} {ret : Option FieldType} {R : Room} {index a : Nat} {ref : String}
theorem nI_min {a b : Nat} (ha : a < 2 ^ 31) (hb : b < 2 ^ 31) : (if nI b < nI a then nI b else nI a) = nI (min a b) := by
  by_cases h : b < a
  · rw [if_pos (nI_lt h ha), Nat.min_eq_right (Nat.le_of_lt h)]
  · rw [if_neg (nI_nlt (Nat.not_lt.mp h) hb), Nat.min_eq_left (Nat.not_lt.mp h)]
theorem nI_max {a b : Nat} (ha : a < 2 ^ 31) (hb : b < 2 ^ 31) : (if nI a < nI b then nI b else nI a) = nI (max a b) := by
  by_cases h : a < b
  · rw [if_pos (nI_lt h hb), Nat.max_eq_right (Nat.le_of_lt h)]
  · rw [if_neg (nI_nlt (Nat.not_lt.mp h) ha), Nat.max_eq_left (Nat.not_lt.mp h)]
theorem g_mmin {a b : Nat} (ha : a < 2 ^ 31) (hb : b < 2 ^ 31) (C : Cok X G cc nL own ret nm R) (d : decode cc pc = .ok (.invokestatic index, 3)) (hl : Cond.methodLink own index Lib.Math.min.name ∈ lw_tbl) (hF : 1 ≤ R.frames ∧ 21 ≤ R.locals ∧ kc ≤ R.cells ∧ ks ≤ R.slots) (hw : (st.map fun v => v.category).sum ≤ 8) (k : Go X G Q nL kc ks S (pc + 3) lv (.int (nI (min a b)) :: st)) : Go X G Q nL kc ks S pc lv (.int (nI b) :: .int (nI a) :: st) := by
  intro H locs ls hR hS hl'
  have hR' := C.2.2.2.2.2.2.2.2.2.2
  refine va_mmin C.1 C.2.1 (C.2.2.1.trans hl'.1.symm) C.2.2.2.1 (C.2.2.2.2.1 _ (lg hl rfl)) (C.2.2.2.2.1 _ (lg wZ_J9_min_7cf53 rfl)) (C.2.2.2.2.1 _ (lg wN_J9 rfl)) (C.2.2.2.2.1 _ (lg wC_J9_min_7cf53 rfl)) (by rw [hR']; exact hF.1) (by rw [hR']; omega) (by rw [hR']; exact hF.2.2.1) (by rw [hR']; exact hF.2.2.2) d ?_
  rw [nI_min ha hb]
  exact k H locs ls hR hS hl'
theorem g_mmax {a b : Nat} (ha : a < 2 ^ 31) (hb : b < 2 ^ 31) (C : Cok X G cc nL own ret nm R) (d : decode cc pc = .ok (.invokestatic index, 3)) (hl : Cond.methodLink own index Lib.Math.max.name ∈ lw_tbl) (hF : 1 ≤ R.frames ∧ 21 ≤ R.locals ∧ kc ≤ R.cells ∧ ks ≤ R.slots) (hw : (st.map fun v => v.category).sum ≤ 8) (k : Go X G Q nL kc ks S (pc + 3) lv (.int (nI (max a b)) :: st)) : Go X G Q nL kc ks S pc lv (.int (nI b) :: .int (nI a) :: st) := by
  intro H locs ls hR hS hl'
  have hR' := C.2.2.2.2.2.2.2.2.2.2
  refine va_mmax C.1 C.2.1 (C.2.2.1.trans hl'.1.symm) C.2.2.2.1 (C.2.2.2.2.1 _ (lg hl rfl)) (C.2.2.2.2.1 _ (lg wZ_J9_max_7cf53 rfl)) (C.2.2.2.2.1 _ (lg wN_J9 rfl)) (C.2.2.2.2.1 _ (lg wC_J9_max_7cf53 rfl)) (by rw [hR']; exact hF.1) (by rw [hR']; omega) (by rw [hR']; exact hF.2.2.1) (by rw [hR']; exact hF.2.2.2) d ?_
  rw [nI_max ha hb]
  exact k H locs ls hR hS hl'
end MathRows
/-- the model's object and its rows -/
def MoOk (S : PS) (M : MoT) (x : Nat) : Prop := kd S x = 11 ∧ ∀ j, j < 21 → ∃ q, mo_r M j = some q ∧ kd S q = 30 + j
set_option maxRecDepth 100000 in
set_option maxHeartbeats 4000000 in
theorem c_M_isPlace_in {l : Launch} {G : Gx} {S : PS} {x j : Nat} (hj : j < 10) : Ct l yX11_isPlace cX11_isPlace 2 (Option.some Jvm.ClassFile.FieldType.boolean) rm_X11_isPlace G [.ref x, .int (nI j)] S (fun r S' => r = some (.int 1) ∧ S' = S) := by
  refine Ct.mk RX11 "isPlace" hy_X11_isPlace (Nat.le_of_ble_eq_true rfl) (fun X hX C => ?_)
  change Go X G _ 2 0 0 S 0 [(0, .ref x), (1, .int (nI j))] []
  refine g_iload_n 1 1 C dX11_isPlace_0 rfl rfl ?_
  refine g_nif_lt 14 (by omega) C dX11_isPlace_1 (by decide) ?_
  refine g_iload_n 1 1 C dX11_isPlace_4 rfl rfl ?_
  refine g_bipush (v := nI 10) C dX11_isPlace_5 (by decide) ?_
  refine g_ncmp_ge 14 (by omega) (by omega) C dX11_isPlace_7 (by decide) (fun c7 => ?_) (fun c7 => ?_)
  · omega
  · refine g_iconst (v := nI 1) C dX11_isPlace_10 (by decide) ?_
    refine g_goto 15 C dX11_isPlace_11 (by decide) ?_
    exact g_zret C dX11_isPlace_15 (by decide) (by decide) (Or.inr rfl) (⟨rfl, rfl⟩)
set_option maxRecDepth 100000 in
set_option maxHeartbeats 4000000 in
theorem c_M_isPlace_out {l : Launch} {G : Gx} {S : PS} {x : Nat} {p : Int32} (hp : p < 0 ∨ nI 10 ≤ p) : Ct l yX11_isPlace cX11_isPlace 2 (Option.some Jvm.ClassFile.FieldType.boolean) rm_X11_isPlace G [.ref x, .int p] S (fun r S' => r = some (.int 0) ∧ S' = S) := by
  refine Ct.mk RX11 "isPlace" hy_X11_isPlace (Nat.le_of_ble_eq_true rfl) (fun X hX C => ?_)
  change Go X G _ 2 0 0 S 0 [(0, .ref x), (1, .int p)] []
  refine g_iload_n 1 1 C dX11_isPlace_0 rfl rfl ?_
  refine g_if_lt 14 C dX11_isPlace_1 (by decide) (fun c1 => ?_) (fun c1 => ?_)
  · refine g_iconst (v := nI 0) C dX11_isPlace_14 (by decide) ?_
    exact g_zret C dX11_isPlace_15 (by decide) (by decide) (Or.inl rfl) (⟨rfl, rfl⟩)
  · refine g_iload_n 1 1 C dX11_isPlace_4 rfl rfl ?_
    refine g_bipush (v := nI 10) C dX11_isPlace_5 (by decide) ?_
    refine g_icmp_ge 14 C dX11_isPlace_7 (by decide) (fun c7 => ?_) (fun c7 => ?_)
    · refine g_iconst (v := nI 0) C dX11_isPlace_14 (by decide) ?_
      exact g_zret C dX11_isPlace_15 (by decide) (by decide) (Or.inl rfl) (⟨rfl, rfl⟩)
    · exact absurd hp (fun h => h.elim c1 c7)
