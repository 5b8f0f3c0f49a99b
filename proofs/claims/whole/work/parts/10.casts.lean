section CastRows
variable {X : Kx} {G : Gx} {Q : State → Prop} {nL kc ks : Nat} {S : PS} {pc : Nat} {lv lv' : List (Nat × Value)} {st : List Value} {cc : ByteArray} {own nm : String} {ret : Option FieldType} {R : Room} {index a : Nat} {ref : String}
theorem g_objInit (C : Cok X G cc nL own ret nm R) (d : decode cc pc = .ok (.invokespecial index, 3)) (hl : Cond.methodLink own index ⟨"java/lang/Object", "<init>", "()V"⟩ ∈ lw_tbl) (hF : 1 ≤ R.frames ∧ 20 ≤ R.locals) (hw : (st.map fun v => v.category).sum ≤ 8) (k : Go X G Q nL kc ks S (pc + 3) lv st) : Go X G Q nL kc ks S pc lv (.ref a :: st) := by
  intro H locs ls hR hS hls
  have h8 := lv_room (m := xm X) (pc := pc) (ls := ls) (rest := .ref a :: st) hw
  exact W.objInit C.1 C.2.1 C.2.2.2.1 (C.2.2.2.2.1 _ (lg hl rfl)) (C.2.2.2.2.1 _ (lg wI_java_lang_Object__init_ rfl)) (C.2.2.2.2.1 _ (lg wC_java_lang_Object__init_ rfl)) rfl (hls.1.trans C.2.2.1.symm) rfl d (by rw [C.2.2.2.2.2.2.2.2.2.2]; exact hF.1) (by rw [C.2.2.2.2.2.2.2.2.2.2]; exact Nat.le_trans (Nat.add_le_add_right h8 12) hF.2) (k H locs ls hR hS hls)
theorem g_instN (C : Cok X G cc nL own ret nm R) (d : decode cc pc = .ok (.instanceof index, 3)) (k : Go X G Q nL kc ks S (pc + 3) lv (.int 0 :: st)) : Go X G Q nL kc ks S pc lv (.null :: st) := fun H locs ls hR hS hl => lv_instN C.1 C.2.1 d (k H locs ls hR hS hl)
theorem g_instY {ci : Nat} {fs : List Value} {q : vw_C} (C : Cok X G cc nL own ret nm R) (d : decode cc pc = .ok (.instanceof index, 3)) (hcl : Cond.classLink own index q.1 ∈ lw_tbl) (hk0 : kd S a ≠ 0) (he : pf G S a = .inr (ci, fs)) (hc : vwCl[ci]? = some q) (k : Go X G Q nL kc ks S (pc + 3) lv (.int 1 :: st)) : Go X G Q nL kc ks S pc lv (.ref a :: st) := fun H locs ls hR hS hl => va_instS C.1 C.2.1 C.2.2.2.1 (C.2.2.2.2.1 _ (lg hcl rfl)) (C.2.2.2.2.2.1.1.1 ci q hc).2 (hR.recv C.2.2.2.2.2.1 hk0 he hc) d (k H locs ls hR hS hl)
theorem g_castY {ci : Nat} {fs : List Value} {q : vw_C} (C : Cok X G cc nL own ret nm R) (d : decode cc pc = .ok (.checkcast index, 3)) (hcl : Cond.classLink own index q.1 ∈ lw_tbl) (hk0 : kd S a ≠ 0) (he : pf G S a = .inr (ci, fs)) (hc : vwCl[ci]? = some q) (k : Go X G Q nL kc ks S (pc + 3) lv (.ref a :: st)) : Go X G Q nL kc ks S pc lv (.ref a :: st) := fun H locs ls hR hS hl => va_castS C.1 C.2.1 C.2.2.2.1 (C.2.2.2.2.1 _ (lg hcl rfl)) (C.2.2.2.2.2.1.1.1 ci q hc).2 (hR.recv C.2.2.2.2.2.1 hk0 he hc) d (k H locs ls hR hS hl)
theorem g_instNo {ci : Nat} {fs : List Value} {q : vw_C} {Cn : String} (C : Cok X G cc nL own ret nm R) (d : decode cc pc = .ok (.instanceof index, 3)) (hcl : Cond.classLink own index Cn ∈ lw_tbl) (hn : va_Nc q.1 Cn (xs X)) (hk0 : kd S a ≠ 0) (he : pf G S a = .inr (ci, fs)) (hc : vwCl[ci]? = some q) (k : Go X G Q nL kc ks S (pc + 3) lv (.int 0 :: st)) : Go X G Q nL kc ks S pc lv (.ref a :: st) := fun H locs ls hR hS hl => va_instNo C.1 C.2.1 C.2.2.2.1 (C.2.2.2.2.1 _ (lg hcl rfl)) hn (hR.recv C.2.2.2.2.2.1 hk0 he hc) d (k H locs ls hR hS hl)
/-- a store into the places: a draft, a book or a bare row -/
theorem gs_pl {j v ci : Nat} {fs : List Value} {r : vw_C} (C : Cok X G cc nL own ret nm R) (d : decode cc pc = .ok (.aastore, 1)) (hk : kd S a = 20) (hj : j < 10) (hv0 : kd S v ≠ 0) (hv : pf G S v = .inr (ci, fs)) (hc : vwCl[ci]? = some r) (has : va_As r.1 "BitAlmanac$Thing" (xs X)) (kk : Go X G Q nL kc ks (pl_a_ S (va_up (pl_a S) j (some v))) (pc + 1) lv st) : Go X G Q nL kc ks S pc lv (.ref v :: .int (nI j) :: .ref a :: st) := by
  intro H locs ls hR hS hls
  have ha := (hR.2.2.1 a).mp (by rw [hk]; decide)
  obtain ⟨q0, h0⟩ := va_pl_get (X := []) (f := pf G S) ha
  rw [List.nil_append] at h0
  have h0' := h0
  rw [pf_20 hk] at h0'
  obtain ⟨cell, g1, g2, g3⟩ := hR.recv C.2.2.2.2.2.1 hv0 hv hc
  obtain ⟨kC, hkC, -⟩ := Vm.findClass_spec g3
  obtain ⟨c0, t0, f1, f2, f3⟩ := has
  have hany : va_Any "BitAlmanac$Thing" (xs X) H v := ⟨cell, g1, g2, ⟨kC, hkC⟩, fun comp h => by
    have e1 : c0 = cell.cls := Option.some.inj (f1.symm.trans g3)
    have e2 : t0 = comp := Option.some.inj (f2.symm.trans h)
    rw [← e1, ← e2]; exact f3⟩
  refine va_astqM C.1 C.2.1 C.2.2.2.2.2.1.1 hR.1 hR.2.1 hS q0 4 h0' rfl hany (vp_in_nI hj (by decide)) d (fun H1 locs1 p1 d1 s1 => ?_)
  rw [nI_clamp (Nat.lt_trans hj (by decide))] at p1 d1
  refine kk H1 locs1 ls (hR.put (S' := pl_a_ S (va_up (pl_a S) j (some v))) rfl rfl ?_ ha h0 p1 d1 (Nat.le_trans C.2.2.2.2.2.2.1 s1.1)) s1 hls
  exact pf_upU rfl hk (fun b hb => hR.2.2.2.1 b a (hb.trans hk.symm) (by rw [hb]; rfl)) (fun b => ⟨.inl (G.2.1 4, 10, .inr (.inr (.inr (.inr (va_up (pl_a S) j (some v)))))), rfl⟩) rfl
theorem g_table {x : Nat} {dflt lo hi off : Int} {offs : Array Int} {len : Nat} (tgt : Nat) (C : Cok X G cc nL own ret nm R) (d : decode cc pc = .ok (.tableswitch dflt lo hi offs, len)) (h1 : ¬ (x : Int) < lo) (h2 : ¬ hi < (x : Int)) (hx : x < 2 ^ 31) (ho : offs[((x : Int) - lo).toNat]? = some off) (ht : (pc : Int) + off = (tgt : Int)) (k : Go X G Q nL kc ks S tgt lv st) : Go X G Q nL kc ks S pc lv (.int (nI x) :: st) := fun H locs ls hR hS hl => lv_tableIn C.1 C.2.1 d (by rw [nI_toInt hx]; exact h1) (by rw [nI_toInt hx]; exact h2) (by rw [nI_toInt hx]; exact ho) ht (k H locs ls hR hS hl)
theorem g_tableOut {x : Int32} {dflt lo hi : Int} {offs : Array Int} {len : Nat} (tgt : Nat) (C : Cok X G cc nL own ret nm R) (d : decode cc pc = .ok (.tableswitch dflt lo hi offs, len)) (h : x.toInt < lo ∨ hi < x.toInt) (ht : (pc : Int) + dflt = (tgt : Int)) (k : Go X G Q nL kc ks S tgt lv st) : Go X G Q nL kc ks S pc lv (.int x :: st) := fun H locs ls hR hS hl => lv_tableOut C.1 C.2.1 d h ht (k H locs ls hR hS hl)
/-- a call of Thing.size() -/
theorem g_callT {y : MethodName} {b : ByteArray} {n : Nat} {r : Option FieldType} {R' : Room} {rest : List Value} {Po : Option Value → PS → Prop} {index a ci : Nat} {fs : List Value} {q : vw_C} (C : Cok X G cc nL own ret nm R) (d : decode cc pc = .ok (.invokevirtual index, 3)) (hM : Ct (xl X) y b n r R' G [.ref a] S Po) (hcode : Cond.code y b n r ∈ lw_tbl) (hl : Cond.methodLink own index ⟨"BitAlmanac$Thing", "size", "()I"⟩ ∈ lw_tbl) (hi : Cond.instanceMethod y ∈ lw_tbl) (hsel : Cond.selects q.1 ⟨"BitAlmanac$Thing", "size", "()I"⟩ y ∈ lw_tbl) (hini : Cond.initialized y.cls ∈ lw_tbl) (hk0 : kd S a ≠ 0) (he : pf G S a = .inr (ci, fs)) (hc : vwCl[ci]? = some q) (hF : fitsR R' R n kc ks) (hw : (rest.map fun v => v.category).sum ≤ 8)
    (kk : ∀ (v : Option Value) (S' : PS), Po v S' → Go X G Q nL (kc + R'.cells) (ks + R'.slots) S' (pc + 3) lv (v.toList ++ rest)) : Go X G Q nL kc ks S pc lv (.ref a :: rest) := by
  obtain ⟨c1, c2, c3, c4, c5, c6, c7, c8, c9, c10, c11⟩ := id C
  refine g_run (y := y) (mc := R'.cells) (ms := R'.slots) (a := #[Value.ref a]) (rest := rest) (fun H locs ls hR hS hls => ?_) kk
  have hG : GoodIn lw_g (.code y b n r :: lw_g) := lw_goodIn hcode
  have cw : va_CU (xR X) (xs X) (xa X) own q.1 "BitAlmanac$Thing" index ⟨"BitAlmanac$Thing", "size", "()I"⟩ y b n r (.code y b n r :: lw_g) R' R'.cells R'.slots 0 := by
    refine ⟨⟨rfl, rfl, by rw [c11]; exact hF.1, by rw [c11]; exact hF.2.1, pay_in c5 hG, List.mem_cons_self⟩, c5 _ (lg hcode rfl), c5 _ (lg hini rfl), ⟨by decide, by decide⟩, fun sig h => ?_, c5 _ (lg hl rfl), c5 _ (lg wSM_X8_size rfl), va_Decl.abs c6.2.2.2.2.2.2.2.2, c5 _ (lg hsel rfl), c5 _ (lg hi rfl)⟩
    have h2 : (parseMethodDescriptor "()I").map (fun d => d.parameters.length) = some 0 := by decide +kernel
    rw [h] at h2
    exact (Option.some.inj h2).symm
  exact va_runU (As := []) (rest := rest) (b := a) (n := 0) ⟨c1, c2, c3, c4, c5⟩ hM cw ⟨(ct_pre hR c6).1, hR.recv c6 hk0 he hc, (ct_pre (av := [.ref a]) hR c6).2⟩ rfl rfl hls.1 rfl (lv_room (m := xm X) (pc := pc) (ls := ls) (rest := []) hw) d ⟨by rw [c11]; exact hF.2.2.1, by rw [c11]; exact hF.2.2.2⟩
/-- calls within the nest -/
theorem g_callIN {y : MethodName} {b : ByteArray} {n : Nat} {R' : Room} {As rest : List Value} {Po : Option Value → PS → Prop} {index a : Nat} {host : String} (C : Cok X G cc nL own ret nm R) (d : decode cc pc = .ok (.invokespecial index, 3)) (hM : Ct (xl X) y b n none R' G (.ref a :: As) S Po) (hcode : Cond.code y b n none ∈ lw_tbl) (hl : va_Nw (.methodLinkNest own index y host) (xs X)) (hi : Cond.instanceMethod y ∈ lw_tbl) (hini : Cond.initialized y.cls ∈ lw_tbl) (hy : y.name = "<init>")
    (hd : y.cls ≠ "java/lang/invoke/MethodHandle" ∧ y.cls ≠ "java/lang/invoke/VarHandle" ∧ (parseMethodDescriptor y.desc).map (fun d => d.parameters.length) = some As.length) (hF : fitsR R' R n kc ks) (hw : (rest.map fun v => v.category).sum ≤ 8)
    (kk : ∀ (v : Option Value) (S' : PS), Po v S' → Go X G Q nL (kc + R'.cells) (ks + R'.slots) S' (pc + 3) lv (v.toList ++ rest)) : Go X G Q nL kc ks S pc lv (As.reverse ++ .ref a :: rest) := by
  obtain ⟨c1, c2, c3, c4, c5, c6, c7, c8, c9, c10, c11⟩ := id C
  refine g_run (y := y) (mc := R'.cells) (ms := R'.slots) (a := (Value.ref a :: As).toArray) (rest := rest) (fun H locs ls hR hS hls => ?_) kk
  exact va_runIN (As := As) (rest := rest) (b := a) ⟨c1, c2, c3, c4, c5⟩ hM ⟨va_cnB As.length c5 (lw_goodIn hcode) rfl rfl rfl hl (c5 _ (lg hini rfl)) hd ⟨by rw [c11]; exact hF.1, by rw [c11]; exact hF.2.1⟩, hy, c5 _ (lg hi rfl)⟩ (ct_pre hR c6) rfl rfl hls.1 rfl (lv_room (m := xm X) (pc := pc) (ls := ls) (rest := []) hw) d ⟨by rw [c11]; exact hF.2.2.1, by rw [c11]; exact hF.2.2.2⟩
theorem g_callSN {y : MethodName} {b : ByteArray} {n : Nat} {r : Option FieldType} {R' : Room} {As rest : List Value} {Po : Option Value → PS → Prop} {index : Nat} {host : String} (C : Cok X G cc nL own ret nm R) (d : decode cc pc = .ok (.invokestatic index, 3)) (hM : Ct (xl X) y b n r R' G As S Po) (hcode : Cond.code y b n r ∈ lw_tbl) (hl : va_Nw (.methodLinkNest own index y host) (xs X)) (hi : Cond.static y ∈ lw_tbl) (hini : Cond.initialized y.cls ∈ lw_tbl)
    (hd : y.cls ≠ "java/lang/invoke/MethodHandle" ∧ y.cls ≠ "java/lang/invoke/VarHandle" ∧ (parseMethodDescriptor y.desc).map (fun d => d.parameters.length) = some As.length) (hF : fitsR R' R n kc ks) (hw : (rest.map fun v => v.category).sum ≤ 8)
    (kk : ∀ (v : Option Value) (S' : PS), Po v S' → Go X G Q nL (kc + R'.cells) (ks + R'.slots) S' (pc + 3) lv (v.toList ++ rest)) : Go X G Q nL kc ks S pc lv (As.reverse ++ rest) := by
  obtain ⟨c1, c2, c3, c4, c5, c6, c7, c8, c9, c10, c11⟩ := id C
  refine g_run (y := y) (mc := R'.cells) (ms := R'.slots) (a := As.toArray) (rest := rest) (fun H locs ls hR hS hls => ?_) kk
  exact va_runSN (As := As) (rest := rest) ⟨c1, c2, c3, c4, c5⟩ hM ⟨va_cnB As.length c5 (lw_goodIn hcode) rfl rfl rfl hl (c5 _ (lg hini rfl)) hd ⟨by rw [c11]; exact hF.1, by rw [c11]; exact hF.2.1⟩, c5 _ (lg hi rfl), trivial⟩ (ct_pre hR c6) rfl rfl hls.1 rfl (lv_room (m := xm X) (pc := pc) (ls := ls) (rest := []) hw) d ⟨by rw [c11]; exact hF.2.2.1, by rw [c11]; exact hF.2.2.2⟩
end CastRows
