abbrev Kx : Type := Program × Launch × Env × Room × State × MethodId × Array Value × List Frame × Method × Code
abbrev xp (X : Kx) : Program := X.1
abbrev xl (X : Kx) : Launch := X.2.1
abbrev xe (X : Kx) : Env := X.2.2.1
abbrev xR (X : Kx) : Room := X.2.2.2.1
abbrev xs (X : Kx) : State := X.2.2.2.2.1
abbrev xm (X : Kx) : MethodId := X.2.2.2.2.2.1
abbrev xa (X : Kx) : Array Value := X.2.2.2.2.2.2.1
abbrev xb (X : Kx) : List Frame := X.2.2.2.2.2.2.2.1
abbrev xh (X : Kx) : Method := X.2.2.2.2.2.2.2.2.1
abbrev xc (X : Kx) : Code := X.2.2.2.2.2.2.2.2.2
/-- what the Statement says of casts that fail -/
def Nc (U : State) : Prop := va_Nc RX2 RX3 U ∧ va_Nc RX0 RX3 U ∧ va_Nc RX3 RX2 U ∧ va_Nc RX0 RX2 U ∧ va_Nc RX3 RX0 U ∧ va_Nc RX2 RX0 U
theorem Nc.moved {u U : State} (h : u.vm.Alike U.vm) (q : Nc u) : Nc U := ⟨q.1.moved h, q.2.1.moved h, q.2.2.1.moved h, q.2.2.2.1.moved h, q.2.2.2.2.1.moved h, q.2.2.2.2.2.moved h⟩
/-- casts that go through -/
def va_As (C T : String) (U : State) : Prop := ∃ c t : ClassId, U.vm.findClass C = some c ∧ U.vm.findClass T = some t ∧ U.vm.assignable c t = true
theorem va_As.moved {C T : String} {u U : State} (hvm : u.vm.Alike U.vm) (h : va_As C T u) : va_As C T U := by
  obtain ⟨c, t, h1, h2, h3⟩ := h
  exact ⟨c, t, by rw [hvm.findClass]; exact h1, by rw [hvm.findClass]; exact h2, by rw [hvm.assignable]; exact h3⟩
/-- words that aren't carried by the list: arrays over classes, casts, links within the nest -/
def Kn (U : State) : Prop := (va_AO "BitAlmanac$Name" U ∧ va_AO "BitAlmanac$Thing" U) ∧ (va_As RX0 "BitAlmanac$Thing" U ∧ va_As RX2 "BitAlmanac$Thing" U ∧ va_As RX3 "BitAlmanac$Thing" U) ∧ va_Nw (.methodLinkNest RX10 17 yX7_init RX10) U ∧ va_Nw (.methodLinkNest RX10 24 yX9_init RX10) U ∧ va_Nw (.methodLinkNest RX10 34 yX1_init RX10) U ∧ va_Nw (.methodLinkNest RX1 31 yX10_isBookKind RX10) U ∧ va_Nw (.declares ⟨"BitAlmanac$Thing", "size", "()I"⟩) U
def Ks (G : Gx) (U : State) : Prop := va_K G.1 vwCl (tyz G) U ∧ Nc U ∧ Kn U
theorem Ks.warm {G : Gx} {u U : State} (h : u.WarmedH U.vm) (q : Ks G u) : Ks G U := ⟨va_K.moved h.alike q.1, q.2.1.moved h.alike, ⟨q.2.2.1.1.moved h.alike, q.2.2.1.2.moved h.alike⟩, ⟨q.2.2.2.1.1.moved h.alike, q.2.2.2.1.2.1.moved h.alike, q.2.2.2.1.2.2.moved h.alike⟩, q.2.2.2.2.1.warmM h, q.2.2.2.2.2.1.warmM h, q.2.2.2.2.2.2.1.warmM h, q.2.2.2.2.2.2.2.1.warmM h, q.2.2.2.2.2.2.2.2.warmD h⟩
theorem Ks.same {G : Gx} {u U : State} (h : u.vm = U.vm) (q : Ks G u) : Ks G U := q.warm (by rw [← h]; exact State.WarmedH.refl u)
def lw_g : List Cond := lw_tbl.filter goodWord
theorem lg {w : Cond} (h : w ∈ lw_tbl) (hg : goodWord w = true) : w ∈ lw_g := List.mem_filter.mpr ⟨h, hg⟩
theorem lg_u {Cn : String} {T : u_T} {N : Nat} (h : ∀ w ∈ u_ws Cn T N, w ∈ lw_tbl) : ∀ w ∈ u_ws Cn T N, w ∈ lw_g := by
  intro w hw
  refine lg (h w hw) ?_
  obtain ⟨k, -, rfl⟩ := List.mem_map.mp hw
  unfold u_lay
  split <;> rfl
/-- the context of a method's walk -/
def Cok (X : Kx) (G : Gx) (cc : ByteArray) (nL : Nat) (own : String) (ret : Option FieldType) (nm : String) (R : Room) : Prop :=
  (xp X).tables.exec = Jvm.exec ∧ (xc X).code = cc ∧ (xc X).maxLocals = nL ∧ (xs X).vm.findClass own = some (xm X).cls ∧ (∀ w ∈ lw_g, w.before (xa X) (xs X) = true) ∧ Ks G (xs X) ∧ G.2.2 ≤ (xs X).heap.size ∧ (xh X).sig.returnType = ret ∧ (xh X).locks = false ∧ (xh X).name = nm ∧ xR X = R
/-- the walk, over the pure state -/
def Go (X : Kx) (G : Gx) (Q : State → Prop) (nL kc ks : Nat) (S : PS) (pc : Nat) (lv : List (Nat × Value)) (st : List Value) : Prop :=
  ∀ (H : Heap) (locs : List Loc) (ls : Array Slot), Rep G S H → va_S (Ab G) (xs X).heap H locs → lv_has ls nL lv → W (xp X) (xl X) (xe X) (xR X) (xs X) (xm X) (xa X) (xb X) (xh X) (xc X) H locs kc ks Q (F0 (xm X) pc ls st)
/-- a method's end -/
def Qp (G : Gx) (Po : Option Value → PS → Prop) : Array Value → State → Outcome → State → Prop := fun _ st oc t => (∃ (r : Option Value) (S' : PS), oc = .returned r ∧ Po r S' ∧ Rep G S' t.heap) ∧ va_F (Ab G) st t
def Qe (X : Kx) (G : Gx) (Po : Option Value → PS → Prop) (mc ms : Nat) : State → Prop := MQ (xb X) (Qp G Po) (xa X) (xs X) mc ms (Ab G)
/-- a method's contract: from the pure state S with these arguments it returns, and Po holds of its answer and the pure state behind it -/
def Ct (l : Launch) (y : MethodName) (b : ByteArray) (n : Nat) (r : Option FieldType) (R : Room) (G : Gx) (av : List Value) (S : PS) (Po : Option Value → PS → Prop) : Prop :=
  Met l y (.code y b n r :: lw_g) R (va_Pc av (fun U => Rep G S U.heap ∧ Ks G U)) (Qp G Po) R.cells R.slots (Ab G)
theorem Rep.ge {G : Gx} {S : PS} {H : Heap} (h : Rep G S H) : G.2.2 ≤ H.size := h.2.2.2.2
theorem Ct.mk {l : Launch} {y : MethodName} {b : ByteArray} {n : Nat} {r : Option FieldType} {R : Room} {G : Gx} {av : List Value} {S : PS} {Po : Option Value → PS → Prop} (own nm : String) (hy : plainName y.cls = true ∧ y.cls = own ∧ y.name = nm) (hav : (lg_sl av).length ≤ n)
    (body : ∀ X : Kx, xl X = l → Cok X G b n own r nm R → Go X G (Qe X G Po R.cells R.slots) n 0 0 S 0 (lv_args 0 av) []) : Ct l y b n r R G av S Po := by
  obtain ⟨hy1, rfl, rfl⟩ := hy
  refine Met.ofW (cc := b) (maxL := n) (ret := r) hy1 rfl ?_
  intro p e s m args below meth c s₁ B hml hv
  obtain ⟨rfl, hR, hK⟩ := hv
  have hts := atoms_spec (ws := .code y b n r :: lw_g) B.pre
  have hown : s.vm.findClass y.cls = some m.cls := findClass_of_methodNamed B.named
  have hnm : meth.name = y.name := (name_of_methodNamed B.named B.method).1
  have hl := lv_entry av (n := n) hav
  rw [lg_entry_eq]
  exact body (p, l, e, R, s, m, av.toArray, below, meth, c) rfl ⟨B.exec, B.bytes, hml, hown, fun w h => hts w (List.mem_cons_of_mem _ h), hK, hR.ge, B.returns, B.notSynchronized, hnm, rfl⟩ s.heap [] _ hR va_S.rf hl
theorem Ct.mono {l : Launch} {y : MethodName} {b : ByteArray} {n : Nat} {r : Option FieldType} {R : Room} {G : Gx} {av : List Value} {S : PS} {Po Po' : Option Value → PS → Prop} (h : Ct l y b n r R G av S Po) (hp : ∀ v S', Po v S' → Po' v S') : Ct l y b n r R G av S Po' := by
  intro p e ha hc hk s m args below hf hs hP hK
  obtain ⟨k, o, h1, h2, h3, ⟨⟨v, S', e1, e2, e3⟩, e4⟩, e5⟩ := h p e ha hc hk s m args below hf hs hP hK
  exact ⟨k, o, h1, h2, h3, ⟨⟨v, S', e1, hp v S' e2, e3⟩, e4⟩, e5⟩
section GoRows
variable {X : Kx} {G : Gx} {Q : State → Prop} {nL kc ks : Nat} {S : PS} {pc : Nat} {lv lv' : List (Nat × Value)} {st : List Value} {cc : ByteArray} {own nm : String} {ret : Option FieldType} {R : Room}
theorem Go.pick (is : List Nat) (h : lv_pick lv is = lv') (k : Go X G Q nL kc ks S pc lv' st) : Go X G Q nL kc ks S pc lv st := fun H locs ls hR hS hl => k H locs ls hR hS (lv_sub hl is h)
theorem Go.wide {k2 n2 : Nat} (h1 : kc ≤ k2) (h2 : ks ≤ n2) (k : Go X G Q nL k2 n2 S pc lv st) : Go X G Q nL kc ks S pc lv st := fun H locs ls hR hS hl => W.widen h1 h2 (k H locs ls hR hS hl)
theorem g_iconst {n : Int} {v : Int32} (C : Cok X G cc nL own ret nm R) (d : decode cc pc = .ok (.iconst n, 1)) (hv : Int32.ofInt n = v) (k : Go X G Q nL kc ks S (pc + 1) lv (.int v :: st)) : Go X G Q nL kc ks S pc lv st := fun H locs ls hR hS hl => lv_iconst C.1 C.2.1 d hv (k H locs ls hR hS hl)
theorem g_bipush {n : Int} {v : Int32} (C : Cok X G cc nL own ret nm R) (d : decode cc pc = .ok (.bipush n, 2)) (hv : (Int8.ofInt n).toInt32 = v) (k : Go X G Q nL kc ks S (pc + 2) lv (.int v :: st)) : Go X G Q nL kc ks S pc lv st := fun H locs ls hR hS hl => lv_bipush C.1 C.2.1 d hv (k H locs ls hR hS hl)
theorem g_sipush {n : Int} {v : Int32} (C : Cok X G cc nL own ret nm R) (d : decode cc pc = .ok (.sipush n, 3)) (hv : (Int16.ofInt n).toInt32 = v) (k : Go X G Q nL kc ks S (pc + 3) lv (.int v :: st)) : Go X G Q nL kc ks S pc lv st := fun H locs ls hR hS hl => lv_sipush C.1 C.2.1 d hv (k H locs ls hR hS hl)
theorem g_lconst {n : Fin 2} {v : Int64} (C : Cok X G cc nL own ret nm R) (d : decode cc pc = .ok (.lconst n, 1)) (hv : Int64.ofNat (n : Nat) = v) (k : Go X G Q nL kc ks S (pc + 1) lv (.long v :: st)) : Go X G Q nL kc ks S pc lv st := fun H locs ls hR hS hl => lv_lconst C.1 C.2.1 d hv (k H locs ls hR hS hl)
theorem g_null  (C : Cok X G cc nL own ret nm R) (d : decode cc pc = .ok (.aconst_null, 1))  (k : Go X G Q nL kc ks S (pc + 1) lv (.null :: st)) : Go X G Q nL kc ks S pc lv st := fun H locs ls hR hS hl => lv_null C.1 C.2.1 d  (k H locs ls hR hS hl)
theorem g_iload_n {k : Fin 4} {x : Int32} (j i : Nat) (C : Cok X G cc nL own ret nm R) (d : decode cc pc = .ok (.iload_n k, 1)) (hi : (k : Nat) = i) (hj : lv[j]? = some (i, .int x)) (k : Go X G Q nL kc ks S (pc + 1) lv (.int x :: st)) : Go X G Q nL kc ks S pc lv st := fun H locs ls hR hS hl => lv_iload_n C.1 C.2.1 d hi (lv_at hl j hj) (k H locs ls hR hS hl)
theorem g_iload {i : Nat} {x : Int32} (j : Nat) (C : Cok X G cc nL own ret nm R) (d : decode cc pc = .ok (.iload i, 2)) (hj : lv[j]? = some (i, .int x)) (k : Go X G Q nL kc ks S (pc + 2) lv (.int x :: st)) : Go X G Q nL kc ks S pc lv st := fun H locs ls hR hS hl => lv_iload C.1 C.2.1 d (lv_at hl j hj) (k H locs ls hR hS hl)
theorem g_lload_n {k : Fin 4} {x : Int64} (j i : Nat) (C : Cok X G cc nL own ret nm R) (d : decode cc pc = .ok (.lload_n k, 1)) (hi : (k : Nat) = i) (hj : lv[j]? = some (i, .long x)) (k : Go X G Q nL kc ks S (pc + 1) lv (.long x :: st)) : Go X G Q nL kc ks S pc lv st := fun H locs ls hR hS hl => lv_lload_n C.1 C.2.1 d hi (lv_at hl j hj) (k H locs ls hR hS hl)
theorem g_lload {i : Nat} {x : Int64} (j : Nat) (C : Cok X G cc nL own ret nm R) (d : decode cc pc = .ok (.lload i, 2)) (hj : lv[j]? = some (i, .long x)) (k : Go X G Q nL kc ks S (pc + 2) lv (.long x :: st)) : Go X G Q nL kc ks S pc lv st := fun H locs ls hR hS hl => lv_lload C.1 C.2.1 d (lv_at hl j hj) (k H locs ls hR hS hl)
theorem g_aload_n {k : Fin 4} {x : Nat} (j i : Nat) (C : Cok X G cc nL own ret nm R) (d : decode cc pc = .ok (.aload_n k, 1)) (hi : (k : Nat) = i) (hj : lv[j]? = some (i, .ref x)) (k : Go X G Q nL kc ks S (pc + 1) lv (.ref x :: st)) : Go X G Q nL kc ks S pc lv st := fun H locs ls hR hS hl => lv_aload_n C.1 C.2.1 d hi (lv_at hl j hj) (k H locs ls hR hS hl)
theorem g_aload {i : Nat} {x : Nat} (j : Nat) (C : Cok X G cc nL own ret nm R) (d : decode cc pc = .ok (.aload i, 2)) (hj : lv[j]? = some (i, .ref x)) (k : Go X G Q nL kc ks S (pc + 2) lv (.ref x :: st)) : Go X G Q nL kc ks S pc lv st := fun H locs ls hR hS hl => lv_aload C.1 C.2.1 d (lv_at hl j hj) (k H locs ls hR hS hl)
theorem g_aload_nN {k : Fin 4} (j i : Nat) (C : Cok X G cc nL own ret nm R) (d : decode cc pc = .ok (.aload_n k, 1)) (hi : (k : Nat) = i) (hj : lv[j]? = some (i, .null)) (k : Go X G Q nL kc ks S (pc + 1) lv (.null :: st)) : Go X G Q nL kc ks S pc lv st := fun H locs ls hR hS hl => lv_aload_nN C.1 C.2.1 d hi (lv_at hl j hj) (k H locs ls hR hS hl)
theorem g_aloadN {i : Nat} (j : Nat) (C : Cok X G cc nL own ret nm R) (d : decode cc pc = .ok (.aload i, 2)) (hj : lv[j]? = some (i, .null)) (k : Go X G Q nL kc ks S (pc + 2) lv (.null :: st)) : Go X G Q nL kc ks S pc lv st := fun H locs ls hR hS hl => lv_aloadN C.1 C.2.1 d (lv_at hl j hj) (k H locs ls hR hS hl)
theorem g_istore_n {k : Fin 4} {i : Nat} {x : Int32} (C : Cok X G cc nL own ret nm R) (d : decode cc pc = .ok (.istore_n k, 1)) (hi : (k : Nat) = i) (hn : i < nL) (hl : (i, Value.int x) :: lv.filter (fun q => !(q.1 == i) && !(q.1 + 1 == i && q.2.category == 2)) = lv') (k : Go X G Q nL kc ks S (pc + 1) lv' st) : Go X G Q nL kc ks S pc lv (Value.int x :: st) := fun H locs ls hR hS hls => lv_istore_n C.1 C.2.1 d hi hls hn hl (fun ls hl => k H locs ls hR hS hl)
theorem g_istore {i : Nat} {x : Int32} (C : Cok X G cc nL own ret nm R) (d : decode cc pc = .ok (.istore i, 2))  (hn : i < nL) (hl : (i, Value.int x) :: lv.filter (fun q => !(q.1 == i) && !(q.1 + 1 == i && q.2.category == 2)) = lv') (k : Go X G Q nL kc ks S (pc + 2) lv' st) : Go X G Q nL kc ks S pc lv (Value.int x :: st) := fun H locs ls hR hS hls => lv_istore C.1 C.2.1 d  hls hn hl (fun ls hl => k H locs ls hR hS hl)
theorem g_astore_n {k : Fin 4} {i : Nat} {x : Nat} (C : Cok X G cc nL own ret nm R) (d : decode cc pc = .ok (.astore_n k, 1)) (hi : (k : Nat) = i) (hn : i < nL) (hl : (i, Value.ref x) :: lv.filter (fun q => !(q.1 == i) && !(q.1 + 1 == i && q.2.category == 2)) = lv') (k : Go X G Q nL kc ks S (pc + 1) lv' st) : Go X G Q nL kc ks S pc lv (Value.ref x :: st) := fun H locs ls hR hS hls => lv_astore_n C.1 C.2.1 d hi hls hn hl (fun ls hl => k H locs ls hR hS hl)
theorem g_astore {i : Nat} {x : Nat} (C : Cok X G cc nL own ret nm R) (d : decode cc pc = .ok (.astore i, 2))  (hn : i < nL) (hl : (i, Value.ref x) :: lv.filter (fun q => !(q.1 == i) && !(q.1 + 1 == i && q.2.category == 2)) = lv') (k : Go X G Q nL kc ks S (pc + 2) lv' st) : Go X G Q nL kc ks S pc lv (Value.ref x :: st) := fun H locs ls hR hS hls => lv_astore C.1 C.2.1 d  hls hn hl (fun ls hl => k H locs ls hR hS hl)
theorem g_lstore_n {k : Fin 4} {i : Nat} {x : Int64} (C : Cok X G cc nL own ret nm R) (d : decode cc pc = .ok (.lstore_n k, 1)) (hi : (k : Nat) = i) (hn : i + 1 < nL) (hl : (i, Value.long x) :: lv.filter (fun q => !(q.1 == i) && (!(q.1 == i + 1) && !(q.1 + 1 == i && q.2.category == 2))) = lv') (k : Go X G Q nL kc ks S (pc + 1) lv' st) : Go X G Q nL kc ks S pc lv (Value.long x :: st) := fun H locs ls hR hS hls => lv_lstore_n C.1 C.2.1 d hi hls hn hl (fun ls hl => k H locs ls hR hS hl)
theorem g_lstore {i : Nat} {x : Int64} (C : Cok X G cc nL own ret nm R) (d : decode cc pc = .ok (.lstore i, 2))  (hn : i + 1 < nL) (hl : (i, Value.long x) :: lv.filter (fun q => !(q.1 == i) && (!(q.1 == i + 1) && !(q.1 + 1 == i && q.2.category == 2))) = lv') (k : Go X G Q nL kc ks S (pc + 2) lv' st) : Go X G Q nL kc ks S pc lv (Value.long x :: st) := fun H locs ls hR hS hls => lv_lstore C.1 C.2.1 d  hls hn hl (fun ls hl => k H locs ls hR hS hl)
theorem g_astore_nN {k : Fin 4} {i : Nat} (C : Cok X G cc nL own ret nm R) (d : decode cc pc = .ok (.astore_n k, 1)) (hi : (k : Nat) = i) (hn : i < nL) (hl : (i, Value.null) :: lv.filter (fun q => !(q.1 == i) && !(q.1 + 1 == i && q.2.category == 2)) = lv') (k : Go X G Q nL kc ks S (pc + 1) lv' st) : Go X G Q nL kc ks S pc lv (Value.null :: st) := fun H locs ls hR hS hls => lv_astore_nN C.1 C.2.1 d hi hls hn hl (fun ls hl => k H locs ls hR hS hl)
theorem g_astoreN {i : Nat} (C : Cok X G cc nL own ret nm R) (d : decode cc pc = .ok (.astore i, 2))  (hn : i < nL) (hl : (i, Value.null) :: lv.filter (fun q => !(q.1 == i) && !(q.1 + 1 == i && q.2.category == 2)) = lv') (k : Go X G Q nL kc ks S (pc + 2) lv' st) : Go X G Q nL kc ks S pc lv (Value.null :: st) := fun H locs ls hR hS hls => lv_astoreN C.1 C.2.1 d  hls hn hl (fun ls hl => k H locs ls hR hS hl)
theorem g_iinc {i : Nat} {n : Int} {x v : Int32} (j : Nat) (C : Cok X G cc nL own ret nm R) (d : decode cc pc = .ok (.iinc i n, 3)) (hj : lv[j]? = some (i, .int x)) (hv : x + Int32.ofInt n = v) (hn : i < nL) (hl : (i, Value.int v) :: lv.filter (fun q => !(q.1 == i) && !(q.1 + 1 == i && q.2.category == 2)) = lv') (k : Go X G Q nL kc ks S (pc + 3) lv' st) : Go X G Q nL kc ks S pc lv st := fun H locs ls hR hS hls => lv_iinc C.1 C.2.1 d hls hj hv hn hl (fun ls hl => k H locs ls hR hS hl)
theorem g_iadd {x y : Int32} (C : Cok X G cc nL own ret nm R) (d : decode cc pc = .ok (.iadd, 1))  (k : Go X G Q nL kc ks S (pc + 1) lv (.int (x + y) :: st)) : Go X G Q nL kc ks S pc lv (.int y :: .int x :: st) := fun H locs ls hR hS hl => lv_iadd C.1 C.2.1 d  (k H locs ls hR hS hl)
theorem g_isub {x y : Int32} (C : Cok X G cc nL own ret nm R) (d : decode cc pc = .ok (.isub, 1))  (k : Go X G Q nL kc ks S (pc + 1) lv (.int (x - y) :: st)) : Go X G Q nL kc ks S pc lv (.int y :: .int x :: st) := fun H locs ls hR hS hl => lv_isub C.1 C.2.1 d  (k H locs ls hR hS hl)
theorem g_imul {x y : Int32} (C : Cok X G cc nL own ret nm R) (d : decode cc pc = .ok (.imul, 1))  (k : Go X G Q nL kc ks S (pc + 1) lv (.int (x * y) :: st)) : Go X G Q nL kc ks S pc lv (.int y :: .int x :: st) := fun H locs ls hR hS hl => lv_imul C.1 C.2.1 d  (k H locs ls hR hS hl)
theorem g_iand {x y : Int32} (C : Cok X G cc nL own ret nm R) (d : decode cc pc = .ok (.iand, 1))  (k : Go X G Q nL kc ks S (pc + 1) lv (.int (x &&& y) :: st)) : Go X G Q nL kc ks S pc lv (.int y :: .int x :: st) := fun H locs ls hR hS hl => lv_iand C.1 C.2.1 d  (k H locs ls hR hS hl)
theorem g_ior {x y : Int32} (C : Cok X G cc nL own ret nm R) (d : decode cc pc = .ok (.ior, 1))  (k : Go X G Q nL kc ks S (pc + 1) lv (.int (x ||| y) :: st)) : Go X G Q nL kc ks S pc lv (.int y :: .int x :: st) := fun H locs ls hR hS hl => lv_ior C.1 C.2.1 d  (k H locs ls hR hS hl)
theorem g_ixor {x y : Int32} (C : Cok X G cc nL own ret nm R) (d : decode cc pc = .ok (.ixor, 1))  (k : Go X G Q nL kc ks S (pc + 1) lv (.int (x ^^^ y) :: st)) : Go X G Q nL kc ks S pc lv (.int y :: .int x :: st) := fun H locs ls hR hS hl => lv_ixor C.1 C.2.1 d  (k H locs ls hR hS hl)
theorem g_ishl {x y : Int32} (C : Cok X G cc nL own ret nm R) (d : decode cc pc = .ok (.ishl, 1))  (k : Go X G Q nL kc ks S (pc + 1) lv (.int (x <<< (y &&& 31)) :: st)) : Go X G Q nL kc ks S pc lv (.int y :: .int x :: st) := fun H locs ls hR hS hl => lv_ishl C.1 C.2.1 d  (k H locs ls hR hS hl)
theorem g_ishr {x y : Int32} (C : Cok X G cc nL own ret nm R) (d : decode cc pc = .ok (.ishr, 1))  (k : Go X G Q nL kc ks S (pc + 1) lv (.int (x >>> (y &&& 31)) :: st)) : Go X G Q nL kc ks S pc lv (.int y :: .int x :: st) := fun H locs ls hR hS hl => lv_ishr C.1 C.2.1 d  (k H locs ls hR hS hl)
theorem g_idiv {x y : Int32} (C : Cok X G cc nL own ret nm R) (d : decode cc pc = .ok (.idiv, 1)) (hne : ¬ y = 0) (k : Go X G Q nL kc ks S (pc + 1) lv (.int (x / y) :: st)) : Go X G Q nL kc ks S pc lv (.int y :: .int x :: st) := fun H locs ls hR hS hl => lv_idiv C.1 C.2.1 d hne (k H locs ls hR hS hl)
theorem g_irem {x y : Int32} (C : Cok X G cc nL own ret nm R) (d : decode cc pc = .ok (.irem, 1)) (hne : ¬ y = 0) (k : Go X G Q nL kc ks S (pc + 1) lv (.int (x - x / y * y) :: st)) : Go X G Q nL kc ks S pc lv (.int y :: .int x :: st) := fun H locs ls hR hS hl => lv_irem C.1 C.2.1 d hne (k H locs ls hR hS hl)
theorem g_ineg {x : Int32} (C : Cok X G cc nL own ret nm R) (d : decode cc pc = .ok (.ineg, 1))  (k : Go X G Q nL kc ks S (pc + 1) lv (.int (-x) :: st)) : Go X G Q nL kc ks S pc lv (.int x :: st) := fun H locs ls hR hS hl => lv_ineg C.1 C.2.1 d  (k H locs ls hR hS hl)
theorem g_ladd {x y : Int64} (C : Cok X G cc nL own ret nm R) (d : decode cc pc = .ok (.ladd, 1))  (k : Go X G Q nL kc ks S (pc + 1) lv (.long (x + y) :: st)) : Go X G Q nL kc ks S pc lv (.long y :: .long x :: st) := fun H locs ls hR hS hl => lv_ladd C.1 C.2.1 d  (k H locs ls hR hS hl)
theorem g_lsub {x y : Int64} (C : Cok X G cc nL own ret nm R) (d : decode cc pc = .ok (.lsub, 1))  (k : Go X G Q nL kc ks S (pc + 1) lv (.long (x - y) :: st)) : Go X G Q nL kc ks S pc lv (.long y :: .long x :: st) := fun H locs ls hR hS hl => lv_lsub C.1 C.2.1 d  (k H locs ls hR hS hl)
theorem g_land {x y : Int64} (C : Cok X G cc nL own ret nm R) (d : decode cc pc = .ok (.land, 1))  (k : Go X G Q nL kc ks S (pc + 1) lv (.long (x &&& y) :: st)) : Go X G Q nL kc ks S pc lv (.long y :: .long x :: st) := fun H locs ls hR hS hl => lv_land C.1 C.2.1 d  (k H locs ls hR hS hl)
theorem g_lor {x y : Int64} (C : Cok X G cc nL own ret nm R) (d : decode cc pc = .ok (.lor, 1))  (k : Go X G Q nL kc ks S (pc + 1) lv (.long (x ||| y) :: st)) : Go X G Q nL kc ks S pc lv (.long y :: .long x :: st) := fun H locs ls hR hS hl => lv_lor C.1 C.2.1 d  (k H locs ls hR hS hl)
theorem g_lxor {x y : Int64} (C : Cok X G cc nL own ret nm R) (d : decode cc pc = .ok (.lxor, 1))  (k : Go X G Q nL kc ks S (pc + 1) lv (.long (x ^^^ y) :: st)) : Go X G Q nL kc ks S pc lv (.long y :: .long x :: st) := fun H locs ls hR hS hl => lv_lxor C.1 C.2.1 d  (k H locs ls hR hS hl)
theorem g_lneg {x : Int64} (C : Cok X G cc nL own ret nm R) (d : decode cc pc = .ok (.lneg, 1))  (k : Go X G Q nL kc ks S (pc + 1) lv (.long (-x) :: st)) : Go X G Q nL kc ks S pc lv (.long x :: st) := fun H locs ls hR hS hl => lv_lneg C.1 C.2.1 d  (k H locs ls hR hS hl)
theorem g_i2l {x : Int32} (C : Cok X G cc nL own ret nm R) (d : decode cc pc = .ok (.i2l, 1))  (k : Go X G Q nL kc ks S (pc + 1) lv (.long x.toInt64 :: st)) : Go X G Q nL kc ks S pc lv (.int x :: st) := fun H locs ls hR hS hl => lv_i2l C.1 C.2.1 d rfl (k H locs ls hR hS hl)
theorem g_l2i {x : Int64} (C : Cok X G cc nL own ret nm R) (d : decode cc pc = .ok (.l2i, 1))  (k : Go X G Q nL kc ks S (pc + 1) lv (.int x.toInt32 :: st)) : Go X G Q nL kc ks S pc lv (.long x :: st) := fun H locs ls hR hS hl => lv_l2i C.1 C.2.1 d rfl (k H locs ls hR hS hl)
theorem g_i2b {x : Int32} (C : Cok X G cc nL own ret nm R) (d : decode cc pc = .ok (.i2b, 1))  (k : Go X G Q nL kc ks S (pc + 1) lv (.int x.toInt8.toInt32 :: st)) : Go X G Q nL kc ks S pc lv (.int x :: st) := fun H locs ls hR hS hl => lv_i2b C.1 C.2.1 d rfl (k H locs ls hR hS hl)
theorem g_lushr {x : Int64} {y : Int32} (C : Cok X G cc nL own ret nm R) (d : decode cc pc = .ok (.lushr, 1))  (k : Go X G Q nL kc ks S (pc + 1) lv (.long (x.toUInt64 >>> (y.toInt64.toUInt64 &&& Int64.toUInt64 63)).toInt64 :: st)) : Go X G Q nL kc ks S pc lv (.int y :: .long x :: st) := fun H locs ls hR hS hl => lv_lushr C.1 C.2.1 d rfl (k H locs ls hR hS hl)
theorem g_lshl {x : Int64} {y : Int32} (C : Cok X G cc nL own ret nm R) (d : decode cc pc = .ok (.lshl, 1))  (k : Go X G Q nL kc ks S (pc + 1) lv (.long (x <<< (y.toInt64 &&& 63)) :: st)) : Go X G Q nL kc ks S pc lv (.int y :: .long x :: st) := fun H locs ls hR hS hl => lv_lshl C.1 C.2.1 d rfl (k H locs ls hR hS hl)
theorem g_lshr {x : Int64} {y : Int32} (C : Cok X G cc nL own ret nm R) (d : decode cc pc = .ok (.lshr, 1))  (k : Go X G Q nL kc ks S (pc + 1) lv (.long (x >>> (y.toInt64 &&& 63)) :: st)) : Go X G Q nL kc ks S pc lv (.int y :: .long x :: st) := fun H locs ls hR hS hl => lv_lshr C.1 C.2.1 d rfl (k H locs ls hR hS hl)
theorem g_lcmp {x y : Int64} (C : Cok X G cc nL own ret nm R) (d : decode cc pc = .ok (.lcmp, 1))  (k : Go X G Q nL kc ks S (pc + 1) lv (.int (lg_cmp x y) :: st)) : Go X G Q nL kc ks S pc lv (.long y :: .long x :: st) := fun H locs ls hR hS hl => W.lcmp C.1 C.2.1 d  (k H locs ls hR hS hl)
theorem g_dup {va : Value} (C : Cok X G cc nL own ret nm R) (d : decode cc pc = .ok (.dup, 1)) (h1 : va.category = 1) (k : Go X G Q nL kc ks S (pc + 1) lv (va :: va :: st)) : Go X G Q nL kc ks S pc lv (va :: st) := fun H locs ls hR hS hl => lv_dup C.1 C.2.1 d h1 (k H locs ls hR hS hl)
theorem g_pop {va : Value} (C : Cok X G cc nL own ret nm R) (d : decode cc pc = .ok (.pop, 1)) (h1 : va.category = 1) (k : Go X G Q nL kc ks S (pc + 1) lv st) : Go X G Q nL kc ks S pc lv (va :: st) := fun H locs ls hR hS hl => lv_pop C.1 C.2.1 d h1 (k H locs ls hR hS hl)
theorem g_dup2_11 {va vb : Value} (C : Cok X G cc nL own ret nm R) (d : decode cc pc = .ok (.dup2, 1)) (h1 : va.category = 1) (h2 : vb.category = 1) (k : Go X G Q nL kc ks S (pc + 1) lv (va :: vb :: va :: vb :: st)) : Go X G Q nL kc ks S pc lv (va :: vb :: st) := fun H locs ls hR hS hl => lv_dup2_11 C.1 C.2.1 d h1 h2 (k H locs ls hR hS hl)
theorem g_if_eq {x : Int32} {off : Int} (tgt : Nat) (C : Cok X G cc nL own ret nm R) (d : decode cc pc = .ok (.ifCond .eq off, 3)) (ht : (pc : Int) + off = (tgt : Int)) (kt : x = 0 → Go X G Q nL kc ks S tgt lv st) (kf : ¬ x = 0 → Go X G Q nL kc ks S (pc + 3) lv st) : Go X G Q nL kc ks S pc lv (.int x :: st) := fun H locs ls hR hS hl => lv_if_eq C.1 C.2.1 d ht (fun q => kt q H locs ls hR hS hl) (fun q => kf q H locs ls hR hS hl)
theorem g_icmp_eq {x y : Int32} {off : Int} (tgt : Nat) (C : Cok X G cc nL own ret nm R) (d : decode cc pc = .ok (.if_icmp .eq off, 3)) (ht : (pc : Int) + off = (tgt : Int)) (kt : x = y → Go X G Q nL kc ks S tgt lv st) (kf : ¬ x = y → Go X G Q nL kc ks S (pc + 3) lv st) : Go X G Q nL kc ks S pc lv (.int y :: .int x :: st) := fun H locs ls hR hS hl => lv_icmp_eq C.1 C.2.1 d ht (fun q => kt q H locs ls hR hS hl) (fun q => kf q H locs ls hR hS hl)
theorem g_if_ne {x : Int32} {off : Int} (tgt : Nat) (C : Cok X G cc nL own ret nm R) (d : decode cc pc = .ok (.ifCond .ne off, 3)) (ht : (pc : Int) + off = (tgt : Int)) (kt : ¬ x = 0 → Go X G Q nL kc ks S tgt lv st) (kf : x = 0 → Go X G Q nL kc ks S (pc + 3) lv st) : Go X G Q nL kc ks S pc lv (.int x :: st) := fun H locs ls hR hS hl => lv_if_ne C.1 C.2.1 d ht (fun q => kt q H locs ls hR hS hl) (fun q => kf q H locs ls hR hS hl)
theorem g_icmp_ne {x y : Int32} {off : Int} (tgt : Nat) (C : Cok X G cc nL own ret nm R) (d : decode cc pc = .ok (.if_icmp .ne off, 3)) (ht : (pc : Int) + off = (tgt : Int)) (kt : ¬ x = y → Go X G Q nL kc ks S tgt lv st) (kf : x = y → Go X G Q nL kc ks S (pc + 3) lv st) : Go X G Q nL kc ks S pc lv (.int y :: .int x :: st) := fun H locs ls hR hS hl => lv_icmp_ne C.1 C.2.1 d ht (fun q => kt q H locs ls hR hS hl) (fun q => kf q H locs ls hR hS hl)
theorem g_if_lt {x : Int32} {off : Int} (tgt : Nat) (C : Cok X G cc nL own ret nm R) (d : decode cc pc = .ok (.ifCond .lt off, 3)) (ht : (pc : Int) + off = (tgt : Int)) (kt : x < 0 → Go X G Q nL kc ks S tgt lv st) (kf : ¬ x < 0 → Go X G Q nL kc ks S (pc + 3) lv st) : Go X G Q nL kc ks S pc lv (.int x :: st) := fun H locs ls hR hS hl => lv_if_lt C.1 C.2.1 d ht (fun q => kt q H locs ls hR hS hl) (fun q => kf q H locs ls hR hS hl)
theorem g_icmp_lt {x y : Int32} {off : Int} (tgt : Nat) (C : Cok X G cc nL own ret nm R) (d : decode cc pc = .ok (.if_icmp .lt off, 3)) (ht : (pc : Int) + off = (tgt : Int)) (kt : x < y → Go X G Q nL kc ks S tgt lv st) (kf : ¬ x < y → Go X G Q nL kc ks S (pc + 3) lv st) : Go X G Q nL kc ks S pc lv (.int y :: .int x :: st) := fun H locs ls hR hS hl => lv_icmp_lt C.1 C.2.1 d ht (fun q => kt q H locs ls hR hS hl) (fun q => kf q H locs ls hR hS hl)
theorem g_if_ge {x : Int32} {off : Int} (tgt : Nat) (C : Cok X G cc nL own ret nm R) (d : decode cc pc = .ok (.ifCond .ge off, 3)) (ht : (pc : Int) + off = (tgt : Int)) (kt : 0 ≤ x → Go X G Q nL kc ks S tgt lv st) (kf : ¬ 0 ≤ x → Go X G Q nL kc ks S (pc + 3) lv st) : Go X G Q nL kc ks S pc lv (.int x :: st) := fun H locs ls hR hS hl => lv_if_ge C.1 C.2.1 d ht (fun q => kt q H locs ls hR hS hl) (fun q => kf q H locs ls hR hS hl)
theorem g_icmp_ge {x y : Int32} {off : Int} (tgt : Nat) (C : Cok X G cc nL own ret nm R) (d : decode cc pc = .ok (.if_icmp .ge off, 3)) (ht : (pc : Int) + off = (tgt : Int)) (kt : y ≤ x → Go X G Q nL kc ks S tgt lv st) (kf : ¬ y ≤ x → Go X G Q nL kc ks S (pc + 3) lv st) : Go X G Q nL kc ks S pc lv (.int y :: .int x :: st) := fun H locs ls hR hS hl => lv_icmp_ge C.1 C.2.1 d ht (fun q => kt q H locs ls hR hS hl) (fun q => kf q H locs ls hR hS hl)
theorem g_if_gt {x : Int32} {off : Int} (tgt : Nat) (C : Cok X G cc nL own ret nm R) (d : decode cc pc = .ok (.ifCond .gt off, 3)) (ht : (pc : Int) + off = (tgt : Int)) (kt : 0 < x → Go X G Q nL kc ks S tgt lv st) (kf : ¬ 0 < x → Go X G Q nL kc ks S (pc + 3) lv st) : Go X G Q nL kc ks S pc lv (.int x :: st) := fun H locs ls hR hS hl => lv_if_gt C.1 C.2.1 d ht (fun q => kt q H locs ls hR hS hl) (fun q => kf q H locs ls hR hS hl)
theorem g_icmp_gt {x y : Int32} {off : Int} (tgt : Nat) (C : Cok X G cc nL own ret nm R) (d : decode cc pc = .ok (.if_icmp .gt off, 3)) (ht : (pc : Int) + off = (tgt : Int)) (kt : y < x → Go X G Q nL kc ks S tgt lv st) (kf : ¬ y < x → Go X G Q nL kc ks S (pc + 3) lv st) : Go X G Q nL kc ks S pc lv (.int y :: .int x :: st) := fun H locs ls hR hS hl => lv_icmp_gt C.1 C.2.1 d ht (fun q => kt q H locs ls hR hS hl) (fun q => kf q H locs ls hR hS hl)
theorem g_if_le {x : Int32} {off : Int} (tgt : Nat) (C : Cok X G cc nL own ret nm R) (d : decode cc pc = .ok (.ifCond .le off, 3)) (ht : (pc : Int) + off = (tgt : Int)) (kt : x ≤ 0 → Go X G Q nL kc ks S tgt lv st) (kf : ¬ x ≤ 0 → Go X G Q nL kc ks S (pc + 3) lv st) : Go X G Q nL kc ks S pc lv (.int x :: st) := fun H locs ls hR hS hl => lv_if_le C.1 C.2.1 d ht (fun q => kt q H locs ls hR hS hl) (fun q => kf q H locs ls hR hS hl)
theorem g_icmp_le {x y : Int32} {off : Int} (tgt : Nat) (C : Cok X G cc nL own ret nm R) (d : decode cc pc = .ok (.if_icmp .le off, 3)) (ht : (pc : Int) + off = (tgt : Int)) (kt : x ≤ y → Go X G Q nL kc ks S tgt lv st) (kf : ¬ x ≤ y → Go X G Q nL kc ks S (pc + 3) lv st) : Go X G Q nL kc ks S pc lv (.int y :: .int x :: st) := fun H locs ls hR hS hl => lv_icmp_le C.1 C.2.1 d ht (fun q => kt q H locs ls hR hS hl) (fun q => kf q H locs ls hR hS hl)
theorem g_ncmp_eq {a b : Nat} {off : Int} (tgt : Nat) (ha : a < 2 ^ 31) (hb : b < 2 ^ 31) (C : Cok X G cc nL own ret nm R) (d : decode cc pc = .ok (.if_icmp .eq off, 3)) (ht : (pc : Int) + off = (tgt : Int)) (kt : a = b → Go X G Q nL kc ks S tgt lv st) (kf : ¬ a = b → Go X G Q nL kc ks S (pc + 3) lv st) : Go X G Q nL kc ks S pc lv (.int (nI b) :: .int (nI a) :: st) := g_icmp_eq tgt C d ht (fun q => kt ((nI_eq ha hb).mp q)) (fun q => kf (fun z => q ((nI_eq ha hb).mpr z)))
theorem g_ncmp_ne {a b : Nat} {off : Int} (tgt : Nat) (ha : a < 2 ^ 31) (hb : b < 2 ^ 31) (C : Cok X G cc nL own ret nm R) (d : decode cc pc = .ok (.if_icmp .ne off, 3)) (ht : (pc : Int) + off = (tgt : Int)) (kt : ¬ a = b → Go X G Q nL kc ks S tgt lv st) (kf : a = b → Go X G Q nL kc ks S (pc + 3) lv st) : Go X G Q nL kc ks S pc lv (.int (nI b) :: .int (nI a) :: st) := g_icmp_ne tgt C d ht (fun q => kt (fun z => q ((nI_eq ha hb).mpr z))) (fun q => kf ((nI_eq ha hb).mp q))
theorem g_ncmp_lt {a b : Nat} {off : Int} (tgt : Nat) (ha : a < 2 ^ 31) (hb : b < 2 ^ 31) (C : Cok X G cc nL own ret nm R) (d : decode cc pc = .ok (.if_icmp .lt off, 3)) (ht : (pc : Int) + off = (tgt : Int)) (kt : a < b → Go X G Q nL kc ks S tgt lv st) (kf : b ≤ a → Go X G Q nL kc ks S (pc + 3) lv st) : Go X G Q nL kc ks S pc lv (.int (nI b) :: .int (nI a) :: st) := g_icmp_lt tgt C d ht (fun q => kt ((nI_ltI ha hb).mp q)) (fun q => kf (Nat.not_lt.mp (fun z => q ((nI_ltI ha hb).mpr z))))
theorem g_ncmp_ge {a b : Nat} {off : Int} (tgt : Nat) (ha : a < 2 ^ 31) (hb : b < 2 ^ 31) (C : Cok X G cc nL own ret nm R) (d : decode cc pc = .ok (.if_icmp .ge off, 3)) (ht : (pc : Int) + off = (tgt : Int)) (kt : b ≤ a → Go X G Q nL kc ks S tgt lv st) (kf : a < b → Go X G Q nL kc ks S (pc + 3) lv st) : Go X G Q nL kc ks S pc lv (.int (nI b) :: .int (nI a) :: st) := g_icmp_ge tgt C d ht (fun q => kt ((nI_leI hb ha).mp q)) (fun q => kf (Nat.not_le.mp (fun z => q ((nI_leI hb ha).mpr z))))
theorem g_ncmp_gt {a b : Nat} {off : Int} (tgt : Nat) (ha : a < 2 ^ 31) (hb : b < 2 ^ 31) (C : Cok X G cc nL own ret nm R) (d : decode cc pc = .ok (.if_icmp .gt off, 3)) (ht : (pc : Int) + off = (tgt : Int)) (kt : b < a → Go X G Q nL kc ks S tgt lv st) (kf : a ≤ b → Go X G Q nL kc ks S (pc + 3) lv st) : Go X G Q nL kc ks S pc lv (.int (nI b) :: .int (nI a) :: st) := g_icmp_gt tgt C d ht (fun q => kt ((nI_ltI hb ha).mp q)) (fun q => kf (Nat.not_lt.mp (fun z => q ((nI_ltI hb ha).mpr z))))
theorem g_ncmp_le {a b : Nat} {off : Int} (tgt : Nat) (ha : a < 2 ^ 31) (hb : b < 2 ^ 31) (C : Cok X G cc nL own ret nm R) (d : decode cc pc = .ok (.if_icmp .le off, 3)) (ht : (pc : Int) + off = (tgt : Int)) (kt : a ≤ b → Go X G Q nL kc ks S tgt lv st) (kf : b < a → Go X G Q nL kc ks S (pc + 3) lv st) : Go X G Q nL kc ks S pc lv (.int (nI b) :: .int (nI a) :: st) := g_icmp_le tgt C d ht (fun q => kt ((nI_leI ha hb).mp q)) (fun q => kf (Nat.not_le.mp (fun z => q ((nI_leI ha hb).mpr z))))
theorem g_nif_eq {a : Nat} {off : Int} (tgt : Nat) (ha : a < 2 ^ 31) (C : Cok X G cc nL own ret nm R) (d : decode cc pc = .ok (.ifCond .eq off, 3)) (ht : (pc : Int) + off = (tgt : Int)) (kt : a = 0 → Go X G Q nL kc ks S tgt lv st) (kf : ¬ a = 0 → Go X G Q nL kc ks S (pc + 3) lv st) : Go X G Q nL kc ks S pc lv (.int (nI a) :: st) := g_if_eq tgt C d ht (fun q => kt ((nI_eq ha (by decide)).mp q)) (fun q => kf (fun z => q ((nI_eq ha (by decide)).mpr z)))
theorem g_nif_ne {a : Nat} {off : Int} (tgt : Nat) (ha : a < 2 ^ 31) (C : Cok X G cc nL own ret nm R) (d : decode cc pc = .ok (.ifCond .ne off, 3)) (ht : (pc : Int) + off = (tgt : Int)) (kt : ¬ a = 0 → Go X G Q nL kc ks S tgt lv st) (kf : a = 0 → Go X G Q nL kc ks S (pc + 3) lv st) : Go X G Q nL kc ks S pc lv (.int (nI a) :: st) := g_if_ne tgt C d ht (fun q => kt (fun z => q ((nI_eq ha (by decide)).mpr z))) (fun q => kf ((nI_eq ha (by decide)).mp q))
theorem g_nif_gt {a : Nat} {off : Int} (tgt : Nat) (ha : a < 2 ^ 31) (C : Cok X G cc nL own ret nm R) (d : decode cc pc = .ok (.ifCond .gt off, 3)) (ht : (pc : Int) + off = (tgt : Int)) (kt : 0 < a → Go X G Q nL kc ks S tgt lv st) (kf : a = 0 → Go X G Q nL kc ks S (pc + 3) lv st) : Go X G Q nL kc ks S pc lv (.int (nI a) :: st) := g_if_gt tgt C d ht (fun q => kt ((nI_ltI (by decide) ha).mp q)) (fun q => kf (Nat.eq_zero_of_not_pos (fun z => q ((nI_ltI (by decide) ha).mpr z))))
theorem g_nif_le {a : Nat} {off : Int} (tgt : Nat) (ha : a < 2 ^ 31) (C : Cok X G cc nL own ret nm R) (d : decode cc pc = .ok (.ifCond .le off, 3)) (ht : (pc : Int) + off = (tgt : Int)) (kt : a = 0 → Go X G Q nL kc ks S tgt lv st) (kf : 0 < a → Go X G Q nL kc ks S (pc + 3) lv st) : Go X G Q nL kc ks S pc lv (.int (nI a) :: st) := g_if_le tgt C d ht (fun q => kt (Nat.le_zero.mp ((nI_leI ha (by decide)).mp q))) (fun q => kf (Nat.pos_of_ne_zero (fun z => q ((nI_leI ha (by decide)).mpr (Nat.le_of_eq z)))))
theorem g_nif_lt {a : Nat} {off : Int} (tgt : Nat) (ha : a < 2 ^ 31) (C : Cok X G cc nL own ret nm R) (d : decode cc pc = .ok (.ifCond .lt off, 3)) (ht : (pc : Int) + off = (tgt : Int)) (kf : Go X G Q nL kc ks S (pc + 3) lv st) : Go X G Q nL kc ks S pc lv (.int (nI a) :: st) := g_if_lt tgt C d ht (fun q => absurd q (nI_pos ha)) (fun q => kf)
theorem g_nif_ge {a : Nat} {off : Int} (tgt : Nat) (ha : a < 2 ^ 31) (C : Cok X G cc nL own ret nm R) (d : decode cc pc = .ok (.ifCond .ge off, 3)) (ht : (pc : Int) + off = (tgt : Int)) (kf : Go X G Q nL kc ks S tgt lv st) : Go X G Q nL kc ks S pc lv (.int (nI a) :: st) := g_if_ge tgt C d ht (fun q => kf) (fun q => absurd (nI_pos' ha) q)
theorem g_goto {off : Int} (tgt : Nat) (C : Cok X G cc nL own ret nm R) (d : decode cc pc = .ok (.goto off, 3)) (ht : (pc : Int) + off = (tgt : Int)) (k : Go X G Q nL kc ks S tgt lv st) : Go X G Q nL kc ks S pc lv st := fun H locs ls hR hS hl => lv_goto C.1 C.2.1 d ht (k H locs ls hR hS hl)
theorem g_ifnull {x : Nat} {off : Int} (C : Cok X G cc nL own ret nm R) (d : decode cc pc = .ok (.ifnull off, 3)) (k : Go X G Q nL kc ks S (pc + 3) lv st) : Go X G Q nL kc ks S pc lv (.ref x :: st) := fun H locs ls hR hS hl => lv_ifnull C.1 C.2.1 d (k H locs ls hR hS hl)
theorem g_ifnullN {off : Int} (tgt : Nat) (C : Cok X G cc nL own ret nm R) (d : decode cc pc = .ok (.ifnull off, 3)) (ht : (pc : Int) + off = (tgt : Int)) (k : Go X G Q nL kc ks S tgt lv st) : Go X G Q nL kc ks S pc lv (.null :: st) := fun H locs ls hR hS hl => lv_ifnullN C.1 C.2.1 d ht (k H locs ls hR hS hl)
theorem g_ifnonnull {x : Nat} {off : Int} (tgt : Nat) (C : Cok X G cc nL own ret nm R) (d : decode cc pc = .ok (.ifnonnull off, 3)) (ht : (pc : Int) + off = (tgt : Int)) (k : Go X G Q nL kc ks S tgt lv st) : Go X G Q nL kc ks S pc lv (.ref x :: st) := fun H locs ls hR hS hl => lv_ifnonnull C.1 C.2.1 d ht (k H locs ls hR hS hl)
theorem g_ifnonnullN {off : Int} (C : Cok X G cc nL own ret nm R) (d : decode cc pc = .ok (.ifnonnull off, 3)) (k : Go X G Q nL kc ks S (pc + 3) lv st) : Go X G Q nL kc ks S pc lv (.null :: st) := fun H locs ls hR hS hl => lv_ifnonnullN C.1 C.2.1 d (k H locs ls hR hS hl)
theorem g_topi {x y : Int32} (h : x = y) (k : Go X G Q nL kc ks S pc lv (.int y :: st)) : Go X G Q nL kc ks S pc lv (.int x :: st) := h ▸ k
theorem g_topl {x y : Int64} (h : x = y) (k : Go X G Q nL kc ks S pc lv (.long y :: st)) : Go X G Q nL kc ks S pc lv (.long x :: st) := h ▸ k
theorem g_topv {x y : Value} (h : x = y) (k : Go X G Q nL kc ks S pc lv (y :: st)) : Go X G Q nL kc ks S pc lv (x :: st) := h ▸ k
theorem g_st {S' : PS} (h : S = S') (k : Go X G Q nL kc ks S' pc lv st) : Go X G Q nL kc ks S pc lv st := h ▸ k
theorem g_ldc {index : Nat} {v : Int32} (C : Cok X G cc nL own ret nm R) (d : decode cc pc = .ok (.ldc index, 2)) (hc : Cond.constant own index v ∈ lw_tbl) (k : Go X G Q nL kc ks S (pc + 2) lv (.int v :: st)) : Go X G Q nL kc ks S pc lv st := fun H locs ls hR hS hl => lv_ldc C.1 C.2.1 C.2.2.2.1 (C.2.2.2.2.1 _ (lg hc rfl)) d (k H locs ls hR hS hl)
theorem g_ldc2 {index : Nat} {v : Int64} (C : Cok X G cc nL own ret nm R) (d : decode cc pc = .ok (.ldc2_w index, 3)) (hc : Cond.constantLong own index v ∈ lw_tbl) (k : Go X G Q nL kc ks S (pc + 3) lv (.long v :: st)) : Go X G Q nL kc ks S pc lv st := fun H locs ls hR hS hl => lv_ldc2 C.1 C.2.1 C.2.2.2.1 (C.2.2.2.2.1 _ (lg hc rfl)) d (k H locs ls hR hS hl)
theorem g_acmp_ne {rx ry : Option Nat} {off : Int} (tgt : Nat) (C : Cok X G cc nL own ret nm R) (d : decode cc pc = .ok (.if_acmp .ne off, 3)) (ht : (pc : Int) + off = (tgt : Int)) (kt : ¬ rx = ry → Go X G Q nL kc ks S tgt lv st) (kf : rx = ry → Go X G Q nL kc ks S (pc + 3) lv st) : Go X G Q nL kc ks S pc lv (va_rf ry :: va_rf rx :: st) := fun H locs ls hR hS hl => lv_acmp_ne C.1 C.2.1 d ht (fun q => kt q H locs ls hR hS hl) (fun q => kf q H locs ls hR hS hl)
/-- fields -/
theorem g_get {ref Cn : String} {T : u_T} {N ci index a : Nat} {fs : List Value} {v : Value} (C : Cok X G cc nL own ret nm R) (d : decode cc pc = .ok (.getfield index, 3)) (hw : ∀ w ∈ u_ws Cn T N, w ∈ lw_tbl) (hk0 : kd S a ≠ 0) (he : pf G S a = .inr (ci, fs)) (hc : vwCl[ci]? = some (Cn, T, N)) (k : Nat) (hk : k < N) (hlink : Cond.fieldLink own index ref (T k).2.1 (T k).2.2.1 ∈ lw_tbl) (hsame : (T k).1 = ref ∨ Cond.sameField ref (T k).1 (T k).2.1 (T k).2.2.1 ∈ lw_tbl) (hv : fs[k]? = some v)
    (kk : Go X G Q nL kc ks S (pc + 3) lv (v :: st)) : Go X G Q nL kc ks S pc lv (.ref a :: st) := by
  intro H locs ls hR hS hl
  obtain ⟨q0, h0⟩ := va_pl_get (X := []) (f := pf G S) ((hR.2.2.1 a).mp hk0)
  rw [List.nil_append, he] at h0
  refine va_get (D := G.1) C.1 C.2.1 C.2.2.2.2.1 (lg_u hw) C.2.2.2.1 C.2.2.2.2.2.1.1 hR.1 q0 h0 hc k hk (C.2.2.2.2.1 _ (lg hlink rfl)) ?_ hv d (kk H locs ls hR hS hl)
  rcases hsame with h | h
  · intro x hx; rw [← h]; exact hx
  · exact u_same (C.2.2.2.2.1 _ (lg h rfl))
theorem Rep.put {S' : PS} {H : Heap} {a : Nat} {e : va_E} (hR : Rep G S H) (hk : kd S' = kd S) (hL : La S' = La S) (hn : ∀ b, va_up (pf G S) a e b = pf G S' b) {H1 : Heap} {q0 : Nat} (ha : a ∈ La S) (h0 : (va_pl (La S) (pf G S))[q0]? = some (a, pf G S a)) (h1 : va_P G.1 vwCl ((va_pl (La S) (pf G S)).set q0 (a, e)) H1) (h2 : va_D (Ab G) ((va_pl (La S) (pf G S)).set q0 (a, e))) (hz : G.2.2 ≤ H1.size) : Rep G S' H1 := by
  have h3 := va_pl_set (X := []) (e := e) (by rw [List.nil_append]; exact hR.2.1) ha (by rw [List.nil_append]; exact h0)
  rw [List.nil_append, List.nil_append, va_pl_congr hn] at h3
  rw [h3] at h1 h2
  refine ⟨by rw [hL]; exact h1, by rw [hL]; exact h2, ?_, ?_, hz⟩
  · rw [hk, hL]; exact hR.2.2.1
  · rw [hk]; exact hR.2.2.2.1
theorem g_put {S' : PS} {ref Cn : String} {T : u_T} {N ci index a : Nat} {fs : List Value} {v : Value} {ty : FieldType} (C : Cok X G cc nL own ret nm R) (d : decode cc pc = .ok (.putfield index, 3)) (hw : ∀ w ∈ u_ws Cn T N, w ∈ lw_tbl) (ty0 : Nat → FieldType) (hty : ∀ k, k < N → parseFieldDescriptor (T k).2.2.1 = some (ty0 k)) (hnm : ∀ a, a < N → ∀ b, b < N → a ≠ b → (T a).2.1 ≠ (T b).2.1) (hk0 : kd S a ≠ 0) (he : pf G S a = .inr (ci, fs)) (hc : vwCl[ci]? = some (Cn, T, N)) (k : Nat) (hk : k < N) (hlink : Cond.fieldLink own index ref (T k).2.1 (T k).2.2.1 ∈ lw_tbl) (hsame : (T k).1 = ref) (hfin : (T k).2.2.2 = false ∨ ((T k).2.2.2 = true ∧ nm = "<init>" ∧ (T k).1 = own)) (hd : parseFieldDescriptor (T k).2.2.1 = some ty) (hn : narrow ty v = v) (hfit : fits ty v = true) (hl : k < fs.length)
    (hk' : kd S' = kd S) (hL' : La S' = La S) (hnew : (∀ a b, kd S a = kd S b → isU (kd S a) = true → a = b) → ∀ b, va_up (pf G S) a (.inr (ci, fs.set k v)) b = pf G S' b) (kk : Go X G Q nL kc ks S' (pc + 3) lv st) : Go X G Q nL kc ks S pc lv (v :: .ref a :: st) := by
  intro H locs ls hR hS hls
  have ha := (hR.2.2.1 a).mp hk0
  obtain ⟨q0, h0⟩ := va_pl_get (X := []) (f := pf G S) ha
  rw [List.nil_append] at h0
  have h0' := h0
  rw [he] at h0'
  rcases hfin with hfin | ⟨hfin, hi, ho⟩
  · refine va_put (D := G.1) C.1 C.2.1 C.2.2.2.2.1 (lg_u hw) ty0 hty hnm C.2.2.2.1 C.2.2.2.2.2.1.1 hR.1 hR.2.1 hS q0 h0' hc k hk (C.2.2.2.2.1 _ (lg hlink rfl)) (fun x hx => by rw [← hsame]; exact hx) hfin hd hn hfit hl d (fun H1 locs1 p1 d1 s1 => ?_)
    exact kk H1 locs1 ls (hR.put hk' hL' (hnew hR.2.2.2.1) ha h0 p1 d1 (Nat.le_trans C.2.2.2.2.2.2.1 s1.1)) s1 hls
  · refine va_putF (D := G.1) C.1 C.2.1 C.2.2.2.2.1 (lg_u hw) ty0 hty hnm C.2.2.2.1 C.2.2.2.2.2.1.1 hR.1 hR.2.1 hS q0 h0' hc k hk (C.2.2.2.2.1 _ (lg hlink rfl)) (fun x hx => by rw [← hsame]; exact hx) hfin (C.2.2.2.2.2.2.2.2.2.1.trans hi) ho hd hn hfit hl d (fun H1 locs1 p1 d1 s1 => ?_)
    exact kk H1 locs1 ls (hR.put hk' hL' (hnew hR.2.2.2.1) ha h0 p1 d1 (Nat.le_trans C.2.2.2.2.2.2.1 s1.1)) s1 hls
theorem g_iald {a n : Nat} {f : Nat → Int32} {i : Int32} (C : Cok X G cc nL own ret nm R) (d : decode cc pc = .ok (.iaload, 1)) (hk0 : kd S a ≠ 0) (he : pf G S a = .inl (G.2.1 0, n, .inl f)) (hin : vp_in i n) (kk : Go X G Q nL kc ks S (pc + 1) lv (.int (f i.toNatClampNeg) :: st)) : Go X G Q nL kc ks S pc lv (.int i :: .ref a :: st) := by
  intro H locs ls hR hS hl
  obtain ⟨q0, h0⟩ := va_pl_get (X := []) (f := pf G S) ((hR.2.2.1 a).mp hk0)
  rw [List.nil_append, he] at h0
  exact va_iald C.1 C.2.1 C.2.2.2.2.2.1.1 hR.1 q0 0 h0 rfl hin d (kk H locs ls hR hS hl)
theorem g_zald {a n : Nat} {f : Nat → Int32} {i : Int32} (C : Cok X G cc nL own ret nm R) (d : decode cc pc = .ok (.baload, 1)) (hk0 : kd S a ≠ 0) (he : pf G S a = .inl (G.2.1 2, n, .inl f)) (hin : vp_in i n) (kk : Go X G Q nL kc ks S (pc + 1) lv (.int (f i.toNatClampNeg) :: st)) : Go X G Q nL kc ks S pc lv (.int i :: .ref a :: st) := by
  intro H locs ls hR hS hl
  obtain ⟨q0, h0⟩ := va_pl_get (X := []) (f := pf G S) ((hR.2.2.1 a).mp hk0)
  rw [List.nil_append, he] at h0
  exact va_zald C.1 C.2.1 C.2.2.2.2.2.1.1 hR.1 q0 2 h0 rfl hin d (kk H locs ls hR hS hl)
theorem g_lald {a n : Nat} {f : Nat → Int64} {i : Int32} (C : Cok X G cc nL own ret nm R) (d : decode cc pc = .ok (.laload, 1)) (hk0 : kd S a ≠ 0) (he : pf G S a = .inl (G.2.1 1, n, .inr (.inl f))) (hin : vp_in i n) (kk : Go X G Q nL kc ks S (pc + 1) lv (.long (f i.toNatClampNeg) :: st)) : Go X G Q nL kc ks S pc lv (.int i :: .ref a :: st) := by
  intro H locs ls hR hS hl
  obtain ⟨q0, h0⟩ := va_pl_get (X := []) (f := pf G S) ((hR.2.2.1 a).mp hk0)
  rw [List.nil_append, he] at h0
  exact va_lald C.1 C.2.1 C.2.2.2.2.2.1.1 hR.1 q0 1 h0 rfl hin d (kk H locs ls hR hS hl)
theorem g_nald {a n : Nat} {f : Nat → Option Nat} {i : Int32} (C : Cok X G cc nL own ret nm R) (d : decode cc pc = .ok (.aaload, 1)) (hk0 : kd S a ≠ 0) (he : pf G S a = .inl (G.2.1 3, n, .inr (.inr (.inr (.inr f))))) (hin : vp_in i n) (kk : Go X G Q nL kc ks S (pc + 1) lv (va_rf (f i.toNatClampNeg) :: st)) : Go X G Q nL kc ks S pc lv (.int i :: .ref a :: st) := by
  intro H locs ls hR hS hl
  obtain ⟨q0, h0⟩ := va_pl_get (X := []) (f := pf G S) ((hR.2.2.1 a).mp hk0)
  rw [List.nil_append, he] at h0
  exact va_aldq C.1 C.2.1 C.2.2.2.2.2.1.1 hR.1 q0 3 h0 rfl hin d (kk H locs ls hR hS hl)
theorem g_tald {a n : Nat} {f : Nat → Option Nat} {i : Int32} (C : Cok X G cc nL own ret nm R) (d : decode cc pc = .ok (.aaload, 1)) (hk0 : kd S a ≠ 0) (he : pf G S a = .inl (G.2.1 4, n, .inr (.inr (.inr (.inr f))))) (hin : vp_in i n) (kk : Go X G Q nL kc ks S (pc + 1) lv (va_rf (f i.toNatClampNeg) :: st)) : Go X G Q nL kc ks S pc lv (.int i :: .ref a :: st) := by
  intro H locs ls hR hS hl
  obtain ⟨q0, h0⟩ := va_pl_get (X := []) (f := pf G S) ((hR.2.2.1 a).mp hk0)
  rw [List.nil_append, he] at h0
  exact va_aldq C.1 C.2.1 C.2.2.2.2.2.1.1 hR.1 q0 4 h0 rfl hin d (kk H locs ls hR hS hl)
theorem g_iast {S' : PS} {a n : Nat} {f : Nat → Int32} {i : Int32} {x : Int32} (C : Cok X G cc nL own ret nm R) (d : decode cc pc = .ok (.iastore, 1)) (hk0 : kd S a ≠ 0) (he : pf G S a = .inl (G.2.1 0, n, .inl f)) (hin : vp_in i n) (hk' : kd S' = kd S) (hL' : La S' = La S) (hnew : (∀ a b, kd S a = kd S b → isU (kd S a) = true → a = b) → ∀ b, va_up (pf G S) a (.inl (G.2.1 0, n, .inl (upd f i.toNatClampNeg x))) b = pf G S' b) (kk : Go X G Q nL kc ks S' (pc + 1) lv st) : Go X G Q nL kc ks S pc lv (.int x :: .int i :: .ref a :: st) := by
  intro H locs ls hR hS hls
  have ha := (hR.2.2.1 a).mp hk0
  obtain ⟨q0, h0⟩ := va_pl_get (X := []) (f := pf G S) ha
  rw [List.nil_append] at h0
  have h0' := h0
  rw [he] at h0'
  refine va_iast C.1 C.2.1 C.2.2.2.2.2.1.1 hR.1 hR.2.1 hS q0 0 h0' rfl hin d (fun H1 locs1 p1 d1 s1 => ?_)
  exact kk H1 locs1 ls (hR.put hk' hL' (hnew hR.2.2.2.1) ha h0 p1 d1 (Nat.le_trans C.2.2.2.2.2.2.1 s1.1)) s1 hls
theorem g_zast {S' : PS} {a n : Nat} {f : Nat → Int32} {i : Int32} {x : Int32} (C : Cok X G cc nL own ret nm R) (d : decode cc pc = .ok (.bastore, 1)) (hk0 : kd S a ≠ 0) (he : pf G S a = .inl (G.2.1 2, n, .inl f)) (hin : vp_in i n) (hk' : kd S' = kd S) (hL' : La S' = La S) (hnew : (∀ a b, kd S a = kd S b → isU (kd S a) = true → a = b) → ∀ b, va_up (pf G S) a (.inl (G.2.1 2, n, .inl (upd f i.toNatClampNeg (vp_nar .boolean x)))) b = pf G S' b) (kk : Go X G Q nL kc ks S' (pc + 1) lv st) : Go X G Q nL kc ks S pc lv (.int x :: .int i :: .ref a :: st) := by
  intro H locs ls hR hS hls
  have ha := (hR.2.2.1 a).mp hk0
  obtain ⟨q0, h0⟩ := va_pl_get (X := []) (f := pf G S) ha
  rw [List.nil_append] at h0
  have h0' := h0
  rw [he] at h0'
  refine va_zast C.1 C.2.1 C.2.2.2.2.2.1.1 hR.1 hR.2.1 hS q0 2 h0' rfl hin d (fun H1 locs1 p1 d1 s1 => ?_)
  exact kk H1 locs1 ls (hR.put hk' hL' (hnew hR.2.2.2.1) ha h0 p1 d1 (Nat.le_trans C.2.2.2.2.2.2.1 s1.1)) s1 hls
theorem g_last {S' : PS} {a n : Nat} {f : Nat → Int64} {i : Int32} {x : Int64} (C : Cok X G cc nL own ret nm R) (d : decode cc pc = .ok (.lastore, 1)) (hk0 : kd S a ≠ 0) (he : pf G S a = .inl (G.2.1 1, n, .inr (.inl f))) (hin : vp_in i n) (hk' : kd S' = kd S) (hL' : La S' = La S) (hnew : (∀ a b, kd S a = kd S b → isU (kd S a) = true → a = b) → ∀ b, va_up (pf G S) a (.inl (G.2.1 1, n, .inr (.inl (vp_updL f i.toNatClampNeg x)))) b = pf G S' b) (kk : Go X G Q nL kc ks S' (pc + 1) lv st) : Go X G Q nL kc ks S pc lv (.long x :: .int i :: .ref a :: st) := by
  intro H locs ls hR hS hls
  have ha := (hR.2.2.1 a).mp hk0
  obtain ⟨q0, h0⟩ := va_pl_get (X := []) (f := pf G S) ha
  rw [List.nil_append] at h0
  have h0' := h0
  rw [he] at h0'
  refine va_last C.1 C.2.1 C.2.2.2.2.2.1.1 hR.1 hR.2.1 hS q0 1 h0' rfl hin d (fun H1 locs1 p1 d1 s1 => ?_)
  exact kk H1 locs1 ls (hR.put hk' hL' (hnew hR.2.2.2.1) ha h0 p1 d1 (Nat.le_trans C.2.2.2.2.2.2.1 s1.1)) s1 hls
theorem g_nastN {S' : PS} {a n : Nat} {f : Nat → Option Nat} {i : Int32}  (C : Cok X G cc nL own ret nm R) (d : decode cc pc = .ok (.aastore, 1)) (hk0 : kd S a ≠ 0) (he : pf G S a = .inl (G.2.1 3, n, .inr (.inr (.inr (.inr f))))) (hin : vp_in i n) (hk' : kd S' = kd S) (hL' : La S' = La S) (hnew : (∀ a b, kd S a = kd S b → isU (kd S a) = true → a = b) → ∀ b, va_up (pf G S) a (.inl (G.2.1 3, n, .inr (.inr (.inr (.inr (va_up f i.toNatClampNeg none)))))) b = pf G S' b) (kk : Go X G Q nL kc ks S' (pc + 1) lv st) : Go X G Q nL kc ks S pc lv (.null :: .int i :: .ref a :: st) := by
  intro H locs ls hR hS hls
  have ha := (hR.2.2.1 a).mp hk0
  obtain ⟨q0, h0⟩ := va_pl_get (X := []) (f := pf G S) ha
  rw [List.nil_append] at h0
  have h0' := h0
  rw [he] at h0'
  refine va_astqN C.1 C.2.1 C.2.2.2.2.2.1.1 hR.1 hR.2.1 hS q0 3 h0' rfl hin d (fun H1 locs1 p1 d1 s1 => ?_)
  exact kk H1 locs1 ls (hR.put hk' hL' (hnew hR.2.2.2.1) ha h0 p1 d1 (Nat.le_trans C.2.2.2.2.2.2.1 s1.1)) s1 hls
theorem g_tastN {S' : PS} {a n : Nat} {f : Nat → Option Nat} {i : Int32}  (C : Cok X G cc nL own ret nm R) (d : decode cc pc = .ok (.aastore, 1)) (hk0 : kd S a ≠ 0) (he : pf G S a = .inl (G.2.1 4, n, .inr (.inr (.inr (.inr f))))) (hin : vp_in i n) (hk' : kd S' = kd S) (hL' : La S' = La S) (hnew : (∀ a b, kd S a = kd S b → isU (kd S a) = true → a = b) → ∀ b, va_up (pf G S) a (.inl (G.2.1 4, n, .inr (.inr (.inr (.inr (va_up f i.toNatClampNeg none)))))) b = pf G S' b) (kk : Go X G Q nL kc ks S' (pc + 1) lv st) : Go X G Q nL kc ks S pc lv (.null :: .int i :: .ref a :: st) := by
  intro H locs ls hR hS hls
  have ha := (hR.2.2.1 a).mp hk0
  obtain ⟨q0, h0⟩ := va_pl_get (X := []) (f := pf G S) ha
  rw [List.nil_append] at h0
  have h0' := h0
  rw [he] at h0'
  refine va_astqN C.1 C.2.1 C.2.2.2.2.2.1.1 hR.1 hR.2.1 hS q0 4 h0' rfl hin d (fun H1 locs1 p1 d1 s1 => ?_)
  exact kk H1 locs1 ls (hR.put hk' hL' (hnew hR.2.2.2.1) ha h0 p1 d1 (Nat.le_trans C.2.2.2.2.2.2.1 s1.1)) s1 hls
theorem g_alen {a n t0 : Nat} {x : (Nat → Int32) ⊕ (Nat → Int64) ⊕ (Nat → UInt32) ⊕ (Nat → UInt64) ⊕ (Nat → Option Nat)} (C : Cok X G cc nL own ret nm R) (d : decode cc pc = .ok (.arraylength, 1)) (hk0 : kd S a ≠ 0) (he : pf G S a = .inl (G.2.1 t0, n, x)) (ht : t0 < 5) (kk : Go X G Q nL kc ks S (pc + 1) lv (.int (nI n) :: st)) : Go X G Q nL kc ks S pc lv (.ref a :: st) := by
  intro H locs ls hR hS hl
  obtain ⟨q0, h0⟩ := va_pl_get (X := []) (f := pf G S) ((hR.2.2.1 a).mp hk0)
  rw [List.nil_append, he] at h0
  have hty : ∃ ty, (tyz G)[t0]? = some (G.2.1 t0, ty) := by
    match t0, ht with
    | 0, _ => exact ⟨_, rfl⟩
    | 1, _ => exact ⟨_, rfl⟩
    | 2, _ => exact ⟨_, rfl⟩
    | 3, _ => exact ⟨_, rfl⟩
    | 4, _ => exact ⟨_, rfl⟩
  obtain ⟨ty, hty⟩ := hty
  exact va_alen C.1 C.2.1 C.2.2.2.2.2.1.1 hR.1 q0 t0 h0 hty rfl d (kk H locs ls hR hS hl)
/-- ends -/
theorem g_iret {Po : Option Value → PS → Prop} {mc ms : Nat} {v : Int32} (C : Cok X G cc nL own (some .int) nm R) (d : decode cc pc = .ok (.ireturn, 1)) (h1 : kc ≤ mc) (h2 : ks ≤ ms) (h : Po (some (.int v)) S) : Go X G (Qe X G Po mc ms) nL kc ks S pc lv [.int v] := by
  intro H locs ls hR hS hl
  refine W.widen h1 h2 ?_
  exact W.iret C.1 C.2.1 C.2.2.2.2.2.2.2.1 (fun t ht hW => ⟨⟨_, S, rfl, h, by rw [ht]; exact hR⟩, hS.F ht⟩) hS.2.2 d C.2.2.2.2.2.2.2.2.1
theorem g_zret {Po : Option Value → PS → Prop} {mc ms : Nat} {v : Int32} (C : Cok X G cc nL own (some .boolean) nm R) (d : decode cc pc = .ok (.ireturn, 1)) (h1 : kc ≤ mc) (h2 : ks ≤ ms) (hv : v = 0 ∨ v = 1) (h : Po (some (.int v)) S) : Go X G (Qe X G Po mc ms) nL kc ks S pc lv [.int v] := by
  intro H locs ls hR hS hl
  refine W.widen h1 h2 ?_
  exact W.zret C.1 C.2.1 C.2.2.2.2.2.2.2.1 (by rcases hv with rfl | rfl <;> decide) (fun t ht hW => ⟨⟨_, S, rfl, h, by rw [ht]; exact hR⟩, hS.F ht⟩) hS.2.2 d C.2.2.2.2.2.2.2.2.1
theorem g_lret {Po : Option Value → PS → Prop} {mc ms : Nat} {v : Int64} (C : Cok X G cc nL own (some .long) nm R) (d : decode cc pc = .ok (.lreturn, 1)) (h1 : kc ≤ mc) (h2 : ks ≤ ms) (h : Po (some (.long v)) S) : Go X G (Qe X G Po mc ms) nL kc ks S pc lv [.long v] := by
  intro H locs ls hR hS hl
  refine W.widen h1 h2 ?_
  exact W.lret C.1 C.2.1 C.2.2.2.2.2.2.2.1 (fun t ht hW => ⟨⟨_, S, rfl, h, by rw [ht]; exact hR⟩, hS.F ht⟩) hS.2.2 d C.2.2.2.2.2.2.2.2.1
theorem g_vret {Po : Option Value → PS → Prop} {mc ms : Nat} (C : Cok X G cc nL own none nm R) (d : decode cc pc = .ok (.return_, 1)) (h1 : kc ≤ mc) (h2 : ks ≤ ms) (h : Po none S) : Go X G (Qe X G Po mc ms) nL kc ks S pc lv [] := by
  intro H locs ls hR hS hl
  refine W.widen h1 h2 ?_
  exact W.vret C.1 C.2.1 C.2.2.2.2.2.2.2.1 (fun t ht hW => ⟨⟨_, S, rfl, h, by rw [ht]; exact hR⟩, hS.F ht⟩) hS.2.2 d C.2.2.2.2.2.2.2.2.1
theorem g_aret {Po : Option Value → PS → Prop} {mc ms : Nat} {rt : FieldType} {r : Option Nat} (C : Cok X G cc nL own (some rt) nm R) (d : decode cc pc = .ok (.areturn, 1)) (hrt : (∃ n, rt = .object n) ∨ ∃ t, rt = .array t) (h1 : kc ≤ mc) (h2 : ks ≤ ms) (h : Po (some (va_rf r)) S) : Go X G (Qe X G Po mc ms) nL kc ks S pc lv [va_rf r] := by
  intro H locs ls hR hS hl
  refine W.widen h1 h2 ?_
  exact W.aret C.1 C.2.1 C.2.2.2.2.2.2.2.1 hrt (by cases r with | none => exact Or.inl rfl | some a => exact Or.inr ⟨a, rfl⟩) (fun t ht hW => ⟨⟨_, S, rfl, h, by rw [ht]; exact hR⟩, hS.F ht⟩) hS.2.2 d C.2.2.2.2.2.2.2.2.1
theorem lw_goodIn {y : MethodName} {b : ByteArray} {n : Nat} {r : Option FieldType} (h : Cond.code y b n r ∈ lw_tbl) : GoodIn lw_g (.code y b n r :: lw_g) := by
  intro w hw
  rcases List.mem_cons.mp hw with rfl | hw
  · exact ⟨lg h rfl, good_of_word rfl⟩
  · exact ⟨hw, good_of_word (List.mem_filter.mp hw).2⟩
theorem g_run {y : MethodName} {mc ms : Nat} {Po : Option Value → PS → Prop} {a : Array Value} {rest st0 : List Value} (hr : ∀ (H : Heap) (locs : List Loc) (ls : Array Slot), Rep G S H → va_S (Ab G) (xs X).heap H locs → lv_has ls nL lv → va_Run (xp X) (xl X) (xe X) (xR X) (xs X) (xm X) (xa X) (xb X) (xh X) (xc X) H locs kc ks mc ms (F0 (xm X) pc ls st0) rest (Qp G Po a) (Ab G))
    (kk : ∀ (r : Option Value) (S' : PS), Po r S' → Go X G Q nL (kc + mc) (ks + ms) S' (pc + 3) lv (r.toList ++ rest)) : Go X G Q nL kc ks S pc lv st0 := by
  intro H locs ls hR hS hl T hT XT
  obtain ⟨v, st₀, t, T', L, h0, X', hL, e1, e2, ⟨⟨r, S', hv, hp, hR'⟩, hz, hk⟩, st⟩ := hr H locs ls hR hS hl T hT XT
  cases hv
  rw [h0] at hz hk
  have hS' : va_S (Ab G) (xs X).heap T'.heap (locs ++ L) := ⟨Nat.le_trans hS.1 (by rw [e1]; exact hz), fun q h1 h2 => by rw [e1, hk q (Nat.lt_of_lt_of_le h1 hS.1) h2]; exact hS.2.1 q h1 h2, fun q hq => by
      rcases List.mem_append.mp hq with h | h
      · exact hS.2.2 q h
      · exact hL q h⟩
  obtain ⟨t2, a1, b1⟩ := kk v S' hp T'.heap (locs ++ L) ls (by rw [e1]; exact hR') hS' hl T' rfl X'
  exact ⟨t2, st t2 a1, b1⟩
theorem Rep.recv {H : Heap} {s : State} {a ci : Nat} {fs : List Value} {q : vw_C} (hR : Rep G S H) (hK : Ks G s) (hk0 : kd S a ≠ 0) (he : pf G S a = .inr (ci, fs)) (hc : vwCl[ci]? = some q) : ∃ cell : Cell, H[a]? = some cell ∧ cell.vm.isStatics = false ∧ s.vm.findClass q.1 = some cell.cls := by
  obtain ⟨q0, h0⟩ := va_pl_get (X := []) (f := pf G S) ((hR.2.2.1 a).mp hk0)
  rw [List.nil_append, he] at h0
  obtain ⟨r, h1, cell, q1, q2, q3, -⟩ := hR.1 q0 _ h0
  have hr : r = q := Option.some.inj (h1.symm.trans hc)
  subst hr
  exact ⟨cell, q1, by rw [q3]; rfl, by rw [q2]; exact (hK.1.1 ci _ hc).2.1⟩
theorem ct_pre {av : List Value} {H : Heap} {s : State} (hR : Rep G S H) (hK : Ks G s) : PreS s H (va_Pc av (fun U => Rep G S U.heap ∧ Ks G U)) av := ⟨fun a U g mk q => ⟨q.1, q.2.1, q.2.2.same (u := U) (U := U.calling g mk a) rfl⟩, fun U hU hW => ⟨rfl, by rw [hU]; exact hR, hK.warm hW⟩⟩
/-- the room that a call takes of the caller's -/
def fitsR (R' R : Room) (n kc ks : Nat) : Prop := R'.frames + 1 ≤ R.frames ∧ 8 + (n + 11) + R'.locals ≤ R.locals ∧ kc + R'.cells ≤ R.cells ∧ ks + R'.slots ≤ R.slots
theorem g_callV {y : MethodName} {b : ByteArray} {n : Nat} {r : Option FieldType} {R' : Room} {As rest : List Value} {Po : Option Value → PS → Prop} {index a ci : Nat} {fs : List Value} {q : vw_C} (C : Cok X G cc nL own ret nm R) (d : decode cc pc = .ok (.invokevirtual index, 3)) (hM : Ct (xl X) y b n r R' G (.ref a :: As) S Po) (hcode : Cond.code y b n r ∈ lw_tbl) (hl : Cond.methodLink own index y ∈ lw_tbl) (hi : Cond.instanceMethod y ∈ lw_tbl) (hsel : Cond.selects q.1 y y ∈ lw_tbl) (hini : Cond.initialized q.1 ∈ lw_tbl) (hk0 : kd S a ≠ 0) (he : pf G S a = .inr (ci, fs)) (hc : vwCl[ci]? = some q)
    (hd : y.cls = q.1 ∧ y.cls ≠ "java/lang/invoke/MethodHandle" ∧ y.cls ≠ "java/lang/invoke/VarHandle" ∧ (parseMethodDescriptor y.desc).map (fun d => d.parameters.length) = some As.length) (hF : fitsR R' R n kc ks) (hw : (rest.map fun v => v.category).sum ≤ 8)
    (kk : ∀ (v : Option Value) (S' : PS), Po v S' → Go X G Q nL (kc + R'.cells) (ks + R'.slots) S' (pc + 3) lv (v.toList ++ rest)) : Go X G Q nL kc ks S pc lv (As.reverse ++ .ref a :: rest) := by
  obtain ⟨c1, c2, c3, c4, c5, c6, c7, c8, c9, c10, c11⟩ := id C
  refine g_run (y := y) (mc := R'.cells) (ms := R'.slots) (a := (Value.ref a :: As).toArray) (rest := rest) (fun H locs ls hR hS hls => ?_) kk
  have hT : GoodIn lw_g (wsV own index q.1 y (.code y b n r :: lw_g)) := by
    intro w hw
    rcases List.mem_append.mp hw with hw | hw
    · simp only [List.mem_cons, List.not_mem_nil, or_false] at hw
      rcases hw with rfl | rfl | rfl | rfl
      · exact ⟨lg hl rfl, good_of_word rfl⟩
      · exact ⟨lg hi rfl, good_of_word rfl⟩
      · exact ⟨lg hsel rfl, good_of_word rfl⟩
      · exact ⟨lg hini rfl, good_of_word rfl⟩
    · exact lw_goodIn hcode w hw
  exact va_runV (As := As) (rest := rest) (b := a) ⟨c1, c2, c3, c4, c5⟩ hM (cwV As.length c5 hT rfl rfl rfl hd ⟨by rw [c11]; exact hF.1, by rw [c11]; exact hF.2.1⟩) ⟨(ct_pre hR c6).1, hR.recv c6 hk0 he hc, (ct_pre (av := .ref a :: As) hR c6).2⟩ rfl rfl hls.1 rfl (lv_room (m := xm X) (pc := pc) (ls := ls) (rest := []) hw) d ⟨by rw [c11]; exact hF.2.2.1, by rw [c11]; exact hF.2.2.2⟩
theorem g_callS {y : MethodName} {b : ByteArray} {n : Nat} {r : Option FieldType} {R' : Room} {As rest : List Value} {Po : Option Value → PS → Prop} {index : Nat} (C : Cok X G cc nL own ret nm R) (d : decode cc pc = .ok (.invokestatic index, 3)) (hM : Ct (xl X) y b n r R' G As S Po) (hcode : Cond.code y b n r ∈ lw_tbl) (hl : Cond.methodLink own index y ∈ lw_tbl) (hi : Cond.static y ∈ lw_tbl) (hini : Cond.initialized y.cls ∈ lw_tbl)
    (hd : y.cls ≠ "java/lang/invoke/MethodHandle" ∧ y.cls ≠ "java/lang/invoke/VarHandle" ∧ (parseMethodDescriptor y.desc).map (fun d => d.parameters.length) = some As.length) (hF : fitsR R' R n kc ks) (hw : (rest.map fun v => v.category).sum ≤ 8)
    (kk : ∀ (v : Option Value) (S' : PS), Po v S' → Go X G Q nL (kc + R'.cells) (ks + R'.slots) S' (pc + 3) lv (v.toList ++ rest)) : Go X G Q nL kc ks S pc lv (As.reverse ++ rest) := by
  obtain ⟨c1, c2, c3, c4, c5, c6, c7, c8, c9, c10, c11⟩ := id C
  refine g_run (y := y) (mc := R'.cells) (ms := R'.slots) (a := As.toArray) (rest := rest) (fun H locs ls hR hS hls => ?_) kk
  exact va_runS (As := As) (rest := rest) ⟨c1, c2, c3, c4, c5⟩ hM ⟨callB_of As.length c5 (lw_goodIn hcode) rfl rfl rfl (c5 _ (lg hini rfl)) (c5 _ (lg hl rfl)) hd ⟨by rw [c11]; exact hF.1, by rw [c11]; exact hF.2.1⟩, c5 _ (lg hi rfl)⟩ (ct_pre hR c6) rfl rfl hls.1 rfl (lv_room (m := xm X) (pc := pc) (ls := ls) (rest := []) hw) d ⟨by rw [c11]; exact hF.2.2.1, by rw [c11]; exact hF.2.2.2⟩
theorem g_callI {y : MethodName} {b : ByteArray} {n : Nat} {R' : Room} {As rest : List Value} {Po : Option Value → PS → Prop} {index a : Nat} (C : Cok X G cc nL own ret nm R) (d : decode cc pc = .ok (.invokespecial index, 3)) (hM : Ct (xl X) y b n none R' G (.ref a :: As) S Po) (hcode : Cond.code y b n none ∈ lw_tbl) (hl : Cond.methodLink own index y ∈ lw_tbl) (hi : Cond.instanceMethod y ∈ lw_tbl) (hini : Cond.initialized y.cls ∈ lw_tbl) (hy : y.name = "<init>")
    (hd : y.cls ≠ "java/lang/invoke/MethodHandle" ∧ y.cls ≠ "java/lang/invoke/VarHandle" ∧ (parseMethodDescriptor y.desc).map (fun d => d.parameters.length) = some As.length) (hF : fitsR R' R n kc ks) (hw : (rest.map fun v => v.category).sum ≤ 8)
    (kk : ∀ (v : Option Value) (S' : PS), Po v S' → Go X G Q nL (kc + R'.cells) (ks + R'.slots) S' (pc + 3) lv (v.toList ++ rest)) : Go X G Q nL kc ks S pc lv (As.reverse ++ .ref a :: rest) := by
  obtain ⟨c1, c2, c3, c4, c5, c6, c7, c8, c9, c10, c11⟩ := id C
  refine g_run (y := y) (mc := R'.cells) (ms := R'.slots) (a := (Value.ref a :: As).toArray) (rest := rest) (fun H locs ls hR hS hls => ?_) kk
  exact va_runI (As := As) (rest := rest) (b := a) ⟨c1, c2, c3, c4, c5⟩ hM (cwI As.length c5 (lw_goodIn hcode) rfl rfl rfl (c5 _ (lg hini rfl)) (c5 _ (lg hl rfl)) (c5 _ (lg hi rfl)) hy hd ⟨by rw [c11]; exact hF.1, by rw [c11]; exact hF.2.1⟩) (ct_pre hR c6) rfl rfl hls.1 rfl (lv_room (m := xm X) (pc := pc) (ls := ls) (rest := []) hw) d ⟨by rw [c11]; exact hF.2.2.1, by rw [c11]; exact hF.2.2.2⟩
end GoRows
