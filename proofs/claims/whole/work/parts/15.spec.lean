/-! what a shelf is, and what its acts answer -/
/-- the TREE: a node: its first name, the end of its names, how many bytes it stands for, how many the node above -/
abbrev Nd : Type := Nat × Nat × Nat × Nat
def alN (l : List Ent) (k : Nat) : Nat := lcp (nm l (k - 1)) (nm l k)
def gEnd (l : List Ent) (k hi d : Nat) : Nat := k + 1 + fN (fun i => decide (d < alN l (k + 1 + i))) (hi - (k + 1))
def gTo (l : List Ent) (k e d : Nat) : Nat := d + 1 + fN (fun i => decide (d + 1 + i < (nm l k).length) && decide (gEnd l k e (d + 1 + i) = e)) 24
def kidsF (l : List Ent) (pr : Bool) (hi d : Nat) : Nat → Nat → List Nd
  | 0, _ => []
  | f + 1, k => if k < hi then (k, gEnd l k hi d, (if pr then gTo l k (gEnd l k hi d) d else d + 1), d) :: kidsF l pr hi d f (gEnd l k hi d) else []
def kids (l : List Ent) (pr : Bool) (v : Nd) : List Nd := kidsF l pr v.2.1 v.2.2.1 (v.2.1 - v.1 + 1) (if (nm l v.1).length = v.2.2.1 then v.1 + 1 else v.1)
def trS (l : List Ent) (pr : Bool) : Nat → List Nd
  | 0 => [(0, l.length, 0, 0)]
  | v + 1 => if v < (trS l pr v).length then trS l pr v ++ kids l pr ((trS l pr v).getD v (0, 0, 0, 0)) else trS l pr v
def tr (l : List Ent) (pr : Bool) : List Nd := trS l pr 2402
def ndAt (l : List Ent) (pr : Bool) (v : Nat) : Nd := (tr l pr).getD v (0, 0, 0, 0)
def isEndN (l : List Ent) (v : Nd) : Bool := decide ((nm l v.1).length = v.2.2.1)
/-- is the string of edge v that of an edge before -/
def sameStr (l : List Ent) (u v : Nd) : Bool := decide (u.2.2.1 - u.2.2.2 = v.2.2.1 - v.2.2.2) && decide (fN (fun i => (nm l u.1).getD (u.2.2.2 + i) 0 == (nm l v.1).getD (v.2.2.2 + i) 0) (v.2.2.1 - v.2.2.2) = v.2.2.1 - v.2.2.2)
def again (l : List Ent) (ns : List Nd) (v : Nat) : Bool := decide (1 + fN (fun i => !sameStr l (ns.getD (1 + i) (0, 0, 0, 0)) (ns.getD v (0, 0, 0, 0))) (v - 1) < v)
def sumN (f : Nat → Nat) : Nat → Nat
  | 0 => 0
  | n + 1 => sumN f n + f n
def hbN (n : Nat) : Nat := fN (fun h => decide (2 ^ h ≤ n)) 31
def hiPart (l : List Ent) (k : Nat) : Nat := (nm l k).getD 0 0 / 2 ^ (8 - hbN l.length)
def bitsT (l : List Ent) (pr : Bool) : List Nat := (tr l pr).flatMap fun v => List.replicate (kids l pr v).length 1 ++ [0]
def bitsS (l : List Ent) : List Nat := (List.range (2 ^ hbN l.length)).flatMap fun v => List.replicate (sumN (fun k => if hiPart l k = v then 1 else 0) l.length) 1 ++ [0]
def bitsN (k : Nat) (l : List Ent) : List Nat := if k = 1 then [] else if k = 5 then bitsS l else bitsT l (k != 2)
def edgesN (k : Nat) (l : List Ent) : Nat := if k = 1 ∨ k = 5 then 0 else (tr l (k != 2)).length - 1
def marksN (k : Nat) (l : List Ent) : Nat := if k = 1 ∨ k = 5 then 0 else sumN (fun v => if isEndN l (ndAt l (k != 2) v) then 1 else 0) (tr l (k != 2)).length
def lettersN (k : Nat) (l : List Ent) : Nat := if k = 1 then sumN (fun k => (nm l k).length) l.length else if k = 5 then 0 else
  sumN (fun v => if 0 < v ∧ ¬ (k = 4 ∧ again l (tr l (k != 2)) v = true) then (ndAt l (k != 2) v).2.2.1 - (ndAt l (k != 2) v).2.2.2 else 0) (tr l (k != 2)).length
/-- things and shelves -/
abbrev Th : Type := Nat × List Ent × List Nat × Bool × Bool
abbrev tK (T : Th) : Nat := T.1
abbrev tL (T : Th) : List Ent := T.2.1
abbrev tB (T : Th) : List Nat := T.2.2.1
abbrev tA (T : Th) : Bool := T.2.2.2.1
abbrev tC (T : Th) : Bool := T.2.2.2.2
abbrev ZT : Type := List Nat × (Nat → Nat) × (Nat → Th) × Int32 × List Int32
abbrev zT (Z : ZT) : List Nat := Z.1
abbrev zP (Z : ZT) : Nat → Nat := Z.2.1
abbrev zH (Z : ZT) : Nat → Th := Z.2.2.1
abbrev zS (Z : ZT) : Int32 := Z.2.2.2.1
abbrev zW (Z : ZT) : List Int32 := Z.2.2.2.2
abbrev zT_ (Z : ZT) (v : List Nat) : ZT := (v, Z.2)
abbrev zP_ (Z : ZT) (v : Nat → Nat) : ZT := (Z.1, v, Z.2.2)
abbrev zH_ (Z : ZT) (v : Nat → Th) : ZT := (Z.1, Z.2.1, v, Z.2.2.2)
abbrev zS_ (Z : ZT) (v : Int32) : ZT := (Z.1, Z.2.1, Z.2.2.1, v, Z.2.2.2.2)
abbrev zW_ (Z : ZT) (v : List Int32) : ZT := (Z.1, Z.2.1, Z.2.2.1, Z.2.2.2.1, v)
def sortedL (l : List Ent) : Prop := ∀ i j, i < j → j < l.length → less (nm l i) (nm l j) = true
def usedP (pl : Nat → Nat) (t : Nat) : Prop := ∃ p, p < 10 ∧ pl p = t + 1
def okL (l : List Ent) : Prop := l.length ≤ 100 ∧ (∀ k, k < l.length → okN (nm l k)) ∧ sortedL l
def okT (T : Th) : Prop := 1 ≤ tK T ∧ tK T ≤ 7 ∧ okL (tL T) ∧ (tB T).length ≤ 4802 ∧ (∀ i, i < (tB T).length → (tB T).getD i 0 ≤ 1) ∧ (tK T ≤ 5 → 0 < (tL T).length ∧ tB T = bitsN (tK T) (tL T)) ∧ (tK T = 5 → ∀ k, k < (tL T).length → (nm (tL T) k).length = 8) ∧ (tK T = 1 → tA T = false ∧ tC T = false)
def okZ (Z : ZT) : Prop := ((zT Z).length ≤ 1000 ∧ ∀ i, i < (zT Z).length → (zT Z).getD i 0 ≤ 255) ∧ (∀ p, p < 10 → zP Z p ≤ 11) ∧ (∀ t, usedP (zP Z) t → okT (zH Z t)) ∧ (zW Z).length ≤ 75
/-- the model holds a shelf -/
def tapeM (M : MoT) (tp : List Nat) : Prop := m_taped M = nI tp.length ∧ ∀ i, i < tp.length → m_tape M i = nI (tp.getD i 0)
def thM (M : MoT) (t : Nat) (T : Th) : Prop := m_sort M t = nI (tK T) ∧ namesM M t (tL T) ∧ m_bits M t = nI (tB T).length ∧ (∀ i, i < (tB T).length → m_row M (4900 * t + i) = nI ((tB T).getD i 0)) ∧ m_lost M (2 * t) = bI (tA T) ∧ m_lost M (2 * t + 1) = bI (tC T) ∧ (tK T ≤ 5 → m_edges M t = nI (edgesN (tK T) (tL T)) ∧ m_letters M t = nI (lettersN (tK T) (tL T)) ∧ m_marks M t = nI (marksN (tK T) (tL T)))
def RM (M : MoT) (Z : ZT) : Prop := tapeM M (zT Z) ∧ (∀ p, p < 10 → m_place M p = nI (zP Z p)) ∧ (∀ t, usedP (zP Z) t → thM M t (zH Z t)) ∧ m_status M = zS Z ∧ m_witnessed M = nI (zW Z).length ∧ ∀ i, i < (zW Z).length → m_witness M i = (zW Z).getD i 0
/-- a place: why not, or which thing -/
def look (Z : ZT) (p : Int32) : Int32 ⊕ Nat := if p < 0 ∨ nI 10 ≤ p then .inl (-2) else if zP Z p.toNatClampNeg = 0 then .inl (-3) else .inr (zP Z p.toNatClampNeg - 1)
theorem look_out {Z : ZT} {p : Int32} (h : p < 0 ∨ nI 10 ≤ p) : look Z p = .inl (-2) := by unfold look; rw [if_pos h]
theorem nI_in10 {j : Nat} (hj : j < 10) : ¬ (nI j < 0 ∨ nI 10 ≤ nI j) := fun h => h.elim (nI_pos (by omega)) (nI_ge hj (by decide))
theorem look_no {Z : ZT} {j : Nat} (hj : j < 10) (h : zP Z j = 0) : look Z (nI j) = .inl (-3) := by unfold look; rw [if_neg (nI_in10 hj), nI_clamp (by omega), if_pos h]
theorem look_at {Z : ZT} {j t : Nat} (hj : j < 10) (h : zP Z j = t + 1) : look Z (nI j) = .inr t := by unfold look; rw [if_neg (nI_in10 hj), nI_clamp (by omega), if_neg (by omega), h]; rfl
/-- every place is one of the three -/
theorem look_cases (Z : ZT) (p : Int32) : (p < 0 ∨ nI 10 ≤ p) ∨ ∃ j, j < 10 ∧ p = nI j ∧ (zP Z j = 0 ∨ ∃ t, zP Z j = t + 1) := by
  rcases pk_ix p (n := 10) (by decide) with h | h | ⟨j, hj, h⟩
  · exact Or.inl (Or.inl h)
  · exact Or.inl (Or.inr h)
  · refine Or.inr ⟨j, hj, h, ?_⟩
    cases hz : zP Z j with
    | zero => exact Or.inl rfl
    | succ t => exact Or.inr ⟨t, rfl⟩
def filt (b : Bool) (e : Int32 ⊕ Nat) : Int32 ⊕ Nat := match e with
  | .inl e => .inl e
  | .inr t => if b then .inr t else .inl (-4)
def bookE (Z : ZT) (p : Int32) : Int32 ⊕ Nat := match look Z p with
  | .inl e => .inl e
  | .inr t => if tK (zH Z t) ≤ 5 then .inr t else .inl (-4)
def draftE (Z : ZT) (p : Int32) : Int32 ⊕ Nat := match look Z p with
  | .inl e => .inl e
  | .inr t => if tK (zH Z t) = 6 then .inr t else .inl (-4)
def rowedE (Z : ZT) (p : Int32) : Int32 ⊕ Nat := match look Z p with
  | .inl e => .inl e
  | .inr t => if tK (zH Z t) = 1 ∨ tK (zH Z t) = 6 then .inl (-4) else .inr t
def errI (e : Int32 ⊕ Nat) : Int32 := match e with
  | .inl e => e
  | .inr _ => 0
theorem RM.th {M : MoT} {Z : ZT} (h : RM M Z) {j t : Nat} (hj : j < 10) (hp : zP Z j = t + 1) : thM M t (zH Z t) := h.2.2.1 t ⟨j, hj, hp⟩
theorem okZ.th {Z : ZT} (h : okZ Z) {j t : Nat} (hj : j < 10) (hp : zP Z j = t + 1) : okT (zH Z t) ∧ t < 11 := ⟨h.2.2.1 t ⟨j, hj, hp⟩, by have := h.2.1 j hj; omega⟩
/-- the tape as a name -/
def nameB (tp : List Nat) : Bool := decide (1 ≤ tp.length) && decide (tp.length ≤ 24) && decide (fN (fun i => tp.getD i 0 != 0) tp.length = tp.length)
theorem nameB_ok {tp : List Nat} (h : nameB tp = true) (h2 : ∀ i, i < tp.length → tp.getD i 0 ≤ 255) : okN tp := by
  unfold nameB at h
  simp only [Bool.and_eq_true, decide_eq_true_eq] at h
  obtain ⟨⟨h3, h4⟩, h5⟩ := h
  refine ⟨h3, h4, fun i hi => ⟨?_, h2 i hi⟩⟩
  have := fN_all (p := fun i => tp.getD i 0 != 0) (n := tp.length) (j := i) (by omega)
  have h6 : tp.getD i 0 ≠ 0 := by simpa using this
  omega
def missT (T : Th) : Bool := tA T || tC T
/-- an act that asks a book for the tape's name -/
def askE (Z : ZT) (p : Int32) : Int32 ⊕ Nat := match bookE Z p with
  | .inl e => .inl e
  | .inr t => if nameB (zT Z) then (if missT (zH Z t) then .inl (-6) else .inr t) else .inl (-5)
def askZ (Z : ZT) (p : Int32) : ZT := match bookE Z p with
  | .inl _ => Z
  | .inr _ => zT_ Z []
