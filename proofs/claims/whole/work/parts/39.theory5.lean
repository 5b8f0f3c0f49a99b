/-! going down a FORKED tree -/
theorem kidsF_d {l : List Ent} {pr : Bool} {hi d : Nat} : ∀ (f k : Nat), ∀ v ∈ kidsF l pr hi d f k, v.2.2.2 = d ∧ (pr = false → v.2.2.1 = d + 1) := by
  intro f
  induction f with
  | zero => intro k v hv; exact absurd hv List.not_mem_nil
  | succ f ih =>
    intro k v hv
    unfold kidsF at hv
    by_cases g : k < hi
    · rw [if_pos g] at hv
      rcases List.mem_cons.mp hv with e | e
      · rw [e]; exact ⟨rfl, fun h => by rw [h]; rfl⟩
      · exact ih _ v e
    · rw [if_neg g] at hv; exact absurd hv List.not_mem_nil
theorem kids_d {l : List Ent} {pr : Bool} {nd v : Nd} (h : v ∈ kids l pr nd) : v.2.2.2 = nd.2.2.1 ∧ (pr = false → v.2.2.1 = nd.2.2.1 + 1) := by
  unfold kids at h
  exact kidsF_d _ _ v h
def fe (l : List Ent) (v : Nat) : Nat := (trS l false v).length - 1
def dgN (l : List Ent) (v : Nat) : Nat := (trS l false (v + 1)).length - (trS l false v).length
def edB (l : List Ent) (e i : Nat) : Nat := (nm l (ndAt l false (e + 1)).1).getD i 0
def edN (l : List Ent) (v i b : Nat) : Nat := fN (fun q => edB l (fe l v + q) i != b) (dgN l v)
def dnS (l : List Ent) (cur : List Nat) : Nat → Nat × List Int32 × Bool
  | 0 => (0, [], true)
  | i + 1 => if (dnS l cur i).2.2 = true then
      (if edN l (dnS l cur i).1 i (cur.getD i 0) < dgN l (dnS l cur i).1
       then (fe l (dnS l cur i).1 + edN l (dnS l cur i).1 i (cur.getD i 0) + 1, (dnS l cur i).2.1 ++ [nI (fe l (dnS l cur i).1 + edN l (dnS l cur i).1 i (cur.getD i 0) + (dnS l cur i).1), nI (fe l (dnS l cur i).1 + edN l (dnS l cur i).1 i (cur.getD i 0)), nI (cur.getD i 0)], true)
       else ((dnS l cur i).1, (dnS l cur i).2.1, false))
      else dnS l cur i
def dnIs (l : List Ent) (cur : List Nat) : Bool := (dnS l cur cur.length).2.2 && isEndN l (ndAt l false (dnS l cur cur.length).1)
def dnD (l : List Ent) (cur : List Nat) : List Int32 := (dnS l cur cur.length).2.1 ++ [-1, nI (dnS l cur cur.length).1, bI (dnIs l cur)]
theorem dnS_stay {l : List Ent} {cur : List Nat} {i : Nat} (h : (dnS l cur i).2.2 = false) : ∀ k, dnS l cur (i + k) = dnS l cur i := by
  intro k
  induction k with
  | zero => rfl
  | succ k ih =>
    show (if (dnS l cur (i + k)).2.2 = true then _ else dnS l cur (i + k)) = _
    rw [ih, if_neg (by rw [h]; decide)]
theorem nd_pre {l : List Ent} {pr : Bool} {n i : Nat} (hn : n ≤ 2402) (h : i < (trS l pr n).length) : i < (tr l pr).length ∧ ndAt l pr i = (trS l pr n).getD i (0, 0, 0, 0) := by
  have := trS_pre h (2402 - n)
  rw [show n + (2402 - n) = 2402 by omega] at this
  unfold ndAt tr
  exact this
theorem trS_kid {l : List Ent} {pr : Bool} {v q : Nat} {nd : Nd} (hg : (trS l pr v).getD v (0, 0, 0, 0) = nd) (h : v < (trS l pr v).length) (hq : q < (trS l pr (v + 1)).length - (trS l pr v).length) : (trS l pr (v + 1)).getD ((trS l pr v).length + q) (0, 0, 0, 0) ∈ kids l pr nd := by
  have e := trS_succ h
  rw [hg] at e
  rw [e, List.length_append] at hq
  rw [e, getD_app, if_neg (by omega), show (trS l pr v).length + q - (trS l pr v).length = q by omega]
  rw [List.getD_eq_getElem?_getD, List.getElem?_eq_getElem (by omega)]; exact List.getElem_mem _
theorem tr_v {l : List Ent} (hl : okL l) (h0 : 0 < l.length) {pr : Bool} {v : Nat} (hv : v < (tr l pr).length) : v + 1 ≤ 2402 := by
  have := (tr_ok hl h0 pr).1
  omega
/-- the edges of node v: where they lead -/
theorem ed_ok {l : List Ent} (hl : okL l) (h0 : 0 < l.length) {v q : Nat} (hv : v < (tr l false).length) (hq : q < dgN l v) : fe l v + q + 1 < (tr l false).length ∧ (ndAt l false (fe l v + q + 1)).2.2.2 = (ndAt l false v).2.2.1 ∧ (ndAt l false (fe l v + q + 1)).2.2.1 = (ndAt l false v).2.2.1 + 1 := by
  have h1 := (trS_ok hl.2.2 h0 false v).2.2
  have h3 := tr_v hl h0 hv
  have h2 := Nat.le_of_succ_le h3
  unfold dgN at hq
  have hm := trS_kid (tr_get h2 hv) (tr_lt h2 hv) hq
  have hi : (trS l false v).length + q < (trS l false (v + 1)).length := by omega
  have ei : fe l v + q + 1 = (trS l false v).length + q := by unfold fe; omega
  obtain ⟨p1, p2⟩ := nd_pre h3 hi
  rw [ei, p2]
  have := kids_d hm
  exact ⟨p1, this.1, this.2 rfl⟩
theorem fe_succ {l : List Ent} (hl : okL l) (h0 : 0 < l.length) (v : Nat) : fe l (v + 1) = fe l v + dgN l v := by
  have h1 := (trS_ok hl.2.2 h0 false v).2.2
  have := trS_mono l false v
  unfold fe dgN
  omega
/-- the model's row of what is due -/
def dueM (M : MoT) (D : List Int32) : Prop := m_dues M = nI D.length ∧ ∀ k, k < D.length → m_due M k = D.getD k 0
theorem dueM.add {M : MoT} {D : List Int32} (h : dueM M D) {v : Int32} : dueM (tlM M D.length v) (D ++ [v]) := by
  refine ⟨by rw [List.length_append]; rfl, fun k hk => ?_⟩
  rw [List.length_append] at hk
  have hk : k < D.length + 1 := hk
  rw [getD_app]
  by_cases e : k < D.length
  · rw [if_pos e]; exact (pk_un (by omega)).trans (h.2 k e)
  · rw [if_neg e, show k - D.length = 0 by omega, show k = D.length by omega]; exact pk_us
def DF (M M' : MoT) : Prop := ∃ (f : Nat → Int32) (n : Int32), M' = m_dues_ (m_due_ M f) n
theorem DF.tl {M : MoT} {n : Nat} {v : Int32} : DF M (tlM M n v) := ⟨_, _, rfl⟩
theorem DF.trans {M M1 M2 : MoT} (h1 : DF M M1) (h2 : DF M1 M2) : DF M M2 := by
  obtain ⟨_, _, rfl⟩ := h1
  obtain ⟨f, n, rfl⟩ := h2
  exact ⟨f, n, rfl⟩
theorem DF.mo_r {M M' : MoT} (h : DF M M') : mo_r M' = mo_r M := by obtain ⟨_, _, rfl⟩ := h; rfl
theorem DF.keep {M M' : MoT} (h : DF M M') : (∀ t l, namesM M t l → namesM M' t l) ∧ (∀ ns, treeM M ns → treeM M' ns) ∧ (∀ l pr n, feM M l pr n → feM M' l pr n) ∧ (∀ cur, curM M cur → curM M' cur) ∧ (∀ Z, RM M Z → RM M' Z) := by
  obtain ⟨_, _, rfl⟩ := h
  exact ⟨fun _ _ h => h, fun _ h => h, fun _ _ _ h => h, fun _ h => h, fun _ h => h⟩
theorem TF.keep {M M' : MoT} (h : TF M M') : (∀ cur, curM M cur → curM M' cur) ∧ (∀ Z, RM M Z → RM M' Z) := by
  obtain ⟨_, _, _, _, _, _, rfl⟩ := h
  exact ⟨fun _ h => h, fun _ h => h⟩
theorem dueM.add3 {M : MoT} {D : List Int32} (h : dueM M D) {a b c : Int32} : dueM (tlM (tlM (tlM M D.length a) (D.length + 1) b) (D.length + 2) c) (D ++ [a, b, c]) := by
  have h1 := h.add (v := a)
  have h2 := h1.add (v := b)
  have h3 := h2.add (v := c)
  have e1 : (D ++ [a]).length = D.length + 1 := by rw [List.length_append]; rfl
  have e2 : (D ++ [a] ++ [b]).length = D.length + 2 := by rw [List.length_append, e1]; rfl
  rw [e1, e2] at h3
  rwa [List.append_assoc, List.append_assoc] at h3
theorem dnS_go {l : List Ent} {cur : List Nat} {i v q : Nat} {D : List Int32} (h : dnS l cur i = (v, D, true)) (hq : q < dgN l v) (h1 : ∀ p, p < q → edB l (fe l v + p) i ≠ cur.getD i 0) (h2 : edB l (fe l v + q) i = cur.getD i 0) : dnS l cur (i + 1) = (fe l v + q + 1, D ++ [nI (fe l v + q + v), nI (fe l v + q), nI (cur.getD i 0)], true) := by
  have e : edN l v i (cur.getD i 0) = q := fN_eq (Nat.le_of_lt hq) (fun p hp => by simpa using h1 p hp) (Or.inr (by simpa using h2))
  show (if (dnS l cur i).2.2 = true then _ else _) = _
  rw [h, if_pos rfl]
  simp only []
  rw [e, if_pos hq]
theorem dnS_no {l : List Ent} {cur : List Nat} {i v : Nat} {D : List Int32} (h : dnS l cur i = (v, D, true)) (h1 : ∀ p, p < dgN l v → edB l (fe l v + p) i ≠ cur.getD i 0) (hi : i < cur.length) : dnS l cur cur.length = (v, D, false) := by
  have e : edN l v i (cur.getD i 0) = dgN l v := fN_eq (Nat.le_refl _) (fun p hp => by simpa using h1 p hp) (Or.inl rfl)
  have h3 : dnS l cur (i + 1) = (v, D, false) := by
    show (if (dnS l cur i).2.2 = true then _ else _) = _
    rw [h, if_pos rfl]
    simp only []
    rw [e, if_neg (Nat.lt_irrefl _)]
  have := dnS_stay (l := l) (cur := cur) (i := i + 1) (by rw [h3]) (cur.length - (i + 1))
  rw [show i + 1 + (cur.length - (i + 1)) = cur.length by omega] at this
  rw [this, h3]
theorem dn_end {l : List Ent} {cur : List Nat} {v : Nat} {D : List Int32} {b s : Bool} (h : dnS l cur cur.length = (v, D, b)) (hs : (b && isEndN l (ndAt l false v)) = s) : dnIs l cur = s ∧ dnD l cur = D ++ [-1, nI v, bI s] := by
  have e : dnIs l cur = s := by unfold dnIs; rw [h]; exact hs
  refine ⟨e, ?_⟩
  unfold dnD
  rw [e, h]
