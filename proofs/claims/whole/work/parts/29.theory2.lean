/-! trees: what nodes are, how many there are -/
theorem sumN_add (f : Nat → Nat) (a b : Nat) : sumN f (a + b) = sumN f a + sumN (fun i => f (a + i)) b := by
  induction b with
  | zero => rfl
  | succ b ih => show sumN f (a + b) + f (a + b) = _; rw [ih]; show _ = sumN f a + (sumN _ b + f (a + b)); omega
theorem sumN_mono {f g : Nat → Nat} {n : Nat} (h : ∀ i, i < n → f i ≤ g i) : sumN f n ≤ sumN g n := by
  induction n with
  | zero => exact Nat.le_refl _
  | succ n ih => have := h n (by omega); have := ih (fun i hi => h i (by omega)); show sumN f n + f n ≤ sumN g n + g n; omega
theorem sumN_congr {f g : Nat → Nat} {n : Nat} (h : ∀ i, i < n → f i = g i) : sumN f n = sumN g n := Nat.le_antisymm (sumN_mono fun i hi => Nat.le_of_eq (h i hi)) (sumN_mono fun i hi => Nat.le_of_eq (h i hi).symm)
/-- the bytes that lie below: of the names from lo to hi behind their first d -/
def wN (l : List Ent) (lo hi d : Nat) : Nat := sumN (fun i => (nm l (lo + i)).length - d) (hi - lo)
theorem wN_split {l : List Ent} {lo m hi d : Nat} (h1 : lo ≤ m) (h2 : m ≤ hi) : wN l lo hi d = wN l lo m d + wN l m hi d := by
  unfold wN
  rw [show hi - lo = (m - lo) + (hi - m) by omega, sumN_add]
  congr 1
  exact sumN_congr fun i hi => by rw [show lo + (m - lo + i) = m + i by omega]
theorem wN_down {l : List Ent} {k e d to : Nat} (h1 : k < e) (h2 : d < (nm l k).length) (h3 : d < to) : wN l k e to + 1 ≤ wN l k e d := by
  have e1 : ∀ x, wN l k e x = wN l k (k + 1) x + wN l (k + 1) e x := fun x => wN_split (by omega) (by omega)
  rw [e1, e1]
  have a : ∀ x, wN l k (k + 1) x = (nm l k).length - x := fun x => by
    unfold wN
    rw [show k + 1 - k = 0 + 1 by omega]
    show 0 + ((nm l (k + 0)).length - x) = _
    rw [Nat.zero_add, Nat.add_zero]
  have b : wN l (k + 1) e to ≤ wN l (k + 1) e d := sumN_mono fun i _ => by omega
  rw [a, a]
  omega
def lsum (g : Nd → Nat) : List Nd → Nat
  | [] => 0
  | v :: r => g v + lsum g r
theorem lsum_app (g : Nd → Nat) (a b : List Nd) : lsum g (a ++ b) = lsum g a + lsum g b := by
  induction a with
  | nil => show lsum g b = 0 + lsum g b; omega
  | cons v r ih => show g v + lsum g (r ++ b) = g v + lsum g r + lsum g b; rw [ih]; omega
/-- a node as it must be: its names, what they have alike -/
def okNd (l : List Ent) (v : Nd) : Prop := v.1 < v.2.1 ∧ v.2.1 ≤ l.length ∧ v.2.2.1 ≤ (nm l v.1).length ∧ (∀ q, v.1 < q → q < v.2.1 → v.2.2.1 ≤ alN l q) ∧ v.2.2.2 ≤ v.2.2.1
theorem gEnd_gt (l : List Ent) (k hi d : Nat) : k < gEnd l k hi d := by unfold gEnd; omega
theorem gEnd_le {l : List Ent} {k hi d : Nat} (h : k < hi) : gEnd l k hi d ≤ hi := by
  unfold gEnd
  have := fN_le (fun i => decide (d < alN l (k + 1 + i))) (hi - (k + 1))
  omega
theorem gEnd_al {l : List Ent} {k hi d q : Nat} (h1 : k < q) (h2 : q < gEnd l k hi d) : d < alN l q := by
  unfold gEnd at h2
  have := fN_all (p := fun i => decide (d < alN l (k + 1 + i))) (n := hi - (k + 1)) (j := q - (k + 1)) (by omega)
  have := of_decide_eq_true this
  rwa [show k + 1 + (q - (k + 1)) = q by omega] at this
theorem gEnd_stop {l : List Ent} {k hi d : Nat} (h : gEnd l k hi d < hi) : ¬ d < alN l (gEnd l k hi d) := by
  unfold gEnd at h ⊢
  exact of_decide_eq_false (fN_end (p := fun i => decide (d < alN l (k + 1 + i))) (n := hi - (k + 1)) (by omega))
/-- names that have d bytes alike with the one before are longer than d -/
theorem len_gt {l : List Ent} (hs : sortedL l) {q d : Nat} (hq : q < l.length) (h0 : 0 < q) (h : d ≤ alN l q) : d < (nm l q).length := by
  have h1 := lcp_le2 (nm l (q - 1)) (nm l q)
  have h2 := lcp_le1 (nm l (q - 1)) (nm l q)
  unfold alN at h
  rcases Nat.lt_or_ge d (nm l q).length with g | g
  · exact g
  · have e : lcp (nm l (q - 1)) (nm l q) = (nm l q).length := by omega
    have h3 := hs (q - 1) q (by omega) hq
    unfold less at h3
    rw [if_neg (by omega)] at h3
    cases h3
theorem gTo_gt (l : List Ent) (k e d : Nat) : d < gTo l k e d := by unfold gTo; omega
theorem gTo_spec {l : List Ent} {k e d : Nat} (hd : d < (nm l k).length) (ha : ∀ q, k < q → q < e → d < alN l q) : gTo l k e d ≤ (nm l k).length ∧ ∀ q, k < q → q < e → gTo l k e d ≤ alN l q := by
  have key : ∀ i, i < fN (fun i => decide (d + 1 + i < (nm l k).length) && decide (gEnd l k e (d + 1 + i) = e)) 24 → d + 1 + i < (nm l k).length ∧ gEnd l k e (d + 1 + i) = e := fun i hi => by
    have := fN_all hi
    rw [Bool.and_eq_true] at this
    exact ⟨of_decide_eq_true this.1, of_decide_eq_true this.2⟩
  unfold gTo
  generalize fN (fun i => decide (d + 1 + i < (nm l k).length) && decide (gEnd l k e (d + 1 + i) = e)) 24 = n at key
  cases n with
  | zero => exact ⟨hd, fun q h1 h2 => ha q h1 h2⟩
  | succ n =>
    have h1 := key n (by omega)
    exact ⟨by omega, fun q g1 g2 => by have := gEnd_al (l := l) (k := k) (hi := e) (d := d + 1 + n) g1 (by rw [h1.2]; exact g2); omega⟩
/-- the names from k on within a node: all longer than d, alike with those before -/
def okK (l : List Ent) (hi d k : Nat) : Prop := hi ≤ l.length ∧ (∀ q, k < q → q < hi → d ≤ alN l q) ∧ (k < hi → d < (nm l k).length)
theorem okK.next {l : List Ent} (hs : sortedL l) {hi d k : Nat} (h : okK l hi d k) (hk : k < hi) : okK l hi d (gEnd l k hi d) := by
  have g1 := gEnd_gt l k hi d
  refine ⟨h.1, fun q h1 h2 => h.2.1 q (by omega) h2, fun h2 => len_gt hs (by have := h.1; omega) (by omega) (h.2.1 _ (by omega) h2)⟩
theorem kid_ok {l : List Ent} {hi d k : Nat} (pr : Bool) (h : okK l hi d k) (hk : k < hi) : okNd l (k, gEnd l k hi d, (if pr then gTo l k (gEnd l k hi d) d else d + 1), d) ∧ d < (if pr then gTo l k (gEnd l k hi d) d else d + 1) := by
  have g1 := gEnd_gt l k hi d
  have g2 := gEnd_le (l := l) (d := d) hk
  have g3 := h.2.2 hk
  have hh := h.1
  cases pr with
  | false => exact ⟨⟨g1, by show gEnd l k hi d ≤ _; omega, g3, fun q a b => gEnd_al a b, by show d ≤ d + 1; omega⟩, by show d < d + 1; omega⟩
  | true =>
    have s := gTo_spec (e := gEnd l k hi d) g3 (fun q a b => gEnd_al a b)
    have g4 := gTo_gt l k (gEnd l k hi d) d
    exact ⟨⟨g1, by show gEnd l k hi d ≤ _; omega, s.1, s.2, by show d ≤ gTo l k (gEnd l k hi d) d; omega⟩, g4⟩
def wV (l : List Ent) (v : Nd) : Nat := wN l v.1 v.2.1 v.2.2.1
theorem kidsF_w {l : List Ent} (hs : sortedL l) (pr : Bool) {hi d : Nat} : ∀ (f k : Nat), okK l hi d k → k ≤ hi → (kidsF l pr hi d f k).length + lsum (wV l) (kidsF l pr hi d f k) ≤ wN l k hi d ∧ ∀ v ∈ kidsF l pr hi d f k, okNd l v := by
  intro f
  induction f with
  | zero => intro k h hk; exact ⟨Nat.zero_le _, fun v hv => absurd hv List.not_mem_nil⟩
  | succ f ih =>
    intro k h hk
    unfold kidsF
    by_cases g : k < hi
    · rw [if_pos g]
      have g1 := gEnd_gt l k hi d
      have g2 := gEnd_le (l := l) (d := d) g
      obtain ⟨i1, i2⟩ := ih (gEnd l k hi d) (h.next hs g) g2
      obtain ⟨k1, k2⟩ := kid_ok pr h g
      refine ⟨?_, fun v hv => ?_⟩
      · have w1 := wN_split (l := l) (d := d) (Nat.le_of_lt g1) g2
        have w2 := wN_down (l := l) g1 (h.2.2 g) k2
        show (_ + 1) + (wV l _ + _) ≤ _
        have : wV l (k, gEnd l k hi d, (if pr then gTo l k (gEnd l k hi d) d else d + 1), d) = wN l k (gEnd l k hi d) (if pr then gTo l k (gEnd l k hi d) d else d + 1) := rfl
        omega
      · rcases List.mem_cons.mp hv with e | e
        · rw [e]; exact k1
        · exact i2 v e
    · rw [if_neg g]
      exact ⟨Nat.zero_le _, fun v hv => absurd hv List.not_mem_nil⟩
/-- where a node's kids begin -/
def kid0 (l : List Ent) (v : Nd) : Nat := if (nm l v.1).length = v.2.2.1 then v.1 + 1 else v.1
theorem okNd.k0 {l : List Ent} (hs : sortedL l) {v : Nd} (h : okNd l v) : okK l v.2.1 v.2.2.1 (kid0 l v) ∧ kid0 l v ≤ v.2.1 ∧ v.1 ≤ kid0 l v := by
  unfold kid0
  obtain ⟨h1, h2, h3, h4, h5⟩ := h
  by_cases e : (nm l v.1).length = v.2.2.1
  · rw [if_pos e]
    exact ⟨⟨h2, fun q a b => h4 q (by omega) b, fun a => len_gt hs (by omega) (by omega) (h4 _ (by omega) a)⟩, by omega, by omega⟩
  · rw [if_neg e]
    exact ⟨⟨h2, fun q a b => h4 q a b, fun _ => by omega⟩, by omega, by omega⟩
theorem kids_w {l : List Ent} (hs : sortedL l) (pr : Bool) {v : Nd} (h : okNd l v) : (kids l pr v).length + lsum (wV l) (kids l pr v) ≤ wV l v ∧ ∀ u ∈ kids l pr v, okNd l u := by
  obtain ⟨a, b, c⟩ := h.k0 hs
  obtain ⟨i1, i2⟩ := kidsF_w hs pr (v.2.1 - v.1 + 1) (kid0 l v) a b
  refine ⟨Nat.le_trans i1 ?_, i2⟩
  have := wN_split (l := l) (d := v.2.2.1) c b
  unfold wV
  omega
theorem getD_app {α : Type} {a b : List α} {i : Nat} {d : α} : (a ++ b).getD i d = if i < a.length then a.getD i d else b.getD (i - a.length) d := by
  rw [List.getD_eq_getElem?_getD, List.getD_eq_getElem?_getD, List.getD_eq_getElem?_getD]
  by_cases h : i < a.length
  · rw [if_pos h, List.getElem?_append_left h]
  · rw [if_neg h, List.getElem?_append_right (by omega)]
theorem trS_ok {l : List Ent} (hs : sortedL l) (h0 : 0 < l.length) (pr : Bool) : ∀ v, (trS l pr v).length + lsum (wV l) ((trS l pr v).drop v) ≤ 1 + wN l 0 l.length 0 ∧ (∀ u ∈ trS l pr v, okNd l u) ∧ 1 ≤ (trS l pr v).length := by
  intro v
  induction v with
  | zero =>
    refine ⟨?_, fun u hu => ?_, Nat.le_refl _⟩
    · show 1 + (wN l 0 l.length 0 + 0) ≤ _
      omega
    · rw [List.mem_singleton.mp hu]
      exact ⟨h0, Nat.le_refl _, Nat.zero_le _, fun q _ _ => Nat.zero_le _, Nat.le_refl _⟩
  | succ v ih =>
    obtain ⟨i1, i2, i3⟩ := ih
    unfold trS
    by_cases g : v < (trS l pr v).length
    · rw [if_pos g]
      have hm : (trS l pr v).getD v (0, 0, 0, 0) ∈ trS l pr v := by
        rw [List.getD_eq_getElem?_getD, List.getElem?_eq_getElem g]; exact List.getElem_mem g
      obtain ⟨k1, k2⟩ := kids_w hs pr (i2 _ hm)
      refine ⟨?_, fun u hu => ?_, by rw [List.length_append]; omega⟩
      · rw [List.length_append, List.drop_append_of_le_length (by omega), lsum_app]
        have hd : (trS l pr v).drop v = (trS l pr v).getD v (0, 0, 0, 0) :: (trS l pr v).drop (v + 1) := by
          rw [List.getD_eq_getElem?_getD, List.getElem?_eq_getElem g]; exact List.drop_eq_getElem_cons g
        rw [hd] at i1
        have : lsum (wV l) ((trS l pr v).getD v (0, 0, 0, 0) :: (trS l pr v).drop (v + 1)) = wV l ((trS l pr v).getD v (0, 0, 0, 0)) + lsum (wV l) ((trS l pr v).drop (v + 1)) := rfl
        omega
      · rcases List.mem_append.mp hu with e | e
        · exact i2 u e
        · exact k2 u e
    · rw [if_neg g]
      refine ⟨?_, i2, i3⟩
      rw [List.drop_eq_nil_of_le (by omega)]
      show _ + 0 ≤ _
      omega
theorem wN_le {l : List Ent} (hl : okL l) : wN l 0 l.length 0 ≤ 2400 := by
  unfold wN
  have : sumN (fun i => (nm l (0 + i)).length - 0) (l.length - 0) ≤ sumN (fun _ => 24) (l.length - 0) := sumN_mono fun i hi => by rw [Nat.zero_add]; have := (hl.2.1 i (by omega)).2.1; omega
  have h2 := sumN_le (f := fun _ => 24) (b := 24) (fun _ => Nat.le_refl _) (l.length - 0)
  have := hl.1
  omega
/-- never more than 2401 nodes -/
theorem trS_len {l : List Ent} (hl : okL l) (h0 : 0 < l.length) (pr : Bool) (v : Nat) : (trS l pr v).length ≤ 2401 := by
  have := (trS_ok hl.2.2 h0 pr v).1
  have := wN_le hl
  omega
theorem trS_stop {l : List Ent} {pr : Bool} {v : Nat} (h : (trS l pr v).length ≤ v) : ∀ k, trS l pr (v + k) = trS l pr v := by
  intro k
  induction k with
  | zero => rfl
  | succ k ih =>
    show (if v + k < (trS l pr (v + k)).length then _ else trS l pr (v + k)) = _
    rw [ih, if_neg (by omega)]
theorem tr_eq {l : List Ent} (hl : okL l) (h0 : 0 < l.length) {pr : Bool} {v : Nat} (h : (trS l pr v).length = v) : tr l pr = trS l pr v := by
  have := trS_len hl h0 pr v
  unfold tr
  rw [show 2402 = v + (2402 - v) by omega]
  exact trS_stop (by omega) _
