theorem kids_eq (l : List Ent) (pr : Bool) (v : Nd) : kidsF l pr v.2.1 v.2.2.1 (v.2.1 - v.1 + 1) (kid0 l v) = kids l pr v := rfl
theorem nd_kids {l : List Ent} (hl : okL l) (h0 : 0 < l.length) {v q : Nat} (hv : v < (tr l false).length) (hq : q < dgN l v) : ndAt l false (fe l v + q + 1) = (kids l false (ndAt l false v)).getD q (0, 0, 0, 0) ∧ dgN l v = (kids l false (ndAt l false v)).length := by
  have hN := tr_v hl h0 hv
  have hg := tr_lt (l := l) (pr := false) (v := v) (by omega) hv
  have hget := tr_get (l := l) (pr := false) (v := v) (by omega) hv
  have hs := trS_succ (l := l) (pr := false) hg
  rw [hget] at hs
  have hd : dgN l v = (kids l false (ndAt l false v)).length := by
    unfold dgN
    rw [hs, List.length_append]; omega
  have h1 := (trS_ok hl.2.2 h0 false v).2.2
  have e : fe l v + q + 1 = (trS l false v).length + q := by unfold fe; omega
  refine ⟨?_, hd⟩
  have hlt : fe l v + q + 1 < (trS l false (v + 1)).length := by
    rw [hs, List.length_append, ← hd]; omega
  rw [(nd_pre (l := l) (pr := false) (n := v + 1) (by omega) hlt).2, hs, getD_app, if_neg (by omega), e, show (trS l false v).length + q - (trS l false v).length = q by omega]
/-- the way down so far -/
def dnI (l : List Ent) (cur : List Nat) (i v : Nat) : Prop := v < (tr l false).length ∧ (ndAt l false v).2.2.1 = i ∧ (∀ q, q < i → (nm l (ndAt l false v).1).getD q 0 = cur.getD q 0) ∧ ∀ k, k < l.length → i ≤ (nm l k).length → (∀ q, q < i → (nm l k).getD q 0 = cur.getD q 0) → (ndAt l false v).1 ≤ k ∧ k < (ndAt l false v).2.1
theorem dnI_0 {l : List Ent} (hl : okL l) (h0 : 0 < l.length) (cur : List Nat) : dnI l cur 0 0 := by
  have h1 := (tr_ok hl h0 false).2.1
  have e : ndAt l false 0 = (0, l.length, 0, 0) := (nd_pre (n := 0) (pr := false) (l := l) (by decide) (show 0 < 1 by decide)).2
  refine ⟨by omega, by rw [e], fun q hq => absurd hq (Nat.not_lt_zero _), fun k hk _ _ => ?_⟩
  rw [e]; exact ⟨Nat.zero_le _, hk⟩
theorem lcp_of {a b : List Nat} {m : Nat} (h1 : m ≤ a.length) (h2 : m ≤ b.length) (h : ∀ q, q < m → a.getD q 0 = b.getD q 0) : m ≤ lcp a b := lcp_ge h1 h2 h
/-- the kid that holds a name with the byte -/
theorem kid_at1 {l : List Ent} (hl : okL l) {nv : Nd} (hok : okNd l nv) {cur : List Nat} {i k : Nat} (hd : nv.2.2.1 = i) (r1 : nv.1 ≤ k) (r2 : k < nv.2.1) (hlen : i < (nm l k).length) (hb : (nm l k).getD i 0 = cur.getD i 0) : ∃ q, q < (kids l false nv).length ∧ ((kids l false nv).getD q (0, 0, 0, 0)).1 ≤ k ∧ k < ((kids l false nv).getD q (0, 0, 0, 0)).2.1 ∧ (nm l ((kids l false nv).getD q (0, 0, 0, 0)).1).getD i 0 = cur.getD i 0 ∧ ∀ p, p < q → (nm l ((kids l false nv).getD p (0, 0, 0, 0)).1).getD i 0 ≠ cur.getD i 0 := by
  obtain ⟨k1, k2, k3⟩ := hok.k0 hl.2.2
  have o1 := hok.1
  have o2 := hok.2.1
  have hk0 : kid0 l nv ≤ k := by
    unfold kid0
    split
    · rename_i g
      rcases Nat.lt_or_ge nv.1 k with z | z
      · exact z
      · have e : nv.1 = k := by omega
        rw [e, hd] at g; omega
    · exact r1
  have hcov := kidsF_cover (l := l) (pr := false) (hi := nv.2.1) (d := nv.2.2.1) (nv.2.1 - nv.1 + 1) (kid0 l nv) (by omega) k hk0 r2
  have hord := kidsF_ord (l := l) (pr := false) (hi := nv.2.1) (d := nv.2.2.1) (nv.2.1 - nv.1 + 1) (kid0 l nv)
  have hkw := (kids_w hl.2.2 false hok).2
  have hkd : ∀ u ∈ kids l false nv, u.2.2.1 = nv.2.2.1 + 1 := fun u hu => (kids_d hu).2 rfl
  rw [kids_eq] at hcov hord
  generalize kids l false nv = ks at *
  obtain ⟨q, q1, q2, q3, q4⟩ := hcov
  have hsh : (nm l k).getD i 0 = (nm l (ks.getD q (0, 0, 0, 0)).1).getD i 0 := by
    refine share (m := i + 1) k q2 (fun y y1 y2 => ?_) i (by omega)
    have := gEnd_al (l := l) (k := (ks.getD q (0, 0, 0, 0)).1) (hi := nv.2.1) (d := nv.2.2.1) (q := y) y1 (by rw [← q4]; omega)
    rw [hd] at this
    exact this
  have heq : (nm l (ks.getD q (0, 0, 0, 0)).1).getD i 0 = cur.getD i 0 := by rw [← hsh]; exact hb
  refine ⟨q, q1, q2, q3, heq, fun p hp he => ?_⟩
  have hpo := hord q q1
  have h3 := (hpo.2.2.1 (by omega)).2
  have h4 := hpo.2.2.2 p hp
  have hpk := hord p (by omega)
  have hm : ∀ r, r < ks.length → ks.getD r (0, 0, 0, 0) ∈ ks := fun r hr => by
    rw [List.getD_eq_getElem?_getD, List.getElem?_eq_getElem hr]; exact List.getElem_mem hr
  have okp := hkw _ (hm p (by omega))
  have okq := hkw _ (hm q q1)
  have dp := hkd _ (hm p (by omega))
  have dq := hkd _ (hm q q1)
  have hlo : ∀ y, nv.1 ≤ y → y < nv.2.1 → ∀ j, j < i → (nm l y).getD j 0 = (nm l nv.1).getD j 0 := fun y y1 y2 => share (m := i) y y1 (fun z z1 z2 => by have := hok.2.2.2.1 z z1 (by omega); rw [hd] at this; exact this)
  have hl2 : i + 1 ≤ lcp (nm l (ks.getD p (0, 0, 0, 0)).1) (nm l (ks.getD q (0, 0, 0, 0)).1) := by
    refine lcp_of (by have := okp.2.2.1; omega) (by have := okq.2.2.1; omega) (fun j hj => ?_)
    by_cases e : j = i
    · rw [e, he, heq]
    · rw [hlo _ (by omega) hpk.2.1 j (by omega), hlo _ (by omega) hpo.2.1 j (by omega)]
  have := al_ge hl.2.2 h4 (by omega) hl2
  rw [hd] at h3
  omega
theorem dg_kids {l : List Ent} (hl : okL l) (h0 : 0 < l.length) {v : Nat} (hv : v < (tr l false).length) : dgN l v = (kids l false (ndAt l false v)).length := by
  have hN := tr_v hl h0 hv
  have hg := tr_lt (l := l) (pr := false) (v := v) (by omega) hv
  have hget := tr_get (l := l) (pr := false) (v := v) (by omega) hv
  have hs := trS_succ (l := l) (pr := false) hg
  rw [hget] at hs
  unfold dgN
  rw [hs, List.length_append]; omega
theorem kid_at {l : List Ent} (hl : okL l) (h0 : 0 < l.length) {cur : List Nat} {i v k : Nat} (h : dnI l cur i v) (hk : k < l.length) (hlen : i < (nm l k).length) (hb : ∀ q, q < i + 1 → (nm l k).getD q 0 = cur.getD q 0) : ∃ q, q < dgN l v ∧ (ndAt l false (fe l v + q + 1)).1 ≤ k ∧ k < (ndAt l false (fe l v + q + 1)).2.1 ∧ edB l (fe l v + q) i = cur.getD i 0 ∧ ∀ p, p < q → edB l (fe l v + p) i ≠ cur.getD i 0 := by
  obtain ⟨hv, hd, h1, h2⟩ := h
  obtain ⟨r1, r2⟩ := h2 k hk (by omega) (fun q hq => hb q (by omega))
  have hdg := dg_kids hl h0 hv
  have hnd : ∀ p, p < dgN l v → ndAt l false (fe l v + p + 1) = (kids l false (ndAt l false v)).getD p (0, 0, 0, 0) := fun p hp => (nd_kids hl h0 hv hp).1
  have hed : ∀ p, p < dgN l v → edB l (fe l v + p) i = (nm l ((kids l false (ndAt l false v)).getD p (0, 0, 0, 0)).1).getD i 0 := fun p hp => by unfold edB; rw [hnd p hp]
  obtain ⟨q, q1, q2, q3, q4, q5⟩ := kid_at1 hl ((tr_ok hl h0 false).2.2 v hv) hd r1 r2 hlen (hb i (by omega))
  rw [← hdg] at q1
  exact ⟨q, q1, by rw [hnd q q1]; exact q2, by rw [hnd q q1]; exact q3, by rw [hed q q1]; exact q4, fun p hp => by rw [hed p (by omega)]; exact q5 p hp⟩
theorem dnI_go {l : List Ent} (hl : okL l) (h0 : 0 < l.length) {cur : List Nat} {i v q : Nat} (h : dnI l cur i v) (hq : q < dgN l v) (h1 : ∀ p, p < q → edB l (fe l v + p) i ≠ cur.getD i 0) (h2 : edB l (fe l v + q) i = cur.getD i 0) : dnI l cur (i + 1) (fe l v + q + 1) := by
  have hI := h
  obtain ⟨hv, hd, g1, g2⟩ := h
  obtain ⟨e1, e2, e3⟩ := ed_ok hl h0 hv hq
  have hok := (tr_ok hl h0 false).2.2 v hv
  obtain ⟨k1, k2, k3⟩ := hok.k0 hl.2.2
  obtain ⟨hnd, hdg⟩ := nd_kids hl h0 hv hq
  have hord := kidsF_ord (l := l) (pr := false) (hi := (ndAt l false v).2.1) (d := (ndAt l false v).2.2.1) ((ndAt l false v).2.1 - (ndAt l false v).1 + 1) (kid0 l (ndAt l false v)) q (by rw [kids_eq]; rw [hdg] at hq; exact hq)
  rw [kids_eq] at hord
  have hr : (ndAt l false v).1 ≤ (ndAt l false (fe l v + q + 1)).1 ∧ (ndAt l false (fe l v + q + 1)).1 < (ndAt l false v).2.1 := by
    rw [hnd]
    exact ⟨Nat.le_trans k3 hord.1, hord.2.1⟩
  refine ⟨e1, by rw [e3, hd], fun j hj => ?_, fun k hk hlen hb => ?_⟩
  · by_cases e : j = i
    · rw [e]; exact h2
    · rw [share (m := i) _ hr.1 (fun z z1 z2 => by have := hok.2.2.2.1 z z1 (by omega); rw [hd] at this; exact this) j (by omega)]
      exact g1 j (by omega)
  · obtain ⟨q', a1, a2, a3, a4, a5⟩ := kid_at hl h0 hI hk (by omega) hb
    have : q' = q := by
      rcases Nat.lt_trichotomy q' q with z | z | z
      · exact absurd a4 (h1 q' z)
      · exact z
      · exact absurd h2 (a5 q z)
    rw [this] at a2 a3
    exact ⟨a2, a3⟩
theorem dn_has {l : List Ent} (hl : okL l) (h0 : 0 < l.length) {cur : List Nat} {i v : Nat} (h : dnI l cur i v) (hn : ∀ p, p < dgN l v → edB l (fe l v + p) i ≠ cur.getD i 0) (hi : i < cur.length) : hasN l cur = false := by
  rw [Bool.eq_false_iff]
  intro g
  obtain ⟨k, hk, e⟩ := (has_iff hl.2.2).mp g
  obtain ⟨q, a1, a2, a3, a4, a5⟩ := kid_at hl h0 h hk (by rw [e]; exact hi) (fun q _ => by rw [e])
  exact hn q a1 a4
theorem dn_end_has {l : List Ent} (hl : okL l) (h0 : 0 < l.length) {cur : List Nat} {v : Nat} (h : dnI l cur cur.length v) : isEndN l (ndAt l false v) = hasN l cur := by
  obtain ⟨hv, hd, g1, g2⟩ := h
  have hok := (tr_ok hl h0 false).2.2 v hv
  have o1 := hok.1
  have o2 := hok.2.1
  have o3 := hok.2.2.1
  rw [Bool.eq_iff_iff]
  constructor
  · intro g
    unfold isEndN at g
    have g3 := of_decide_eq_true g
    rw [hd] at g3
    exact (has_of hl.2.2 (j := (ndAt l false v).1) (by omega) (list_ext0 g3 (fun j hj => g1 j (by omega)))).2
  · intro g
    obtain ⟨k, hk, e⟩ := (has_iff hl.2.2).mp g
    obtain ⟨r1, r2⟩ := g2 k hk (by rw [e]; exact Nat.le_refl _) (fun q _ => by rw [e])
    have ek : (ndAt l false v).1 = k := by
      rcases Nat.lt_or_ge (ndAt l false v).1 k with z | z
      · exfalso
        have hs := hl.2.2 _ _ z hk
        have hlt : less (nm l k) (nm l (ndAt l false v).1) = true ∨ nm l k = nm l (ndAt l false v).1 := by
          have el : lcp (nm l k) (nm l (ndAt l false v).1) = cur.length := lcp_eq (by rw [e]; exact Nat.le_refl _) (by omega) (fun j hj => by rw [e]; exact (g1 j hj).symm) (Or.inl (by rw [e]))
          by_cases z2 : cur.length < (nm l (ndAt l false v).1).length
          · exact Or.inl (less_pre el z2 (by rw [e]; omega))
          · exact Or.inr (lcp_full (by rw [el, e]) (by rw [el]; omega))
        rcases hlt with z2 | z2
        · rw [less_asymm hs] at z2; cases z2
        · exact less_ne hs z2.symm
      · omega
    unfold isEndN
    rw [ek, e]
    exact decide_eq_true hd.symm
