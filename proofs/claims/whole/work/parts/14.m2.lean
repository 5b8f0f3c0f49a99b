/-- a truth value as an int -/
def bI (b : Bool) : Int32 := if b then 1 else 0
theorem bI_t {b : Bool} (h : ¬ bI b = 0) : b = true := by cases b; exact absurd rfl h; rfl
theorem bI_f {b : Bool} (h : bI b = 0) : b = false := by cases b; rfl; exact absurd h (by decide)
theorem bI_01 (b : Bool) : bI b = 0 ∨ bI b = 1 := by cases b; exact Or.inl rfl; exact Or.inr rfl
abbrev Ent : Type := List Nat × Int64
def nm (l : List Ent) (k : Nat) : List Nat := (l.getD k ([], 0)).1
def vl (l : List Ent) (k : Nat) : Int64 := (l.getD k ([], 0)).2
def aheadN (l : List Ent) (cur : List Nat) : Nat := fN (fun k => less (nm l k) cur) l.length
def isAtN (l : List Ent) (k : Nat) (cur : List Nat) : Bool := decide (k < l.length) && decide (nm l k = cur)
/-- the model's current name -/
def curM (M : MoT) (cur : List Nat) : Prop := m_length M = nI cur.length ∧ ∀ i, i < cur.length → m_name M i = nI (cur.getD i 0)
def nameM (M : MoT) (t k : Nat) (bs : List Nat) : Prop := m_size M (100 * t + k) = nI bs.length ∧ ∀ i, i < bs.length → m_bytes M (24 * (100 * t + k) + i) = nI (bs.getD i 0)
def namesM (M : MoT) (t : Nat) (l : List Ent) : Prop := l.length ≤ 100 ∧ m_many M t = nI l.length ∧ ∀ k, k < l.length → okN (nm l k) ∧ nameM M t k (nm l k) ∧ m_value M (100 * t + k) = vl l k
set_option maxRecDepth 100000 in
set_option maxHeartbeats 4000000 in
theorem c_M_at {l : Launch} {G : Gx} {S : PS} {M : MoT} {x : Nat} (hx : MoOk S M x) {j t : Nat} (hj : j < 10) (hp : m_place M j = nI (t + 1)) : Ct l yX11_at cX11_at 2 (Option.some Jvm.ClassFile.FieldType.int) rm_X11_at G [.ref x, .int (nI j)] (mo_ S M) (fun r S' => r = some (.int (nI t)) ∧ S' = mo_ S M) := by
  obtain ⟨q_place, r_place, k_place⟩ := hx.2 1 (by decide)
  refine Ct.mk RX11 "at" hy_X11_at (Nat.le_of_ble_eq_true rfl) (fun X hX C => ?_)
  change Go X G _ 2 0 0 (mo_ S M) 0 [(0, .ref x), (1, .int (nI j))] []
  refine g_aload_n 0 0 C dX11_at_0 rfl rfl ?_
  refine gr_m_place C dX11_at_1 hx.1 wF_X11_17 r_place ?_
  refine g_iload_n 1 1 C dX11_at_4 rfl rfl ?_
  refine ga_m_place C dX11_at_5 k_place (by omega) ?_
  refine g_topi (hp) ?_
  refine g_iconst (v := nI 1) C dX11_at_6 (by decide) ?_
  refine g_isub C dX11_at_7 ?_
  refine g_topi (pk_sub (by omega) : _ = nI (t + 1 - 1)) ?_
  exact g_iret C dX11_at_8 (by decide) (by decide) (⟨rfl, rfl⟩)
set_option maxRecDepth 100000 in
set_option maxHeartbeats 4000000 in
theorem c_M_misses {l : Launch} {G : Gx} {S : PS} {M : MoT} {x : Nat} (hx : MoOk S M x) {t : Nat} {la lb : Bool} (ht : t < 12) (ha : m_lost M (2 * t) = bI la) (hb : m_lost M (2 * t + 1) = bI lb) : Ct l yX11_misses cX11_misses 2 (Option.some Jvm.ClassFile.FieldType.boolean) rm_X11_misses G [.ref x, .int (nI t)] (mo_ S M) (fun r S' => r = some (.int (bI (la || lb))) ∧ S' = mo_ S M) := by
  obtain ⟨q_lost, r_lost, k_lost⟩ := hx.2 8 (by decide)
  refine Ct.mk RX11 "misses" hy_X11_misses (Nat.le_of_ble_eq_true rfl) (fun X hX C => ?_)
  change Go X G _ 2 0 0 (mo_ S M) 0 [(0, .ref x), (1, .int (nI t))] []
  refine g_aload_n 0 0 C dX11_misses_0 rfl rfl ?_
  refine gr_m_lost C dX11_misses_1 hx.1 wF_X11_38 r_lost ?_
  refine g_iconst (v := nI 2) C dX11_misses_4 (by decide) ?_
  refine g_iload_n 1 1 C dX11_misses_5 rfl rfl ?_
  refine g_imul C dX11_misses_6 ?_
  refine g_topi (pk_mul _ _ : _ = nI (2 * t)) ?_
  refine ga_m_lost C dX11_misses_7 k_lost (by omega) ?_
  refine g_topi (ha) ?_
  refine g_if_ne 24 C dX11_misses_8 (by decide) (fun c8 => ?_) (fun c8 => ?_)
  · have e1 := bI_t c8
    refine g_iconst (v := nI 1) C dX11_misses_24 (by decide) ?_
    refine g_goto 29 C dX11_misses_25 (by decide) ?_
    exact g_zret C dX11_misses_29 (by decide) (by decide) (Or.inr rfl) (by subst_vars; first | exact ⟨rfl, rfl⟩ | (cases la <;> exact ⟨rfl, rfl⟩))
  · refine g_aload_n 0 0 C dX11_misses_11 rfl rfl ?_
    refine gr_m_lost C dX11_misses_12 hx.1 wF_X11_38 r_lost ?_
    refine g_iconst (v := nI 2) C dX11_misses_15 (by decide) ?_
    refine g_iload_n 1 1 C dX11_misses_16 rfl rfl ?_
    refine g_imul C dX11_misses_17 ?_
    refine g_topi (pk_mul _ _ : _ = nI (2 * t)) ?_
    refine g_iconst (v := nI 1) C dX11_misses_18 (by decide) ?_
    refine g_iadd C dX11_misses_19 ?_
    refine g_topi (nI_add _ _ : _ = nI (2 * t + 1)) ?_
    refine ga_m_lost C dX11_misses_20 k_lost (by omega) ?_
    refine g_topi (hb) ?_
    refine g_if_eq 28 C dX11_misses_21 (by decide) (fun c21 => ?_) (fun c21 => ?_)
    · have e1 := bI_f c8; have e2 := bI_f c21
      refine g_iconst (v := nI 0) C dX11_misses_28 (by decide) ?_
      exact g_zret C dX11_misses_29 (by decide) (by decide) (Or.inl rfl) (by subst_vars; first | exact ⟨rfl, rfl⟩ | (cases la <;> exact ⟨rfl, rfl⟩))
    · have e2 := bI_t c21
      refine g_iconst (v := nI 1) C dX11_misses_24 (by decide) ?_
      refine g_goto 29 C dX11_misses_25 (by decide) ?_
      exact g_zret C dX11_misses_29 (by decide) (by decide) (Or.inr rfl) (by subst_vars; first | exact ⟨rfl, rfl⟩ | (cases la <;> exact ⟨rfl, rfl⟩))
set_option maxRecDepth 100000 in
set_option maxHeartbeats 4000000 in
theorem c_M_byteAt {l : Launch} {G : Gx} {S : PS} {M : MoT} {x : Nat} (hx : MoOk S M x) {t k i : Nat} (ht : t < 12) (hk : k < 100) (hi : i < 24) : Ct l yX11_byteAt cX11_byteAt 4 (Option.some Jvm.ClassFile.FieldType.int) rm_X11_byteAt G [.ref x, .int (nI t), .int (nI k), .int (nI i)] (mo_ S M) (fun r S' => r = some (.int (m_bytes M (24 * (100 * t + k) + i))) ∧ S' = mo_ S M) := by
  obtain ⟨q_bytes, r_bytes, k_bytes⟩ := hx.2 11 (by decide)
  refine Ct.mk RX11 "byteAt" hy_X11_byteAt (Nat.le_of_ble_eq_true rfl) (fun X hX C => ?_)
  change Go X G _ 4 0 0 (mo_ S M) 0 [(0, .ref x), (1, .int (nI t)), (2, .int (nI k)), (3, .int (nI i))] []
  refine g_aload_n 0 0 C dX11_byteAt_0 rfl rfl ?_
  refine gr_m_bytes C dX11_byteAt_1 hx.1 wF_X11_49 r_bytes ?_
  refine g_bipush (v := nI 24) C dX11_byteAt_4 (by decide) ?_
  refine g_bipush (v := nI 100) C dX11_byteAt_6 (by decide) ?_
  refine g_iload_n 1 1 C dX11_byteAt_8 rfl rfl ?_
  refine g_imul C dX11_byteAt_9 ?_
  refine g_topi (pk_mul _ _ : _ = nI (100 * t)) ?_
  refine g_iload_n 2 2 C dX11_byteAt_10 rfl rfl ?_
  refine g_iadd C dX11_byteAt_11 ?_
  refine g_topi (nI_add _ _ : _ = nI (100 * t + k)) ?_
  refine g_imul C dX11_byteAt_12 ?_
  refine g_topi (pk_mul _ _ : _ = nI (24 * (100 * t + k))) ?_
  refine g_iload_n 3 3 C dX11_byteAt_13 rfl rfl ?_
  refine g_iadd C dX11_byteAt_14 ?_
  refine g_topi (nI_add _ _ : _ = nI (24 * (100 * t + k) + i)) ?_
  refine ga_m_bytes C dX11_byteAt_15 k_bytes (by omega) ?_
  exact g_iret C dX11_byteAt_16 (by decide) (by decide) (⟨rfl, rfl⟩)
set_option maxRecDepth 100000 in
set_option maxHeartbeats 4000000 in
theorem c_M_order {l : Launch} {G : Gx} {S : PS} {M : MoT} {x : Nat} (hx : MoOk S M x) {t k : Nat} {cur bs : List Nat} (ht : t < 12) (hk : k < 100) (hc : curM M cur) (hc0 : okN cur) (hn : nameM M t k bs) (hb : okN bs) : Ct l yX11_order cX11_order 5 (Option.some Jvm.ClassFile.FieldType.int) rm_X11_order G [.ref x, .int (nI t), .int (nI k)] (mo_ S M) (fun r S' => r = some (.int (ordV cur bs)) ∧ S' = mo_ S M) := by
  obtain ⟨q_size, r_size, k_size⟩ := hx.2 10 (by decide)
  obtain ⟨q_name, r_name, k_name⟩ := hx.2 13 (by decide)
  have hcl := hc0.2.1
  have hbl := hb.2.1
  have l1 := lcp_le1 cur bs
  have l2 := lcp_le2 cur bs
  refine Ct.mk RX11 "order" hy_X11_order (Nat.le_of_ble_eq_true rfl) (fun X hX C => ?_)
  change Go X G _ 5 0 0 (mo_ S M) 0 [(0, .ref x), (1, .int (nI t)), (2, .int (nI k))] []
  have lp : ∀ (n_ : Nat) (i : Nat), cur.length - i < n_ → (i ≤ lcp cur bs) → Go X G (Qe X G (fun r S' => r = some (.int (ordV cur bs)) ∧ S' = mo_ S M) rm_X11_order.cells rm_X11_order.slots) 5 0 0 (mo_ S M) 15 [(4, .int (nI i)), (3, .int (nI (bs.length))), (0, .ref x), (1, .int (nI t)), (2, .int (nI k))] [] := by
    intro n_
    induction n_ with
    | zero => intro i hm_; exact absurd hm_ (Nat.not_lt_zero _)
    | succ n_ ih_ =>
      intro i hm_ hi
      refine g_iload 0 C dX11_order_15 rfl ?_
      refine g_iload_n 1 3 C dX11_order_17 rfl rfl ?_
      refine g_ncmp_ge 71 (by omega) (by omega) C dX11_order_18 (by decide) (fun c18 => ?_) (fun c18 => ?_)
      · have e : lcp cur bs = bs.length := by omega
        refine g_aload_n 2 0 C dX11_order_71 rfl rfl ?_
        refine gf_m_length C dX11_order_72 hx.1 wF_X11_59 ?_
        refine g_topi (hc.1) ?_
        refine g_iload_n 1 3 C dX11_order_75 rfl rfl ?_
        refine g_isub C dX11_order_76 ?_
        exact g_iret C dX11_order_77 (by decide) (by decide) (⟨by unfold ordV; rw [if_neg (by omega)], rfl⟩)
      · refine g_iload 0 C dX11_order_21 rfl ?_
        refine g_aload_n 2 0 C dX11_order_23 rfl rfl ?_
        refine gf_m_length C dX11_order_24 hx.1 wF_X11_59 ?_
        refine g_topi (hc.1) ?_
        refine g_ncmp_ge 71 (by omega) (by omega) C dX11_order_27 (by decide) (fun c27 => ?_) (fun c27 => ?_)
        · have e : lcp cur bs = cur.length := by omega
          refine g_aload_n 2 0 C dX11_order_71 rfl rfl ?_
          refine gf_m_length C dX11_order_72 hx.1 wF_X11_59 ?_
          refine g_topi (hc.1) ?_
          refine g_iload_n 1 3 C dX11_order_75 rfl rfl ?_
          refine g_isub C dX11_order_76 ?_
          exact g_iret C dX11_order_77 (by decide) (by decide) (⟨by unfold ordV; rw [if_neg (by omega)], rfl⟩)
        · have hci := hc0.2.2 i (by omega)
          have hbi := hb.2.2 i (by omega)
          refine g_aload_n 2 0 C dX11_order_30 rfl rfl ?_
          refine gr_m_name C dX11_order_31 hx.1 wF_X11_56 r_name ?_
          refine g_iload 0 C dX11_order_34 rfl ?_
          refine ga_m_name C dX11_order_36 k_name (by omega) ?_
          refine g_topi (hc.2 _ (by omega)) ?_
          refine g_aload_n 2 0 C dX11_order_37 rfl rfl ?_
          refine g_iload_n 3 1 C dX11_order_38 rfl rfl ?_
          refine g_iload_n 4 2 C dX11_order_39 rfl rfl ?_
          refine g_iload 0 C dX11_order_40 rfl ?_
          refine g_callV (As := [.int (nI t), .int (nI k), .int (nI i)]) (rest := [.int (nI (cur.getD i 0))]) C dX11_order_42 (c_M_byteAt hx ht (by omega) (by omega)) wC_X11_byteAt wM_X11_111 wI_X11_byteAt wS_X11_byteAt wN_X11 (kne hx.1) (pf_11 hx.1) rfl hd_X11_byteAt ⟨by decide, by decide, by decide, by decide⟩ (Nat.le_of_ble_eq_true rfl) (fun r_ S_ h_ => ?_)
          obtain ⟨rfl, rfl⟩ := h_
          change Go X G _ 5 _ _ (mo_ S M) 45 [(4, .int (nI i)), (3, .int (nI (bs.length))), (0, .ref x), (1, .int (nI t)), (2, .int (nI k))] [.int (m_bytes M (24 * (100 * t + k) + i)), .int (nI (cur.getD i 0))]
          refine g_topi (hn.2 i (by omega)) ?_
          refine g_ncmp_eq 65 (by omega) (by omega) C dX11_order_45 (by decide) (fun c45 => ?_) (fun c45 => ?_)
          · refine g_iinc (v := nI (i + 1)) (lv' := [(4, .int (nI (i + 1))), (3, .int (nI (bs.length))), (0, .ref x), (1, .int (nI t)), (2, .int (nI k))]) 0 C dX11_order_65 rfl (nI_add _ 1) (by decide) rfl ?_
            refine g_goto 15 C dX11_order_68 (by decide) ?_
            exact ih_ (i + 1) (by omega) (Nat.lt_of_le_of_ne hi (fun e => lcp_end (a := cur) (b := bs) (by omega) (by omega) (e ▸ c45)))
          · have e : lcp cur bs = i := lcp_eq (by omega) (by omega) (fun j hj => lcp_all (by omega)) (Or.inr (Or.inr c45))
            refine g_aload_n 2 0 C dX11_order_48 rfl rfl ?_
            refine gr_m_name C dX11_order_49 hx.1 wF_X11_56 r_name ?_
            refine g_iload 0 C dX11_order_52 rfl ?_
            refine ga_m_name C dX11_order_54 k_name (by omega) ?_
            refine g_topi (hc.2 _ (by omega)) ?_
            refine g_aload_n 2 0 C dX11_order_55 rfl rfl ?_
            refine g_iload_n 3 1 C dX11_order_56 rfl rfl ?_
            refine g_iload_n 4 2 C dX11_order_57 rfl rfl ?_
            refine g_iload 0 C dX11_order_58 rfl ?_
            refine g_callV (As := [.int (nI t), .int (nI k), .int (nI i)]) (rest := [.int (nI (cur.getD i 0))]) C dX11_order_60 (c_M_byteAt hx ht (by omega) (by omega)) wC_X11_byteAt wM_X11_111 wI_X11_byteAt wS_X11_byteAt wN_X11 (kne hx.1) (pf_11 hx.1) rfl hd_X11_byteAt ⟨by decide, by decide, by decide, by decide⟩ (Nat.le_of_ble_eq_true rfl) (fun r_ S_ h_ => ?_)
            obtain ⟨rfl, rfl⟩ := h_
            change Go X G _ 5 _ _ (mo_ S M) 63 [(4, .int (nI i)), (3, .int (nI (bs.length))), (0, .ref x), (1, .int (nI t)), (2, .int (nI k))] [.int (m_bytes M (24 * (100 * t + k) + i)), .int (nI (cur.getD i 0))]
            refine g_topi (hn.2 i (by omega)) ?_
            refine g_isub C dX11_order_63 ?_
            exact g_iret C dX11_order_64 (by decide) (by decide) (⟨by unfold ordV; rw [e, if_pos ⟨by omega, by omega⟩], rfl⟩)
  refine g_aload_n 0 0 C dX11_order_0 rfl rfl ?_
  refine gr_m_size C dX11_order_1 hx.1 wF_X11_46 r_size ?_
  refine g_bipush (v := nI 100) C dX11_order_4 (by decide) ?_
  refine g_iload_n 1 1 C dX11_order_6 rfl rfl ?_
  refine g_imul C dX11_order_7 ?_
  refine g_topi (pk_mul _ _ : _ = nI (100 * t)) ?_
  refine g_iload_n 2 2 C dX11_order_8 rfl rfl ?_
  refine g_iadd C dX11_order_9 ?_
  refine g_topi (nI_add _ _ : _ = nI (100 * t + k)) ?_
  refine ga_m_size C dX11_order_10 k_size (by omega) ?_
  refine g_topi (hn.1) ?_
  refine g_istore_n (lv' := [(3, .int (nI (bs.length))), (0, .ref x), (1, .int (nI t)), (2, .int (nI k))]) C dX11_order_11 rfl (by decide) rfl ?_
  refine g_iconst (v := nI 0) C dX11_order_12 (by decide) ?_
  refine g_istore (lv' := [(4, .int (nI 0)), (3, .int (nI (bs.length))), (0, .ref x), (1, .int (nI t)), (2, .int (nI k))]) C dX11_order_13 (by decide) rfl ?_
  exact lp (cur.length + 1) 0 (by omega) (Nat.zero_le _)
set_option maxRecDepth 100000 in
set_option maxHeartbeats 4000000 in
theorem c_M_ahead {l : Launch} {G : Gx} {S : PS} {M : MoT} {x : Nat} (hx : MoOk S M x) {t : Nat} {ls : List Ent} {cur : List Nat} (ht : t < 12) (hl : namesM M t ls) (hc : curM M cur) (hc0 : okN cur) : Ct l yX11_ahead cX11_ahead 3 (Option.some Jvm.ClassFile.FieldType.int) rm_X11_ahead G [.ref x, .int (nI t)] (mo_ S M) (fun r S' => r = some (.int (nI (aheadN ls cur))) ∧ S' = mo_ S M) := by
  obtain ⟨q_many, r_many, k_many⟩ := hx.2 3 (by decide)
  have hl1 := hl.1
  refine Ct.mk RX11 "ahead" hy_X11_ahead (Nat.le_of_ble_eq_true rfl) (fun X hX C => ?_)
  change Go X G _ 3 0 0 (mo_ S M) 0 [(0, .ref x), (1, .int (nI t))] []
  have lp : ∀ (n_ : Nat) (k : Nat), ls.length - k < n_ → (k ≤ ls.length ∧ ∀ j, j < k → less (nm ls j) cur = true) → Go X G (Qe X G (fun r S' => r = some (.int (nI (aheadN ls cur))) ∧ S' = mo_ S M) rm_X11_ahead.cells rm_X11_ahead.slots) 3 0 0 (mo_ S M) 2 [(2, .int (nI k)), (0, .ref x), (1, .int (nI t))] [] := by
    intro n_
    induction n_ with
    | zero => intro k hm_; exact absurd hm_ (Nat.not_lt_zero _)
    | succ n_ ih_ =>
      intro k hm_ hi
      refine g_iload_n 0 2 C dX11_ahead_2 rfl rfl ?_
      refine g_aload_n 1 0 C dX11_ahead_3 rfl rfl ?_
      refine gr_m_many C dX11_ahead_4 hx.1 wF_X11_23 r_many ?_
      refine g_iload_n 2 1 C dX11_ahead_7 rfl rfl ?_
      refine ga_m_many C dX11_ahead_8 k_many (by omega) ?_
      refine g_topi (hl.2.1) ?_
      refine g_ncmp_ge 27 (by omega) (by omega) C dX11_ahead_9 (by decide) (fun c9 => ?_) (fun c9 => ?_)
      · have e : aheadN ls cur = k := fN_eq hi.1 hi.2 (Or.inl (by omega))
        refine g_iload_n 0 2 C dX11_ahead_27 rfl rfl ?_
        exact g_iret C dX11_ahead_28 (by decide) (by decide) (⟨by rw [e], rfl⟩)
      · have hk := hl.2.2 k (by omega)
        refine g_aload_n 1 0 C dX11_ahead_12 rfl rfl ?_
        refine g_iload_n 2 1 C dX11_ahead_13 rfl rfl ?_
        refine g_iload_n 0 2 C dX11_ahead_14 rfl rfl ?_
        refine g_callV (As := [.int (nI t), .int (nI k)]) (rest := []) C dX11_ahead_15 (c_M_order hx ht (by omega) hc hc0 hk.2.1 hk.1) wC_X11_order wM_X11_115 wI_X11_order wS_X11_order wN_X11 (kne hx.1) (pf_11 hx.1) rfl hd_X11_order ⟨by decide, by decide, by decide, by decide⟩ (Nat.le_of_ble_eq_true rfl) (fun r_ S_ h_ => ?_)
        obtain ⟨rfl, rfl⟩ := h_
        change Go X G _ 3 _ _ (mo_ S M) 18 [(2, .int (nI k)), (0, .ref x), (1, .int (nI t))] [.int (ordV cur (nm ls k))]
        refine g_if_le 27 C dX11_ahead_18 (by decide) (fun c18 => ?_) (fun c18 => ?_)
        · have e : aheadN ls cur = k := fN_eq hi.1 hi.2 (Or.inr (Bool.eq_false_iff.mpr (fun h => Int32.not_le.mpr ((ordV_pos hc0 hk.1).mpr h) c18)))
          refine g_iload_n 0 2 C dX11_ahead_27 rfl rfl ?_
          exact g_iret C dX11_ahead_28 (by decide) (by decide) (⟨by rw [e], rfl⟩)
        · have c18 := (ordV_pos hc0 hk.1).mp (Int32.not_le.mp c18)
          refine g_iinc (v := nI (k + 1)) (lv' := [(2, .int (nI (k + 1))), (0, .ref x), (1, .int (nI t))]) 0 C dX11_ahead_21 rfl (nI_add _ 1) (by decide) rfl ?_
          refine g_goto 2 C dX11_ahead_24 (by decide) ?_
          exact ih_ (k + 1) (by omega) ⟨by omega, fun j hj => by
            by_cases e : j = k
            · rw [e]; exact c18
            · exact hi.2 j (by omega)⟩
  refine g_iconst (v := nI 0) C dX11_ahead_0 (by decide) ?_
  refine g_istore_n (lv' := [(2, .int (nI 0)), (0, .ref x), (1, .int (nI t))]) C dX11_ahead_1 rfl (by decide) rfl ?_
  exact lp (ls.length + 1) 0 (by omega) ⟨Nat.zero_le _, fun j hj => absurd hj (Nat.not_lt_zero _)⟩
set_option maxRecDepth 100000 in
set_option maxHeartbeats 4000000 in
theorem c_M_isAt {l : Launch} {G : Gx} {S : PS} {M : MoT} {x : Nat} (hx : MoOk S M x) {t : Nat} {ls : List Ent} {cur : List Nat} (ht : t < 12) (hl : namesM M t ls) (hc : curM M cur) (hc0 : okN cur) {k : Nat} (hk : k ≤ 100) : Ct l yX11_isAt cX11_isAt 3 (Option.some Jvm.ClassFile.FieldType.boolean) rm_X11_isAt G [.ref x, .int (nI t), .int (nI k)] (mo_ S M) (fun r S' => r = some (.int (bI (isAtN ls k cur))) ∧ S' = mo_ S M) := by
  obtain ⟨q_many, r_many, k_many⟩ := hx.2 3 (by decide)
  have hl1 := hl.1
  refine Ct.mk RX11 "isAt" hy_X11_isAt (Nat.le_of_ble_eq_true rfl) (fun X hX C => ?_)
  change Go X G _ 3 0 0 (mo_ S M) 0 [(0, .ref x), (1, .int (nI t)), (2, .int (nI k))] []
  refine g_iload_n 2 2 C dX11_isAt_0 rfl rfl ?_
  refine g_aload_n 0 0 C dX11_isAt_1 rfl rfl ?_
  refine gr_m_many C dX11_isAt_2 hx.1 wF_X11_23 r_many ?_
  refine g_iload_n 1 1 C dX11_isAt_5 rfl rfl ?_
  refine ga_m_many C dX11_isAt_6 k_many (by omega) ?_
  refine g_topi (hl.2.1) ?_
  refine g_ncmp_ge 23 (by omega) (by omega) C dX11_isAt_7 (by decide) (fun c7 => ?_) (fun c7 => ?_)
  · have e : isAtN ls k cur = false := by unfold isAtN; rw [decide_eq_false (by omega)]; rfl
    refine g_iconst (v := nI 0) C dX11_isAt_23 (by decide) ?_
    exact g_zret C dX11_isAt_24 (by decide) (by decide) (Or.inl rfl) (⟨by rw [e]; rfl, rfl⟩)
  · have hkk := hl.2.2 k (by omega)
    refine g_aload_n 0 0 C dX11_isAt_10 rfl rfl ?_
    refine g_iload_n 1 1 C dX11_isAt_11 rfl rfl ?_
    refine g_iload_n 2 2 C dX11_isAt_12 rfl rfl ?_
    refine g_callV (As := [.int (nI t), .int (nI k)]) (rest := []) C dX11_isAt_13 (c_M_order hx ht (by omega) hc hc0 hkk.2.1 hkk.1) wC_X11_order wM_X11_115 wI_X11_order wS_X11_order wN_X11 (kne hx.1) (pf_11 hx.1) rfl hd_X11_order ⟨by decide, by decide, by decide, by decide⟩ (Nat.le_of_ble_eq_true rfl) (fun r_ S_ h_ => ?_)
    obtain ⟨rfl, rfl⟩ := h_
    change Go X G _ 3 _ _ (mo_ S M) 16 [(0, .ref x), (1, .int (nI t)), (2, .int (nI k))] [.int (ordV cur (nm ls k))]
    refine g_if_ne 23 C dX11_isAt_16 (by decide) (fun c16 => ?_) (fun c16 => ?_)
    · have e : isAtN ls k cur = false := by unfold isAtN; rw [decide_eq_false (fun h => c16 ((ordV_zero hc0 hkk.1).mpr h)), Bool.and_false]
      refine g_iconst (v := nI 0) C dX11_isAt_23 (by decide) ?_
      exact g_zret C dX11_isAt_24 (by decide) (by decide) (Or.inl rfl) (⟨by rw [e]; rfl, rfl⟩)
    · have e : isAtN ls k cur = true := by unfold isAtN; rw [decide_eq_true ((ordV_zero hc0 hkk.1).mp c16), decide_eq_true (by omega)]; rfl
      refine g_iconst (v := nI 1) C dX11_isAt_19 (by decide) ?_
      refine g_goto 24 C dX11_isAt_20 (by decide) ?_
      exact g_zret C dX11_isAt_24 (by decide) (by decide) (Or.inr rfl) (⟨by rw [e]; rfl, rfl⟩)
set_option maxRecDepth 100000 in
set_option maxHeartbeats 4000000 in
theorem c_M_alike {l : Launch} {G : Gx} {S : PS} {M : MoT} {x : Nat} (hx : MoOk S M x) {t k : Nat} {cur bs : List Nat} (ht : t < 12) (hk : k < 100) (hc : curM M cur) (hc0 : okN cur) (hn : nameM M t k bs) (hb : okN bs) : Ct l yX11_alike cX11_alike 4 (Option.some Jvm.ClassFile.FieldType.int) rm_X11_alike G [.ref x, .int (nI t), .int (nI k)] (mo_ S M) (fun r S' => r = some (.int (nI (lcp cur bs))) ∧ S' = mo_ S M) := by
  obtain ⟨q_size, r_size, k_size⟩ := hx.2 10 (by decide)
  obtain ⟨q_name, r_name, k_name⟩ := hx.2 13 (by decide)
  have hcl := hc0.2.1
  have hbl := hb.2.1
  have l1 := lcp_le1 cur bs
  have l2 := lcp_le2 cur bs
  refine Ct.mk RX11 "alike" hy_X11_alike (Nat.le_of_ble_eq_true rfl) (fun X hX C => ?_)
  change Go X G _ 4 0 0 (mo_ S M) 0 [(0, .ref x), (1, .int (nI t)), (2, .int (nI k))] []
  have lp : ∀ (n_ : Nat) (i : Nat), cur.length - i < n_ → (i ≤ lcp cur bs) → Go X G (Qe X G (fun r S' => r = some (.int (nI (lcp cur bs))) ∧ S' = mo_ S M) rm_X11_alike.cells rm_X11_alike.slots) 4 0 0 (mo_ S M) 2 [(3, .int (nI i)), (0, .ref x), (1, .int (nI t)), (2, .int (nI k))] [] := by
    intro n_
    induction n_ with
    | zero => intro i hm_; exact absurd hm_ (Nat.not_lt_zero _)
    | succ n_ ih_ =>
      intro i hm_ hi
      refine g_iload_n 0 3 C dX11_alike_2 rfl rfl ?_
      refine g_aload_n 1 0 C dX11_alike_3 rfl rfl ?_
      refine gf_m_length C dX11_alike_4 hx.1 wF_X11_59 ?_
      refine g_topi (hc.1) ?_
      refine g_ncmp_ge 47 (by omega) (by omega) C dX11_alike_7 (by decide) (fun c7 => ?_) (fun c7 => ?_)
      · have e : lcp cur bs = i := by omega
        refine g_iload_n 0 3 C dX11_alike_47 rfl rfl ?_
        exact g_iret C dX11_alike_48 (by decide) (by decide) (⟨by rw [e], rfl⟩)
      · refine g_iload_n 0 3 C dX11_alike_10 rfl rfl ?_
        refine g_aload_n 1 0 C dX11_alike_11 rfl rfl ?_
        refine gr_m_size C dX11_alike_12 hx.1 wF_X11_46 r_size ?_
        refine g_bipush (v := nI 100) C dX11_alike_15 (by decide) ?_
        refine g_iload_n 2 1 C dX11_alike_17 rfl rfl ?_
        refine g_imul C dX11_alike_18 ?_
        refine g_topi (pk_mul _ _ : _ = nI (100 * t)) ?_
        refine g_iload_n 3 2 C dX11_alike_19 rfl rfl ?_
        refine g_iadd C dX11_alike_20 ?_
        refine g_topi (nI_add _ _ : _ = nI (100 * t + k)) ?_
        refine ga_m_size C dX11_alike_21 k_size (by omega) ?_
        refine g_topi (hn.1) ?_
        refine g_ncmp_ge 47 (by omega) (by omega) C dX11_alike_22 (by decide) (fun c22 => ?_) (fun c22 => ?_)
        · have e : lcp cur bs = i := by omega
          refine g_iload_n 0 3 C dX11_alike_47 rfl rfl ?_
          exact g_iret C dX11_alike_48 (by decide) (by decide) (⟨by rw [e], rfl⟩)
        · have hci := hc0.2.2 i (by omega)
          have hbi := hb.2.2 i (by omega)
          refine g_aload_n 1 0 C dX11_alike_25 rfl rfl ?_
          refine gr_m_name C dX11_alike_26 hx.1 wF_X11_56 r_name ?_
          refine g_iload_n 0 3 C dX11_alike_29 rfl rfl ?_
          refine ga_m_name C dX11_alike_30 k_name (by omega) ?_
          refine g_topi (hc.2 _ (by omega)) ?_
          refine g_aload_n 1 0 C dX11_alike_31 rfl rfl ?_
          refine g_iload_n 2 1 C dX11_alike_32 rfl rfl ?_
          refine g_iload_n 3 2 C dX11_alike_33 rfl rfl ?_
          refine g_iload_n 0 3 C dX11_alike_34 rfl rfl ?_
          refine g_callV (As := [.int (nI t), .int (nI k), .int (nI i)]) (rest := [.int (nI (cur.getD i 0))]) C dX11_alike_35 (c_M_byteAt hx ht (by omega) (by omega)) wC_X11_byteAt wM_X11_111 wI_X11_byteAt wS_X11_byteAt wN_X11 (kne hx.1) (pf_11 hx.1) rfl hd_X11_byteAt ⟨by decide, by decide, by decide, by decide⟩ (Nat.le_of_ble_eq_true rfl) (fun r_ S_ h_ => ?_)
          obtain ⟨rfl, rfl⟩ := h_
          change Go X G _ 4 _ _ (mo_ S M) 38 [(3, .int (nI i)), (0, .ref x), (1, .int (nI t)), (2, .int (nI k))] [.int (m_bytes M (24 * (100 * t + k) + i)), .int (nI (cur.getD i 0))]
          refine g_topi (hn.2 i (by omega)) ?_
          refine g_ncmp_ne 47 (by omega) (by omega) C dX11_alike_38 (by decide) (fun c38 => ?_) (fun c38 => ?_)
          · have e : lcp cur bs = i := lcp_eq (by omega) (by omega) (fun j hj => lcp_all (by omega)) (Or.inr (Or.inr c38))
            refine g_iload_n 0 3 C dX11_alike_47 rfl rfl ?_
            exact g_iret C dX11_alike_48 (by decide) (by decide) (⟨by rw [e], rfl⟩)
          · refine g_iinc (v := nI (i + 1)) (lv' := [(3, .int (nI (i + 1))), (0, .ref x), (1, .int (nI t)), (2, .int (nI k))]) 0 C dX11_alike_41 rfl (nI_add _ 1) (by decide) rfl ?_
            refine g_goto 2 C dX11_alike_44 (by decide) ?_
            exact ih_ (i + 1) (by omega) (Nat.lt_of_le_of_ne hi (fun e => lcp_end (a := cur) (b := bs) (by omega) (by omega) (e ▸ c38)))
  refine g_iconst (v := nI 0) C dX11_alike_0 (by decide) ?_
  refine g_istore_n (lv' := [(3, .int (nI 0)), (0, .ref x), (1, .int (nI t)), (2, .int (nI k))]) C dX11_alike_1 rfl (by decide) rfl ?_
  exact lp (cur.length + 1) 0 (by omega) (Nat.zero_le _)
