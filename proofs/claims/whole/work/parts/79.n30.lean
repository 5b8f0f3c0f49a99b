def Z0 : ZT := ([], fun _ => 0, fun _ => (0, [], [], false, false), 0, [])
/-- the model while it is made: so many of its arrays are there -/
def Ini (S T : PS) (y i : Nat) : Prop := Fr S (mo_ T (mo S)) No ∧ mu T = mu S ∧ kd T y = 11 ∧ (∀ a, kd T a = kd S a ∨ (30 ≤ kd T a ∧ kd T a < 30 + i)) ∧ ∀ j, j < i → ∃ q, mo_r (mo T) j = some q ∧ kd T q = 30 + j
theorem ini_ne {S T : PS} {y i : Nat} (h : Ini S T y i) (hS : ∀ a, kd S a < 30) : ∀ a, kd T a ≠ 30 + i := fun a e => by
  have := hS a
  rcases h.2.2.2.1 a with z | z <;> omega
theorem ini_refl {S : PS} {y : Nat} (h : kd S y = 11) : Ini S S y 0 := ⟨Fr.refl S No, rfl, h, fun _ => Or.inl rfl, fun j hj => absurd hj (Nat.not_lt_zero _)⟩
theorem ini_mo {S T : PS} {y i : Nat} {M : MoT} (h : Ini S T y i) (hM : mo_r M = mo_r (mo T)) : Ini S (mo_ T M) y i := ⟨h.1, h.2.1, h.2.2.1, h.2.2.2.1, fun j hj => by
  show ∃ q, mo_r M j = some q ∧ _
  rw [hM]; exact h.2.2.2.2 j hj⟩
theorem fr_raw {S0 S : PS} {A : Nat → Prop} {q k : Nat} (h : Fr S0 S A) (h0 : kd S q = 0) : Fr S0 (La_ (kd_ S (va_up (kd S) q k)) (La S ++ [q])) A := by
  have hq : ∀ a, kd S0 a ≠ 0 → a ≠ q := fun a ha e => ha (by rw [e]; exact h.new h0)
  refine ⟨fun a ha => ?_, fun a ha hn => ?_, h.2.2⟩
  · exact ⟨(va_up_ne _ _ (hq a ha)).trans (h.1 a ha).1, (h.1 a ha).2⟩
  · refine Eq.trans ?_ (h.2.1 a ha hn)
    show (va_up (kd S) q k a, _) = (kd S a, _)
    rw [va_up_ne _ _ (hq a ha)]
theorem ini_step {S T : PS} {y i q : Nat} {M : MoT} (h : Ini S T y i) (h0 : kd T q = 0) (hM : mo_r M = va_up (mo_r (mo T)) i (some q)) : Ini S (mo_ (La_ (kd_ T (va_up (kd T) q (30 + i))) (La T ++ [q])) M) y (i + 1) := by
  obtain ⟨h1, h2, h3, h4, h5⟩ := h
  refine ⟨fr_raw (S := mo_ T (mo S)) h1 h0, h2, (va_up_ne _ _ (fun e => by rw [e] at h3; rw [h3] at h0; cases h0)).trans h3, fun a => ?_, fun j hj => ?_⟩
  · by_cases e : a = q
    · refine Or.inr ?_
      show 30 ≤ va_up (kd T) q (30 + i) a ∧ va_up (kd T) q (30 + i) a < 30 + (i + 1)
      rw [e, va_up_self]; omega
    · have e2 : va_up (kd T) q (30 + i) a = kd T a := va_up_ne _ _ e
      rcases h4 a with z | z
      · exact Or.inl (e2.trans z)
      · refine Or.inr ?_
        show 30 ≤ va_up (kd T) q (30 + i) a ∧ va_up (kd T) q (30 + i) a < 30 + (i + 1)
        rw [e2]; omega
  · show ∃ p, mo_r M j = some p ∧ va_up (kd T) q (30 + i) p = 30 + j
    rw [hM]
    by_cases e : j = i
    · rw [e]; exact ⟨q, va_up_self _ _ _, va_up_self _ _ _⟩
    · obtain ⟨p, e1, e2⟩ := h5 j (by omega)
      exact ⟨p, (va_up_ne _ _ e).trans e1, (va_up_ne _ _ (fun z => by rw [z] at e2; rw [e2] at h0; exact absurd h0 (by omega))).trans e2⟩
theorem RM_0 {M : MoT} (h1 : m_taped M = nI 0) (h2 : m_place M = fun _ => 0) (h3 : m_status M = nI 0) (h4 : m_witnessed M = nI 0) : RM M Z0 := by
  refine ⟨⟨h1, fun i hi => absurd hi (Nat.not_lt_zero _)⟩, fun p _ => by rw [h2]; rfl, fun t ⟨p, _, h⟩ => absurd h (show ¬ (0 : Nat) = t + 1 by omega), h3, h4, fun i hi => absurd hi (Nat.not_lt_zero _)⟩
set_option maxRecDepth 100000 in
set_option maxHeartbeats 4000000 in
theorem c_M_init {lX : Launch} {G : Gx} {S : PS} {y : Nat} (hy : kd S y = 11) (hS : ∀ a, kd S a < 30) : Ct lX yX11_init cX11_init 1 (Option.none : Option Jvm.ClassFile.FieldType) rm_X11_init G [.ref y] S (fun r S' => r = none ∧ Fr S (mo_ S' (mo S)) No ∧ mu S' = mu S ∧ MoOk S' (mo S') y ∧ RM (mo S') Z0) := by
  have I0 : Ini S S y 0 := ini_refl hy
  refine Ct.mk RX11 "<init>" hy_X11_init (Nat.le_of_ble_eq_true rfl) (fun X hX C => ?_)
  change Go X G _ 1 0 0 S 0 [(0, .ref y)] []
  refine g_aload_n 0 0 C dX11_init_0 rfl rfl ?_
  refine g_objInit C dX11_init_1 wM_X11_1 ⟨by decide, by decide⟩ (Nat.le_of_ble_eq_true rfl) ?_
  refine g_aload_n 0 0 C dX11_init_4 rfl rfl ?_
  refine g_sipush (v := nI 1000) C dX11_init_5 (by decide) ?_
  refine gy_m_tape C dX11_init_8 (ini_ne I0 hS) ⟨by decide, by decide⟩ (fun q0 h0_q0 => ?_)
  refine pp_m_tape C dX11_init_10 (kup h0_q0 hy) wF_X11_7 (Or.inr ⟨rfl, rfl, rfl⟩) ?_
  obtain ⟨T1, e_1⟩ : ∃ T_ : PS, T_ = (mo_ (na_m_tape S q0) (mo_r_ (mo (na_m_tape S q0)) (va_up (mo_r (mo (na_m_tape S q0))) 0 (some q0)))) := ⟨_, rfl⟩
  have I1 : Ini S T1 y 1 := by rw [e_1]; exact ini_step I0 h0_q0 rfl
  refine g_st (S' := T1) e_1.symm ?_
  refine g_aload_n 0 0 C dX11_init_13 rfl rfl ?_
  refine g_iconst (v := nI 0) C dX11_init_14 (by decide) ?_
  refine pp_m_taped C dX11_init_15 I1.2.2.1 wF_X11_13 (Or.inl rfl) ?_
  obtain ⟨T2, e_2⟩ : ∃ T_ : PS, T_ = (mo_ T1 (m_taped_ (mo T1) (nI 0))) := ⟨_, rfl⟩
  have I2 : Ini S T2 y 1 := by rw [e_2]; exact ini_mo I1 rfl
  have v_taped2 : m_taped (mo T2) = nI 0 := by rw [e_2]; try exact rfl
  refine g_st (S' := T2) e_2.symm ?_
  refine g_aload_n 0 0 C dX11_init_18 rfl rfl ?_
  refine g_bipush (v := nI 10) C dX11_init_19 (by decide) ?_
  refine gy_m_place C dX11_init_21 (ini_ne I2 hS) ⟨by decide, by decide⟩ (fun q1 h0_q1 => ?_)
  refine pp_m_place C dX11_init_23 (kup h0_q1 I2.2.2.1) wF_X11_17 (Or.inr ⟨rfl, rfl, rfl⟩) ?_
  obtain ⟨T3, e_3⟩ : ∃ T_ : PS, T_ = (mo_ (na_m_place T2 q1) (mo_r_ (mo (na_m_place T2 q1)) (va_up (mo_r (mo (na_m_place T2 q1))) 1 (some q1)))) := ⟨_, rfl⟩
  have I3 : Ini S T3 y 2 := by rw [e_3]; exact ini_step I2 h0_q1 rfl
  have v_taped3 : m_taped (mo T3) = nI 0 := by rw [e_3]; exact v_taped2
  have v_place3 : m_place (mo T3) = fun _ => 0 := by rw [e_3]; try exact rfl
  refine g_st (S' := T3) e_3.symm ?_
  refine g_aload_n 0 0 C dX11_init_26 rfl rfl ?_
  refine g_bipush (v := nI 12) C dX11_init_27 (by decide) ?_
  refine gy_m_sort C dX11_init_29 (ini_ne I3 hS) ⟨by decide, by decide⟩ (fun q2 h0_q2 => ?_)
  refine pp_m_sort C dX11_init_31 (kup h0_q2 I3.2.2.1) wF_X11_20 (Or.inr ⟨rfl, rfl, rfl⟩) ?_
  obtain ⟨T4, e_4⟩ : ∃ T_ : PS, T_ = (mo_ (na_m_sort T3 q2) (mo_r_ (mo (na_m_sort T3 q2)) (va_up (mo_r (mo (na_m_sort T3 q2))) 2 (some q2)))) := ⟨_, rfl⟩
  have I4 : Ini S T4 y 3 := by rw [e_4]; exact ini_step I3 h0_q2 rfl
  have v_taped4 : m_taped (mo T4) = nI 0 := by rw [e_4]; exact v_taped3
  have v_place4 : m_place (mo T4) = fun _ => 0 := by rw [e_4]; exact v_place3
  refine g_st (S' := T4) e_4.symm ?_
  refine g_aload_n 0 0 C dX11_init_34 rfl rfl ?_
  refine g_bipush (v := nI 12) C dX11_init_35 (by decide) ?_
  refine gy_m_many C dX11_init_37 (ini_ne I4 hS) ⟨by decide, by decide⟩ (fun q3 h0_q3 => ?_)
  refine pp_m_many C dX11_init_39 (kup h0_q3 I4.2.2.1) wF_X11_23 (Or.inr ⟨rfl, rfl, rfl⟩) ?_
  obtain ⟨T5, e_5⟩ : ∃ T_ : PS, T_ = (mo_ (na_m_many T4 q3) (mo_r_ (mo (na_m_many T4 q3)) (va_up (mo_r (mo (na_m_many T4 q3))) 3 (some q3)))) := ⟨_, rfl⟩
  have I5 : Ini S T5 y 4 := by rw [e_5]; exact ini_step I4 h0_q3 rfl
  have v_taped5 : m_taped (mo T5) = nI 0 := by rw [e_5]; exact v_taped4
  have v_place5 : m_place (mo T5) = fun _ => 0 := by rw [e_5]; exact v_place4
  refine g_st (S' := T5) e_5.symm ?_
  refine g_aload_n 0 0 C dX11_init_42 rfl rfl ?_
  refine g_bipush (v := nI 12) C dX11_init_43 (by decide) ?_
  refine gy_m_bits C dX11_init_45 (ini_ne I5 hS) ⟨by decide, by decide⟩ (fun q4 h0_q4 => ?_)
  refine pp_m_bits C dX11_init_47 (kup h0_q4 I5.2.2.1) wF_X11_26 (Or.inr ⟨rfl, rfl, rfl⟩) ?_
  obtain ⟨T6, e_6⟩ : ∃ T_ : PS, T_ = (mo_ (na_m_bits T5 q4) (mo_r_ (mo (na_m_bits T5 q4)) (va_up (mo_r (mo (na_m_bits T5 q4))) 4 (some q4)))) := ⟨_, rfl⟩
  have I6 : Ini S T6 y 5 := by rw [e_6]; exact ini_step I5 h0_q4 rfl
  have v_taped6 : m_taped (mo T6) = nI 0 := by rw [e_6]; exact v_taped5
  have v_place6 : m_place (mo T6) = fun _ => 0 := by rw [e_6]; exact v_place5
  refine g_st (S' := T6) e_6.symm ?_
  refine g_aload_n 0 0 C dX11_init_50 rfl rfl ?_
  refine g_bipush (v := nI 12) C dX11_init_51 (by decide) ?_
  refine gy_m_edges C dX11_init_53 (ini_ne I6 hS) ⟨by decide, by decide⟩ (fun q5 h0_q5 => ?_)
  refine pp_m_edges C dX11_init_55 (kup h0_q5 I6.2.2.1) wF_X11_29 (Or.inr ⟨rfl, rfl, rfl⟩) ?_
  obtain ⟨T7, e_7⟩ : ∃ T_ : PS, T_ = (mo_ (na_m_edges T6 q5) (mo_r_ (mo (na_m_edges T6 q5)) (va_up (mo_r (mo (na_m_edges T6 q5))) 5 (some q5)))) := ⟨_, rfl⟩
  have I7 : Ini S T7 y 6 := by rw [e_7]; exact ini_step I6 h0_q5 rfl
  have v_taped7 : m_taped (mo T7) = nI 0 := by rw [e_7]; exact v_taped6
  have v_place7 : m_place (mo T7) = fun _ => 0 := by rw [e_7]; exact v_place6
  refine g_st (S' := T7) e_7.symm ?_
  refine g_aload_n 0 0 C dX11_init_58 rfl rfl ?_
  refine g_bipush (v := nI 12) C dX11_init_59 (by decide) ?_
  refine gy_m_letters C dX11_init_61 (ini_ne I7 hS) ⟨by decide, by decide⟩ (fun q6 h0_q6 => ?_)
  refine pp_m_letters C dX11_init_63 (kup h0_q6 I7.2.2.1) wF_X11_32 (Or.inr ⟨rfl, rfl, rfl⟩) ?_
  obtain ⟨T8, e_8⟩ : ∃ T_ : PS, T_ = (mo_ (na_m_letters T7 q6) (mo_r_ (mo (na_m_letters T7 q6)) (va_up (mo_r (mo (na_m_letters T7 q6))) 6 (some q6)))) := ⟨_, rfl⟩
  have I8 : Ini S T8 y 7 := by rw [e_8]; exact ini_step I7 h0_q6 rfl
  have v_taped8 : m_taped (mo T8) = nI 0 := by rw [e_8]; exact v_taped7
  have v_place8 : m_place (mo T8) = fun _ => 0 := by rw [e_8]; exact v_place7
  refine g_st (S' := T8) e_8.symm ?_
  refine g_aload_n 0 0 C dX11_init_66 rfl rfl ?_
  refine g_bipush (v := nI 12) C dX11_init_67 (by decide) ?_
  refine gy_m_marks C dX11_init_69 (ini_ne I8 hS) ⟨by decide, by decide⟩ (fun q7 h0_q7 => ?_)
  refine pp_m_marks C dX11_init_71 (kup h0_q7 I8.2.2.1) wF_X11_35 (Or.inr ⟨rfl, rfl, rfl⟩) ?_
  obtain ⟨T9, e_9⟩ : ∃ T_ : PS, T_ = (mo_ (na_m_marks T8 q7) (mo_r_ (mo (na_m_marks T8 q7)) (va_up (mo_r (mo (na_m_marks T8 q7))) 7 (some q7)))) := ⟨_, rfl⟩
  have I9 : Ini S T9 y 8 := by rw [e_9]; exact ini_step I8 h0_q7 rfl
  have v_taped9 : m_taped (mo T9) = nI 0 := by rw [e_9]; exact v_taped8
  have v_place9 : m_place (mo T9) = fun _ => 0 := by rw [e_9]; exact v_place8
  refine g_st (S' := T9) e_9.symm ?_
  refine g_aload_n 0 0 C dX11_init_74 rfl rfl ?_
  refine g_bipush (v := nI 24) C dX11_init_75 (by decide) ?_
  refine gy_m_lost C dX11_init_77 (ini_ne I9 hS) ⟨by decide, by decide⟩ (fun q8 h0_q8 => ?_)
  refine pp_m_lost C dX11_init_79 (kup h0_q8 I9.2.2.1) wF_X11_38 (Or.inr ⟨rfl, rfl, rfl⟩) ?_
  obtain ⟨T10, e_10⟩ : ∃ T_ : PS, T_ = (mo_ (na_m_lost T9 q8) (mo_r_ (mo (na_m_lost T9 q8)) (va_up (mo_r (mo (na_m_lost T9 q8))) 8 (some q8)))) := ⟨_, rfl⟩
  have I10 : Ini S T10 y 9 := by rw [e_10]; exact ini_step I9 h0_q8 rfl
  have v_taped10 : m_taped (mo T10) = nI 0 := by rw [e_10]; exact v_taped9
  have v_place10 : m_place (mo T10) = fun _ => 0 := by rw [e_10]; exact v_place9
  refine g_st (S' := T10) e_10.symm ?_
  refine g_aload_n 0 0 C dX11_init_82 rfl rfl ?_
  refine g_ldc (v := nI 58800) C dX11_init_83 wG_X11_42 ?_
  refine gy_m_row C dX11_init_85 (ini_ne I10 hS) ⟨by decide, by decide⟩ (fun q9 h0_q9 => ?_)
  refine pp_m_row C dX11_init_87 (kup h0_q9 I10.2.2.1) wF_X11_43 (Or.inr ⟨rfl, rfl, rfl⟩) ?_
  obtain ⟨T11, e_11⟩ : ∃ T_ : PS, T_ = (mo_ (na_m_row T10 q9) (mo_r_ (mo (na_m_row T10 q9)) (va_up (mo_r (mo (na_m_row T10 q9))) 9 (some q9)))) := ⟨_, rfl⟩
  have I11 : Ini S T11 y 10 := by rw [e_11]; exact ini_step I10 h0_q9 rfl
  have v_taped11 : m_taped (mo T11) = nI 0 := by rw [e_11]; exact v_taped10
  have v_place11 : m_place (mo T11) = fun _ => 0 := by rw [e_11]; exact v_place10
  refine g_st (S' := T11) e_11.symm ?_
  refine g_aload_n 0 0 C dX11_init_90 rfl rfl ?_
  refine g_sipush (v := nI 1200) C dX11_init_91 (by decide) ?_
  refine gy_m_size C dX11_init_94 (ini_ne I11 hS) ⟨by decide, by decide⟩ (fun q10 h0_q10 => ?_)
  refine pp_m_size C dX11_init_96 (kup h0_q10 I11.2.2.1) wF_X11_46 (Or.inr ⟨rfl, rfl, rfl⟩) ?_
  obtain ⟨T12, e_12⟩ : ∃ T_ : PS, T_ = (mo_ (na_m_size T11 q10) (mo_r_ (mo (na_m_size T11 q10)) (va_up (mo_r (mo (na_m_size T11 q10))) 10 (some q10)))) := ⟨_, rfl⟩
  have I12 : Ini S T12 y 11 := by rw [e_12]; exact ini_step I11 h0_q10 rfl
  have v_taped12 : m_taped (mo T12) = nI 0 := by rw [e_12]; exact v_taped11
  have v_place12 : m_place (mo T12) = fun _ => 0 := by rw [e_12]; exact v_place11
  refine g_st (S' := T12) e_12.symm ?_
  refine g_aload_n 0 0 C dX11_init_99 rfl rfl ?_
  refine g_sipush (v := nI 28800) C dX11_init_100 (by decide) ?_
  refine gy_m_bytes C dX11_init_103 (ini_ne I12 hS) ⟨by decide, by decide⟩ (fun q11 h0_q11 => ?_)
  refine pp_m_bytes C dX11_init_105 (kup h0_q11 I12.2.2.1) wF_X11_49 (Or.inr ⟨rfl, rfl, rfl⟩) ?_
  obtain ⟨T13, e_13⟩ : ∃ T_ : PS, T_ = (mo_ (na_m_bytes T12 q11) (mo_r_ (mo (na_m_bytes T12 q11)) (va_up (mo_r (mo (na_m_bytes T12 q11))) 11 (some q11)))) := ⟨_, rfl⟩
  have I13 : Ini S T13 y 12 := by rw [e_13]; exact ini_step I12 h0_q11 rfl
  have v_taped13 : m_taped (mo T13) = nI 0 := by rw [e_13]; exact v_taped12
  have v_place13 : m_place (mo T13) = fun _ => 0 := by rw [e_13]; exact v_place12
  refine g_st (S' := T13) e_13.symm ?_
  refine g_aload_n 0 0 C dX11_init_108 rfl rfl ?_
  refine g_sipush (v := nI 1200) C dX11_init_109 (by decide) ?_
  refine gy_m_value C dX11_init_112 (ini_ne I13 hS) ⟨by decide, by decide⟩ (fun q12 h0_q12 => ?_)
  refine pp_m_value C dX11_init_114 (kup h0_q12 I13.2.2.1) wF_X11_52 (Or.inr ⟨rfl, rfl, rfl⟩) ?_
  obtain ⟨T14, e_14⟩ : ∃ T_ : PS, T_ = (mo_ (na_m_value T13 q12) (mo_r_ (mo (na_m_value T13 q12)) (va_up (mo_r (mo (na_m_value T13 q12))) 12 (some q12)))) := ⟨_, rfl⟩
  have I14 : Ini S T14 y 13 := by rw [e_14]; exact ini_step I13 h0_q12 rfl
  have v_taped14 : m_taped (mo T14) = nI 0 := by rw [e_14]; exact v_taped13
  have v_place14 : m_place (mo T14) = fun _ => 0 := by rw [e_14]; exact v_place13
  refine g_st (S' := T14) e_14.symm ?_
  refine g_aload_n 0 0 C dX11_init_117 rfl rfl ?_
  refine g_bipush (v := nI 24) C dX11_init_118 (by decide) ?_
  refine gy_m_name C dX11_init_120 (ini_ne I14 hS) ⟨by decide, by decide⟩ (fun q13 h0_q13 => ?_)
  refine pp_m_name C dX11_init_122 (kup h0_q13 I14.2.2.1) wF_X11_56 (Or.inr ⟨rfl, rfl, rfl⟩) ?_
  obtain ⟨T15, e_15⟩ : ∃ T_ : PS, T_ = (mo_ (na_m_name T14 q13) (mo_r_ (mo (na_m_name T14 q13)) (va_up (mo_r (mo (na_m_name T14 q13))) 13 (some q13)))) := ⟨_, rfl⟩
  have I15 : Ini S T15 y 14 := by rw [e_15]; exact ini_step I14 h0_q13 rfl
  have v_taped15 : m_taped (mo T15) = nI 0 := by rw [e_15]; exact v_taped14
  have v_place15 : m_place (mo T15) = fun _ => 0 := by rw [e_15]; exact v_place14
  refine g_st (S' := T15) e_15.symm ?_
  refine g_aload_n 0 0 C dX11_init_125 rfl rfl ?_
  refine g_iconst (v := nI 0) C dX11_init_126 (by decide) ?_
  refine pp_m_length C dX11_init_127 I15.2.2.1 wF_X11_59 (Or.inl rfl) ?_
  obtain ⟨T16, e_16⟩ : ∃ T_ : PS, T_ = (mo_ T15 (m_length_ (mo T15) (nI 0))) := ⟨_, rfl⟩
  have I16 : Ini S T16 y 14 := by rw [e_16]; exact ini_mo I15 rfl
  have v_taped16 : m_taped (mo T16) = nI 0 := by rw [e_16]; exact v_taped15
  have v_place16 : m_place (mo T16) = fun _ => 0 := by rw [e_16]; exact v_place15
  refine g_st (S' := T16) e_16.symm ?_
  refine g_aload_n 0 0 C dX11_init_130 rfl rfl ?_
  refine g_sipush (v := nI 2500) C dX11_init_131 (by decide) ?_
  refine gy_m_low C dX11_init_134 (ini_ne I16 hS) ⟨by decide, by decide⟩ (fun q14 h0_q14 => ?_)
  refine pp_m_low C dX11_init_136 (kup h0_q14 I16.2.2.1) wF_X11_62 (Or.inr ⟨rfl, rfl, rfl⟩) ?_
  obtain ⟨T17, e_17⟩ : ∃ T_ : PS, T_ = (mo_ (na_m_low T16 q14) (mo_r_ (mo (na_m_low T16 q14)) (va_up (mo_r (mo (na_m_low T16 q14))) 14 (some q14)))) := ⟨_, rfl⟩
  have I17 : Ini S T17 y 15 := by rw [e_17]; exact ini_step I16 h0_q14 rfl
  have v_taped17 : m_taped (mo T17) = nI 0 := by rw [e_17]; exact v_taped16
  have v_place17 : m_place (mo T17) = fun _ => 0 := by rw [e_17]; exact v_place16
  refine g_st (S' := T17) e_17.symm ?_
  refine g_aload_n 0 0 C dX11_init_139 rfl rfl ?_
  refine g_sipush (v := nI 2500) C dX11_init_140 (by decide) ?_
  refine gy_m_high C dX11_init_143 (ini_ne I17 hS) ⟨by decide, by decide⟩ (fun q15 h0_q15 => ?_)
  refine pp_m_high C dX11_init_145 (kup h0_q15 I17.2.2.1) wF_X11_65 (Or.inr ⟨rfl, rfl, rfl⟩) ?_
  obtain ⟨T18, e_18⟩ : ∃ T_ : PS, T_ = (mo_ (na_m_high T17 q15) (mo_r_ (mo (na_m_high T17 q15)) (va_up (mo_r (mo (na_m_high T17 q15))) 15 (some q15)))) := ⟨_, rfl⟩
  have I18 : Ini S T18 y 16 := by rw [e_18]; exact ini_step I17 h0_q15 rfl
  have v_taped18 : m_taped (mo T18) = nI 0 := by rw [e_18]; exact v_taped17
  have v_place18 : m_place (mo T18) = fun _ => 0 := by rw [e_18]; exact v_place17
  refine g_st (S' := T18) e_18.symm ?_
  refine g_aload_n 0 0 C dX11_init_148 rfl rfl ?_
  refine g_sipush (v := nI 2500) C dX11_init_149 (by decide) ?_
  refine gy_m_deep C dX11_init_152 (ini_ne I18 hS) ⟨by decide, by decide⟩ (fun q16 h0_q16 => ?_)
  refine pp_m_deep C dX11_init_154 (kup h0_q16 I18.2.2.1) wF_X11_68 (Or.inr ⟨rfl, rfl, rfl⟩) ?_
  obtain ⟨T19, e_19⟩ : ∃ T_ : PS, T_ = (mo_ (na_m_deep T18 q16) (mo_r_ (mo (na_m_deep T18 q16)) (va_up (mo_r (mo (na_m_deep T18 q16))) 16 (some q16)))) := ⟨_, rfl⟩
  have I19 : Ini S T19 y 17 := by rw [e_19]; exact ini_step I18 h0_q16 rfl
  have v_taped19 : m_taped (mo T19) = nI 0 := by rw [e_19]; exact v_taped18
  have v_place19 : m_place (mo T19) = fun _ => 0 := by rw [e_19]; exact v_place18
  refine g_st (S' := T19) e_19.symm ?_
  refine g_aload_n 0 0 C dX11_init_157 rfl rfl ?_
  refine g_sipush (v := nI 2500) C dX11_init_158 (by decide) ?_
  refine gy_m_firstEdge C dX11_init_161 (ini_ne I19 hS) ⟨by decide, by decide⟩ (fun q17 h0_q17 => ?_)
  refine pp_m_firstEdge C dX11_init_163 (kup h0_q17 I19.2.2.1) wF_X11_71 (Or.inr ⟨rfl, rfl, rfl⟩) ?_
  obtain ⟨T20, e_20⟩ : ∃ T_ : PS, T_ = (mo_ (na_m_firstEdge T19 q17) (mo_r_ (mo (na_m_firstEdge T19 q17)) (va_up (mo_r (mo (na_m_firstEdge T19 q17))) 17 (some q17)))) := ⟨_, rfl⟩
  have I20 : Ini S T20 y 18 := by rw [e_20]; exact ini_step I19 h0_q17 rfl
  have v_taped20 : m_taped (mo T20) = nI 0 := by rw [e_20]; exact v_taped19
  have v_place20 : m_place (mo T20) = fun _ => 0 := by rw [e_20]; exact v_place19
  refine g_st (S' := T20) e_20.symm ?_
  refine g_aload_n 0 0 C dX11_init_166 rfl rfl ?_
  refine g_sipush (v := nI 2500) C dX11_init_167 (by decide) ?_
  refine gy_m_stringFrom C dX11_init_170 (ini_ne I20 hS) ⟨by decide, by decide⟩ (fun q18 h0_q18 => ?_)
  refine pp_m_stringFrom C dX11_init_172 (kup h0_q18 I20.2.2.1) wF_X11_74 (Or.inr ⟨rfl, rfl, rfl⟩) ?_
  obtain ⟨T21, e_21⟩ : ∃ T_ : PS, T_ = (mo_ (na_m_stringFrom T20 q18) (mo_r_ (mo (na_m_stringFrom T20 q18)) (va_up (mo_r (mo (na_m_stringFrom T20 q18))) 18 (some q18)))) := ⟨_, rfl⟩
  have I21 : Ini S T21 y 19 := by rw [e_21]; exact ini_step I20 h0_q18 rfl
  have v_taped21 : m_taped (mo T21) = nI 0 := by rw [e_21]; exact v_taped20
  have v_place21 : m_place (mo T21) = fun _ => 0 := by rw [e_21]; exact v_place20
  refine g_st (S' := T21) e_21.symm ?_
  refine g_aload_n 0 0 C dX11_init_175 rfl rfl ?_
  refine g_iconst (v := nI 0) C dX11_init_176 (by decide) ?_
  refine pp_m_nodes C dX11_init_177 I21.2.2.1 wF_X11_77 (Or.inl rfl) ?_
  obtain ⟨T22, e_22⟩ : ∃ T_ : PS, T_ = (mo_ T21 (m_nodes_ (mo T21) (nI 0))) := ⟨_, rfl⟩
  have I22 : Ini S T22 y 19 := by rw [e_22]; exact ini_mo I21 rfl
  have v_taped22 : m_taped (mo T22) = nI 0 := by rw [e_22]; exact v_taped21
  have v_place22 : m_place (mo T22) = fun _ => 0 := by rw [e_22]; exact v_place21
  refine g_st (S' := T22) e_22.symm ?_
  refine g_aload_n 0 0 C dX11_init_180 rfl rfl ?_
  refine g_iconst (v := nI 0) C dX11_init_181 (by decide) ?_
  refine pp_m_status C dX11_init_182 I22.2.2.1 wF_X11_80 (Or.inl rfl) ?_
  obtain ⟨T23, e_23⟩ : ∃ T_ : PS, T_ = (mo_ T22 (m_status_ (mo T22) (nI 0))) := ⟨_, rfl⟩
  have I23 : Ini S T23 y 19 := by rw [e_23]; exact ini_mo I22 rfl
  have v_taped23 : m_taped (mo T23) = nI 0 := by rw [e_23]; exact v_taped22
  have v_place23 : m_place (mo T23) = fun _ => 0 := by rw [e_23]; exact v_place22
  have v_status23 : m_status (mo T23) = nI 0 := by rw [e_23]; try exact rfl
  refine g_st (S' := T23) e_23.symm ?_
  refine g_aload_n 0 0 C dX11_init_185 rfl rfl ?_
  refine g_bipush (v := nI 80) C dX11_init_186 (by decide) ?_
  refine gy_m_witness C dX11_init_188 (ini_ne I23 hS) ⟨by decide, by decide⟩ (fun q19 h0_q19 => ?_)
  refine pp_m_witness C dX11_init_190 (kup h0_q19 I23.2.2.1) wF_X11_83 (Or.inr ⟨rfl, rfl, rfl⟩) ?_
  obtain ⟨T24, e_24⟩ : ∃ T_ : PS, T_ = (mo_ (na_m_witness T23 q19) (mo_r_ (mo (na_m_witness T23 q19)) (va_up (mo_r (mo (na_m_witness T23 q19))) 19 (some q19)))) := ⟨_, rfl⟩
  have I24 : Ini S T24 y 20 := by rw [e_24]; exact ini_step I23 h0_q19 rfl
  have v_taped24 : m_taped (mo T24) = nI 0 := by rw [e_24]; exact v_taped23
  have v_place24 : m_place (mo T24) = fun _ => 0 := by rw [e_24]; exact v_place23
  have v_status24 : m_status (mo T24) = nI 0 := by rw [e_24]; exact v_status23
  refine g_st (S' := T24) e_24.symm ?_
  refine g_aload_n 0 0 C dX11_init_193 rfl rfl ?_
  refine g_bipush (v := nI 80) C dX11_init_194 (by decide) ?_
  refine gy_m_due C dX11_init_196 (ini_ne I24 hS) ⟨by decide, by decide⟩ (fun q20 h0_q20 => ?_)
  refine pp_m_due C dX11_init_198 (kup h0_q20 I24.2.2.1) wF_X11_86 (Or.inr ⟨rfl, rfl, rfl⟩) ?_
  obtain ⟨T25, e_25⟩ : ∃ T_ : PS, T_ = (mo_ (na_m_due T24 q20) (mo_r_ (mo (na_m_due T24 q20)) (va_up (mo_r (mo (na_m_due T24 q20))) 20 (some q20)))) := ⟨_, rfl⟩
  have I25 : Ini S T25 y 21 := by rw [e_25]; exact ini_step I24 h0_q20 rfl
  have v_taped25 : m_taped (mo T25) = nI 0 := by rw [e_25]; exact v_taped24
  have v_place25 : m_place (mo T25) = fun _ => 0 := by rw [e_25]; exact v_place24
  have v_status25 : m_status (mo T25) = nI 0 := by rw [e_25]; exact v_status24
  refine g_st (S' := T25) e_25.symm ?_
  refine g_aload_n 0 0 C dX11_init_201 rfl rfl ?_
  refine g_iconst (v := nI 0) C dX11_init_202 (by decide) ?_
  refine pp_m_witnessed C dX11_init_203 I25.2.2.1 wF_X11_89 (Or.inl rfl) ?_
  obtain ⟨T26, e_26⟩ : ∃ T_ : PS, T_ = (mo_ T25 (m_witnessed_ (mo T25) (nI 0))) := ⟨_, rfl⟩
  have I26 : Ini S T26 y 21 := by rw [e_26]; exact ini_mo I25 rfl
  have v_taped26 : m_taped (mo T26) = nI 0 := by rw [e_26]; exact v_taped25
  have v_place26 : m_place (mo T26) = fun _ => 0 := by rw [e_26]; exact v_place25
  have v_status26 : m_status (mo T26) = nI 0 := by rw [e_26]; exact v_status25
  have v_witnessed26 : m_witnessed (mo T26) = nI 0 := by rw [e_26]; try exact rfl
  refine g_st (S' := T26) e_26.symm ?_
  refine g_aload_n 0 0 C dX11_init_206 rfl rfl ?_
  refine g_iconst (v := nI 0) C dX11_init_207 (by decide) ?_
  refine pp_m_dues C dX11_init_208 I26.2.2.1 wF_X11_92 (Or.inl rfl) ?_
  obtain ⟨T27, e_27⟩ : ∃ T_ : PS, T_ = (mo_ T26 (m_dues_ (mo T26) (nI 0))) := ⟨_, rfl⟩
  have I27 : Ini S T27 y 21 := by rw [e_27]; exact ini_mo I26 rfl
  have v_taped27 : m_taped (mo T27) = nI 0 := by rw [e_27]; exact v_taped26
  have v_place27 : m_place (mo T27) = fun _ => 0 := by rw [e_27]; exact v_place26
  have v_status27 : m_status (mo T27) = nI 0 := by rw [e_27]; exact v_status26
  have v_witnessed27 : m_witnessed (mo T27) = nI 0 := by rw [e_27]; exact v_witnessed26
  refine g_st (S' := T27) e_27.symm ?_
  exact g_vret C dX11_init_211 (by decide) (by decide) ⟨rfl, I27.1, I27.2.1, ⟨I27.2.2.1, I27.2.2.2.2⟩, RM_0 v_taped27 v_place27 v_status27 v_witnessed27⟩
