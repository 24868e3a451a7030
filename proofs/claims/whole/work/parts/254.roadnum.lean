/-! roads: hours and prices, as both readers read them -/
def dgq (n : Nat) (x : Nat → Nat) (p : Nat) : Prop := 48 ≤ chq n x p ∧ chq n x p ≤ 57
section RN
variable {N : Nat} {s t : vSt} {n p : Nat} {x : Nat → Nat}
theorem M_numstep {f a from0 v : Nat} (h : MSq n x t) (h1 : t.1 0 15 = nI p) (hp : p ≤ 76) (hf : p < from0 + a) (hfa : from0 + a < 1000) (hv : v < 1000) (hd : dgq n x p) : gM_EachAddsALineModel_number_16 N (f + 1) (nI a) (nI from0) (nI v) t = gM_EachAddsALineModel_number_16 N f (nI a) (nI from0) (nI (10 * v + (chq n x p - 48))) (s1 t 0 15 (nI (p + 1))) := by
  obtain ⟨y, e1, e2⟩ := M_hereQ (N := N) h h1 hp
  have e3 := M_inR (N := N) (t := t) e2
  have hd' : 48 ≤ chq n x p ∧ chq n x p ≤ 57 := hd
  rw [if_pos hd'] at e3
  have ev := e2.nn (by unfold dgq at hd; omega)
  subst ev
  have h48 := hd.1
  have h57 := hd.2
  rw [gM_EachAddsALineModel_number_16, show 10 * v + (chq n x p - 48) = 10 * v + chq n x p - 48 by omega]
  simp (disch := omega) only [Option.bind_some, ↓reduceIte, ↓M_1, ↓M_2, L_0, L_1, L_2, L_3, L_4, L_5, L_6, L_7, L_8, L_9, L_10, L_11, L_12, L_13, L_20, L_24, L_26, L_30, L_31, L_32, L_39, L_40, L_48, L_57, L_76, L_80, L_90, L_91, L_97, L_99, L_100, L_255, L_273, L_1000, L_2000, q_ld, q_ldL, q_sto, q_stoL, q_add, q_sub, q_mul, q_dec, q_rem, q_div, q_lt_t, q_lt_f, q_le_t, q_le_f, q_eq_t, q_eq_f, q_em, q_me, q_ml, q_lm, q_mle, q_lem, q_s1, q_s1o, q_s1k, q_s12, q_s2, q_s2o, q_s2k, q_s21, Nat.add_sub_cancel, q_or, q_and, q_shl, true_or, or_true, false_or, or_false, true_and, and_true, false_and, and_false, not_true_eq_false, not_false_eq_true, ne_eq, e1, e3, h1]
theorem M_numstop {f a from0 v : Nat} (h : MSq n x t) (h1 : t.1 0 15 = nI p) (hp : p ≤ 76) (hfa : from0 + a < 1000) (hne : p ≠ from0) (hd : from0 + a ≤ p ∨ ¬ dgq n x p) : gM_EachAddsALineModel_number_16 N (f + 1) (nI a) (nI from0) (nI v) t = some (nI v, t) := by
  obtain ⟨y, e1, e2⟩ := M_hereQ (N := N) h h1 hp
  have e3 := M_inR (N := N) (t := t) e2
  rw [gM_EachAddsALineModel_number_16]
  by_cases c : from0 + a ≤ p
  · simp (disch := omega) only [Option.bind_some, ↓reduceIte, ↓M_1, ↓M_2, L_0, L_1, L_2, L_3, L_4, L_5, L_6, L_7, L_8, L_9, L_10, L_11, L_12, L_13, L_20, L_24, L_26, L_30, L_31, L_32, L_39, L_40, L_48, L_57, L_76, L_80, L_90, L_91, L_97, L_99, L_100, L_255, L_273, L_1000, L_2000, q_ld, q_ldL, q_sto, q_stoL, q_add, q_sub, q_mul, q_dec, q_rem, q_div, q_lt_t, q_lt_f, q_le_t, q_le_f, q_eq_t, q_eq_f, q_em, q_me, q_ml, q_lm, q_mle, q_lem, q_s1, q_s1o, q_s1k, q_s12, q_s2, q_s2o, q_s2k, q_s21, Nat.add_sub_cancel, q_or, q_and, q_shl, true_or, or_true, false_or, or_false, true_and, and_true, false_and, and_false, not_true_eq_false, not_false_eq_true, ne_eq, h1, gM_EachAddsALineModel_number_66]
  · have d : ¬ (48 ≤ chq n x p ∧ chq n x p ≤ 57) := hd.resolve_left c
    rw [if_neg d] at e3
    simp (disch := omega) only [Option.bind_some, ↓reduceIte, ↓M_1, ↓M_2, L_0, L_1, L_2, L_3, L_4, L_5, L_6, L_7, L_8, L_9, L_10, L_11, L_12, L_13, L_20, L_24, L_26, L_30, L_31, L_32, L_39, L_40, L_48, L_57, L_76, L_80, L_90, L_91, L_97, L_99, L_100, L_255, L_273, L_1000, L_2000, q_ld, q_ldL, q_sto, q_stoL, q_add, q_sub, q_mul, q_dec, q_rem, q_div, q_lt_t, q_lt_f, q_le_t, q_le_f, q_eq_t, q_eq_f, q_em, q_me, q_ml, q_lm, q_mle, q_lem, q_s1, q_s1o, q_s1k, q_s12, q_s2, q_s2o, q_s2k, q_s21, Nat.add_sub_cancel, q_or, q_and, q_shl, true_or, or_true, false_or, or_false, true_and, and_true, false_and, and_false, not_true_eq_false, not_false_eq_true, ne_eq, e1, e3, h1, gM_EachAddsALineModel_number_66]
theorem M_num_f {a : Nat} (hN : 10 ≤ N) (h : MSq n x t) (h1 : t.1 0 15 = nI p) (h2 : t.1 0 16 = mI 1) (hp : p ≤ 76) (ha : 0 < a ∧ a < 9) (hd : ¬ dgq n x p) : fM_EachAddsALineModel_number N (nI a) t = some (nI 0, s1 t 0 16 (nI p)) := by
  obtain ⟨y, e1, e2⟩ := M_hereQ (N := N) h h1 hp
  have e3 := M_inR (N := N) (t := t) e2
  have d : ¬ (48 ≤ chq n x p ∧ chq n x p ≤ 57) := hd
  rw [if_neg d] at e3
  obtain ⟨M, rfl⟩ : ∃ M, N = M + 1 := ⟨N - 1, by omega⟩
  have st : fM_EachAddsALineModel_number (M + 1) (nI a) t = gM_EachAddsALineModel_number_16 (M + 1) (M + 1) (nI a) (nI p) (nI 0) t := by
    simp (disch := omega) only [Option.bind_some, ↓reduceIte, ↓M_1, ↓M_2, L_0, L_1, L_2, L_3, L_4, L_5, L_6, L_7, L_8, L_9, L_10, L_11, L_12, L_13, L_20, L_24, L_26, L_30, L_31, L_32, L_39, L_40, L_48, L_57, L_76, L_80, L_90, L_91, L_97, L_99, L_100, L_255, L_273, L_1000, L_2000, q_ld, q_ldL, q_sto, q_stoL, q_add, q_sub, q_mul, q_dec, q_rem, q_div, q_lt_t, q_lt_f, q_le_t, q_le_f, q_eq_t, q_eq_f, q_em, q_me, q_ml, q_lm, q_mle, q_lem, q_s1, q_s1o, q_s1k, q_s12, q_s2, q_s2o, q_s2k, q_s21, Nat.add_sub_cancel, q_or, q_and, q_shl, true_or, or_true, false_or, or_false, true_and, and_true, false_and, and_false, not_true_eq_false, not_false_eq_true, ne_eq, fM_EachAddsALineModel_number, gM_EachAddsALineModel_number_0, M_fine_t h2, h1]
  rw [st, gM_EachAddsALineModel_number_16]
  have ha0 := ha.1
  have ha9 := ha.2
  simp (disch := omega) only [Option.bind_some, ↓reduceIte, ↓M_1, ↓M_2, L_0, L_1, L_2, L_3, L_4, L_5, L_6, L_7, L_8, L_9, L_10, L_11, L_12, L_13, L_20, L_24, L_26, L_30, L_31, L_32, L_39, L_40, L_48, L_57, L_76, L_80, L_90, L_91, L_97, L_99, L_100, L_255, L_273, L_1000, L_2000, q_ld, q_ldL, q_sto, q_stoL, q_add, q_sub, q_mul, q_dec, q_rem, q_div, q_lt_t, q_lt_f, q_le_t, q_le_f, q_eq_t, q_eq_f, q_em, q_me, q_ml, q_lm, q_mle, q_lem, q_s1, q_s1o, q_s1k, q_s12, q_s2, q_s2o, q_s2k, q_s21, Nat.add_sub_cancel, q_or, q_and, q_shl, true_or, or_true, false_or, or_false, true_and, and_true, false_and, and_false, not_true_eq_false, not_false_eq_true, ne_eq, e1, e3, h1, gM_EachAddsALineModel_number_66, M_fault_t h2]
theorem M_num_1 (hN : 10 ≤ N) (h : MSq n x t) (h1 : t.1 0 15 = nI p) (h2 : t.1 0 16 = mI 1) (hp : p ≤ 76) (hd : dgq n x p) : fM_EachAddsALineModel_number N (nI 1) t = some (nI (chq n x p - 48), s1 t 0 15 (nI (p + 1))) := by
  have hc := chq_lt (n := n) (x := x) (p := p) (by unfold dgq at hd; omega)
  obtain ⟨M, hM⟩ : ∃ M, N = M + 1 + 1 := ⟨N - 2, by omega⟩
  have st : fM_EachAddsALineModel_number N (nI 1) t = gM_EachAddsALineModel_number_16 N (M + 1 + 1) (nI 1) (nI p) (nI 0) t := by
    rw [← hM]
    simp (disch := omega) only [Option.bind_some, ↓reduceIte, ↓M_1, ↓M_2, L_0, L_1, L_2, L_3, L_4, L_5, L_6, L_7, L_8, L_9, L_10, L_11, L_12, L_13, L_20, L_24, L_26, L_30, L_31, L_32, L_39, L_40, L_48, L_57, L_76, L_80, L_90, L_91, L_97, L_99, L_100, L_255, L_273, L_1000, L_2000, q_ld, q_ldL, q_sto, q_stoL, q_add, q_sub, q_mul, q_dec, q_rem, q_div, q_lt_t, q_lt_f, q_le_t, q_le_f, q_eq_t, q_eq_f, q_em, q_me, q_ml, q_lm, q_mle, q_lem, q_s1, q_s1o, q_s1k, q_s12, q_s2, q_s2o, q_s2k, q_s21, Nat.add_sub_cancel, q_or, q_and, q_shl, true_or, or_true, false_or, or_false, true_and, and_true, false_and, and_false, not_true_eq_false, not_false_eq_true, ne_eq, fM_EachAddsALineModel_number, gM_EachAddsALineModel_number_0, M_fine_t h2, h1]
  rw [st, M_numstep h h1 hp (by omega) (by omega) (by omega) hd, Nat.mul_zero, Nat.zero_add]
  exact M_numstop (h.fm (Fm.w10 (L := []) (K := []) (F := [15]) (by decide)) (by decide) (by decide)) (q_s1 _ _ _ _) (by omega) (by omega) (by omega) (Or.inl (by omega))
theorem M_num_2 (hN : 10 ≤ N) (h : MSq n x t) (h1 : t.1 0 15 = nI p) (h2 : t.1 0 16 = mI 1) (hp : p ≤ 76) (hd : dgq n x p) : ∃ t', fM_EachAddsALineModel_number N (nI 2) t = some (nI (if 48 ≤ chq n x (p + 1) ∧ chq n x (p + 1) ≤ 57 then 10 * (chq n x p - 48) + (chq n x (p + 1) - 48) else chq n x p - 48), t') ∧ Fm [] [] [15] t t' ∧ t'.1 0 15 = nI (if 48 ≤ chq n x (p + 1) ∧ chq n x (p + 1) ≤ 57 then p + 2 else p + 1) := by
  have hc := chq_lt (n := n) (x := x) (p := p) (by unfold dgq at hd; omega)
  have hd48 : chq n x p ≤ 57 := hd.2
  obtain ⟨M, hM⟩ : ∃ M, N = M + 1 + 1 + 1 := ⟨N - 3, by omega⟩
  have st : fM_EachAddsALineModel_number N (nI 2) t = gM_EachAddsALineModel_number_16 N (M + 1 + 1 + 1) (nI 2) (nI p) (nI 0) t := by
    rw [← hM]
    simp (disch := omega) only [Option.bind_some, ↓reduceIte, ↓M_1, ↓M_2, L_0, L_1, L_2, L_3, L_4, L_5, L_6, L_7, L_8, L_9, L_10, L_11, L_12, L_13, L_20, L_24, L_26, L_30, L_31, L_32, L_39, L_40, L_48, L_57, L_76, L_80, L_90, L_91, L_97, L_99, L_100, L_255, L_273, L_1000, L_2000, q_ld, q_ldL, q_sto, q_stoL, q_add, q_sub, q_mul, q_dec, q_rem, q_div, q_lt_t, q_lt_f, q_le_t, q_le_f, q_eq_t, q_eq_f, q_em, q_me, q_ml, q_lm, q_mle, q_lem, q_s1, q_s1o, q_s1k, q_s12, q_s2, q_s2o, q_s2k, q_s21, Nat.add_sub_cancel, q_or, q_and, q_shl, true_or, or_true, false_or, or_false, true_and, and_true, false_and, and_false, not_true_eq_false, not_false_eq_true, ne_eq, fM_EachAddsALineModel_number, gM_EachAddsALineModel_number_0, M_fine_t h2, h1]
  have f1 : Fm [] [] [15] t (s1 t 0 15 (nI (p + 1))) := Fm.w10 (by decide)
  have hS := h.fm f1 (by decide) (by decide)
  rw [st, M_numstep h h1 hp (by omega) (by omega) (by omega) hd, Nat.mul_zero, Nat.zero_add]
  by_cases e : 48 ≤ chq n x (p + 1) ∧ chq n x (p + 1) ≤ 57
  · have hc2 := chq_lt (n := n) (x := x) (p := p + 1) (by omega)
    rw [if_pos e, if_pos e, M_numstep hS (q_s1 _ _ _ _) (by omega) (by omega) (by omega) (by omega) e]
    have f2 : Fm [] [] [15] t (s1 (s1 t 0 15 (nI (p + 1))) 0 15 (nI (p + 1 + 1))) := f1.tr (Fm.w10 (by decide))
    exact ⟨_, M_numstop (p := p + 2) (h.fm f2 (by decide) (by decide)) (q_s1 _ _ _ _) (by omega) (by omega) (by omega) (Or.inl (by omega)), f2, q_s1 _ _ _ _⟩
  · rw [if_neg e, if_neg e]
    exact ⟨_, M_numstop (p := p + 1) hS (q_s1 _ _ _ _) (by omega) (by omega) (by omega) (Or.inr e), f1, q_s1 _ _ _ _⟩
end RN
