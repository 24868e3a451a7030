/-! roads: the class' hour and price -/
def hrq (n : Nat) (x : Nat → Nat) (p : Nat) : Nat := if 48 ≤ chq n x (p + 1) ∧ chq n x (p + 1) ≤ 57 then 10 * (chq n x p - 48) + (chq n x (p + 1) - 48) else chq n x p - 48
def heq (n : Nat) (x : Nat → Nat) (p : Nat) : Nat := if 48 ≤ chq n x (p + 1) ∧ chq n x (p + 1) ≤ 57 then p + 2 else p + 1
section RH
variable {N : Nat} {s t : vSt} {n p M P : Nat} {x : Nat → Nat}
theorem hrq_le (hd : dgq n x p) : hrq n x p ≤ 99 := by
  have h := hd.2
  unfold hrq
  by_cases c : 48 ≤ chq n x (p + 1) ∧ chq n x (p + 1) ≤ 57
  · rw [if_pos c]; omega
  · rw [if_neg c]; omega
theorem C_hour_f (h : CSt n x s) (h1 : s.1 16 2 = nI p) (hp : p ≤ 76) (hd : ¬ dgq n x p) : fC_RoadReader_readHour N s = some (nI 0, s) := by
  obtain ⟨v, e1, e2⟩ := C_nextR (N := N) h h1 hp
  have e3 := C_isDig (N := N) (s := s) e2.n
  have d : ¬ (48 ≤ chq n x p ∧ chq n x p ≤ 57) := hd
  rw [if_neg d] at e3
  simp (disch := omega) only [Option.bind_some, ↓reduceIte, ↓M_1, ↓M_2, L_0, L_1, L_2, L_3, L_4, L_5, L_6, L_7, L_8, L_9, L_10, L_11, L_12, L_13, L_20, L_24, L_26, L_30, L_31, L_32, L_39, L_40, L_48, L_57, L_76, L_80, L_90, L_91, L_97, L_99, L_100, L_255, L_273, L_1000, L_2000, q_ld, q_ldL, q_sto, q_stoL, q_add, q_sub, q_mul, q_dec, q_rem, q_div, q_lt_t, q_lt_f, q_le_t, q_le_f, q_eq_t, q_eq_f, q_em, q_me, q_ml, q_lm, q_mle, q_lem, q_s1, q_s1o, q_s1k, q_s12, q_s2, q_s2o, q_s2k, q_s21, Nat.add_sub_cancel, q_or, q_and, q_shl, true_or, or_true, false_or, or_false, true_and, and_true, false_and, and_false, not_true_eq_false, not_false_eq_true, ne_eq, fC_RoadReader_readHour, gC_RoadReader_readHour_0, e1, e3]
theorem C_hour_t (h : CSt n x s) (h1 : s.1 16 2 = nI p) (h4 : s.1 16 4 = nI M) (hM : M < 20) (hp : p ≤ 76) (hd : dgq n x p) : ∃ s', fC_RoadReader_readHour N s = some (nI 1, s') ∧ Fr [13, 16] [] s s' ∧ s'.1 16 2 = nI (heq n x p) ∧ (∀ k, k ≠ 2 → s'.1 16 k = s.1 16 k) ∧ s'.1 13 M = nI (hrq n x p) ∧ ∀ k, k ≠ M → s'.1 13 k = s.1 13 k := by
  obtain ⟨v, e1, e2⟩ := C_nextR (N := N) h h1 hp
  have e3 := C_isDig (N := N) (s := s) e2.n
  have d : 48 ≤ chq n x p ∧ chq n x p ≤ 57 := hd
  rw [if_pos d] at e3
  have hc := chq_lt (n := n) (x := x) (p := p) (by omega)
  have ev := e2.n.nn (by omega)
  subst ev
  have d1 := d.1
  have f1 : Fr [13, 16] [] s (s1 s 16 2 (nI (p + 1))) := Fr.s1 (by decide)
  obtain ⟨v2, g1, g2⟩ := C_nextR (N := N) (h.fr f1 (by decide) (by decide)) (q_s1 _ _ _ _) (show p + 1 ≤ 76 by omega)
  have g3 := C_isDig (N := N) (s := s1 s 16 2 (nI (p + 1))) g2.n
  unfold hrq heq
  by_cases c : 48 ≤ chq n x (p + 1) ∧ chq n x (p + 1) ≤ 57
  · rw [if_pos c] at g3
    have gv := g2.n.nn (by omega)
    subst gv
    have c1 := c.1
    rw [if_pos c, if_pos c, show 10 * (chq n x p - 48) + (chq n x (p + 1) - 48) = 10 * (chq n x p - 48) + chq n x (p + 1) - 48 by omega]
    refine ⟨s1 (s1 (s1 s 16 2 (nI (p + 1))) 16 2 (nI (p + 2))) 13 M (nI (10 * (chq n x p - 48) + chq n x (p + 1) - 48)), ?_, f1.tr ((Fr.s1 (by decide)).tr (Fr.s1 (by decide))), ?_, fun k hk => ?_, q_s1 _ _ _ _, fun k hk => ?_⟩
    · simp (disch := omega) only [Option.bind_some, ↓reduceIte, ↓M_1, ↓M_2, L_0, L_1, L_2, L_3, L_4, L_5, L_6, L_7, L_8, L_9, L_10, L_11, L_12, L_13, L_20, L_24, L_26, L_30, L_31, L_32, L_39, L_40, L_48, L_57, L_76, L_80, L_90, L_91, L_97, L_99, L_100, L_255, L_273, L_1000, L_2000, q_ld, q_ldL, q_sto, q_stoL, q_add, q_sub, q_mul, q_dec, q_rem, q_div, q_lt_t, q_lt_f, q_le_t, q_le_f, q_eq_t, q_eq_f, q_em, q_me, q_ml, q_lm, q_mle, q_lem, q_s1, q_s1o, q_s1k, q_s12, q_s2, q_s2o, q_s2k, q_s21, Nat.add_sub_cancel, q_or, q_and, q_shl, true_or, or_true, false_or, or_false, true_and, and_true, false_and, and_false, not_true_eq_false, not_false_eq_true, ne_eq, fC_RoadReader_readHour, gC_RoadReader_readHour_0, gC_RoadReader_readHour_63, e1, e3, h1, g1, g3, h4]
    · rw [q_s1o (by decide), q_s1]
    · rw [q_s1o (by decide), q_s1k hk, q_s1k hk]
    · rw [q_s1k hk, q_s1o (by decide), q_s1o (by decide)]
  · rw [if_neg c] at g3
    rw [if_neg c, if_neg c]
    refine ⟨s1 (s1 s 16 2 (nI (p + 1))) 13 M (nI (chq n x p - 48)), ?_, f1.tr (Fr.s1 (by decide)), ?_, fun k hk => ?_, q_s1 _ _ _ _, fun k hk => ?_⟩
    · simp (disch := omega) only [Option.bind_some, ↓reduceIte, ↓M_1, ↓M_2, L_0, L_1, L_2, L_3, L_4, L_5, L_6, L_7, L_8, L_9, L_10, L_11, L_12, L_13, L_20, L_24, L_26, L_30, L_31, L_32, L_39, L_40, L_48, L_57, L_76, L_80, L_90, L_91, L_97, L_99, L_100, L_255, L_273, L_1000, L_2000, q_ld, q_ldL, q_sto, q_stoL, q_add, q_sub, q_mul, q_dec, q_rem, q_div, q_lt_t, q_lt_f, q_le_t, q_le_f, q_eq_t, q_eq_f, q_em, q_me, q_ml, q_lm, q_mle, q_lem, q_s1, q_s1o, q_s1k, q_s12, q_s2, q_s2o, q_s2k, q_s21, Nat.add_sub_cancel, q_or, q_and, q_shl, true_or, or_true, false_or, or_false, true_and, and_true, false_and, and_false, not_true_eq_false, not_false_eq_true, ne_eq, fC_RoadReader_readHour, gC_RoadReader_readHour_0, gC_RoadReader_readHour_63, e1, e3, h1, g1, g3, h4]
    · rw [q_s1o (by decide), q_s1]
    · rw [q_s1o (by decide), q_s1k hk]
    · rw [q_s1k hk, q_s1o (by decide)]
/-- no price -/
theorem C_price_0 (h : CSt n x s) (h1 : s.1 16 2 = nI p) (h4 : s.1 16 4 = nI M) (hM : M < 20) (hp : p ≤ 76) (hd : chq n x p ≠ 42) : fC_RoadReader_readPrice N s = some (nI 1, s1 s 14 M (nI 0)) := by
  have f1 : Fr [14] [] s (s1 s 14 M (nI 0)) := Fr.s1 (by decide)
  obtain ⟨v, e1, e2⟩ := C_nextR (N := N) (h.fr f1 (by decide) (by decide)) (show (s1 s 14 M (nI 0)).1 16 2 = nI p by rw [q_s1o (by decide)]; exact h1) hp
  have n1 : ¬ v = nI 42 := by rw [e2.n.eq (by omega)]; exact hd
  simp (disch := omega) only [Option.bind_some, ↓reduceIte, ↓M_1, ↓M_2, L_0, L_1, L_2, L_3, L_4, L_5, L_6, L_7, L_8, L_9, L_10, L_11, L_12, L_13, L_20, L_24, L_26, L_30, L_31, L_32, L_39, L_40, L_48, L_57, L_76, L_80, L_90, L_91, L_97, L_99, L_100, L_255, L_273, L_1000, L_2000, q_ld, q_ldL, q_sto, q_stoL, q_add, q_sub, q_mul, q_dec, q_rem, q_div, q_lt_t, q_lt_f, q_le_t, q_le_f, q_eq_t, q_eq_f, q_em, q_me, q_ml, q_lm, q_mle, q_lem, q_s1, q_s1o, q_s1k, q_s12, q_s2, q_s2o, q_s2k, q_s21, Nat.add_sub_cancel, q_or, q_and, q_shl, true_or, or_true, false_or, or_false, true_and, and_true, false_and, and_false, not_true_eq_false, not_false_eq_true, ne_eq, fC_RoadReader_readPrice, gC_RoadReader_readPrice_0, h4, e1, L_42, n1]
/-- a price that can't stand -/
theorem C_price_f (h : CSt n x s) (h1 : s.1 16 2 = nI p) (h4 : s.1 16 4 = nI M) (hM : M < 20) (hp : p ≤ 76) (hd : chq n x p = 42) (hd2 : ¬ dgq n x (p + 1)) : fC_RoadReader_readPrice N s = some (nI 0, s1 (s1 s 14 M (nI 0)) 16 2 (nI (p + 1))) := by
  have hc := chq_lt (n := n) (x := x) (p := p) (by omega)
  have f1 : Fr [14] [] s (s1 s 14 M (nI 0)) := Fr.s1 (by decide)
  obtain ⟨v, e1, e2⟩ := C_nextR (N := N) (h.fr f1 (by decide) (by decide)) (show (s1 s 14 M (nI 0)).1 16 2 = nI p by rw [q_s1o (by decide)]; exact h1) hp
  have ev := e2.n.nn (by omega)
  rw [hd] at ev
  subst ev
  have f2 : Fr [14, 16] [] s (s1 (s1 s 14 M (nI 0)) 16 2 (nI (p + 1))) := (Fr.s1 (by decide)).tr (Fr.s1 (by decide))
  obtain ⟨v2, g1, g2⟩ := C_nextR (N := N) (h.fr f2 (by decide) (by decide)) (q_s1 _ _ _ _) (show p + 1 ≤ 76 by omega)
  have g3 := C_isDig (N := N) (s := s1 (s1 s 14 M (nI 0)) 16 2 (nI (p + 1))) g2.n
  have d : ¬ (48 ≤ chq n x (p + 1) ∧ chq n x (p + 1) ≤ 57) := hd2
  rw [if_neg d] at g3
  simp (disch := omega) only [Option.bind_some, ↓reduceIte, ↓M_1, ↓M_2, L_0, L_1, L_2, L_3, L_4, L_5, L_6, L_7, L_8, L_9, L_10, L_11, L_12, L_13, L_20, L_24, L_26, L_30, L_31, L_32, L_39, L_40, L_48, L_57, L_76, L_80, L_90, L_91, L_97, L_99, L_100, L_255, L_273, L_1000, L_2000, q_ld, q_ldL, q_sto, q_stoL, q_add, q_sub, q_mul, q_dec, q_rem, q_div, q_lt_t, q_lt_f, q_le_t, q_le_f, q_eq_t, q_eq_f, q_em, q_me, q_ml, q_lm, q_mle, q_lem, q_s1, q_s1o, q_s1k, q_s12, q_s2, q_s2o, q_s2k, q_s21, Nat.add_sub_cancel, q_or, q_and, q_shl, true_or, or_true, false_or, or_false, true_and, and_true, false_and, and_false, not_true_eq_false, not_false_eq_true, ne_eq, fC_RoadReader_readPrice, gC_RoadReader_readPrice_0, h4, e1, L_42, h1, g1, g3]
theorem C_price_t (h : CSt n x s) (h1 : s.1 16 2 = nI p) (h4 : s.1 16 4 = nI M) (hM : M < 20) (hp : p ≤ 76) (hd : chq n x p = 42) (hd2 : dgq n x (p + 1)) : fC_RoadReader_readPrice N s = some (nI 1, s1 (s1 (s1 (s1 s 14 M (nI 0)) 16 2 (nI (p + 1))) 14 M (nI (chq n x (p + 1) - 48))) 16 2 (nI (p + 2))) := by
  have hc := chq_lt (n := n) (x := x) (p := p) (by omega)
  have f1 : Fr [14] [] s (s1 s 14 M (nI 0)) := Fr.s1 (by decide)
  obtain ⟨v, e1, e2⟩ := C_nextR (N := N) (h.fr f1 (by decide) (by decide)) (show (s1 s 14 M (nI 0)).1 16 2 = nI p by rw [q_s1o (by decide)]; exact h1) hp
  have ev := e2.n.nn (by omega)
  rw [hd] at ev
  subst ev
  have f2 : Fr [14, 16] [] s (s1 (s1 s 14 M (nI 0)) 16 2 (nI (p + 1))) := (Fr.s1 (by decide)).tr (Fr.s1 (by decide))
  obtain ⟨v2, g1, g2⟩ := C_nextR (N := N) (h.fr f2 (by decide) (by decide)) (q_s1 _ _ _ _) (show p + 1 ≤ 76 by omega)
  have g3 := C_isDig (N := N) (s := s1 (s1 s 14 M (nI 0)) 16 2 (nI (p + 1))) g2.n
  have d : 48 ≤ chq n x (p + 1) ∧ chq n x (p + 1) ≤ 57 := hd2
  rw [if_pos d] at g3
  have gv := g2.n.nn (by omega)
  subst gv
  have d1 := d.1
  simp (disch := omega) only [Option.bind_some, ↓reduceIte, ↓M_1, ↓M_2, L_0, L_1, L_2, L_3, L_4, L_5, L_6, L_7, L_8, L_9, L_10, L_11, L_12, L_13, L_20, L_24, L_26, L_30, L_31, L_32, L_39, L_40, L_48, L_57, L_76, L_80, L_90, L_91, L_97, L_99, L_100, L_255, L_273, L_1000, L_2000, q_ld, q_ldL, q_sto, q_stoL, q_add, q_sub, q_mul, q_dec, q_rem, q_div, q_lt_t, q_lt_f, q_le_t, q_le_f, q_eq_t, q_eq_f, q_em, q_me, q_ml, q_lm, q_mle, q_lem, q_s1, q_s1o, q_s1k, q_s12, q_s2, q_s2o, q_s2k, q_s21, Nat.add_sub_cancel, q_or, q_and, q_shl, true_or, or_true, false_or, or_false, true_and, and_true, false_and, and_false, not_true_eq_false, not_false_eq_true, ne_eq, fC_RoadReader_readPrice, gC_RoadReader_readPrice_0, h4, e1, L_42, h1, g1, g3]
end RH
