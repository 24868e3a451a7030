/-! roads: the class' line of a meeting that can't stand: its first signs -/
section RQ
variable {N : Nat} {s t : vSt} {n p M P : Nat} {x : Nat → Nat}
theorem C_lineM (h : CSt n x s) (h1 : s.1 16 2 = nI p) (hp : p ≤ 76) (hd : ¬ (49 ≤ chq n x p ∧ chq n x p ≤ 57)) : fC_RoadReader_readLine N s = gC_RoadReader_readLine_25 N s := by
  obtain ⟨v, e1, e2⟩ := C_nextR (N := N) h h1 hp
  have L_49 : (49 : Int32) = nI 49 := by decide
  have e3 := e2.n.dig (a := 49) (b := 57) (by omega) (by omega)
  have e4 : v < nI 49 ∨ nI 57 < v := by rw [e3]; exact hd
  by_cases c : v < nI 49
  · simp (disch := omega) only [Option.bind_some, ↓reduceIte, ↓M_1, ↓M_2, L_0, L_1, L_2, L_3, L_4, L_5, L_6, L_7, L_8, L_9, L_10, L_11, L_12, L_13, L_20, L_24, L_26, L_30, L_31, L_32, L_39, L_40, L_48, L_57, L_76, L_80, L_90, L_91, L_97, L_99, L_100, L_255, L_273, L_1000, L_2000, q_ld, q_ldL, q_sto, q_stoL, q_add, q_sub, q_mul, q_dec, q_rem, q_div, q_lt_t, q_lt_f, q_le_t, q_le_f, q_eq_t, q_eq_f, q_em, q_me, q_ml, q_lm, q_mle, q_lem, q_s1, q_s1o, q_s1k, q_s12, q_s2, q_s2o, q_s2k, q_s21, Nat.add_sub_cancel, q_or, q_and, q_shl, true_or, or_true, false_or, or_false, true_and, and_true, false_and, and_false, not_true_eq_false, not_false_eq_true, ne_eq, fC_RoadReader_readLine, gC_RoadReader_readLine_0, e1, L_49, c]
  · have d := e4.resolve_left c
    simp (disch := omega) only [Option.bind_some, ↓reduceIte, ↓M_1, ↓M_2, L_0, L_1, L_2, L_3, L_4, L_5, L_6, L_7, L_8, L_9, L_10, L_11, L_12, L_13, L_20, L_24, L_26, L_30, L_31, L_32, L_39, L_40, L_48, L_57, L_76, L_80, L_90, L_91, L_97, L_99, L_100, L_255, L_273, L_1000, L_2000, q_ld, q_ldL, q_sto, q_stoL, q_add, q_sub, q_mul, q_dec, q_rem, q_div, q_lt_t, q_lt_f, q_le_t, q_le_f, q_eq_t, q_eq_f, q_em, q_me, q_ml, q_lm, q_mle, q_lem, q_s1, q_s1o, q_s1k, q_s12, q_s2, q_s2o, q_s2k, q_s21, Nat.add_sub_cancel, q_or, q_and, q_shl, true_or, or_true, false_or, or_false, true_and, and_true, false_and, and_false, not_true_eq_false, not_false_eq_true, ne_eq, fC_RoadReader_readLine, gC_RoadReader_readLine_0, e1, L_49, c, d]
theorem C_meet_full (h : CSt n x s) (h1 : s.1 16 2 = nI p) (h4 : s.1 16 4 = nI 20) (hp : p ≤ 76) : fC_RoadReader_readMeeting N s = some (nI 0, s) := by
  obtain ⟨v, e1, e2⟩ := C_nextR (N := N) h h1 hp
  simp (disch := omega) only [Option.bind_some, ↓reduceIte, ↓M_1, ↓M_2, L_0, L_1, L_2, L_3, L_4, L_5, L_6, L_7, L_8, L_9, L_10, L_11, L_12, L_13, L_20, L_24, L_26, L_30, L_31, L_32, L_39, L_40, L_48, L_57, L_76, L_80, L_90, L_91, L_97, L_99, L_100, L_255, L_273, L_1000, L_2000, q_ld, q_ldL, q_sto, q_stoL, q_add, q_sub, q_mul, q_dec, q_rem, q_div, q_lt_t, q_lt_f, q_le_t, q_le_f, q_eq_t, q_eq_f, q_em, q_me, q_ml, q_lm, q_mle, q_lem, q_s1, q_s1o, q_s1k, q_s12, q_s2, q_s2o, q_s2k, q_s21, Nat.add_sub_cancel, q_or, q_and, q_shl, true_or, or_true, false_or, or_false, true_and, and_true, false_and, and_false, not_true_eq_false, not_false_eq_true, ne_eq, fC_RoadReader_readMeeting, gC_RoadReader_readMeeting_0, e1, L_97, h4]
theorem C_meet_one (h : CSt n x s) (h1 : s.1 16 2 = nI p) (h3 : s.1 16 3 = nI P) (hP : P ≤ 9) (h4 : s.1 16 4 = nI M) (hM : M < 20) (hp : p ≤ 76) (hd : ¬ (97 ≤ chq n x p ∧ chq n x p < 97 + P)) : fC_RoadReader_readMeeting N s = some (nI 0, s) := by
  obtain ⟨v, e1, e2⟩ := C_nextR (N := N) h h1 hp
  have e3 := C_isPersonR (N := N) (s := s) e2 h3 hP
  rw [if_neg hd, L_97] at e3
  simp (disch := omega) only [Option.bind_some, ↓reduceIte, ↓M_1, ↓M_2, L_0, L_1, L_2, L_3, L_4, L_5, L_6, L_7, L_8, L_9, L_10, L_11, L_12, L_13, L_20, L_24, L_26, L_30, L_31, L_32, L_39, L_40, L_48, L_57, L_76, L_80, L_90, L_91, L_97, L_99, L_100, L_255, L_273, L_1000, L_2000, q_ld, q_ldL, q_sto, q_stoL, q_add, q_sub, q_mul, q_dec, q_rem, q_div, q_lt_t, q_lt_f, q_le_t, q_le_f, q_eq_t, q_eq_f, q_em, q_me, q_ml, q_lm, q_mle, q_lem, q_s1, q_s1o, q_s1k, q_s12, q_s2, q_s2o, q_s2k, q_s21, Nat.add_sub_cancel, q_or, q_and, q_shl, true_or, or_true, false_or, or_false, true_and, and_true, false_and, and_false, not_true_eq_false, not_false_eq_true, ne_eq, fC_RoadReader_readMeeting, gC_RoadReader_readMeeting_0, e1, L_97, h4, e3]
end RQ
