/-! roads: the reference's turn with a person's line -/
section RZ
variable {N : Nat} {t : vSt} {n p M P k f : Nat} {x : Nat → Nat}
theorem M_person_t (hN : 10 ≤ N) (h : MSq n x t) (h1 : t.1 0 15 = nI p) (h2 : t.1 0 16 = mI 1) (hp : p ≤ 76) (hP : P < 9) (hd : 49 ≤ chq n x p ∧ chq n x p ≤ 57) : gM_EachAddsALineModel_roads_48 N (f + 1) (nI P) (nI M) (nI k) (nI 1) t = gM_EachAddsALineModel_roads_249 N (gM_EachAddsALineModel_roads_48 N f) (nI (P + 1)) (nI M) (nI k) (s1 (s1 t 0 15 (nI (p + 1))) 1 P (nI (chq n x p - 48))) := by
  obtain ⟨v, e1, e2⟩ := M_hereQ (N := N) h h1 hp
  have e3 := M_inR (N := N) (t := t) e2
  have d : 48 ≤ chq n x p ∧ chq n x p ≤ 57 := by omega
  rw [if_pos d] at e3
  have n48 : ¬ v = nI 48 := by rw [e2.eq (by omega)]; omega
  have en := M_num_1 (N := N) hN h h1 h2 hp d
  rw [gM_EachAddsALineModel_roads_48]
  simp (disch := omega) only [Option.bind_some, ↓reduceIte, ↓M_1, ↓M_2, L_0, L_1, L_2, L_3, L_4, L_5, L_6, L_7, L_8, L_9, L_10, L_11, L_12, L_13, L_20, L_24, L_26, L_30, L_31, L_32, L_39, L_40, L_48, L_57, L_76, L_80, L_90, L_91, L_97, L_99, L_100, L_255, L_273, L_1000, L_2000, q_ld, q_ldL, q_sto, q_stoL, q_add, q_sub, q_mul, q_dec, q_rem, q_div, q_lt_t, q_lt_f, q_le_t, q_le_f, q_eq_t, q_eq_f, q_em, q_me, q_ml, q_lm, q_mle, q_lem, q_s1, q_s1o, q_s1k, q_s12, q_s2, q_s2o, q_s2k, q_s21, Nat.add_sub_cancel, q_or, q_and, q_shl, true_or, or_true, false_or, or_false, true_and, and_true, false_and, and_false, not_true_eq_false, not_false_eq_true, ne_eq, M_fine_t h2, e1, e3, n48, en, gM_EachAddsALineModel_roads_111]
theorem M_person_f (h : MSq n x t) (h1 : t.1 0 15 = nI p) (h2 : t.1 0 16 = mI 1) (hp : p ≤ 76) (hP : P ≤ 9) (hd : 48 ≤ chq n x p ∧ chq n x p ≤ 57) (hf : P = 9 ∨ chq n x p = 48) : gM_EachAddsALineModel_roads_48 N (f + 1) (nI P) (nI M) (nI k) (nI 1) t = gM_EachAddsALineModel_roads_249 N (gM_EachAddsALineModel_roads_48 N f) (nI (P + 1)) (nI M) (nI k) (s1 t 0 16 (nI p)) := by
  obtain ⟨v, e1, e2⟩ := M_hereQ (N := N) h h1 hp
  have e3 := M_inR (N := N) (t := t) e2
  rw [if_pos hd] at e3
  rw [gM_EachAddsALineModel_roads_48]
  by_cases c : P = 9
  · simp (disch := omega) only [Option.bind_some, ↓reduceIte, ↓M_1, ↓M_2, L_0, L_1, L_2, L_3, L_4, L_5, L_6, L_7, L_8, L_9, L_10, L_11, L_12, L_13, L_20, L_24, L_26, L_30, L_31, L_32, L_39, L_40, L_48, L_57, L_76, L_80, L_90, L_91, L_97, L_99, L_100, L_255, L_273, L_1000, L_2000, q_ld, q_ldL, q_sto, q_stoL, q_add, q_sub, q_mul, q_dec, q_rem, q_div, q_lt_t, q_lt_f, q_le_t, q_le_f, q_eq_t, q_eq_f, q_em, q_me, q_ml, q_lm, q_mle, q_lem, q_s1, q_s1o, q_s1k, q_s12, q_s2, q_s2o, q_s2k, q_s21, Nat.add_sub_cancel, q_or, q_and, q_shl, true_or, or_true, false_or, or_false, true_and, and_true, false_and, and_false, not_true_eq_false, not_false_eq_true, ne_eq, M_fine_t h2, e1, e3, h1, M_fault_t h2, gM_EachAddsALineModel_roads_89, gM_EachAddsALineModel_roads_111]
  · have n48 : v = nI 48 := by rw [e2.eq (by omega)]; exact hf.resolve_left c
    subst n48
    simp (disch := omega) only [Option.bind_some, ↓reduceIte, ↓M_1, ↓M_2, L_0, L_1, L_2, L_3, L_4, L_5, L_6, L_7, L_8, L_9, L_10, L_11, L_12, L_13, L_20, L_24, L_26, L_30, L_31, L_32, L_39, L_40, L_48, L_57, L_76, L_80, L_90, L_91, L_97, L_99, L_100, L_255, L_273, L_1000, L_2000, q_ld, q_ldL, q_sto, q_stoL, q_add, q_sub, q_mul, q_dec, q_rem, q_div, q_lt_t, q_lt_f, q_le_t, q_le_f, q_eq_t, q_eq_f, q_em, q_me, q_ml, q_lm, q_mle, q_lem, q_s1, q_s1o, q_s1k, q_s12, q_s2, q_s2o, q_s2k, q_s21, Nat.add_sub_cancel, q_or, q_and, q_shl, true_or, or_true, false_or, or_false, true_and, and_true, false_and, and_false, not_true_eq_false, not_false_eq_true, ne_eq, M_fine_t h2, e1, e3, h1, M_fault_t h2, gM_EachAddsALineModel_roads_89, gM_EachAddsALineModel_roads_111]
/-- behind a fault nothing goes on -/
theorem M_249_d {q : Nat} (h2 : t.1 0 16 = nI q) (hq : q < 1000) : gM_EachAddsALineModel_roads_249 N (gM_EachAddsALineModel_roads_48 N (f + 1)) (nI P) (nI M) (nI k) t = gM_EachAddsALineModel_roads_263 N (nI P) (nI M) (nI (k + 1)) t := by
  have e := M_passes_d (N := N) (t := t) (a := nI 59) h2 hq
  have e' : fM_EachAddsALineModel_passes N 59 t = some (nI 0, t) := e
  rw [gM_EachAddsALineModel_roads_249, Option.bind_some, e', Option.bind_some]
  show gM_EachAddsALineModel_roads_48 N (f + 1) (nI P) (nI M) (nI k + 1) (nI 0) t = _
  rw [gM_EachAddsALineModel_roads_48, if_pos (show nI 0 = 0 from rfl), nI_1]
end RZ
