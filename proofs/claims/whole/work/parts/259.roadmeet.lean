/-! roads: the reference's turn with a meeting's line -/
section RY
variable {N : Nat} {t : vSt} {n p M P k f : Nat} {x : Nat → Nat} {R : Int32 → Int32 → Int32 → Int32 → vSt → Option (Int32 × vSt)}
theorem L_64 : (64 : Int32) = nI 64 := by decide
theorem L_59 : (59 : Int32) = nI 59 := by decide
theorem M_211_d {q : Nat} (h2 : t.1 0 16 = nI q) (hq : q < 1000) (hM : M < 20) : gM_EachAddsALineModel_roads_211 N R (nI P) (nI M) (nI k) t = gM_EachAddsALineModel_roads_249 N R (nI P) (nI (M + 1)) (nI k) (s1 (s1 t 4 M (nI 0)) 5 M (nI 0)) := by
  have e1 : (s1 t 4 M (nI 0)).1 0 16 = nI q := by rw [q_s1o (by decide)]; exact h2
  simp (disch := omega) only [Option.bind_some, ↓reduceIte, ↓M_1, ↓M_2, L_0, L_1, L_2, L_3, L_4, L_5, L_6, L_7, L_8, L_9, L_10, L_11, L_12, L_13, L_20, L_24, L_26, L_30, L_31, L_32, L_39, L_40, L_48, L_57, L_76, L_80, L_90, L_91, L_97, L_99, L_100, L_255, L_273, L_1000, L_2000, q_ld, q_ldL, q_sto, q_stoL, q_add, q_sub, q_mul, q_dec, q_rem, q_div, q_lt_t, q_lt_f, q_le_t, q_le_f, q_eq_t, q_eq_f, q_em, q_me, q_ml, q_lm, q_mle, q_lem, q_s1, q_s1o, q_s1k, q_s12, q_s2, q_s2o, q_s2k, q_s21, Nat.add_sub_cancel, q_or, q_and, q_shl, true_or, or_true, false_or, or_false, true_and, and_true, false_and, and_false, not_true_eq_false, not_false_eq_true, ne_eq, gM_EachAddsALineModel_roads_211, M_number_d h2 hq, M_passes_d e1 hq, gM_EachAddsALineModel_roads_245]
theorem M_183_d {q : Nat} (h2 : t.1 0 16 = nI q) (hq : q < 1000) (hM : M < 20) : gM_EachAddsALineModel_roads_183 N R (nI P) (nI M) (nI k) t = gM_EachAddsALineModel_roads_249 N R (nI P) (nI (M + 1)) (nI k) (s1 (s1 (s1 t 3 M (nI 0)) 4 M (nI 0)) 5 M (nI 0)) := by
  have e1 : (s1 t 3 M (nI 0)).1 0 16 = nI q := by rw [q_s1o (by decide)]; exact h2
  simp (disch := omega) only [Option.bind_some, ↓reduceIte, ↓M_1, ↓M_2, L_0, L_1, L_2, L_3, L_4, L_5, L_6, L_7, L_8, L_9, L_10, L_11, L_12, L_13, L_20, L_24, L_26, L_30, L_31, L_32, L_39, L_40, L_48, L_57, L_76, L_80, L_90, L_91, L_97, L_99, L_100, L_255, L_273, L_1000, L_2000, q_ld, q_ldL, q_sto, q_stoL, q_add, q_sub, q_mul, q_dec, q_rem, q_div, q_lt_t, q_lt_f, q_le_t, q_le_f, q_eq_t, q_eq_f, q_em, q_me, q_ml, q_lm, q_mle, q_lem, q_s1, q_s1o, q_s1k, q_s12, q_s2, q_s2o, q_s2k, q_s21, Nat.add_sub_cancel, q_or, q_and, q_shl, true_or, or_true, false_or, or_false, true_and, and_true, false_and, and_false, not_true_eq_false, not_false_eq_true, ne_eq, gM_EachAddsALineModel_roads_183, M_letter_d h2 hq, M_passes_d e1 hq, M_fault_f e1 hq, M_211_d e1 hq hM]
/-- hour and price -/
theorem heq_le (hd : dgq n x p) : p < heq n x p ∧ heq n x p ≤ 76 ∧ heq n x p ≤ n := by
  have hc1 := chq_lt (n := n) (x := x) (p := p) (by unfold dgq at hd; omega)
  unfold heq
  by_cases c : 48 ≤ chq n x (p + 1) ∧ chq n x (p + 1) ≤ 57
  · have := chq_lt (n := n) (x := x) (p := p + 1) (by omega)
    rw [if_pos c]; omega
  · rw [if_neg c]; omega
theorem M_211_f (hN : 10 ≤ N) (h : MSq n x t) (h1 : t.1 0 15 = nI p) (h2 : t.1 0 16 = mI 1) (hp : p ≤ 76) (hM : M < 20) (hd : ¬ dgq n x p) : gM_EachAddsALineModel_roads_211 N R (nI P) (nI M) (nI k) t = gM_EachAddsALineModel_roads_249 N R (nI P) (nI (M + 1)) (nI k) (s1 (s1 (s1 t 0 16 (nI p)) 4 M (nI 0)) 5 M (nI 0)) := by
  have e1 := M_num_f (a := 2) hN h h1 h2 hp (by omega) hd
  have e2 : (s1 (s1 t 0 16 (nI p)) 4 M (nI 0)).1 0 16 = nI p := by simp (disch := omega) only [Option.bind_some, ↓reduceIte, ↓M_1, ↓M_2, L_0, L_1, L_2, L_3, L_4, L_5, L_6, L_7, L_8, L_9, L_10, L_11, L_12, L_13, L_20, L_24, L_26, L_30, L_31, L_32, L_39, L_40, L_48, L_57, L_76, L_80, L_90, L_91, L_97, L_99, L_100, L_255, L_273, L_1000, L_2000, q_ld, q_ldL, q_sto, q_stoL, q_add, q_sub, q_mul, q_dec, q_rem, q_div, q_lt_t, q_lt_f, q_le_t, q_le_f, q_eq_t, q_eq_f, q_em, q_me, q_ml, q_lm, q_mle, q_lem, q_s1, q_s1o, q_s1k, q_s12, q_s2, q_s2o, q_s2k, q_s21, Nat.add_sub_cancel, q_or, q_and, q_shl, true_or, or_true, false_or, or_false, true_and, and_true, false_and, and_false, not_true_eq_false, not_false_eq_true, ne_eq]
  simp (disch := omega) only [Option.bind_some, ↓reduceIte, ↓M_1, ↓M_2, L_0, L_1, L_2, L_3, L_4, L_5, L_6, L_7, L_8, L_9, L_10, L_11, L_12, L_13, L_20, L_24, L_26, L_30, L_31, L_32, L_39, L_40, L_48, L_57, L_76, L_80, L_90, L_91, L_97, L_99, L_100, L_255, L_273, L_1000, L_2000, q_ld, q_ldL, q_sto, q_stoL, q_add, q_sub, q_mul, q_dec, q_rem, q_div, q_lt_t, q_lt_f, q_le_t, q_le_f, q_eq_t, q_eq_f, q_em, q_me, q_ml, q_lm, q_mle, q_lem, q_s1, q_s1o, q_s1k, q_s12, q_s2, q_s2o, q_s2k, q_s21, Nat.add_sub_cancel, q_or, q_and, q_shl, true_or, or_true, false_or, or_false, true_and, and_true, false_and, and_false, not_true_eq_false, not_false_eq_true, ne_eq, gM_EachAddsALineModel_roads_211, e1, M_passes_d e2 (show p < 1000 by omega), gM_EachAddsALineModel_roads_245]
theorem M_211_00 (hN : 10 ≤ N) (h : MSq n x t) (h1 : t.1 0 15 = nI p) (h2 : t.1 0 16 = mI 1) (hp : p ≤ 76) (hM : M < 20) (hd : dgq n x p) (hc : chq n x (heq n x p) ≠ 42) : ∃ u, (∀ (R : Int32 → Int32 → Int32 → Int32 → vSt → Option (Int32 × vSt)) (k : Nat), gM_EachAddsALineModel_roads_211 N R (nI P) (nI M) (nI k) t = gM_EachAddsALineModel_roads_249 N R (nI P) (nI (M + 1)) (nI k) (s1 (s1 u 4 M (nI (hrq n x p))) 5 M (nI 0))) ∧ Fm [] [] [15] t u ∧ u.1 0 15 = nI (heq n x p) := by
  obtain ⟨u, e1, e2, e3⟩ := M_num_2 hN h h1 h2 hp hd
  have e1' : fM_EachAddsALineModel_number N (nI 2) t = some (nI (hrq n x p), u) := e1
  have e3' : u.1 0 15 = nI (heq n x p) := e3
  have f1 : Fm [4] [] [15] t (s1 u 4 M (nI (hrq n x p))) := (e2.mono (by decide) (by decide) (by decide)).tr (Fm.w1 (by decide) (by decide))
  have e4 := M_passQ_f (N := N) (h.fm f1 (by decide) (by decide)) (show (s1 u 4 M (nI (hrq n x p))).1 0 15 = nI (heq n x p) by rw [q_s1o (by decide)]; exact e3') (by rw [q_s1o (by decide), e2.2.2 16 (by decide)]; exact h2) (heq_le hd).2.1 (a := 42) (by omega) hc
  refine ⟨u, fun R k => ?_, e2, e3'⟩
  simp (disch := omega) only [Option.bind_some, ↓reduceIte, ↓M_1, ↓M_2, L_0, L_1, L_2, L_3, L_4, L_5, L_6, L_7, L_8, L_9, L_10, L_11, L_12, L_13, L_20, L_24, L_26, L_30, L_31, L_32, L_39, L_40, L_48, L_57, L_76, L_80, L_90, L_91, L_97, L_99, L_100, L_255, L_273, L_1000, L_2000, q_ld, q_ldL, q_sto, q_stoL, q_add, q_sub, q_mul, q_dec, q_rem, q_div, q_lt_t, q_lt_f, q_le_t, q_le_f, q_eq_t, q_eq_f, q_em, q_me, q_ml, q_lm, q_mle, q_lem, q_s1, q_s1o, q_s1k, q_s12, q_s2, q_s2o, q_s2k, q_s21, Nat.add_sub_cancel, q_or, q_and, q_shl, true_or, or_true, false_or, or_false, true_and, and_true, false_and, and_false, not_true_eq_false, not_false_eq_true, ne_eq, gM_EachAddsALineModel_roads_211, e1', L_42, e4, gM_EachAddsALineModel_roads_245]
theorem M_211_pp (hN : 10 ≤ N) (h : MSq n x t) (h1 : t.1 0 15 = nI p) (h2 : t.1 0 16 = mI 1) (hp : p ≤ 76) (hM : M < 20) (hd : dgq n x p) (hc : chq n x (heq n x p) = 42) : ∃ u, Fm [] [] [15] t u ∧ (dgq n x (heq n x p + 1) → ∀ (R : Int32 → Int32 → Int32 → Int32 → vSt → Option (Int32 × vSt)) (k : Nat), gM_EachAddsALineModel_roads_211 N R (nI P) (nI M) (nI k) t = gM_EachAddsALineModel_roads_249 N R (nI P) (nI (M + 1)) (nI k) (s1 (s1 (s1 (s1 u 4 M (nI (hrq n x p))) 0 15 (nI (heq n x p + 1))) 0 15 (nI (heq n x p + 2))) 5 M (nI (chq n x (heq n x p + 1) - 48)))) ∧
    (¬ dgq n x (heq n x p + 1) → ∀ (R : Int32 → Int32 → Int32 → Int32 → vSt → Option (Int32 × vSt)) (k : Nat), gM_EachAddsALineModel_roads_211 N R (nI P) (nI M) (nI k) t = gM_EachAddsALineModel_roads_249 N R (nI P) (nI (M + 1)) (nI k) (s1 (s1 (s1 (s1 u 4 M (nI (hrq n x p))) 0 15 (nI (heq n x p + 1))) 0 16 (nI (heq n x p + 1))) 5 M (nI 0))) := by
  have hh := chq_lt (n := n) (x := x) (p := heq n x p) (by omega)
  obtain ⟨u, e1, e2, e3⟩ := M_num_2 hN h h1 h2 hp hd
  have e1' : fM_EachAddsALineModel_number N (nI 2) t = some (nI (hrq n x p), u) := e1
  have e3' : u.1 0 15 = nI (heq n x p) := e3
  have f1 : Fm [4] [] [15] t (s1 u 4 M (nI (hrq n x p))) := (e2.mono (by decide) (by decide) (by decide)).tr (Fm.w1 (by decide) (by decide))
  have e4 := M_passQ_t (N := N) (h.fm f1 (by decide) (by decide)) (show (s1 u 4 M (nI (hrq n x p))).1 0 15 = nI (heq n x p) by rw [q_s1o (by decide)]; exact e3') (by rw [q_s1o (by decide), e2.2.2 16 (by decide)]; exact h2) (heq_le hd).2.1 (a := 42) (by omega) hc
  have f2 : Fm [4] [] [15] t (s1 (s1 u 4 M (nI (hrq n x p))) 0 15 (nI (heq n x p + 1))) := f1.tr (Fm.w10 (by decide))
  have e16 : (s1 (s1 u 4 M (nI (hrq n x p))) 0 15 (nI (heq n x p + 1))).1 0 16 = mI 1 := by rw [f2.2.2 16 (by decide)]; exact h2
  refine ⟨u, e2, fun c R k => ?_, fun c R k => ?_⟩
  · have e5 := M_num_1 (N := N) hN (h.fm f2 (by decide) (by decide)) (q_s1 _ _ _ _) e16 (show heq n x p + 1 ≤ 76 by omega) c
    simp (disch := omega) only [Option.bind_some, ↓reduceIte, ↓M_1, ↓M_2, L_0, L_1, L_2, L_3, L_4, L_5, L_6, L_7, L_8, L_9, L_10, L_11, L_12, L_13, L_20, L_24, L_26, L_30, L_31, L_32, L_39, L_40, L_48, L_57, L_76, L_80, L_90, L_91, L_97, L_99, L_100, L_255, L_273, L_1000, L_2000, q_ld, q_ldL, q_sto, q_stoL, q_add, q_sub, q_mul, q_dec, q_rem, q_div, q_lt_t, q_lt_f, q_le_t, q_le_f, q_eq_t, q_eq_f, q_em, q_me, q_ml, q_lm, q_mle, q_lem, q_s1, q_s1o, q_s1k, q_s12, q_s2, q_s2o, q_s2k, q_s21, Nat.add_sub_cancel, q_or, q_and, q_shl, true_or, or_true, false_or, or_false, true_and, and_true, false_and, and_false, not_true_eq_false, not_false_eq_true, ne_eq, gM_EachAddsALineModel_roads_211, e1', L_42, e4, e5, gM_EachAddsALineModel_roads_245]
  · have e5 := M_num_f (N := N) (a := 1) hN (h.fm f2 (by decide) (by decide)) (q_s1 _ _ _ _) e16 (show heq n x p + 1 ≤ 76 by omega) (by omega) c
    simp (disch := omega) only [Option.bind_some, ↓reduceIte, ↓M_1, ↓M_2, L_0, L_1, L_2, L_3, L_4, L_5, L_6, L_7, L_8, L_9, L_10, L_11, L_12, L_13, L_20, L_24, L_26, L_30, L_31, L_32, L_39, L_40, L_48, L_57, L_76, L_80, L_90, L_91, L_97, L_99, L_100, L_255, L_273, L_1000, L_2000, q_ld, q_ldL, q_sto, q_stoL, q_add, q_sub, q_mul, q_dec, q_rem, q_div, q_lt_t, q_lt_f, q_le_t, q_le_f, q_eq_t, q_eq_f, q_em, q_me, q_ml, q_lm, q_mle, q_lem, q_s1, q_s1o, q_s1k, q_s12, q_s2, q_s2o, q_s2k, q_s21, Nat.add_sub_cancel, q_or, q_and, q_shl, true_or, or_true, false_or, or_false, true_and, and_true, false_and, and_false, not_true_eq_false, not_false_eq_true, ne_eq, gM_EachAddsALineModel_roads_211, e1', L_42, e4, e5, gM_EachAddsALineModel_roads_245]
/-- the second letter and @ -/
theorem M_183_f (h : MSq n x t) (h1 : t.1 0 15 = nI p) (h2 : t.1 0 16 = mI 1) (hp : p ≤ 76) (hM : M < 20) (hP : P ≤ 9) (hc : ¬ (97 ≤ chq n x p ∧ chq n x p < 97 + P)) : gM_EachAddsALineModel_roads_183 N R (nI P) (nI M) (nI k) t = gM_EachAddsALineModel_roads_249 N R (nI P) (nI (M + 1)) (nI k) (s1 (s1 (s1 (s1 t 0 16 (nI p)) 3 M (nI 0)) 4 M (nI 0)) 5 M (nI 0)) := by
  have e1 := M_letter_f (N := N) h h1 h2 hp hP hc
  have e2 : (s1 (s1 t 0 16 (nI p)) 3 M (nI 0)).1 0 16 = nI p := by rw [q_s1o (by decide), q_s1]
  have hp2 : p < 1000 := by omega
  simp (disch := omega) only [Option.bind_some, ↓reduceIte, ↓M_1, ↓M_2, L_0, L_1, L_2, L_3, L_4, L_5, L_6, L_7, L_8, L_9, L_10, L_11, L_12, L_13, L_20, L_24, L_26, L_30, L_31, L_32, L_39, L_40, L_48, L_57, L_76, L_80, L_90, L_91, L_97, L_99, L_100, L_255, L_273, L_1000, L_2000, q_ld, q_ldL, q_sto, q_stoL, q_add, q_sub, q_mul, q_dec, q_rem, q_div, q_lt_t, q_lt_f, q_le_t, q_le_f, q_eq_t, q_eq_f, q_em, q_me, q_ml, q_lm, q_mle, q_lem, q_s1, q_s1o, q_s1k, q_s12, q_s2, q_s2o, q_s2k, q_s21, Nat.add_sub_cancel, q_or, q_and, q_shl, true_or, or_true, false_or, or_false, true_and, and_true, false_and, and_false, not_true_eq_false, not_false_eq_true, ne_eq, gM_EachAddsALineModel_roads_183, e1, M_passes_d e2 hp2, M_fault_f e2 hp2, M_211_d e2 hp2 hM]
theorem M_183_a (h : MSq n x t) (h1 : t.1 0 15 = nI p) (h2 : t.1 0 16 = mI 1) (hp : p ≤ 76) (hM : M < 20) (hP : P ≤ 9) (hc : 97 ≤ chq n x p ∧ chq n x p < 97 + P) (hd : chq n x (p + 1) ≠ 64) : gM_EachAddsALineModel_roads_183 N R (nI P) (nI M) (nI k) t = gM_EachAddsALineModel_roads_249 N R (nI P) (nI (M + 1)) (nI k) (s1 (s1 (s1 (s1 (s1 t 0 15 (nI (p + 1))) 3 M (nI (chq n x p - 97))) 0 16 (nI (p + 1))) 4 M (nI 0)) 5 M (nI 0)) := by
  have hh := chq_lt (n := n) (x := x) (p := p) (by omega)
  have e1 := M_letter_t (N := N) h h1 h2 hp hP hc
  have f1 : Fm [3] [] [15] t (s1 (s1 t 0 15 (nI (p + 1))) 3 M (nI (chq n x p - 97))) := (Fm.w10 (by decide)).tr (Fm.w1 (by decide) (by decide))
  have e16 : (s1 (s1 t 0 15 (nI (p + 1))) 3 M (nI (chq n x p - 97))).1 0 16 = mI 1 := by rw [f1.2.2 16 (by decide)]; exact h2
  have e15 : (s1 (s1 t 0 15 (nI (p + 1))) 3 M (nI (chq n x p - 97))).1 0 15 = nI (p + 1) := by rw [q_s1o (by decide), q_s1]
  have e2 := M_passQ_f (N := N) (h.fm f1 (by decide) (by decide)) e15 e16 (show p + 1 ≤ 76 by omega) (a := 64) (by omega) hd
  have e3 := M_fault_t (N := N) (v := nI (p + 1)) e16
  have e4 : (s1 (s1 (s1 t 0 15 (nI (p + 1))) 3 M (nI (chq n x p - 97))) 0 16 (nI (p + 1))).1 0 16 = nI (p + 1) := q_s1 _ _ _ _
  simp (disch := omega) only [Option.bind_some, ↓reduceIte, ↓M_1, ↓M_2, L_0, L_1, L_2, L_3, L_4, L_5, L_6, L_7, L_8, L_9, L_10, L_11, L_12, L_13, L_20, L_24, L_26, L_30, L_31, L_32, L_39, L_40, L_48, L_57, L_76, L_80, L_90, L_91, L_97, L_99, L_100, L_255, L_273, L_1000, L_2000, q_ld, q_ldL, q_sto, q_stoL, q_add, q_sub, q_mul, q_dec, q_rem, q_div, q_lt_t, q_lt_f, q_le_t, q_le_f, q_eq_t, q_eq_f, q_em, q_me, q_ml, q_lm, q_mle, q_lem, q_s1, q_s1o, q_s1k, q_s12, q_s2, q_s2o, q_s2k, q_s21, Nat.add_sub_cancel, q_or, q_and, q_shl, true_or, or_true, false_or, or_false, true_and, and_true, false_and, and_false, not_true_eq_false, not_false_eq_true, ne_eq, gM_EachAddsALineModel_roads_183, e1, L_64, e2, e3, M_211_d e4 (show p + 1 < 1000 by omega) hM]
theorem M_183_t (h : MSq n x t) (h1 : t.1 0 15 = nI p) (h2 : t.1 0 16 = mI 1) (hp : p ≤ 76) (hM : M < 20) (hP : P ≤ 9) (hc : 97 ≤ chq n x p ∧ chq n x p < 97 + P) (hd : chq n x (p + 1) = 64) : gM_EachAddsALineModel_roads_183 N R (nI P) (nI M) (nI k) t = gM_EachAddsALineModel_roads_211 N R (nI P) (nI M) (nI k) (s1 (s1 (s1 t 0 15 (nI (p + 1))) 3 M (nI (chq n x p - 97))) 0 15 (nI (p + 2))) := by
  have hh := chq_lt (n := n) (x := x) (p := p) (by omega)
  have e1 := M_letter_t (N := N) h h1 h2 hp hP hc
  have f1 : Fm [3] [] [15] t (s1 (s1 t 0 15 (nI (p + 1))) 3 M (nI (chq n x p - 97))) := (Fm.w10 (by decide)).tr (Fm.w1 (by decide) (by decide))
  have e16 : (s1 (s1 t 0 15 (nI (p + 1))) 3 M (nI (chq n x p - 97))).1 0 16 = mI 1 := by rw [f1.2.2 16 (by decide)]; exact h2
  have e15 : (s1 (s1 t 0 15 (nI (p + 1))) 3 M (nI (chq n x p - 97))).1 0 15 = nI (p + 1) := by rw [q_s1o (by decide), q_s1]
  have e2 := M_passQ_t (N := N) (h.fm f1 (by decide) (by decide)) e15 e16 (show p + 1 ≤ 76 by omega) (a := 64) (by omega) hd
  simp (disch := omega) only [Option.bind_some, ↓reduceIte, ↓M_1, ↓M_2, L_0, L_1, L_2, L_3, L_4, L_5, L_6, L_7, L_8, L_9, L_10, L_11, L_12, L_13, L_20, L_24, L_26, L_30, L_31, L_32, L_39, L_40, L_48, L_57, L_76, L_80, L_90, L_91, L_97, L_99, L_100, L_255, L_273, L_1000, L_2000, q_ld, q_ldL, q_sto, q_stoL, q_add, q_sub, q_mul, q_dec, q_rem, q_div, q_lt_t, q_lt_f, q_le_t, q_le_f, q_eq_t, q_eq_f, q_em, q_me, q_ml, q_lm, q_mle, q_lem, q_s1, q_s1o, q_s1k, q_s12, q_s2, q_s2o, q_s2k, q_s21, Nat.add_sub_cancel, q_or, q_and, q_shl, true_or, or_true, false_or, or_false, true_and, and_true, false_and, and_false, not_true_eq_false, not_false_eq_true, ne_eq, gM_EachAddsALineModel_roads_183, e1, L_64, e2]
/-- the first letter -/
theorem M_meet_no (h : MSq n x t) (h1 : t.1 0 15 = nI p) (h2 : t.1 0 16 = mI 1) (hp : p ≤ 76) (hM : M ≤ 20) (hd : ¬ (48 ≤ chq n x p ∧ chq n x p ≤ 57)) (hf : M = 20 ∨ ¬ (97 ≤ chq n x p ∧ chq n x p ≤ 105)) : gM_EachAddsALineModel_roads_48 N (f + 1) (nI P) (nI M) (nI k) (nI 1) t = gM_EachAddsALineModel_roads_249 N (gM_EachAddsALineModel_roads_48 N f) (nI P) (nI M) (nI k) (s1 t 0 16 (nI p)) := by
  obtain ⟨v, e1, e2⟩ := M_hereQ (N := N) h h1 hp
  have e3 := M_inR (N := N) (t := t) e2
  rw [if_neg hd] at e3
  rw [gM_EachAddsALineModel_roads_48]
  by_cases c : M = 20
  · simp (disch := omega) only [Option.bind_some, ↓reduceIte, ↓M_1, ↓M_2, L_0, L_1, L_2, L_3, L_4, L_5, L_6, L_7, L_8, L_9, L_10, L_11, L_12, L_13, L_20, L_24, L_26, L_30, L_31, L_32, L_39, L_40, L_48, L_57, L_76, L_80, L_90, L_91, L_97, L_99, L_100, L_255, L_273, L_1000, L_2000, q_ld, q_ldL, q_sto, q_stoL, q_add, q_sub, q_mul, q_dec, q_rem, q_div, q_lt_t, q_lt_f, q_le_t, q_le_f, q_eq_t, q_eq_f, q_em, q_me, q_ml, q_lm, q_mle, q_lem, q_s1, q_s1o, q_s1k, q_s12, q_s2, q_s2o, q_s2k, q_s21, Nat.add_sub_cancel, q_or, q_and, q_shl, true_or, or_true, false_or, or_false, true_and, and_true, false_and, and_false, not_true_eq_false, not_false_eq_true, ne_eq, M_fine_t h2, e1, e3, c, h1, M_fault_t h2, gM_EachAddsALineModel_roads_137]
  · have e4 := M_inQ (N := N) (t := t) (a := 97) (b := 105) e2 (by omega) (by omega)
    rw [if_neg (hf.resolve_left c)] at e4
    simp (disch := omega) only [Option.bind_some, ↓reduceIte, ↓M_1, ↓M_2, L_0, L_1, L_2, L_3, L_4, L_5, L_6, L_7, L_8, L_9, L_10, L_11, L_12, L_13, L_20, L_24, L_26, L_30, L_31, L_32, L_39, L_40, L_48, L_57, L_76, L_80, L_90, L_91, L_97, L_99, L_100, L_255, L_273, L_1000, L_2000, q_ld, q_ldL, q_sto, q_stoL, q_add, q_sub, q_mul, q_dec, q_rem, q_div, q_lt_t, q_lt_f, q_le_t, q_le_f, q_eq_t, q_eq_f, q_em, q_me, q_ml, q_lm, q_mle, q_lem, q_s1, q_s1o, q_s1k, q_s12, q_s2, q_s2o, q_s2k, q_s21, Nat.add_sub_cancel, q_or, q_and, q_shl, true_or, or_true, false_or, or_false, true_and, and_true, false_and, and_false, not_true_eq_false, not_false_eq_true, ne_eq, M_fine_t h2, e1, e3, L_105, e4, h1, M_fault_t h2, gM_EachAddsALineModel_roads_137]
theorem M_meet_one (h : MSq n x t) (h1 : t.1 0 15 = nI p) (h2 : t.1 0 16 = mI 1) (hp : p ≤ 76) (hM : M < 20) (hP : P ≤ 9) (hd : 97 ≤ chq n x p ∧ chq n x p ≤ 105) (hf : ¬ (97 ≤ chq n x p ∧ chq n x p < 97 + P)) : gM_EachAddsALineModel_roads_48 N (f + 1) (nI P) (nI M) (nI k) (nI 1) t = gM_EachAddsALineModel_roads_249 N (gM_EachAddsALineModel_roads_48 N f) (nI P) (nI (M + 1)) (nI k) (s1 (s1 (s1 (s1 (s1 t 0 16 (nI p)) 2 M (nI 0)) 3 M (nI 0)) 4 M (nI 0)) 5 M (nI 0)) := by
  obtain ⟨v, e1, e2⟩ := M_hereQ (N := N) h h1 hp
  have e3 := M_inR (N := N) (t := t) e2
  rw [if_neg (by omega)] at e3
  have e4 := M_inQ (N := N) (t := t) (a := 97) (b := 105) e2 (by omega) (by omega)
  rw [if_pos hd] at e4
  have e5 := M_letter_f (N := N) h h1 h2 hp hP hf
  have f1 : Fm [2] [] [16] t (s1 (s1 t 0 16 (nI p)) 2 M (nI 0)) := (Fm.w10 (by decide)).tr (Fm.w1 (by decide) (by decide))
  obtain ⟨v2, g1, g2⟩ := M_hereQ (N := N) (h.fm f1 (by decide) (by decide)) (show (s1 (s1 t 0 16 (nI p)) 2 M (nI 0)).1 0 15 = nI p by rw [f1.2.2 15 (by decide)]; exact h1) hp
  have e16 : (s1 (s1 t 0 16 (nI p)) 2 M (nI 0)).1 0 16 = nI p := by rw [q_s1o (by decide), q_s1]
  have hp2 : p < 1000 := by omega
  rw [gM_EachAddsALineModel_roads_48]
  by_cases c : v2 = nI 97
  · simp (disch := omega) only [Option.bind_some, ↓reduceIte, ↓M_1, ↓M_2, L_0, L_1, L_2, L_3, L_4, L_5, L_6, L_7, L_8, L_9, L_10, L_11, L_12, L_13, L_20, L_24, L_26, L_30, L_31, L_32, L_39, L_40, L_48, L_57, L_76, L_80, L_90, L_91, L_97, L_99, L_100, L_255, L_273, L_1000, L_2000, q_ld, q_ldL, q_sto, q_stoL, q_add, q_sub, q_mul, q_dec, q_rem, q_div, q_lt_t, q_lt_f, q_le_t, q_le_f, q_eq_t, q_eq_f, q_em, q_me, q_ml, q_lm, q_mle, q_lem, q_s1, q_s1o, q_s1k, q_s12, q_s2, q_s2o, q_s2k, q_s21, Nat.add_sub_cancel, q_or, q_and, q_shl, true_or, or_true, false_or, or_false, true_and, and_true, false_and, and_false, not_true_eq_false, not_false_eq_true, ne_eq, M_fine_t h2, e1, e3, L_105, e4, e5, g1, c, M_fault_f e16 hp2, M_183_d e16 hp2 hM]
  · simp (disch := omega) only [Option.bind_some, ↓reduceIte, ↓M_1, ↓M_2, L_0, L_1, L_2, L_3, L_4, L_5, L_6, L_7, L_8, L_9, L_10, L_11, L_12, L_13, L_20, L_24, L_26, L_30, L_31, L_32, L_39, L_40, L_48, L_57, L_76, L_80, L_90, L_91, L_97, L_99, L_100, L_255, L_273, L_1000, L_2000, q_ld, q_ldL, q_sto, q_stoL, q_add, q_sub, q_mul, q_dec, q_rem, q_div, q_lt_t, q_lt_f, q_le_t, q_le_f, q_eq_t, q_eq_f, q_em, q_me, q_ml, q_lm, q_mle, q_lem, q_s1, q_s1o, q_s1k, q_s12, q_s2, q_s2o, q_s2k, q_s21, Nat.add_sub_cancel, q_or, q_and, q_shl, true_or, or_true, false_or, or_false, true_and, and_true, false_and, and_false, not_true_eq_false, not_false_eq_true, ne_eq, M_fine_t h2, e1, e3, L_105, e4, e5, g1, c, M_183_d e16 hp2 hM]
theorem M_meet_eq (h : MSq n x t) (h1 : t.1 0 15 = nI p) (h2 : t.1 0 16 = mI 1) (hp : p ≤ 76) (hM : M < 20) (hP : P ≤ 9) (hf : 97 ≤ chq n x p ∧ chq n x p < 97 + P) (hc : chq n x (p + 1) = chq n x p) : gM_EachAddsALineModel_roads_48 N (f + 1) (nI P) (nI M) (nI k) (nI 1) t = gM_EachAddsALineModel_roads_249 N (gM_EachAddsALineModel_roads_48 N f) (nI P) (nI (M + 1)) (nI k) (s1 (s1 (s1 (s1 (s1 (s1 t 0 15 (nI (p + 1))) 2 M (nI (chq n x p - 97))) 0 16 (nI (p + 1))) 3 M (nI 0)) 4 M (nI 0)) 5 M (nI 0)) := by
  have hh := chq_lt (n := n) (x := x) (p := p) (by omega)
  obtain ⟨v, e1, e2⟩ := M_hereQ (N := N) h h1 hp
  have e3 := M_inR (N := N) (t := t) e2
  rw [if_neg (by omega)] at e3
  have e4 := M_inQ (N := N) (t := t) (a := 97) (b := 105) e2 (by omega) (by omega)
  rw [if_pos (by omega)] at e4
  have e5 := M_letter_t (N := N) h h1 h2 hp hP hf
  have f1 : Fm [2] [] [15] t (s1 (s1 t 0 15 (nI (p + 1))) 2 M (nI (chq n x p - 97))) := (Fm.w10 (by decide)).tr (Fm.w1 (by decide) (by decide))
  have e15 : (s1 (s1 t 0 15 (nI (p + 1))) 2 M (nI (chq n x p - 97))).1 0 15 = nI (p + 1) := by rw [q_s1o (by decide), q_s1]
  have e16 : (s1 (s1 t 0 15 (nI (p + 1))) 2 M (nI (chq n x p - 97))).1 0 16 = mI 1 := by rw [f1.2.2 16 (by decide)]; exact h2
  obtain ⟨v2, g1, g2⟩ := M_hereQ (N := N) (h.fm f1 (by decide) (by decide)) e15 (show p + 1 ≤ 76 by omega)
  have ev := g2.nn (by omega)
  rw [hc] at ev
  subst ev
  have e6 := M_fault_t (N := N) (v := nI (p + 1)) e16
  have e7 : (s1 (s1 (s1 t 0 15 (nI (p + 1))) 2 M (nI (chq n x p - 97))) 0 16 (nI (p + 1))).1 0 16 = nI (p + 1) := q_s1 _ _ _ _
  have e8 : 97 + (chq n x p - 97) = chq n x p := by omega
  rw [gM_EachAddsALineModel_roads_48]
  simp (disch := omega) only [Option.bind_some, ↓reduceIte, ↓M_1, ↓M_2, L_0, L_1, L_2, L_3, L_4, L_5, L_6, L_7, L_8, L_9, L_10, L_11, L_12, L_13, L_20, L_24, L_26, L_30, L_31, L_32, L_39, L_40, L_48, L_57, L_76, L_80, L_90, L_91, L_97, L_99, L_100, L_255, L_273, L_1000, L_2000, q_ld, q_ldL, q_sto, q_stoL, q_add, q_sub, q_mul, q_dec, q_rem, q_div, q_lt_t, q_lt_f, q_le_t, q_le_f, q_eq_t, q_eq_f, q_em, q_me, q_ml, q_lm, q_mle, q_lem, q_s1, q_s1o, q_s1k, q_s12, q_s2, q_s2o, q_s2k, q_s21, Nat.add_sub_cancel, q_or, q_and, q_shl, true_or, or_true, false_or, or_false, true_and, and_true, false_and, and_false, not_true_eq_false, not_false_eq_true, ne_eq, M_fine_t h2, e1, e3, L_105, e4, e5, g1, e8, e6, M_183_d e7 (show p + 1 < 1000 by omega) hM]
theorem M_meet_t (h : MSq n x t) (h1 : t.1 0 15 = nI p) (h2 : t.1 0 16 = mI 1) (hp : p ≤ 76) (hM : M < 20) (hP : P ≤ 9) (hf : 97 ≤ chq n x p ∧ chq n x p < 97 + P) (hc : chq n x (p + 1) ≠ chq n x p) : gM_EachAddsALineModel_roads_48 N (f + 1) (nI P) (nI M) (nI k) (nI 1) t = gM_EachAddsALineModel_roads_183 N (gM_EachAddsALineModel_roads_48 N f) (nI P) (nI M) (nI k) (s1 (s1 t 0 15 (nI (p + 1))) 2 M (nI (chq n x p - 97))) := by
  have hh := chq_lt (n := n) (x := x) (p := p) (by omega)
  obtain ⟨v, e1, e2⟩ := M_hereQ (N := N) h h1 hp
  have e3 := M_inR (N := N) (t := t) e2
  rw [if_neg (by omega)] at e3
  have e4 := M_inQ (N := N) (t := t) (a := 97) (b := 105) e2 (by omega) (by omega)
  rw [if_pos (by omega)] at e4
  have e5 := M_letter_t (N := N) h h1 h2 hp hP hf
  have f1 : Fm [2] [] [15] t (s1 (s1 t 0 15 (nI (p + 1))) 2 M (nI (chq n x p - 97))) := (Fm.w10 (by decide)).tr (Fm.w1 (by decide) (by decide))
  have e15 : (s1 (s1 t 0 15 (nI (p + 1))) 2 M (nI (chq n x p - 97))).1 0 15 = nI (p + 1) := by rw [q_s1o (by decide), q_s1]
  obtain ⟨v2, g1, g2⟩ := M_hereQ (N := N) (h.fm f1 (by decide) (by decide)) e15 (show p + 1 ≤ 76 by omega)
  have e8 : 97 + (chq n x p - 97) = chq n x p := by omega
  have e9 : ¬ v2 = nI (chq n x p) := by rw [g2.eq (by omega)]; exact hc
  rw [gM_EachAddsALineModel_roads_48]
  simp (disch := omega) only [Option.bind_some, ↓reduceIte, ↓M_1, ↓M_2, L_0, L_1, L_2, L_3, L_4, L_5, L_6, L_7, L_8, L_9, L_10, L_11, L_12, L_13, L_20, L_24, L_26, L_30, L_31, L_32, L_39, L_40, L_48, L_57, L_76, L_80, L_90, L_91, L_97, L_99, L_100, L_255, L_273, L_1000, L_2000, q_ld, q_ldL, q_sto, q_stoL, q_add, q_sub, q_mul, q_dec, q_rem, q_div, q_lt_t, q_lt_f, q_le_t, q_le_f, q_eq_t, q_eq_f, q_em, q_me, q_ml, q_lm, q_mle, q_lem, q_s1, q_s1o, q_s1k, q_s12, q_s2, q_s2o, q_s2k, q_s21, Nat.add_sub_cancel, q_or, q_and, q_shl, true_or, or_true, false_or, or_false, true_and, and_true, false_and, and_false, not_true_eq_false, not_false_eq_true, ne_eq, M_fine_t h2, e1, e3, L_105, e4, e5, g1, e8, e9]
end RY
