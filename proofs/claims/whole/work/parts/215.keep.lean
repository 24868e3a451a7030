/-! copy, lay, keep, again -/
theorem nar_b1 : vp_nar .boolean 1 = nI 1 := rfl
theorem scpy_n {s : vSt} {o o2 n1 n2 n : Nat} (h1 : n ≤ n1) (h2 : n ≤ n2) (hn : n < 2 ^ 31) : scpy s o o2 n1 n2 (nI n) = some (fun o' => if o' = o2 then va_cpy (s.1 o) (s.1 o2) 0 0 n else s.1 o', s.2) := by
  unfold scpy
  rw [if_neg (by
    rw [nI_clamp hn]
    rintro (z | z | z)
    · exact nI_pos hn z
    · omega
    · omega), nI_clamp hn]
section CP
variable {s s' : vSt} {o o2 n : Nat}
theorem cp_eq {s : vSt} {o o2 n k : Nat} (hk : k < n) : (fun o' => if o' = o2 then va_cpy (s.1 o) (s.1 o2) 0 0 n else s.1 o' : Nat → Nat → Int32) o2 k = s.1 o k := by
  show (if o2 = o2 then va_cpy (s.1 o) (s.1 o2) 0 0 n else s.1 o2) k = _
  rw [if_pos rfl]
  unfold va_cpy
  rw [if_pos ⟨Nat.zero_le _, by omega⟩, show 0 + (k - 0) = k by omega]
theorem cp_fr {s : vSt} {o o2 n : Nat} {L K : List Nat} (h : o2 ∈ L) : Fr L K s (fun o' => if o' = o2 then va_cpy (s.1 o) (s.1 o2) 0 0 n else s.1 o', s.2) := ⟨fun o' ho => if_neg (fun (z : o' = o2) => ho (z ▸ h)), fun _ _ => rfl⟩
/-- the four rows of letters are copied -/
theorem cp4 {a b c d a' b' c' d' : Nat} (h : a' ≠ b ∧ a' ≠ c ∧ a' ≠ d ∧ b' ≠ c ∧ b' ≠ d ∧ c' ≠ d) (g : b' ≠ a' ∧ c' ≠ a' ∧ d' ≠ a' ∧ c' ≠ b' ∧ d' ≠ b' ∧ d' ≠ c') :
    ∃ u, ((scpy s a a' 3 3 3).bind fun z1 => (scpy z1 b b' 90 90 90).bind fun z2 => (scpy z2 c c' 90 90 90).bind fun z3 => (scpy z3 d d' 90 90 90).bind fun z4 => some z4) = some u ∧ Fr [a', b', c', d'] [] s u ∧ (∀ k, k < 3 → u.1 a' k = s.1 a k) ∧ ∀ k, k < 90 → u.1 b' k = s.1 b k ∧ u.1 c' k = s.1 c k ∧ u.1 d' k = s.1 d k := by
  obtain ⟨h1, h2, h3, h4, h5, h6⟩ := h
  obtain ⟨g1, g2, g3, g4, g5, g6⟩ := g
  have e3 : ∀ z : vSt, ∀ o o2, scpy z o o2 3 3 3 = _ := fun z o o2 => scpy_n (s := z) (o := o) (o2 := o2) (n1 := 3) (n2 := 3) (n := 3) (by omega) (by omega) (by omega)
  have e9 : ∀ z : vSt, ∀ o o2, scpy z o o2 90 90 90 = _ := fun z o o2 => scpy_n (s := z) (o := o) (o2 := o2) (n1 := 90) (n2 := 90) (n := 90) (by omega) (by omega) (by omega)
  obtain ⟨u1, q1, f1, k1⟩ : ∃ u1, scpy s a a' 3 3 3 = some u1 ∧ Fr [a'] [] s u1 ∧ ∀ k, k < 3 → u1.1 a' k = s.1 a k := ⟨_, e3 s a a', cp_fr (List.mem_singleton.mpr rfl), fun k hk => cp_eq hk⟩
  obtain ⟨u2, q2, f2, k2⟩ : ∃ u2, scpy u1 b b' 90 90 90 = some u2 ∧ Fr [b'] [] u1 u2 ∧ ∀ k, k < 90 → u2.1 b' k = u1.1 b k := ⟨_, e9 u1 b b', cp_fr (List.mem_singleton.mpr rfl), fun k hk => cp_eq hk⟩
  obtain ⟨u3, q3, f3, k3⟩ : ∃ u3, scpy u2 c c' 90 90 90 = some u3 ∧ Fr [c'] [] u2 u3 ∧ ∀ k, k < 90 → u3.1 c' k = u2.1 c k := ⟨_, e9 u2 c c', cp_fr (List.mem_singleton.mpr rfl), fun k hk => cp_eq hk⟩
  obtain ⟨u4, q4, f4, k4⟩ : ∃ u4, scpy u3 d d' 90 90 90 = some u4 ∧ Fr [d'] [] u3 u4 ∧ ∀ k, k < 90 → u4.1 d' k = u3.1 d k := ⟨_, e9 u3 d d', cp_fr (List.mem_singleton.mpr rfl), fun k hk => cp_eq hk⟩
  refine ⟨u4, ?_, ?_, fun k hk => ?_, fun k hk => ⟨?_, ?_, ?_⟩⟩
  · rw [q1, Option.bind_some, q2, Option.bind_some, q3, Option.bind_some, q4, Option.bind_some]
  · exact (((f1.mono (by simp) (by simp)).tr (f2.mono (by simp) (by simp))).tr (f3.mono (by simp) (by simp))).tr (f4.mono (by simp) (by simp))
  · rw [f4.1 a' (by simp; omega), f3.1 a' (by simp; omega), f2.1 a' (by simp; omega)]
    exact k1 k hk
  · rw [f4.1 b' (by simp; omega), f3.1 b' (by simp; omega), k2 k hk, f1.1 b (by simp; omega)]
  · rw [f4.1 c' (by simp; omega), k3 k hk, f2.1 c (by simp; omega), f1.1 c (by simp; omega)]
  · rw [k4 k hk, f3.1 d (by simp; omega), f2.1 d (by simp; omega), f1.1 d (by simp; omega)]
end CP
section KE
variable {N : Nat} {U : vSt → vSt → Prop} {p : Nat} {s s' t t' : vSt}
/-- letters that are copied, from one place to another -/
theorem LTx.cp {c c' m m' off off' : Nat} (h : LTx p c m off s t) (h1 : ∀ k, k < 3 → s'.1 (c' + 1) k = s.1 (c + 1) k) (h2 : ∀ k, k < 90 → s'.1 (c' + 2) k = s.1 (c + 2) k ∧ s'.1 (c' + 3) k = s.1 (c + 3) k ∧ s'.1 (c' + 4) k = s.1 (c + 4) k) (h3 : ∀ k, k < 273 → t'.1 m' (off' + k) = t.1 m (off + k)) : LTx p c' m' off' s' t' := fun l hl => by
  obtain ⟨n, wh, si, li, a1, a2, a3, a4⟩ := h l hl
  refine ⟨n, wh, si, li, a1, (h1 l hl).trans a2, (h3 (91 * l) (by omega)).trans a3, fun k hk => ?_⟩
  obtain ⟨b1, b2, b3, b4, b5, b6, b7, b8, b9⟩ := a4 k hk
  have e := h2 (30 * l + k) (by omega)
  have e1 := h3 (91 * l + 1 + 3 * k) (by omega)
  have e2 := h3 (91 * l + 2 + 3 * k) (by omega)
  have e3 := h3 (91 * l + 3 + 3 * k) (by omega)
  simp only [← Nat.add_assoc] at e1 e2 e3
  exact ⟨b1, b2, b3, e.1.trans b4, e.2.1.trans b5, e.2.2.trans b6, e1.trans b7, e2.trans b8, e3.trans b9⟩
theorem M_keep (hN : 300 ≤ N) {i : Nat} (hi : i < 2) : ∃ t', fM_EachAddsALineModel_keep N (nI i) t = some (nI 1, t') ∧ Fm [22, 23] [] [11] t t' ∧ (∀ k, k ≠ i → t'.1 23 k = t.1 23 k) ∧ t'.1 23 i = nI 1 ∧ (∀ k, k < 273 → t'.1 22 (273 * i + k) = t.1 9 k) ∧ ∀ k, ¬ (273 * i ≤ k ∧ k < 273 * i + 273) → t'.1 22 k = t.1 22 k := by
  simp (disch := omega) only [Option.bind_some, ↓reduceIte, ↓M_1, ↓M_2, L_0, L_1, L_2, L_3, L_4, L_5, L_6, L_7, L_8, L_9, L_10, L_11, L_12, L_13, L_20, L_24, L_26, L_30, L_31, L_32, L_39, L_40, L_48, L_57, L_76, L_80, L_90, L_91, L_97, L_99, L_100, L_255, L_273, L_1000, L_2000, q_ld, q_ldL, q_sto, q_stoL, q_add, q_sub, q_mul, q_dec, q_rem, q_div, q_lt_t, q_lt_f, q_le_t, q_le_f, q_eq_t, q_eq_f, q_em, q_me, q_ml, q_lm, q_mle, q_lem, q_s1, q_s1o, q_s1k, q_s12, q_s2, q_s2o, q_s2k, q_s21, Nat.add_sub_cancel, q_or, q_and, q_shl, true_or, or_true, false_or, or_false, true_and, and_true, false_and, and_false, not_true_eq_false, not_false_eq_true, ne_eq, fM_EachAddsALineModel_keep, gM_EachAddsALineModel_keep_0, M_in_any]
  rw [← L_1, nar_b1]
  refine loopU (fun f k u => gM_EachAddsALineModel_keep_25 N f (nI i) (nI k) u) 273 (fun k u => k ≤ 273 ∧ Fm [22, 23] [] [11] t u ∧ (∀ j, j ≠ i → u.1 23 j = t.1 23 j) ∧ u.1 23 i = nI 1 ∧ (∀ j, j < k → u.1 22 (273 * i + j) = t.1 9 j) ∧ ∀ j, ¬ (273 * i ≤ j ∧ j < 273 * i + 273) → u.1 22 j = t.1 22 j) (fun o => ∃ t', o = some (nI 1, t') ∧ Fm [22, 23] [] [11] t t' ∧ (∀ k, k ≠ i → t'.1 23 k = t.1 23 k) ∧ t'.1 23 i = nI 1 ∧ (∀ k, k < 273 → t'.1 22 (273 * i + k) = t.1 9 k) ∧ ∀ k, ¬ (273 * i ≤ k ∧ k < 273 * i + 273) → t'.1 22 k = t.1 22 k) ?_ ?_ 273 N 0 _ (by omega) (by omega) ⟨by omega, (Fm.w10 (by decide)).tr (Fm.w1 (by decide) (by decide)), fun j hj => by simp (disch := omega) only [Option.bind_some, ↓reduceIte, ↓M_1, ↓M_2, L_0, L_1, L_2, L_3, L_4, L_5, L_6, L_7, L_8, L_9, L_10, L_11, L_12, L_13, L_20, L_24, L_26, L_30, L_31, L_32, L_39, L_40, L_48, L_57, L_76, L_80, L_90, L_91, L_97, L_99, L_100, L_255, L_273, L_1000, L_2000, q_ld, q_ldL, q_sto, q_stoL, q_add, q_sub, q_mul, q_dec, q_rem, q_div, q_lt_t, q_lt_f, q_le_t, q_le_f, q_eq_t, q_eq_f, q_em, q_me, q_ml, q_lm, q_mle, q_lem, q_s1, q_s1o, q_s1k, q_s12, q_s2, q_s2o, q_s2k, q_s21, Nat.add_sub_cancel, q_or, q_and, q_shl, true_or, or_true, false_or, or_false, true_and, and_true, false_and, and_false, not_true_eq_false, not_false_eq_true, ne_eq], q_s1 _ _ _ _, fun j hj => by omega, fun j hj => by simp (disch := omega) only [Option.bind_some, ↓reduceIte, ↓M_1, ↓M_2, L_0, L_1, L_2, L_3, L_4, L_5, L_6, L_7, L_8, L_9, L_10, L_11, L_12, L_13, L_20, L_24, L_26, L_30, L_31, L_32, L_39, L_40, L_48, L_57, L_76, L_80, L_90, L_91, L_97, L_99, L_100, L_255, L_273, L_1000, L_2000, q_ld, q_ldL, q_sto, q_stoL, q_add, q_sub, q_mul, q_dec, q_rem, q_div, q_lt_t, q_lt_f, q_le_t, q_le_f, q_eq_t, q_eq_f, q_em, q_me, q_ml, q_lm, q_mle, q_lem, q_s1, q_s1o, q_s1k, q_s12, q_s2, q_s2o, q_s2k, q_s21, Nat.add_sub_cancel, q_or, q_and, q_shl, true_or, or_true, false_or, or_false, true_and, and_true, false_and, and_false, not_true_eq_false, not_false_eq_true, ne_eq]⟩
  · rintro f k u hk ⟨h1, h2, h3, h4, h5, h6⟩
    refine Or.inl ⟨s1 u 22 (273 * i + k) (t.1 9 k), ?_, by omega, h2.tr (Fm.w1 (by decide) (by decide)), fun j hj => ?_, ?_, fun j hj => ?_, fun j hj => ?_⟩
    · rw [gM_EachAddsALineModel_keep_25]
      simp (disch := omega) only [Option.bind_some, ↓reduceIte, ↓M_1, ↓M_2, L_0, L_1, L_2, L_3, L_4, L_5, L_6, L_7, L_8, L_9, L_10, L_11, L_12, L_13, L_20, L_24, L_26, L_30, L_31, L_32, L_39, L_40, L_48, L_57, L_76, L_80, L_90, L_91, L_97, L_99, L_100, L_255, L_273, L_1000, L_2000, q_ld, q_ldL, q_sto, q_stoL, q_add, q_sub, q_mul, q_dec, q_rem, q_div, q_lt_t, q_lt_f, q_le_t, q_le_f, q_eq_t, q_eq_f, q_em, q_me, q_ml, q_lm, q_mle, q_lem, q_s1, q_s1o, q_s1k, q_s12, q_s2, q_s2o, q_s2k, q_s21, Nat.add_sub_cancel, q_or, q_and, q_shl, true_or, or_true, false_or, or_false, true_and, and_true, false_and, and_false, not_true_eq_false, not_false_eq_true, ne_eq, h2.1 9 (by decide) (by decide)]
    · simp (disch := omega) only [Option.bind_some, ↓reduceIte, ↓M_1, ↓M_2, L_0, L_1, L_2, L_3, L_4, L_5, L_6, L_7, L_8, L_9, L_10, L_11, L_12, L_13, L_20, L_24, L_26, L_30, L_31, L_32, L_39, L_40, L_48, L_57, L_76, L_80, L_90, L_91, L_97, L_99, L_100, L_255, L_273, L_1000, L_2000, q_ld, q_ldL, q_sto, q_stoL, q_add, q_sub, q_mul, q_dec, q_rem, q_div, q_lt_t, q_lt_f, q_le_t, q_le_f, q_eq_t, q_eq_f, q_em, q_me, q_ml, q_lm, q_mle, q_lem, q_s1, q_s1o, q_s1k, q_s12, q_s2, q_s2o, q_s2k, q_s21, Nat.add_sub_cancel, q_or, q_and, q_shl, true_or, or_true, false_or, or_false, true_and, and_true, false_and, and_false, not_true_eq_false, not_false_eq_true, ne_eq]; exact h3 j hj
    · simp (disch := omega) only [Option.bind_some, ↓reduceIte, ↓M_1, ↓M_2, L_0, L_1, L_2, L_3, L_4, L_5, L_6, L_7, L_8, L_9, L_10, L_11, L_12, L_13, L_20, L_24, L_26, L_30, L_31, L_32, L_39, L_40, L_48, L_57, L_76, L_80, L_90, L_91, L_97, L_99, L_100, L_255, L_273, L_1000, L_2000, q_ld, q_ldL, q_sto, q_stoL, q_add, q_sub, q_mul, q_dec, q_rem, q_div, q_lt_t, q_lt_f, q_le_t, q_le_f, q_eq_t, q_eq_f, q_em, q_me, q_ml, q_lm, q_mle, q_lem, q_s1, q_s1o, q_s1k, q_s12, q_s2, q_s2o, q_s2k, q_s21, Nat.add_sub_cancel, q_or, q_and, q_shl, true_or, or_true, false_or, or_false, true_and, and_true, false_and, and_false, not_true_eq_false, not_false_eq_true, ne_eq]; exact h4
    · by_cases d : j = k
      · subst d; exact q_s1 _ _ _ _
      · rw [q_s1k (by omega)]; exact h5 j (by omega)
    · simp (disch := omega) only [Option.bind_some, ↓reduceIte, ↓M_1, ↓M_2, L_0, L_1, L_2, L_3, L_4, L_5, L_6, L_7, L_8, L_9, L_10, L_11, L_12, L_13, L_20, L_24, L_26, L_30, L_31, L_32, L_39, L_40, L_48, L_57, L_76, L_80, L_90, L_91, L_97, L_99, L_100, L_255, L_273, L_1000, L_2000, q_ld, q_ldL, q_sto, q_stoL, q_add, q_sub, q_mul, q_dec, q_rem, q_div, q_lt_t, q_lt_f, q_le_t, q_le_f, q_eq_t, q_eq_f, q_em, q_me, q_ml, q_lm, q_mle, q_lem, q_s1, q_s1o, q_s1k, q_s12, q_s2, q_s2o, q_s2k, q_s21, Nat.add_sub_cancel, q_or, q_and, q_shl, true_or, or_true, false_or, or_false, true_and, and_true, false_and, and_false, not_true_eq_false, not_false_eq_true, ne_eq]; exact h6 j hj
  · rintro f u ⟨h1, h2, h3, h4, h5, h6⟩
    refine ⟨u, ?_, h2, h3, h4, h5, h6⟩
    show gM_EachAddsALineModel_keep_25 N (f + 1) (nI i) (nI 273) u = _
    rw [gM_EachAddsALineModel_keep_25]
    simp (disch := omega) only [Option.bind_some, ↓reduceIte, ↓M_1, ↓M_2, L_0, L_1, L_2, L_3, L_4, L_5, L_6, L_7, L_8, L_9, L_10, L_11, L_12, L_13, L_20, L_24, L_26, L_30, L_31, L_32, L_39, L_40, L_48, L_57, L_76, L_80, L_90, L_91, L_97, L_99, L_100, L_255, L_273, L_1000, L_2000, q_ld, q_ldL, q_sto, q_stoL, q_add, q_sub, q_mul, q_dec, q_rem, q_div, q_lt_t, q_lt_f, q_le_t, q_le_f, q_eq_t, q_eq_f, q_em, q_me, q_ml, q_lm, q_mle, q_lem, q_s1, q_s1o, q_s1k, q_s12, q_s2, q_s2o, q_s2k, q_s21, Nat.add_sub_cancel, q_or, q_and, q_shl, true_or, or_true, false_or, or_false, true_and, and_true, false_and, and_false, not_true_eq_false, not_false_eq_true, ne_eq]
theorem M_again (hN : 300 ≤ N) {i : Nat} (hi : i < 2) (h1 : t.1 23 i = nI 1) : ∃ t', fM_EachAddsALineModel_again N (nI i) t = some (nI 1, t') ∧ Fm [9] [] [11] t t' ∧ ∀ k, k < 273 → t'.1 9 k = t.1 22 (273 * i + k) := by
  simp (disch := omega) only [Option.bind_some, ↓reduceIte, ↓M_1, ↓M_2, L_0, L_1, L_2, L_3, L_4, L_5, L_6, L_7, L_8, L_9, L_10, L_11, L_12, L_13, L_20, L_24, L_26, L_30, L_31, L_32, L_39, L_40, L_48, L_57, L_76, L_80, L_90, L_91, L_97, L_99, L_100, L_255, L_273, L_1000, L_2000, q_ld, q_ldL, q_sto, q_stoL, q_add, q_sub, q_mul, q_dec, q_rem, q_div, q_lt_t, q_lt_f, q_le_t, q_le_f, q_eq_t, q_eq_f, q_em, q_me, q_ml, q_lm, q_mle, q_lem, q_s1, q_s1o, q_s1k, q_s12, q_s2, q_s2o, q_s2k, q_s21, Nat.add_sub_cancel, q_or, q_and, q_shl, true_or, or_true, false_or, or_false, true_and, and_true, false_and, and_false, not_true_eq_false, not_false_eq_true, ne_eq, fM_EachAddsALineModel_again, gM_EachAddsALineModel_again_0, M_in_any, h1]
  refine loopU (fun f k u => gM_EachAddsALineModel_again_27 N f (nI i) (nI k) u) 273 (fun k u => k ≤ 273 ∧ Fm [9] [] [11] t u ∧ ∀ j, j < k → u.1 9 j = t.1 22 (273 * i + j)) (fun o => ∃ t', o = some (nI 1, t') ∧ Fm [9] [] [11] t t' ∧ ∀ k, k < 273 → t'.1 9 k = t.1 22 (273 * i + k)) ?_ ?_ 273 N 0 _ (by omega) (by omega) ⟨by omega, Fm.w10 (by decide), fun j hj => by omega⟩
  · rintro f k u hk ⟨h1, h2, h3⟩
    refine Or.inl ⟨s1 u 9 k (t.1 22 (273 * i + k)), ?_, by omega, h2.tr (Fm.w1 (by decide) (by decide)), fun j hj => ?_⟩
    · rw [gM_EachAddsALineModel_again_27]
      simp (disch := omega) only [Option.bind_some, ↓reduceIte, ↓M_1, ↓M_2, L_0, L_1, L_2, L_3, L_4, L_5, L_6, L_7, L_8, L_9, L_10, L_11, L_12, L_13, L_20, L_24, L_26, L_30, L_31, L_32, L_39, L_40, L_48, L_57, L_76, L_80, L_90, L_91, L_97, L_99, L_100, L_255, L_273, L_1000, L_2000, q_ld, q_ldL, q_sto, q_stoL, q_add, q_sub, q_mul, q_dec, q_rem, q_div, q_lt_t, q_lt_f, q_le_t, q_le_f, q_eq_t, q_eq_f, q_em, q_me, q_ml, q_lm, q_mle, q_lem, q_s1, q_s1o, q_s1k, q_s12, q_s2, q_s2o, q_s2k, q_s21, Nat.add_sub_cancel, q_or, q_and, q_shl, true_or, or_true, false_or, or_false, true_and, and_true, false_and, and_false, not_true_eq_false, not_false_eq_true, ne_eq, h2.1 22 (by decide) (by decide)]
    · by_cases d : j = k
      · subst d; exact q_s1 _ _ _ _
      · rw [q_s1k (by omega)]; exact h3 j (by omega)
  · rintro f u ⟨h1, h2, h3⟩
    refine ⟨u, ?_, h2, h3⟩
    show gM_EachAddsALineModel_again_27 N (f + 1) (nI i) (nI 273) u = _
    rw [gM_EachAddsALineModel_again_27]
    simp (disch := omega) only [Option.bind_some, ↓reduceIte, ↓M_1, ↓M_2, L_0, L_1, L_2, L_3, L_4, L_5, L_6, L_7, L_8, L_9, L_10, L_11, L_12, L_13, L_20, L_24, L_26, L_30, L_31, L_32, L_39, L_40, L_48, L_57, L_76, L_80, L_90, L_91, L_97, L_99, L_100, L_255, L_273, L_1000, L_2000, q_ld, q_ldL, q_sto, q_stoL, q_add, q_sub, q_mul, q_dec, q_rem, q_div, q_lt_t, q_lt_f, q_le_t, q_le_f, q_eq_t, q_eq_f, q_em, q_me, q_ml, q_lm, q_mle, q_lem, q_s1, q_s1o, q_s1k, q_s12, q_s2, q_s2o, q_s2k, q_s21, Nat.add_sub_cancel, q_or, q_and, q_shl, true_or, or_true, false_or, or_false, true_and, and_true, false_and, and_false, not_true_eq_false, not_false_eq_true, ne_eq]
theorem C_keep {i : Nat} (hi : i < 2) : ∃ s', fC_EachAddsALine_keep N (nI i) s = some (nI 1, s') ∧ Fr [25, 31 + 5 * i + 1, 31 + 5 * i + 2, 31 + 5 * i + 3, 31 + 5 * i + 4] [] s s' ∧ (∀ k, k ≠ i → s'.1 25 k = s.1 25 k) ∧ s'.1 25 i = nI 1 ∧ (∀ k, k < 3 → s'.1 (31 + 5 * i + 1) k = s.1 27 k) ∧ ∀ k, k < 90 → s'.1 (31 + 5 * i + 2) k = s.1 28 k ∧ s'.1 (31 + 5 * i + 3) k = s.1 29 k ∧ s'.1 (31 + 5 * i + 4) k = s.1 30 k := by
  have ei : i = 0 ∨ i = 1 := by omega
  rcases ei with rfl | rfl
  · obtain ⟨u, e, f, g1, g2⟩ := cp4 (s := s) (a := 27) (b := 28) (c := 29) (d := 30) (a' := 32) (b' := 33) (c' := 34) (d' := 35) (by decide) (by decide)
    refine ⟨s1 u 25 0 (nI 1), ?_, (f.mono (by decide) (by decide)).tr (Fr.s1 (by decide)), fun k hk => ?_, q_s1 _ _ _ _, fun k hk => ?_, fun k hk => ?_⟩
    · rw [fC_EachAddsALine_keep, gC_EachAddsALine_keep_0, fC_Post_store, gC_Post_store_0, if_neg (by decide), if_pos (by decide), if_pos (by decide), fC_Letters_take_kept0_letters, gC_Letters_take_kept0_letters_0, e, nar_b1]
      simp (disch := omega) only [Option.bind_some, ↓reduceIte, ↓M_1, ↓M_2, L_0, L_1, L_2, L_3, L_4, L_5, L_6, L_7, L_8, L_9, L_10, L_11, L_12, L_13, L_20, L_24, L_26, L_30, L_31, L_32, L_39, L_40, L_48, L_57, L_76, L_80, L_90, L_91, L_97, L_99, L_100, L_255, L_273, L_1000, L_2000, q_ld, q_ldL, q_sto, q_stoL, q_add, q_sub, q_mul, q_dec, q_rem, q_div, q_lt_t, q_lt_f, q_le_t, q_le_f, q_eq_t, q_eq_f, q_em, q_me, q_ml, q_lm, q_mle, q_lem, q_s1, q_s1o, q_s1k, q_s12, q_s2, q_s2o, q_s2k, q_s21, Nat.add_sub_cancel, q_or, q_and, q_shl, true_or, or_true, false_or, or_false, true_and, and_true, false_and, and_false, not_true_eq_false, not_false_eq_true, ne_eq]
    · rw [q_s1k hk, f.1 25 (by decide)]
    · rw [q_s1o (by decide)]; exact g1 k hk
    · rw [q_s1o (by decide), q_s1o (by decide), q_s1o (by decide)]; exact g2 k hk
  · obtain ⟨u, e, f, g1, g2⟩ := cp4 (s := s) (a := 27) (b := 28) (c := 29) (d := 30) (a' := 37) (b' := 38) (c' := 39) (d' := 40) (by decide) (by decide)
    refine ⟨s1 u 25 1 (nI 1), ?_, (f.mono (by decide) (by decide)).tr (Fr.s1 (by decide)), fun k hk => ?_, q_s1 _ _ _ _, fun k hk => ?_, fun k hk => ?_⟩
    · rw [fC_EachAddsALine_keep, gC_EachAddsALine_keep_0, fC_Post_store, gC_Post_store_0, if_neg (by decide), if_pos (by decide), if_neg (by decide), if_pos (by decide), fC_Letters_take_kept1_letters, gC_Letters_take_kept1_letters_0, e, nar_b1]
      simp (disch := omega) only [Option.bind_some, ↓reduceIte, ↓M_1, ↓M_2, L_0, L_1, L_2, L_3, L_4, L_5, L_6, L_7, L_8, L_9, L_10, L_11, L_12, L_13, L_20, L_24, L_26, L_30, L_31, L_32, L_39, L_40, L_48, L_57, L_76, L_80, L_90, L_91, L_97, L_99, L_100, L_255, L_273, L_1000, L_2000, q_ld, q_ldL, q_sto, q_stoL, q_add, q_sub, q_mul, q_dec, q_rem, q_div, q_lt_t, q_lt_f, q_le_t, q_le_f, q_eq_t, q_eq_f, q_em, q_me, q_ml, q_lm, q_mle, q_lem, q_s1, q_s1o, q_s1k, q_s12, q_s2, q_s2o, q_s2k, q_s21, Nat.add_sub_cancel, q_or, q_and, q_shl, true_or, or_true, false_or, or_false, true_and, and_true, false_and, and_false, not_true_eq_false, not_false_eq_true, ne_eq]
    · rw [q_s1k hk, f.1 25 (by decide)]
    · rw [q_s1o (by decide)]; exact g1 k hk
    · rw [q_s1o (by decide), q_s1o (by decide), q_s1o (by decide)]; exact g2 k hk
theorem C_again {i : Nat} (hi : i < 2) (h1 : s.1 25 i = nI 1) : ∃ s', fC_EachAddsALine_again N (nI i) s = some (nI 1, s') ∧ Fr [27, 28, 29, 30] [] s s' ∧ (∀ k, k < 3 → s'.1 27 k = s.1 (31 + 5 * i + 1) k) ∧ ∀ k, k < 90 → s'.1 28 k = s.1 (31 + 5 * i + 2) k ∧ s'.1 29 k = s.1 (31 + 5 * i + 3) k ∧ s'.1 30 k = s.1 (31 + 5 * i + 4) k := by
  have ei : i = 0 ∨ i = 1 := by omega
  rcases ei with rfl | rfl
  · obtain ⟨u, e, f, g1, g2⟩ := cp4 (s := s) (a := 32) (b := 33) (c := 34) (d := 35) (a' := 27) (b' := 28) (c' := 29) (d' := 30) (by decide) (by decide)
    refine ⟨u, ?_, f, g1, g2⟩
    rw [fC_EachAddsALine_again, gC_EachAddsALine_again_0, fC_Post_fetch, gC_Post_fetch_0, if_neg (by decide), if_neg (by decide), ld_n (by omega), h1, Option.bind_some, if_neg (by decide), if_pos (by decide), fC_Letters_take_letters_kept0, gC_Letters_take_letters_kept0_0, e]
    simp (disch := omega) only [Option.bind_some, ↓reduceIte, ↓M_1, ↓M_2, L_0, L_1, L_2, L_3, L_4, L_5, L_6, L_7, L_8, L_9, L_10, L_11, L_12, L_13, L_20, L_24, L_26, L_30, L_31, L_32, L_39, L_40, L_48, L_57, L_76, L_80, L_90, L_91, L_97, L_99, L_100, L_255, L_273, L_1000, L_2000, q_ld, q_ldL, q_sto, q_stoL, q_add, q_sub, q_mul, q_dec, q_rem, q_div, q_lt_t, q_lt_f, q_le_t, q_le_f, q_eq_t, q_eq_f, q_em, q_me, q_ml, q_lm, q_mle, q_lem, q_s1, q_s1o, q_s1k, q_s12, q_s2, q_s2o, q_s2k, q_s21, Nat.add_sub_cancel, q_or, q_and, q_shl, true_or, or_true, false_or, or_false, true_and, and_true, false_and, and_false, not_true_eq_false, not_false_eq_true, ne_eq]
  · obtain ⟨u, e, f, g1, g2⟩ := cp4 (s := s) (a := 37) (b := 38) (c := 39) (d := 40) (a' := 27) (b' := 28) (c' := 29) (d' := 30) (by decide) (by decide)
    refine ⟨u, ?_, f, g1, g2⟩
    rw [fC_EachAddsALine_again, gC_EachAddsALine_again_0, fC_Post_fetch, gC_Post_fetch_0, if_neg (by decide), if_neg (by decide), ld_n (by omega), h1, Option.bind_some, if_neg (by decide), if_neg (by decide), if_pos (by decide), fC_Letters_take_letters_kept1, gC_Letters_take_letters_kept1_0, e]
    simp (disch := omega) only [Option.bind_some, ↓reduceIte, ↓M_1, ↓M_2, L_0, L_1, L_2, L_3, L_4, L_5, L_6, L_7, L_8, L_9, L_10, L_11, L_12, L_13, L_20, L_24, L_26, L_30, L_31, L_32, L_39, L_40, L_48, L_57, L_76, L_80, L_90, L_91, L_97, L_99, L_100, L_255, L_273, L_1000, L_2000, q_ld, q_ldL, q_sto, q_stoL, q_add, q_sub, q_mul, q_dec, q_rem, q_div, q_lt_t, q_lt_f, q_le_t, q_le_f, q_eq_t, q_eq_f, q_em, q_me, q_ml, q_lm, q_mle, q_lem, q_s1, q_s1o, q_s1k, q_s12, q_s2, q_s2o, q_s2k, q_s21, Nat.add_sub_cancel, q_or, q_and, q_shl, true_or, or_true, false_or, or_false, true_and, and_true, false_and, and_false, not_true_eq_false, not_false_eq_true, ne_eq]
theorem k_keep (hU : okU U) (hN : 300 ≤ N) : keeps1 N (RR U) fC_EachAddsALine_keep fM_EachAddsALineModel_keep := fun s t h v => by
  obtain ⟨w, h1, h2, h3, h4, h5, h6, h7, h8, h9⟩ := id h
  have none : fC_EachAddsALine_keep N v s = some (nI 0, s) → fM_EachAddsALineModel_keep N v t = some (nI 0, s1 t 0 11 (nI 0)) → ∃ r s' t', fC_EachAddsALine_keep N v s = some (r, s') ∧ fM_EachAddsALineModel_keep N v t = some (r, t') ∧ RR U s' t' := fun a1 a2 => ⟨_, _, _, a1, a2, h.fr hU (Fr.rf (L := []) (K := [])) (Fm.w10 (L := []) (K := []) (F := [11]) (by decide)) (by decide) (by decide) (by decide)⟩
  rcases pk_ix v (n := 2) (by omega) with hv | hv | ⟨i, hi, rfl⟩
  · refine none ?_ ?_
    · simp (disch := omega) only [Option.bind_some, ↓reduceIte, ↓M_1, ↓M_2, L_0, L_1, L_2, L_3, L_4, L_5, L_6, L_7, L_8, L_9, L_10, L_11, L_12, L_13, L_20, L_24, L_26, L_30, L_31, L_32, L_39, L_40, L_48, L_57, L_76, L_80, L_90, L_91, L_97, L_99, L_100, L_255, L_273, L_1000, L_2000, q_ld, q_ldL, q_sto, q_stoL, q_add, q_sub, q_mul, q_dec, q_rem, q_div, q_lt_t, q_lt_f, q_le_t, q_le_f, q_eq_t, q_eq_f, q_em, q_me, q_ml, q_lm, q_mle, q_lem, q_s1, q_s1o, q_s1k, q_s12, q_s2, q_s2o, q_s2k, q_s21, Nat.add_sub_cancel, q_or, q_and, q_shl, true_or, or_true, false_or, or_false, true_and, and_true, false_and, and_false, not_true_eq_false, not_false_eq_true, ne_eq, fC_EachAddsALine_keep, gC_EachAddsALine_keep_0, fC_Post_store, gC_Post_store_0, neg_lt hv, neg_nle hv, neg_ne hv, neg_le hv]
    · simp (disch := omega) only [Option.bind_some, ↓reduceIte, ↓M_1, ↓M_2, L_0, L_1, L_2, L_3, L_4, L_5, L_6, L_7, L_8, L_9, L_10, L_11, L_12, L_13, L_20, L_24, L_26, L_30, L_31, L_32, L_39, L_40, L_48, L_57, L_76, L_80, L_90, L_91, L_97, L_99, L_100, L_255, L_273, L_1000, L_2000, q_ld, q_ldL, q_sto, q_stoL, q_add, q_sub, q_mul, q_dec, q_rem, q_div, q_lt_t, q_lt_f, q_le_t, q_le_f, q_eq_t, q_eq_f, q_em, q_me, q_ml, q_lm, q_mle, q_lem, q_s1, q_s1o, q_s1k, q_s12, q_s2, q_s2o, q_s2k, q_s21, Nat.add_sub_cancel, q_or, q_and, q_shl, true_or, or_true, false_or, or_false, true_and, and_true, false_and, and_false, not_true_eq_false, not_false_eq_true, ne_eq, fM_EachAddsALineModel_keep, gM_EachAddsALineModel_keep_0, M_in_any, neg_lt hv, neg_nle hv, neg_ne hv, neg_le hv]
  · refine none ?_ ?_
    · simp (disch := omega) only [Option.bind_some, ↓reduceIte, ↓M_1, ↓M_2, L_0, L_1, L_2, L_3, L_4, L_5, L_6, L_7, L_8, L_9, L_10, L_11, L_12, L_13, L_20, L_24, L_26, L_30, L_31, L_32, L_39, L_40, L_48, L_57, L_76, L_80, L_90, L_91, L_97, L_99, L_100, L_255, L_273, L_1000, L_2000, q_ld, q_ldL, q_sto, q_stoL, q_add, q_sub, q_mul, q_dec, q_rem, q_div, q_lt_t, q_lt_f, q_le_t, q_le_f, q_eq_t, q_eq_f, q_em, q_me, q_ml, q_lm, q_mle, q_lem, q_s1, q_s1o, q_s1k, q_s12, q_s2, q_s2o, q_s2k, q_s21, Nat.add_sub_cancel, q_or, q_and, q_shl, true_or, or_true, false_or, or_false, true_and, and_true, false_and, and_false, not_true_eq_false, not_false_eq_true, ne_eq, fC_EachAddsALine_keep, gC_EachAddsALine_keep_0, fC_Post_store, gC_Post_store_0, big_nlt hv, big_lt hv, big_nle hv, big_ne hv, big_le hv, ite_self]
    · simp (disch := omega) only [Option.bind_some, ↓reduceIte, ↓M_1, ↓M_2, L_0, L_1, L_2, L_3, L_4, L_5, L_6, L_7, L_8, L_9, L_10, L_11, L_12, L_13, L_20, L_24, L_26, L_30, L_31, L_32, L_39, L_40, L_48, L_57, L_76, L_80, L_90, L_91, L_97, L_99, L_100, L_255, L_273, L_1000, L_2000, q_ld, q_ldL, q_sto, q_stoL, q_add, q_sub, q_mul, q_dec, q_rem, q_div, q_lt_t, q_lt_f, q_le_t, q_le_f, q_eq_t, q_eq_f, q_em, q_me, q_ml, q_lm, q_mle, q_lem, q_s1, q_s1o, q_s1k, q_s12, q_s2, q_s2o, q_s2k, q_s21, Nat.add_sub_cancel, q_or, q_and, q_shl, true_or, or_true, false_or, or_false, true_and, and_true, false_and, and_false, not_true_eq_false, not_false_eq_true, ne_eq, fM_EachAddsALineModel_keep, gM_EachAddsALineModel_keep_0, M_in_any, big_nlt hv, big_lt hv, big_nle hv, big_ne hv, big_le hv]
  · obtain ⟨s', a1, a2, a3, a4, a5, a6⟩ := C_keep (N := N) (s := s) hi
    obtain ⟨t', b1, b2, b3, b4, b5, b6⟩ := M_keep (t := t) hN hi
    have L3 : ∀ o, o < 25 ∨ (25 < o ∧ o < 32) ∨ 40 < o → o ∉ [25, 31 + 5 * i + 1, 31 + 5 * i + 2, 31 + 5 * i + 3, 31 + 5 * i + 4] := fun o ho => by
      simp only [List.mem_cons, List.not_mem_nil, or_false]
      omega
    refine ⟨_, s', t', a1, b1, w, h1.fr a2 ⟨L3 _ (by decide), L3 _ (by decide), L3 _ (by decide), L3 _ (by decide), L3 _ (by decide), L3 _ (by decide), L3 _ (by decide)⟩, h2.fm b2 (by decide) (by decide), h3.fr a2 b2 ⟨L3 _ (by decide), L3 _ (by decide)⟩ (by decide), h4.fr a2 b2 ⟨L3 _ (by decide), L3 _ (by decide)⟩ (by decide), h5.fr a2 b2 ⟨L3 _ (by decide), L3 _ (by decide)⟩ (by decide), h6.fr a2 b2 ⟨L3 _ (by decide), L3 _ (by decide)⟩ (by decide), ⟨h7.1.fr a2 b2 ⟨L3 _ (by decide), L3 _ (by decide), L3 _ (by decide), L3 _ (by decide)⟩ (by decide), fun j hj => ?_⟩, hU.fr h8 a2 b2 ⟨L3 _ (by decide), L3 _ (by decide)⟩ (by decide), h9.fr b2 (by decide)⟩
    by_cases d : j = i
    · subst d
      refine Or.inr ⟨a4, b4, h7.1.cp a5 a6 (fun k hk => ?_)⟩
      rw [b5 k hk, Nat.zero_add]
    · have L5 : ∀ q, 31 + 5 * j < q → q ≤ 31 + 5 * j + 4 → q ∉ [25, 31 + 5 * i + 1, 31 + 5 * i + 2, 31 + 5 * i + 3, 31 + 5 * i + 4] := fun o ho ho2 => by
        simp only [List.mem_cons, List.not_mem_nil, or_false]
        omega
      rw [a3 j d, b3 j d]
      refine (h7.2 j hj).imp id (fun z => ⟨z.1, z.2.1, z.2.2.cp (fun k hk => ?_) (fun k hk => ⟨?_, ?_, ?_⟩) (fun k hk => b6 _ (by omega))⟩)
      · rw [a2.1 _ (L5 _ (by omega) (by omega))]
      · rw [a2.1 _ (L5 _ (by omega) (by omega))]
      · rw [a2.1 _ (L5 _ (by omega) (by omega))]
      · rw [a2.1 _ (L5 _ (by omega) (by omega))]
theorem k_again (hU : okU U) (hN : 300 ≤ N) : keeps1 N (RR U) fC_EachAddsALine_again fM_EachAddsALineModel_again := fun s t h v => by
  obtain ⟨w, h1, h2, h3, h4, h5, h6, h7, h8, h9⟩ := id h
  have none : fC_EachAddsALine_again N v s = some (nI 0, s) → fM_EachAddsALineModel_again N v t = some (nI 0, s1 t 0 11 (nI 0)) → ∃ r s' t', fC_EachAddsALine_again N v s = some (r, s') ∧ fM_EachAddsALineModel_again N v t = some (r, t') ∧ RR U s' t' := fun a1 a2 => ⟨_, _, _, a1, a2, h.fr hU (Fr.rf (L := []) (K := [])) (Fm.w10 (L := []) (K := []) (F := [11]) (by decide)) (by decide) (by decide) (by decide)⟩
  rcases pk_ix v (n := 2) (by omega) with hv | hv | ⟨i, hi, rfl⟩
  · refine none ?_ ?_
    · simp (disch := omega) only [Option.bind_some, ↓reduceIte, ↓M_1, ↓M_2, L_0, L_1, L_2, L_3, L_4, L_5, L_6, L_7, L_8, L_9, L_10, L_11, L_12, L_13, L_20, L_24, L_26, L_30, L_31, L_32, L_39, L_40, L_48, L_57, L_76, L_80, L_90, L_91, L_97, L_99, L_100, L_255, L_273, L_1000, L_2000, q_ld, q_ldL, q_sto, q_stoL, q_add, q_sub, q_mul, q_dec, q_rem, q_div, q_lt_t, q_lt_f, q_le_t, q_le_f, q_eq_t, q_eq_f, q_em, q_me, q_ml, q_lm, q_mle, q_lem, q_s1, q_s1o, q_s1k, q_s12, q_s2, q_s2o, q_s2k, q_s21, Nat.add_sub_cancel, q_or, q_and, q_shl, true_or, or_true, false_or, or_false, true_and, and_true, false_and, and_false, not_true_eq_false, not_false_eq_true, ne_eq, fC_EachAddsALine_again, gC_EachAddsALine_again_0, fC_Post_fetch, gC_Post_fetch_0, neg_lt hv, neg_nle hv, neg_ne hv, neg_le hv]
    · simp (disch := omega) only [Option.bind_some, ↓reduceIte, ↓M_1, ↓M_2, L_0, L_1, L_2, L_3, L_4, L_5, L_6, L_7, L_8, L_9, L_10, L_11, L_12, L_13, L_20, L_24, L_26, L_30, L_31, L_32, L_39, L_40, L_48, L_57, L_76, L_80, L_90, L_91, L_97, L_99, L_100, L_255, L_273, L_1000, L_2000, q_ld, q_ldL, q_sto, q_stoL, q_add, q_sub, q_mul, q_dec, q_rem, q_div, q_lt_t, q_lt_f, q_le_t, q_le_f, q_eq_t, q_eq_f, q_em, q_me, q_ml, q_lm, q_mle, q_lem, q_s1, q_s1o, q_s1k, q_s12, q_s2, q_s2o, q_s2k, q_s21, Nat.add_sub_cancel, q_or, q_and, q_shl, true_or, or_true, false_or, or_false, true_and, and_true, false_and, and_false, not_true_eq_false, not_false_eq_true, ne_eq, fM_EachAddsALineModel_again, gM_EachAddsALineModel_again_0, M_in_any, neg_lt hv, neg_nle hv, neg_ne hv, neg_le hv]
  · refine none ?_ ?_
    · simp (disch := omega) only [Option.bind_some, ↓reduceIte, ↓M_1, ↓M_2, L_0, L_1, L_2, L_3, L_4, L_5, L_6, L_7, L_8, L_9, L_10, L_11, L_12, L_13, L_20, L_24, L_26, L_30, L_31, L_32, L_39, L_40, L_48, L_57, L_76, L_80, L_90, L_91, L_97, L_99, L_100, L_255, L_273, L_1000, L_2000, q_ld, q_ldL, q_sto, q_stoL, q_add, q_sub, q_mul, q_dec, q_rem, q_div, q_lt_t, q_lt_f, q_le_t, q_le_f, q_eq_t, q_eq_f, q_em, q_me, q_ml, q_lm, q_mle, q_lem, q_s1, q_s1o, q_s1k, q_s12, q_s2, q_s2o, q_s2k, q_s21, Nat.add_sub_cancel, q_or, q_and, q_shl, true_or, or_true, false_or, or_false, true_and, and_true, false_and, and_false, not_true_eq_false, not_false_eq_true, ne_eq, fC_EachAddsALine_again, gC_EachAddsALine_again_0, fC_Post_fetch, gC_Post_fetch_0, big_nlt hv, big_lt hv, big_nle hv, big_ne hv, big_le hv, ite_self]
    · simp (disch := omega) only [Option.bind_some, ↓reduceIte, ↓M_1, ↓M_2, L_0, L_1, L_2, L_3, L_4, L_5, L_6, L_7, L_8, L_9, L_10, L_11, L_12, L_13, L_20, L_24, L_26, L_30, L_31, L_32, L_39, L_40, L_48, L_57, L_76, L_80, L_90, L_91, L_97, L_99, L_100, L_255, L_273, L_1000, L_2000, q_ld, q_ldL, q_sto, q_stoL, q_add, q_sub, q_mul, q_dec, q_rem, q_div, q_lt_t, q_lt_f, q_le_t, q_le_f, q_eq_t, q_eq_f, q_em, q_me, q_ml, q_lm, q_mle, q_lem, q_s1, q_s1o, q_s1k, q_s12, q_s2, q_s2o, q_s2k, q_s21, Nat.add_sub_cancel, q_or, q_and, q_shl, true_or, or_true, false_or, or_false, true_and, and_true, false_and, and_false, not_true_eq_false, not_false_eq_true, ne_eq, fM_EachAddsALineModel_again, gM_EachAddsALineModel_again_0, M_in_any, big_nlt hv, big_lt hv, big_nle hv, big_ne hv, big_le hv]
  · rcases h7.2 i hi with ⟨z1, z2⟩ | ⟨z1, z2, z3⟩
    · refine none ?_ ?_
      · simp (disch := omega) only [Option.bind_some, ↓reduceIte, ↓M_1, ↓M_2, L_0, L_1, L_2, L_3, L_4, L_5, L_6, L_7, L_8, L_9, L_10, L_11, L_12, L_13, L_20, L_24, L_26, L_30, L_31, L_32, L_39, L_40, L_48, L_57, L_76, L_80, L_90, L_91, L_97, L_99, L_100, L_255, L_273, L_1000, L_2000, q_ld, q_ldL, q_sto, q_stoL, q_add, q_sub, q_mul, q_dec, q_rem, q_div, q_lt_t, q_lt_f, q_le_t, q_le_f, q_eq_t, q_eq_f, q_em, q_me, q_ml, q_lm, q_mle, q_lem, q_s1, q_s1o, q_s1k, q_s12, q_s2, q_s2o, q_s2k, q_s21, Nat.add_sub_cancel, q_or, q_and, q_shl, true_or, or_true, false_or, or_false, true_and, and_true, false_and, and_false, not_true_eq_false, not_false_eq_true, ne_eq, fC_EachAddsALine_again, gC_EachAddsALine_again_0, fC_Post_fetch, gC_Post_fetch_0, z1]
      · simp (disch := omega) only [Option.bind_some, ↓reduceIte, ↓M_1, ↓M_2, L_0, L_1, L_2, L_3, L_4, L_5, L_6, L_7, L_8, L_9, L_10, L_11, L_12, L_13, L_20, L_24, L_26, L_30, L_31, L_32, L_39, L_40, L_48, L_57, L_76, L_80, L_90, L_91, L_97, L_99, L_100, L_255, L_273, L_1000, L_2000, q_ld, q_ldL, q_sto, q_stoL, q_add, q_sub, q_mul, q_dec, q_rem, q_div, q_lt_t, q_lt_f, q_le_t, q_le_f, q_eq_t, q_eq_f, q_em, q_me, q_ml, q_lm, q_mle, q_lem, q_s1, q_s1o, q_s1k, q_s12, q_s2, q_s2o, q_s2k, q_s21, Nat.add_sub_cancel, q_or, q_and, q_shl, true_or, or_true, false_or, or_false, true_and, and_true, false_and, and_false, not_true_eq_false, not_false_eq_true, ne_eq, fM_EachAddsALineModel_again, gM_EachAddsALineModel_again_0, M_in_any, z2]
    · obtain ⟨s', a1, a2, a3, a4⟩ := C_again (N := N) (s := s) hi z1
      obtain ⟨t', b1, b2, b3⟩ := M_again (t := t) hN hi z2
      refine ⟨_, s', t', a1, b1, RR.le hU h1 h2 h3 h4 h5 h6 h7 h8 h9 (z3.cp a3 a4 (fun k hk => ?_)) a2 b2 (by decide) (by decide) (by decide)⟩
      rw [Nat.zero_add]
      exact b3 k hk
/-- nothing but the tales -/
theorem RR.to {L K L' K' F : List Nat} {w : Nat → Nat → Nat} (hU : okU U) (h1 : CW w s) (h2 : MW w t) (h3 : TX s' t') (h4 : RO s t) (h5 : TLr 5 6 40 0 s' t') (h6 : TLr 7 8 41 12 s' t') (h7 : KP (w 5 0) s t) (h8 : U s t) (h9 : MC t)
    (f : Fr L K s s') (g : Fm L' K' F t t') (hL : ∀ o, o ∈ L → o = 1 ∨ o = 2 ∨ (5 ≤ o ∧ o ≤ 8) ∨ o = 16 ∨ (19 ≤ o ∧ o ≤ 24) ∨ 41 ≤ o)
    (hM : ∀ o, o ∈ L' → o = 6 ∨ (10 ≤ o ∧ o ≤ 21)) (hF : ∀ o, o ∈ F → o = 8 ∨ (11 ≤ o ∧ o ≤ 17) ∨ (19 ≤ o ∧ o ≤ 33) ∨ (40 ≤ o ∧ o ≤ 41) ∨ (45 ≤ o)) : RR U s' t' := by
  have a : ∀ o, ((2 < o ∧ o < 5) ∨ (8 < o ∧ o < 16) ∨ (16 < o ∧ o < 19) ∨ (24 < o ∧ o < 41)) → o ∉ L := fun o ho z => by have := hL o z; omega
  have b : ∀ o, (o < 6 ∨ (6 < o ∧ o < 10) ∨ 21 < o) → o ∉ L' := fun o ho z => by have := hM o z; omega
  have c : ∀ o, (o < 8 ∨ (8 < o ∧ o < 11) ∨ o = 18 ∨ (33 < o ∧ o < 40) ∨ (41 < o ∧ o < 45)) → o ∉ F := fun o ho z => by have := hF o z; omega
  exact ⟨w, h1.fr f ⟨a _ (by decide), a _ (by decide), a _ (by decide), a _ (by decide), a _ (by decide), a _ (by decide), a _ (by decide)⟩,
    h2.fm g ⟨c _ (by decide), c _ (by decide)⟩ ⟨b _ (by decide), b _ (by decide), b _ (by decide), b _ (by decide), b _ (by decide)⟩, h3, h4.fr f g ⟨a _ (by decide), a _ (by decide)⟩ ⟨b _ (by decide), c _ (by decide)⟩, h5, h6,
    h7.fr f g (fun o ho z => a o (by omega) ho) ⟨b _ (by decide), b _ (by decide), b _ (by decide)⟩, hU.fr h8 f g ⟨a _ (by decide), a _ (by decide)⟩ ⟨b _ (by decide), c _ (by decide)⟩,
    h9.fr g ⟨c _ (by decide), c _ (by decide), c _ (by decide), c _ (by decide)⟩⟩
theorem k_lay (hU : okU U) (hN : 40 ≤ N) : keeps0 N (RR U) fC_EachAddsALine_lay fM_EachAddsALineModel_lay := fun s t h => by
  obtain ⟨w, h1, h2, h3, h4, h5, h6, h7, h8, h9⟩ := id h
  obtain ⟨n, n1, n2, n3, n4⟩ := id h5
  obtain ⟨u, q1, f1, k1⟩ : ∃ u, scpy s 6 8 12 12 12 = some u ∧ Fr [8] [] s u ∧ ∀ k, k < 12 → u.1 8 k = s.1 6 k := ⟨_, scpy_n (s := s) (o := 6) (o2 := 8) (n1 := 12) (n2 := 12) (n := 12) (by omega) (by omega) (by omega), cp_fr (by decide), fun k hk => cp_eq (s := s) (o := 6) (o2 := 8) (n := 12) hk⟩
  have fs : Fr [7, 8] [] s (s1 u 7 1 (nI n)) := (f1.mono (by decide) (by decide)).tr (Fr.s1 (by decide))
  have b0 : ∃ t', fM_EachAddsALineModel_lay N t = some (nI 1, t') ∧ Fm [16] [] [11, 41] t t' ∧ t'.1 0 41 = nI n ∧ (∀ k, k < 12 → t'.1 16 k = t.1 16 k) ∧ ∀ k, k < 12 → t'.1 16 (12 + k) = t.1 16 k := by
    simp (disch := omega) only [Option.bind_some, ↓reduceIte, ↓M_1, ↓M_2, L_0, L_1, L_2, L_3, L_4, L_5, L_6, L_7, L_8, L_9, L_10, L_11, L_12, L_13, L_20, L_24, L_26, L_30, L_31, L_32, L_39, L_40, L_48, L_57, L_76, L_80, L_90, L_91, L_97, L_99, L_100, L_255, L_273, L_1000, L_2000, q_ld, q_ldL, q_sto, q_stoL, q_add, q_sub, q_mul, q_dec, q_rem, q_div, q_lt_t, q_lt_f, q_le_t, q_le_f, q_eq_t, q_eq_f, q_em, q_me, q_ml, q_lm, q_mle, q_lem, q_s1, q_s1o, q_s1k, q_s12, q_s2, q_s2o, q_s2k, q_s21, Nat.add_sub_cancel, q_or, q_and, q_shl, true_or, or_true, false_or, or_false, true_and, and_true, false_and, and_false, not_true_eq_false, not_false_eq_true, ne_eq, fM_EachAddsALineModel_lay, gM_EachAddsALineModel_lay_0]
    refine loopU (fun f k u => gM_EachAddsALineModel_lay_7 N f (nI k) u) 12 (fun k u => k ≤ 12 ∧ Fm [16] [] [11] t u ∧ (∀ j, j < 12 → u.1 16 j = t.1 16 j) ∧ ∀ j, j < k → u.1 16 (12 + j) = t.1 16 j) (fun o => ∃ t', o = some (nI 1, t') ∧ Fm [16] [] [11, 41] t t' ∧ t'.1 0 41 = nI n ∧ (∀ k, k < 12 → t'.1 16 k = t.1 16 k) ∧ ∀ k, k < 12 → t'.1 16 (12 + k) = t.1 16 k) ?_ ?_ 12 N 0 _ (by omega) (by omega) ⟨by omega, Fm.w10 (by decide), fun j hj => by simp (disch := omega) only [Option.bind_some, ↓reduceIte, ↓M_1, ↓M_2, L_0, L_1, L_2, L_3, L_4, L_5, L_6, L_7, L_8, L_9, L_10, L_11, L_12, L_13, L_20, L_24, L_26, L_30, L_31, L_32, L_39, L_40, L_48, L_57, L_76, L_80, L_90, L_91, L_97, L_99, L_100, L_255, L_273, L_1000, L_2000, q_ld, q_ldL, q_sto, q_stoL, q_add, q_sub, q_mul, q_dec, q_rem, q_div, q_lt_t, q_lt_f, q_le_t, q_le_f, q_eq_t, q_eq_f, q_em, q_me, q_ml, q_lm, q_mle, q_lem, q_s1, q_s1o, q_s1k, q_s12, q_s2, q_s2o, q_s2k, q_s21, Nat.add_sub_cancel, q_or, q_and, q_shl, true_or, or_true, false_or, or_false, true_and, and_true, false_and, and_false, not_true_eq_false, not_false_eq_true, ne_eq], fun j hj => by omega⟩
    · rintro f k u hk ⟨g1, g2, g3, g4⟩
      refine Or.inl ⟨s1 u 16 (12 + k) (t.1 16 k), ?_, by omega, g2.tr (Fm.w1 (by decide) (by decide)), fun j hj => ?_, fun j hj => ?_⟩
      · rw [gM_EachAddsALineModel_lay_7]
        simp (disch := omega) only [Option.bind_some, ↓reduceIte, ↓M_1, ↓M_2, L_0, L_1, L_2, L_3, L_4, L_5, L_6, L_7, L_8, L_9, L_10, L_11, L_12, L_13, L_20, L_24, L_26, L_30, L_31, L_32, L_39, L_40, L_48, L_57, L_76, L_80, L_90, L_91, L_97, L_99, L_100, L_255, L_273, L_1000, L_2000, q_ld, q_ldL, q_sto, q_stoL, q_add, q_sub, q_mul, q_dec, q_rem, q_div, q_lt_t, q_lt_f, q_le_t, q_le_f, q_eq_t, q_eq_f, q_em, q_me, q_ml, q_lm, q_mle, q_lem, q_s1, q_s1o, q_s1k, q_s12, q_s2, q_s2o, q_s2k, q_s21, Nat.add_sub_cancel, q_or, q_and, q_shl, true_or, or_true, false_or, or_false, true_and, and_true, false_and, and_false, not_true_eq_false, not_false_eq_true, ne_eq, g3 k hk]
      · simp (disch := omega) only [Option.bind_some, ↓reduceIte, ↓M_1, ↓M_2, L_0, L_1, L_2, L_3, L_4, L_5, L_6, L_7, L_8, L_9, L_10, L_11, L_12, L_13, L_20, L_24, L_26, L_30, L_31, L_32, L_39, L_40, L_48, L_57, L_76, L_80, L_90, L_91, L_97, L_99, L_100, L_255, L_273, L_1000, L_2000, q_ld, q_ldL, q_sto, q_stoL, q_add, q_sub, q_mul, q_dec, q_rem, q_div, q_lt_t, q_lt_f, q_le_t, q_le_f, q_eq_t, q_eq_f, q_em, q_me, q_ml, q_lm, q_mle, q_lem, q_s1, q_s1o, q_s1k, q_s12, q_s2, q_s2o, q_s2k, q_s21, Nat.add_sub_cancel, q_or, q_and, q_shl, true_or, or_true, false_or, or_false, true_and, and_true, false_and, and_false, not_true_eq_false, not_false_eq_true, ne_eq]; exact g3 j hj
      · by_cases d : j = k
        · subst d; exact q_s1 _ _ _ _
        · rw [q_s1k (by omega)]; exact g4 j (by omega)
    · rintro f u ⟨g1, g2, g3, g4⟩
      refine ⟨s1 u 0 41 (nI n), ?_, (g2.mono (by decide) (by decide) (by decide)).tr (Fm.w10 (by decide)), q_s1 _ _ _ _, fun k hk => ?_, fun k hk => ?_⟩
      · show gM_EachAddsALineModel_lay_7 N (f + 1) (nI 12) u = _
        rw [gM_EachAddsALineModel_lay_7]
        simp (disch := omega) only [Option.bind_some, ↓reduceIte, ↓M_1, ↓M_2, L_0, L_1, L_2, L_3, L_4, L_5, L_6, L_7, L_8, L_9, L_10, L_11, L_12, L_13, L_20, L_24, L_26, L_30, L_31, L_32, L_39, L_40, L_48, L_57, L_76, L_80, L_90, L_91, L_97, L_99, L_100, L_255, L_273, L_1000, L_2000, q_ld, q_ldL, q_sto, q_stoL, q_add, q_sub, q_mul, q_dec, q_rem, q_div, q_lt_t, q_lt_f, q_le_t, q_le_f, q_eq_t, q_eq_f, q_em, q_me, q_ml, q_lm, q_mle, q_lem, q_s1, q_s1o, q_s1k, q_s12, q_s2, q_s2o, q_s2k, q_s21, Nat.add_sub_cancel, q_or, q_and, q_shl, true_or, or_true, false_or, or_false, true_and, and_true, false_and, and_false, not_true_eq_false, not_false_eq_true, ne_eq, g2.2.2 40 (by decide), n3]
      · simp (disch := omega) only [Option.bind_some, ↓reduceIte, ↓M_1, ↓M_2, L_0, L_1, L_2, L_3, L_4, L_5, L_6, L_7, L_8, L_9, L_10, L_11, L_12, L_13, L_20, L_24, L_26, L_30, L_31, L_32, L_39, L_40, L_48, L_57, L_76, L_80, L_90, L_91, L_97, L_99, L_100, L_255, L_273, L_1000, L_2000, q_ld, q_ldL, q_sto, q_stoL, q_add, q_sub, q_mul, q_dec, q_rem, q_div, q_lt_t, q_lt_f, q_le_t, q_le_f, q_eq_t, q_eq_f, q_em, q_me, q_ml, q_lm, q_mle, q_lem, q_s1, q_s1o, q_s1k, q_s12, q_s2, q_s2o, q_s2k, q_s21, Nat.add_sub_cancel, q_or, q_and, q_shl, true_or, or_true, false_or, or_false, true_and, and_true, false_and, and_false, not_true_eq_false, not_false_eq_true, ne_eq]; exact g3 k hk
      · simp (disch := omega) only [Option.bind_some, ↓reduceIte, ↓M_1, ↓M_2, L_0, L_1, L_2, L_3, L_4, L_5, L_6, L_7, L_8, L_9, L_10, L_11, L_12, L_13, L_20, L_24, L_26, L_30, L_31, L_32, L_39, L_40, L_48, L_57, L_76, L_80, L_90, L_91, L_97, L_99, L_100, L_255, L_273, L_1000, L_2000, q_ld, q_ldL, q_sto, q_stoL, q_add, q_sub, q_mul, q_dec, q_rem, q_div, q_lt_t, q_lt_f, q_le_t, q_le_f, q_eq_t, q_eq_f, q_em, q_me, q_ml, q_lm, q_mle, q_lem, q_s1, q_s1o, q_s1k, q_s12, q_s2, q_s2o, q_s2k, q_s21, Nat.add_sub_cancel, q_or, q_and, q_shl, true_or, or_true, false_or, or_false, true_and, and_true, false_and, and_false, not_true_eq_false, not_false_eq_true, ne_eq]; exact g4 k hk
  obtain ⟨t', b1, b2, b3, b4, b5⟩ := b0
  refine ⟨nI 1, s1 u 7 1 (nI n), t', ?_, b1, RR.to hU h1 h2 (h3.fr fs b2 (by decide) (by decide)) h4 ⟨n, n1, ?_, ?_, fun k hk => ?_⟩ ⟨n, n1, q_s1 _ _ _ _, b3, fun k hk => ?_⟩ h7 h8 h9 fs b2 (by decide) (by decide) (by decide)⟩
  · rw [fC_EachAddsALine_lay, gC_EachAddsALine_lay_0, fC_Numbers_take_laid_told, gC_Numbers_take_laid_told_0, q1, Option.bind_some, f1.1 5 (by decide), n2]
    simp (disch := omega) only [Option.bind_some, ↓reduceIte, ↓M_1, ↓M_2, L_0, L_1, L_2, L_3, L_4, L_5, L_6, L_7, L_8, L_9, L_10, L_11, L_12, L_13, L_20, L_24, L_26, L_30, L_31, L_32, L_39, L_40, L_48, L_57, L_76, L_80, L_90, L_91, L_97, L_99, L_100, L_255, L_273, L_1000, L_2000, q_ld, q_ldL, q_sto, q_stoL, q_add, q_sub, q_mul, q_dec, q_rem, q_div, q_lt_t, q_lt_f, q_le_t, q_le_f, q_eq_t, q_eq_f, q_em, q_me, q_ml, q_lm, q_mle, q_lem, q_s1, q_s1o, q_s1k, q_s12, q_s2, q_s2o, q_s2k, q_s21, Nat.add_sub_cancel, q_or, q_and, q_shl, true_or, or_true, false_or, or_false, true_and, and_true, false_and, and_false, not_true_eq_false, not_false_eq_true, ne_eq]
  · rw [fs.1 5 (by decide)]; exact n2
  · rw [b2.2.2 40 (by decide)]; exact n3
  · obtain ⟨x, x1, x2, x3⟩ := n4 k hk
    refine ⟨x, x1, ?_, ?_⟩
    · rw [fs.1 6 (by decide)]; exact x2
    · rw [Nat.zero_add] at x3 ⊢
      rw [b4 k (by omega)]; exact x3
  · obtain ⟨x, x1, x2, x3⟩ := n4 k hk
    refine ⟨x, x1, ?_, ?_⟩
    · rw [q_s1o (by decide), k1 k (by omega)]; exact x2
    · rw [Nat.zero_add] at x3
      rw [b5 k (by omega)]; exact x3
theorem k_copy (hU : okU U) (hN : 40 ≤ N) : keeps1 N (RR U) fC_EachAddsALine_copy fM_EachAddsALineModel_copy := fun s t h v => by
  obtain ⟨w, h1, h2, h3, h4, h5, h6, h7, h8, h9⟩ := id h
  have kept : RR U s (s1 t 0 11 (nI 0)) := h.fr hU (Fr.rf (L := []) (K := [])) (Fm.w10 (L := []) (K := []) (F := [11]) (by decide)) (by decide) (by decide) (by decide)
  by_cases c : isP 3 v
  · obtain ⟨l, hl, rfl⟩ := c
    obtain ⟨n, wh, si, li, ho, hC, hM⟩ := h7.1.get hl
    have hn := ho.1
    have hM' : ML l n wh si li (s1 t 0 11 (nI 0)) := hM.fm (Fm.w10 (L := []) (K := []) (F := [11]) (by decide)) (by decide)
    have a1 := C_isThere (N := N) hl hn hC
    have b1 := M_isLetter (N := N) hl hn hM'
    by_cases c0 : n = 0
    · rw [if_pos c0] at a1 b1
      refine ⟨mI 1, s, s1 t 0 11 (nI 0), ?_, ?_, kept⟩
      · simp (disch := omega) only [Option.bind_some, ↓reduceIte, ↓M_1, ↓M_2, L_0, L_1, L_2, L_3, L_4, L_5, L_6, L_7, L_8, L_9, L_10, L_11, L_12, L_13, L_20, L_24, L_26, L_30, L_31, L_32, L_39, L_40, L_48, L_57, L_76, L_80, L_90, L_91, L_97, L_99, L_100, L_255, L_273, L_1000, L_2000, q_ld, q_ldL, q_sto, q_stoL, q_add, q_sub, q_mul, q_dec, q_rem, q_div, q_lt_t, q_lt_f, q_le_t, q_le_f, q_eq_t, q_eq_f, q_em, q_me, q_ml, q_lm, q_mle, q_lem, q_s1, q_s1o, q_s1k, q_s12, q_s2, q_s2o, q_s2k, q_s21, Nat.add_sub_cancel, q_or, q_and, q_shl, true_or, or_true, false_or, or_false, true_and, and_true, false_and, and_false, not_true_eq_false, not_false_eq_true, ne_eq, fC_EachAddsALine_copy, gC_EachAddsALine_copy_0, a1]
      · simp (disch := omega) only [Option.bind_some, ↓reduceIte, ↓M_1, ↓M_2, L_0, L_1, L_2, L_3, L_4, L_5, L_6, L_7, L_8, L_9, L_10, L_11, L_12, L_13, L_20, L_24, L_26, L_30, L_31, L_32, L_39, L_40, L_48, L_57, L_76, L_80, L_90, L_91, L_97, L_99, L_100, L_255, L_273, L_1000, L_2000, q_ld, q_ldL, q_sto, q_stoL, q_add, q_sub, q_mul, q_dec, q_rem, q_div, q_lt_t, q_lt_f, q_le_t, q_le_f, q_eq_t, q_eq_f, q_em, q_me, q_ml, q_lm, q_mle, q_lem, q_s1, q_s1o, q_s1k, q_s12, q_s2, q_s2o, q_s2k, q_s21, Nat.add_sub_cancel, q_or, q_and, q_shl, true_or, or_true, false_or, or_false, true_and, and_true, false_and, and_false, not_true_eq_false, not_false_eq_true, ne_eq, fM_EachAddsALineModel_copy, gM_EachAddsALineModel_copy_0, b1]
    · rw [if_neg c0] at a1 b1
      obtain ⟨s0, x1, x2⟩ := C_clear_told (N := N) (q := fun k => nI (li k)) (s := s)
      have a2 : ∃ s', gC_EachAddsALine_copy_25 N N (nI l) (nI 0) s0 = some (nI (min n 12), s') ∧ Tw (fun k => nI (li k)) n s s' := by
        refine loopU (fun f i u => gC_EachAddsALine_copy_25 N f (nI l) (nI i) u) n (fun i u => Tw (fun k => nI (li k)) i s u) (fun o => ∃ s', o = some (nI (min n 12), s') ∧ Tw (fun k => nI (li k)) n s s') ?_ ?_ n N 0 s0 (by omega) (by omega) x2
        · rintro f i u hi hr
          have hu : CL l n wh si li u := hC.fr hr.1 (by decide)
          obtain ⟨u', y1, y2⟩ := C_add_told (N := N) hr (x := nI (li i)) rfl
          refine Or.inl ⟨u', ?_, y2⟩
          rw [gC_EachAddsALine_copy_25]
          simp (disch := omega) only [Option.bind_some, ↓reduceIte, ↓M_1, ↓M_2, L_0, L_1, L_2, L_3, L_4, L_5, L_6, L_7, L_8, L_9, L_10, L_11, L_12, L_13, L_20, L_24, L_26, L_30, L_31, L_32, L_39, L_40, L_48, L_57, L_76, L_80, L_90, L_91, L_97, L_99, L_100, L_255, L_273, L_1000, L_2000, q_ld, q_ldL, q_sto, q_stoL, q_add, q_sub, q_mul, q_dec, q_rem, q_div, q_lt_t, q_lt_f, q_le_t, q_le_f, q_eq_t, q_eq_f, q_em, q_me, q_ml, q_lm, q_mle, q_lem, q_s1, q_s1o, q_s1k, q_s12, q_s2, q_s2o, q_s2k, q_s21, Nat.add_sub_cancel, q_or, q_and, q_shl, true_or, or_true, false_or, or_false, true_and, and_true, false_and, and_false, not_true_eq_false, not_false_eq_true, ne_eq, hu.1, C_lineAt hl ho hu hi, y1]
        · rintro f u hr
          have hu : CL l n wh si li u := hC.fr hr.1 (by decide)
          refine ⟨u, ?_, hr⟩
          show gC_EachAddsALine_copy_25 N (f + 1) (nI l) (nI n) u = _
          rw [gC_EachAddsALine_copy_25]
          simp (disch := omega) only [Option.bind_some, ↓reduceIte, ↓M_1, ↓M_2, L_0, L_1, L_2, L_3, L_4, L_5, L_6, L_7, L_8, L_9, L_10, L_11, L_12, L_13, L_20, L_24, L_26, L_30, L_31, L_32, L_39, L_40, L_48, L_57, L_76, L_80, L_90, L_91, L_97, L_99, L_100, L_255, L_273, L_1000, L_2000, q_ld, q_ldL, q_sto, q_stoL, q_add, q_sub, q_mul, q_dec, q_rem, q_div, q_lt_t, q_lt_f, q_le_t, q_le_f, q_eq_t, q_eq_f, q_em, q_me, q_ml, q_lm, q_mle, q_lem, q_s1, q_s1o, q_s1k, q_s12, q_s2, q_s2o, q_s2k, q_s21, Nat.add_sub_cancel, q_or, q_and, q_shl, true_or, or_true, false_or, or_false, true_and, and_true, false_and, and_false, not_true_eq_false, not_false_eq_true, ne_eq, hu.1, hr.2.1]
      obtain ⟨s', a2, a3⟩ := a2
      have b2 : ∃ t', gM_EachAddsALineModel_copy_31 N N (nI l) (nI 0) (s1 (s1 t 0 11 (nI 0)) 0 40 (nI (min n 12))) = some (nI (min n 12), t') ∧ Fm [16] [] [11, 40] t t' ∧ t'.1 0 40 = nI (min n 12) ∧ (∀ k, k < min n 12 → t'.1 16 k = nI (li k)) ∧ ∀ k, 12 ≤ k → t'.1 16 k = t.1 16 k := by
        refine loopU (fun f i u => gM_EachAddsALineModel_copy_31 N f (nI l) (nI i) u) (min n 12) (fun i u => i ≤ 12 ∧ Fm [16] [] [11, 40] t u ∧ u.1 0 40 = nI (min n 12) ∧ (∀ k, k < i → u.1 16 k = nI (li k)) ∧ ∀ k, 12 ≤ k → u.1 16 k = t.1 16 k) (fun o => ∃ t', o = some (nI (min n 12), t') ∧ Fm [16] [] [11, 40] t t' ∧ t'.1 0 40 = nI (min n 12) ∧ (∀ k, k < min n 12 → t'.1 16 k = nI (li k)) ∧ ∀ k, 12 ≤ k → t'.1 16 k = t.1 16 k) ?_ ?_ (min n 12) N 0 _ (by omega) (by omega) ⟨by omega, (Fm.w10 (by decide)).tr (Fm.w10 (by decide)), q_s1 _ _ _ _, fun k hk => by omega, fun k hk => by simp (disch := omega) only [Option.bind_some, ↓reduceIte, ↓M_1, ↓M_2, L_0, L_1, L_2, L_3, L_4, L_5, L_6, L_7, L_8, L_9, L_10, L_11, L_12, L_13, L_20, L_24, L_26, L_30, L_31, L_32, L_39, L_40, L_48, L_57, L_76, L_80, L_90, L_91, L_97, L_99, L_100, L_255, L_273, L_1000, L_2000, q_ld, q_ldL, q_sto, q_stoL, q_add, q_sub, q_mul, q_dec, q_rem, q_div, q_lt_t, q_lt_f, q_le_t, q_le_f, q_eq_t, q_eq_f, q_em, q_me, q_ml, q_lm, q_mle, q_lem, q_s1, q_s1o, q_s1k, q_s12, q_s2, q_s2o, q_s2k, q_s21, Nat.add_sub_cancel, q_or, q_and, q_shl, true_or, or_true, false_or, or_false, true_and, and_true, false_and, and_false, not_true_eq_false, not_false_eq_true, ne_eq]⟩
        · rintro f i u hi ⟨g1, g2, g3, g4, g5⟩
          have hu : ML l n wh si li u := hM.fm g2 (by decide)
          refine Or.inl ⟨s1 u 16 i (nI (li i)), ?_, by omega, g2.tr (Fm.w1 (by decide) (by decide)), ?_, fun k hk => ?_, fun k hk => ?_⟩
          · rw [gM_EachAddsALineModel_copy_31]
            simp (disch := omega) only [Option.bind_some, ↓reduceIte, ↓M_1, ↓M_2, L_0, L_1, L_2, L_3, L_4, L_5, L_6, L_7, L_8, L_9, L_10, L_11, L_12, L_13, L_20, L_24, L_26, L_30, L_31, L_32, L_39, L_40, L_48, L_57, L_76, L_80, L_90, L_91, L_97, L_99, L_100, L_255, L_273, L_1000, L_2000, q_ld, q_ldL, q_sto, q_stoL, q_add, q_sub, q_mul, q_dec, q_rem, q_div, q_lt_t, q_lt_f, q_le_t, q_le_f, q_eq_t, q_eq_f, q_em, q_me, q_ml, q_lm, q_mle, q_lem, q_s1, q_s1o, q_s1k, q_s12, q_s2, q_s2o, q_s2k, q_s21, Nat.add_sub_cancel, q_or, q_and, q_shl, true_or, or_true, false_or, or_false, true_and, and_true, false_and, and_false, not_true_eq_false, not_false_eq_true, ne_eq, g3, M_at, (hu.2 i (by omega)).1]
          · simp (disch := omega) only [Option.bind_some, ↓reduceIte, ↓M_1, ↓M_2, L_0, L_1, L_2, L_3, L_4, L_5, L_6, L_7, L_8, L_9, L_10, L_11, L_12, L_13, L_20, L_24, L_26, L_30, L_31, L_32, L_39, L_40, L_48, L_57, L_76, L_80, L_90, L_91, L_97, L_99, L_100, L_255, L_273, L_1000, L_2000, q_ld, q_ldL, q_sto, q_stoL, q_add, q_sub, q_mul, q_dec, q_rem, q_div, q_lt_t, q_lt_f, q_le_t, q_le_f, q_eq_t, q_eq_f, q_em, q_me, q_ml, q_lm, q_mle, q_lem, q_s1, q_s1o, q_s1k, q_s12, q_s2, q_s2o, q_s2k, q_s21, Nat.add_sub_cancel, q_or, q_and, q_shl, true_or, or_true, false_or, or_false, true_and, and_true, false_and, and_false, not_true_eq_false, not_false_eq_true, ne_eq]; exact g3
          · by_cases e : k = i
            · subst e; exact q_s1 _ _ _ _
            · rw [q_s1k e]; exact g4 k (by omega)
          · simp (disch := omega) only [Option.bind_some, ↓reduceIte, ↓M_1, ↓M_2, L_0, L_1, L_2, L_3, L_4, L_5, L_6, L_7, L_8, L_9, L_10, L_11, L_12, L_13, L_20, L_24, L_26, L_30, L_31, L_32, L_39, L_40, L_48, L_57, L_76, L_80, L_90, L_91, L_97, L_99, L_100, L_255, L_273, L_1000, L_2000, q_ld, q_ldL, q_sto, q_stoL, q_add, q_sub, q_mul, q_dec, q_rem, q_div, q_lt_t, q_lt_f, q_le_t, q_le_f, q_eq_t, q_eq_f, q_em, q_me, q_ml, q_lm, q_mle, q_lem, q_s1, q_s1o, q_s1k, q_s12, q_s2, q_s2o, q_s2k, q_s21, Nat.add_sub_cancel, q_or, q_and, q_shl, true_or, or_true, false_or, or_false, true_and, and_true, false_and, and_false, not_true_eq_false, not_false_eq_true, ne_eq]; exact g5 k hk
        · rintro f u ⟨g1, g2, g3, g4, g5⟩
          refine ⟨u, ?_, g2, g3, g4, g5⟩
          show gM_EachAddsALineModel_copy_31 N (f + 1) (nI l) (nI (min n 12)) u = _
          rw [gM_EachAddsALineModel_copy_31]
          simp (disch := omega) only [Option.bind_some, ↓reduceIte, ↓M_1, ↓M_2, L_0, L_1, L_2, L_3, L_4, L_5, L_6, L_7, L_8, L_9, L_10, L_11, L_12, L_13, L_20, L_24, L_26, L_30, L_31, L_32, L_39, L_40, L_48, L_57, L_76, L_80, L_90, L_91, L_97, L_99, L_100, L_255, L_273, L_1000, L_2000, q_ld, q_ldL, q_sto, q_stoL, q_add, q_sub, q_mul, q_dec, q_rem, q_div, q_lt_t, q_lt_f, q_le_t, q_le_f, q_eq_t, q_eq_f, q_em, q_me, q_ml, q_lm, q_mle, q_lem, q_s1, q_s1o, q_s1k, q_s12, q_s2, q_s2o, q_s2k, q_s21, Nat.add_sub_cancel, q_or, q_and, q_shl, true_or, or_true, false_or, or_false, true_and, and_true, false_and, and_false, not_true_eq_false, not_false_eq_true, ne_eq, g3]
      obtain ⟨t', b2, b3, b4, b5, b6⟩ := b2
      refine ⟨nI (min n 12), s', t', ?_, ?_, RR.to hU h1 h2 (h3.fr a3.1 b3 (by decide) (by decide)) h4 ⟨min n 12, by omega, a3.2.1, b4, fun k hk => ⟨li k, (ho.2 k (by omega)).2.2, a3.2.2 k hk, ?_⟩⟩ ?_ h7 h8 h9 a3.1 b3 (by decide) (by decide) (by decide)⟩
      · simp (disch := omega) only [Option.bind_some, ↓reduceIte, ↓M_1, ↓M_2, L_0, L_1, L_2, L_3, L_4, L_5, L_6, L_7, L_8, L_9, L_10, L_11, L_12, L_13, L_20, L_24, L_26, L_30, L_31, L_32, L_39, L_40, L_48, L_57, L_76, L_80, L_90, L_91, L_97, L_99, L_100, L_255, L_273, L_1000, L_2000, q_ld, q_ldL, q_sto, q_stoL, q_add, q_sub, q_mul, q_dec, q_rem, q_div, q_lt_t, q_lt_f, q_le_t, q_le_f, q_eq_t, q_eq_f, q_em, q_me, q_ml, q_lm, q_mle, q_lem, q_s1, q_s1o, q_s1k, q_s12, q_s2, q_s2o, q_s2k, q_s21, Nat.add_sub_cancel, q_or, q_and, q_shl, true_or, or_true, false_or, or_false, true_and, and_true, false_and, and_false, not_true_eq_false, not_false_eq_true, ne_eq, fC_EachAddsALine_copy, gC_EachAddsALine_copy_0, a1, x1, a2]
      · have e12 : (if nI 12 > nI n then nI n else nI 12) = nI (min n 12) := by
          by_cases d : n < 12
          · rw [if_pos (nI_lt d (by omega)), show min n 12 = n by omega]
          · rw [if_neg (nI_nlt (by omega) (by omega)), show min n 12 = 12 by omega]
        simp (disch := omega) only [Option.bind_some, ↓reduceIte, ↓M_1, ↓M_2, L_0, L_1, L_2, L_3, L_4, L_5, L_6, L_7, L_8, L_9, L_10, L_11, L_12, L_13, L_20, L_24, L_26, L_30, L_31, L_32, L_39, L_40, L_48, L_57, L_76, L_80, L_90, L_91, L_97, L_99, L_100, L_255, L_273, L_1000, L_2000, q_ld, q_ldL, q_sto, q_stoL, q_add, q_sub, q_mul, q_dec, q_rem, q_div, q_lt_t, q_lt_f, q_le_t, q_le_f, q_eq_t, q_eq_f, q_em, q_me, q_ml, q_lm, q_mle, q_lem, q_s1, q_s1o, q_s1k, q_s12, q_s2, q_s2o, q_s2k, q_s21, Nat.add_sub_cancel, q_or, q_and, q_shl, true_or, or_true, false_or, or_false, true_and, and_true, false_and, and_false, not_true_eq_false, not_false_eq_true, ne_eq, fM_EachAddsALineModel_copy, gM_EachAddsALineModel_copy_0, b1, M_linesOf hl hM', e12, b2]
      · rw [Nat.zero_add]; exact b5 k hk
      · obtain ⟨n', m1, m2, m3, m4⟩ := h6
        refine ⟨n', m1, ?_, ?_, fun k hk => ?_⟩
        · rw [a3.1.1 7 (by decide)]; exact m2
        · rw [b3.2.2 41 (by decide)]; exact m3
        · rw [a3.1.1 8 (by decide), b6 _ (by omega)]; exact m4 k hk
  · refine ⟨mI 1, s, s1 t 0 11 (nI 0), ?_, ?_, kept⟩
    · simp (disch := omega) only [Option.bind_some, ↓reduceIte, ↓M_1, ↓M_2, L_0, L_1, L_2, L_3, L_4, L_5, L_6, L_7, L_8, L_9, L_10, L_11, L_12, L_13, L_20, L_24, L_26, L_30, L_31, L_32, L_39, L_40, L_48, L_57, L_76, L_80, L_90, L_91, L_97, L_99, L_100, L_255, L_273, L_1000, L_2000, q_ld, q_ldL, q_sto, q_stoL, q_add, q_sub, q_mul, q_dec, q_rem, q_div, q_lt_t, q_lt_f, q_le_t, q_le_f, q_eq_t, q_eq_f, q_em, q_me, q_ml, q_lm, q_mle, q_lem, q_s1, q_s1o, q_s1k, q_s12, q_s2, q_s2o, q_s2k, q_s21, Nat.add_sub_cancel, q_or, q_and, q_shl, true_or, or_true, false_or, or_false, true_and, and_true, false_and, and_false, not_true_eq_false, not_false_eq_true, ne_eq, fC_EachAddsALine_copy, gC_EachAddsALine_copy_0, C_isThere_f c]
    · simp (disch := omega) only [Option.bind_some, ↓reduceIte, ↓M_1, ↓M_2, L_0, L_1, L_2, L_3, L_4, L_5, L_6, L_7, L_8, L_9, L_10, L_11, L_12, L_13, L_20, L_24, L_26, L_30, L_31, L_32, L_39, L_40, L_48, L_57, L_76, L_80, L_90, L_91, L_97, L_99, L_100, L_255, L_273, L_1000, L_2000, q_ld, q_ldL, q_sto, q_stoL, q_add, q_sub, q_mul, q_dec, q_rem, q_div, q_lt_t, q_lt_f, q_le_t, q_le_f, q_eq_t, q_eq_f, q_em, q_me, q_ml, q_lm, q_mle, q_lem, q_s1, q_s1o, q_s1k, q_s12, q_s2, q_s2o, q_s2k, q_s21, Nat.add_sub_cancel, q_or, q_and, q_shl, true_or, or_true, false_or, or_false, true_and, and_true, false_and, and_false, not_true_eq_false, not_false_eq_true, ne_eq, fM_EachAddsALineModel_copy, gM_EachAddsALineModel_copy_0, M_isLetter_f c]
end KE
