/-! steps as class and reference read them -/
def gI (g : Nat) : Int32 := if g < 100 then nI g else mI 1
theorem gI_eq {g m : Nat} (hm : m < 100) : (nI m = gI g) = (m = g) := by
  unfold gI
  split
  · exact propext (nI_eq (by omega) (by omega))
  · rw [q_em (by omega) (by decide) (by decide)]
    exact propext ⟨False.elim, fun z => by omega⟩
abbrev lessP (x y : Nat × Nat) : Prop := x.1 < y.1 ∨ (x.1 = y.1 ∧ x.2 < y.2)
section SE
variable {N : Nat} {w : Nat → Nat → Nat} {s t : vSt}
theorem MW.bd (h : MW w t) : w 5 0 ≤ 9 ∧ w 5 1 ≤ 20 := ⟨h.ok.1, h.ok.2.1⟩
theorem CW.bd (h : CW w s) : w 5 0 ≤ 9 ∧ w 5 1 ≤ 20 := ⟨h.ok.1, h.ok.2.1⟩
theorem M_giver (h : MW w t) {a : Nat} (ha : a < 2 * w 5 1) : fM_EachAddsALineModel_giver N (nI a) t = some (nI (gv w a), t) := by
  have hb := h.bd
  unfold gv
  by_cases c : a % 2 = 0
  · rw [if_pos c]
    simp (disch := omega) only [Option.bind_some, ↓reduceIte, ↓M_1, ↓M_2, L_0, L_1, L_2, L_3, L_4, L_5, L_6, L_7, L_8, L_9, L_10, L_11, L_12, L_13, L_20, L_24, L_26, L_30, L_31, L_32, L_39, L_40, L_48, L_57, L_76, L_80, L_90, L_91, L_97, L_99, L_100, L_255, L_273, L_1000, L_2000, q_ld, q_ldL, q_sto, q_stoL, q_add, q_sub, q_mul, q_dec, q_rem, q_div, q_lt_t, q_lt_f, q_le_t, q_le_f, q_eq_t, q_eq_f, q_em, q_me, q_ml, q_lm, q_mle, q_lem, q_s1, q_s1o, q_s1k, q_s12, q_s2, q_s2o, q_s2k, q_s21, Nat.add_sub_cancel, q_or, q_and, q_shl, true_or, or_true, false_or, or_false, true_and, and_true, false_and, and_false, not_true_eq_false, not_false_eq_true, ne_eq, fM_EachAddsALineModel_giver, gM_EachAddsALineModel_giver_0, c, h.a (m := a / 2) (by omega)]
  · rw [if_neg c]
    simp (disch := omega) only [Option.bind_some, ↓reduceIte, ↓M_1, ↓M_2, L_0, L_1, L_2, L_3, L_4, L_5, L_6, L_7, L_8, L_9, L_10, L_11, L_12, L_13, L_20, L_24, L_26, L_30, L_31, L_32, L_39, L_40, L_48, L_57, L_76, L_80, L_90, L_91, L_97, L_99, L_100, L_255, L_273, L_1000, L_2000, q_ld, q_ldL, q_sto, q_stoL, q_add, q_sub, q_mul, q_dec, q_rem, q_div, q_lt_t, q_lt_f, q_le_t, q_le_f, q_eq_t, q_eq_f, q_em, q_me, q_ml, q_lm, q_mle, q_lem, q_s1, q_s1o, q_s1k, q_s12, q_s2, q_s2o, q_s2k, q_s21, Nat.add_sub_cancel, q_or, q_and, q_shl, true_or, or_true, false_or, or_false, true_and, and_true, false_and, and_false, not_true_eq_false, not_false_eq_true, ne_eq, fM_EachAddsALineModel_giver, gM_EachAddsALineModel_giver_0, h.b (m := a / 2) (by omega)]
theorem M_getter (h : MW w t) {a : Nat} (ha : a < 2 * w 5 1) : fM_EachAddsALineModel_getter N (nI a) t = some (nI (gt w a), t) := by
  have hb := h.bd
  unfold gt
  by_cases c : a % 2 = 0
  · rw [if_pos c]
    simp (disch := omega) only [Option.bind_some, ↓reduceIte, ↓M_1, ↓M_2, L_0, L_1, L_2, L_3, L_4, L_5, L_6, L_7, L_8, L_9, L_10, L_11, L_12, L_13, L_20, L_24, L_26, L_30, L_31, L_32, L_39, L_40, L_48, L_57, L_76, L_80, L_90, L_91, L_97, L_99, L_100, L_255, L_273, L_1000, L_2000, q_ld, q_ldL, q_sto, q_stoL, q_add, q_sub, q_mul, q_dec, q_rem, q_div, q_lt_t, q_lt_f, q_le_t, q_le_f, q_eq_t, q_eq_f, q_em, q_me, q_ml, q_lm, q_mle, q_lem, q_s1, q_s1o, q_s1k, q_s12, q_s2, q_s2o, q_s2k, q_s21, Nat.add_sub_cancel, q_or, q_and, q_shl, true_or, or_true, false_or, or_false, true_and, and_true, false_and, and_false, not_true_eq_false, not_false_eq_true, ne_eq, fM_EachAddsALineModel_getter, gM_EachAddsALineModel_getter_0, c, h.b (m := a / 2) (by omega)]
  · rw [if_neg c]
    simp (disch := omega) only [Option.bind_some, ↓reduceIte, ↓M_1, ↓M_2, L_0, L_1, L_2, L_3, L_4, L_5, L_6, L_7, L_8, L_9, L_10, L_11, L_12, L_13, L_20, L_24, L_26, L_30, L_31, L_32, L_39, L_40, L_48, L_57, L_76, L_80, L_90, L_91, L_97, L_99, L_100, L_255, L_273, L_1000, L_2000, q_ld, q_ldL, q_sto, q_stoL, q_add, q_sub, q_mul, q_dec, q_rem, q_div, q_lt_t, q_lt_f, q_le_t, q_le_f, q_eq_t, q_eq_f, q_em, q_me, q_ml, q_lm, q_mle, q_lem, q_s1, q_s1o, q_s1k, q_s12, q_s2, q_s2o, q_s2k, q_s21, Nat.add_sub_cancel, q_or, q_and, q_shl, true_or, or_true, false_or, or_false, true_and, and_true, false_and, and_false, not_true_eq_false, not_false_eq_true, ne_eq, fM_EachAddsALineModel_getter, gM_EachAddsALineModel_getter_0, h.a (m := a / 2) (by omega)]
theorem M_begins (h : MW w t) {a u k : Nat} (ha : a < 2 * w 5 1) (hu : u < w 5 0) (hk : k < 1000) : fM_EachAddsALineModel_begins N (nI a) (nI u) (nI k) t = some (if beg w u k a then nI 1 else nI 0, t) := by
  have hb := h.bd
  have h1 := hr_le h.ok ha
  have h2 := gv_lt h.ok ha
  have h3 : t.1 4 (a / 2) = nI (hr w a) := h.h (m := a / 2) (by omega)
  by_cases c : gv w a = u
  · by_cases d : k ≤ hr w a
    · rw [if_pos ⟨c, d⟩]
      simp (disch := omega) only [Option.bind_some, ↓reduceIte, ↓M_1, ↓M_2, L_0, L_1, L_2, L_3, L_4, L_5, L_6, L_7, L_8, L_9, L_10, L_11, L_12, L_13, L_20, L_24, L_26, L_30, L_31, L_32, L_39, L_40, L_48, L_57, L_76, L_80, L_90, L_91, L_97, L_99, L_100, L_255, L_273, L_1000, L_2000, q_ld, q_ldL, q_sto, q_stoL, q_add, q_sub, q_mul, q_dec, q_rem, q_div, q_lt_t, q_lt_f, q_le_t, q_le_f, q_eq_t, q_eq_f, q_em, q_me, q_ml, q_lm, q_mle, q_lem, q_s1, q_s1o, q_s1k, q_s12, q_s2, q_s2o, q_s2k, q_s21, Nat.add_sub_cancel, q_or, q_and, q_shl, true_or, or_true, false_or, or_false, true_and, and_true, false_and, and_false, not_true_eq_false, not_false_eq_true, ne_eq, fM_EachAddsALineModel_begins, gM_EachAddsALineModel_begins_0, gM_EachAddsALineModel_begins_25, M_giver h ha, c, h3]
    · rw [if_neg (fun z => d z.2)]
      simp (disch := omega) only [Option.bind_some, ↓reduceIte, ↓M_1, ↓M_2, L_0, L_1, L_2, L_3, L_4, L_5, L_6, L_7, L_8, L_9, L_10, L_11, L_12, L_13, L_20, L_24, L_26, L_30, L_31, L_32, L_39, L_40, L_48, L_57, L_76, L_80, L_90, L_91, L_97, L_99, L_100, L_255, L_273, L_1000, L_2000, q_ld, q_ldL, q_sto, q_stoL, q_add, q_sub, q_mul, q_dec, q_rem, q_div, q_lt_t, q_lt_f, q_le_t, q_le_f, q_eq_t, q_eq_f, q_em, q_me, q_ml, q_lm, q_mle, q_lem, q_s1, q_s1o, q_s1k, q_s12, q_s2, q_s2o, q_s2k, q_s21, Nat.add_sub_cancel, q_or, q_and, q_shl, true_or, or_true, false_or, or_false, true_and, and_true, false_and, and_false, not_true_eq_false, not_false_eq_true, ne_eq, fM_EachAddsALineModel_begins, gM_EachAddsALineModel_begins_0, gM_EachAddsALineModel_begins_25, M_giver h ha, c, h3]
  · rw [if_neg (fun z => c z.1)]
    simp (disch := omega) only [Option.bind_some, ↓reduceIte, ↓M_1, ↓M_2, L_0, L_1, L_2, L_3, L_4, L_5, L_6, L_7, L_8, L_9, L_10, L_11, L_12, L_13, L_20, L_24, L_26, L_30, L_31, L_32, L_39, L_40, L_48, L_57, L_76, L_80, L_90, L_91, L_97, L_99, L_100, L_255, L_273, L_1000, L_2000, q_ld, q_ldL, q_sto, q_stoL, q_add, q_sub, q_mul, q_dec, q_rem, q_div, q_lt_t, q_lt_f, q_le_t, q_le_f, q_eq_t, q_eq_f, q_em, q_me, q_ml, q_lm, q_mle, q_lem, q_s1, q_s1o, q_s1k, q_s12, q_s2, q_s2o, q_s2k, q_s21, Nat.add_sub_cancel, q_or, q_and, q_shl, true_or, or_true, false_or, or_false, true_and, and_true, false_and, and_false, not_true_eq_false, not_false_eq_true, ne_eq, fM_EachAddsALineModel_begins, gM_EachAddsALineModel_begins_0, gM_EachAddsALineModel_begins_25, M_giver h ha]
theorem M_follows (h : MW w t) {o a : Nat} (ho : o < 2 * w 5 1) (ha : a < 2 * w 5 1) : fM_EachAddsALineModel_follows N (nI o) (nI a) t = some (if fol w o a then nI 1 else nI 0, t) := by
  have hb := h.bd
  have h1 := hr_le h.ok ha
  have h2 := gv_lt h.ok ho
  have h3 : t.1 4 (a / 2) = nI (hr w a) := h.h (m := a / 2) (by omega)
  have h4 : t.1 4 (o / 2) = nI (hr w o) := h.h (m := o / 2) (by omega)
  have h5 := gt_lt h.ok ha
  have h6 := hr_le h.ok ho
  have h7 := rd_le h.ok ha
  by_cases c : gv w o = gt w a
  · have e : hr w a + w 0 (gt w a) = rd w a := rfl
    by_cases d : rd w a ≤ hr w o
    · rw [if_pos ⟨c, d⟩]
      simp (disch := omega) only [Option.bind_some, ↓reduceIte, ↓M_1, ↓M_2, L_0, L_1, L_2, L_3, L_4, L_5, L_6, L_7, L_8, L_9, L_10, L_11, L_12, L_13, L_20, L_24, L_26, L_30, L_31, L_32, L_39, L_40, L_48, L_57, L_76, L_80, L_90, L_91, L_97, L_99, L_100, L_255, L_273, L_1000, L_2000, q_ld, q_ldL, q_sto, q_stoL, q_add, q_sub, q_mul, q_dec, q_rem, q_div, q_lt_t, q_lt_f, q_le_t, q_le_f, q_eq_t, q_eq_f, q_em, q_me, q_ml, q_lm, q_mle, q_lem, q_s1, q_s1o, q_s1k, q_s12, q_s2, q_s2o, q_s2k, q_s21, Nat.add_sub_cancel, q_or, q_and, q_shl, true_or, or_true, false_or, or_false, true_and, and_true, false_and, and_false, not_true_eq_false, not_false_eq_true, ne_eq, fM_EachAddsALineModel_follows, gM_EachAddsALineModel_follows_0, gM_EachAddsALineModel_follows_47, M_giver h ho, M_getter h ha, c, h3, h4, h.rd h5, e]
    · rw [if_neg (fun z => d z.2)]
      simp (disch := omega) only [Option.bind_some, ↓reduceIte, ↓M_1, ↓M_2, L_0, L_1, L_2, L_3, L_4, L_5, L_6, L_7, L_8, L_9, L_10, L_11, L_12, L_13, L_20, L_24, L_26, L_30, L_31, L_32, L_39, L_40, L_48, L_57, L_76, L_80, L_90, L_91, L_97, L_99, L_100, L_255, L_273, L_1000, L_2000, q_ld, q_ldL, q_sto, q_stoL, q_add, q_sub, q_mul, q_dec, q_rem, q_div, q_lt_t, q_lt_f, q_le_t, q_le_f, q_eq_t, q_eq_f, q_em, q_me, q_ml, q_lm, q_mle, q_lem, q_s1, q_s1o, q_s1k, q_s12, q_s2, q_s2o, q_s2k, q_s21, Nat.add_sub_cancel, q_or, q_and, q_shl, true_or, or_true, false_or, or_false, true_and, and_true, false_and, and_false, not_true_eq_false, not_false_eq_true, ne_eq, fM_EachAddsALineModel_follows, gM_EachAddsALineModel_follows_0, gM_EachAddsALineModel_follows_47, M_giver h ho, M_getter h ha, c, h3, h4, h.rd h5, e]
  · rw [if_neg (fun z => c z.1)]
    simp (disch := omega) only [Option.bind_some, ↓reduceIte, ↓M_1, ↓M_2, L_0, L_1, L_2, L_3, L_4, L_5, L_6, L_7, L_8, L_9, L_10, L_11, L_12, L_13, L_20, L_24, L_26, L_30, L_31, L_32, L_39, L_40, L_48, L_57, L_76, L_80, L_90, L_91, L_97, L_99, L_100, L_255, L_273, L_1000, L_2000, q_ld, q_ldL, q_sto, q_stoL, q_add, q_sub, q_mul, q_dec, q_rem, q_div, q_lt_t, q_lt_f, q_le_t, q_le_f, q_eq_t, q_eq_f, q_em, q_me, q_ml, q_lm, q_mle, q_lem, q_s1, q_s1o, q_s1k, q_s12, q_s2, q_s2o, q_s2k, q_s21, Nat.add_sub_cancel, q_or, q_and, q_shl, true_or, or_true, false_or, or_false, true_and, and_true, false_and, and_false, not_true_eq_false, not_false_eq_true, ne_eq, fM_EachAddsALineModel_follows, gM_EachAddsALineModel_follows_0, gM_EachAddsALineModel_follows_47, M_giver h ho, M_getter h ha]
theorem M_isLess {a n b m : Nat} (ha : a < 2 ^ 31) (hn : n < 2 ^ 31) (hb : b < 2 ^ 31) (hm : m < 2 ^ 31) : fM_EachAddsALineModel_isLess N (nI a) (nI n) (nI b) (nI m) t = some (if lessP (a, n) (b, m) then nI 1 else nI 0, t) := by
  by_cases c : a < b
  · rw [if_pos (Or.inl c)]
    simp (disch := omega) only [Option.bind_some, ↓reduceIte, ↓M_1, ↓M_2, L_0, L_1, L_2, L_3, L_4, L_5, L_6, L_7, L_8, L_9, L_10, L_11, L_12, L_13, L_20, L_24, L_26, L_30, L_31, L_32, L_39, L_40, L_48, L_57, L_76, L_80, L_90, L_91, L_97, L_99, L_100, L_255, L_273, L_1000, L_2000, q_ld, q_ldL, q_sto, q_stoL, q_add, q_sub, q_mul, q_dec, q_rem, q_div, q_lt_t, q_lt_f, q_le_t, q_le_f, q_eq_t, q_eq_f, q_em, q_me, q_ml, q_lm, q_mle, q_lem, q_s1, q_s1o, q_s1k, q_s12, q_s2, q_s2o, q_s2k, q_s21, Nat.add_sub_cancel, q_or, q_and, q_shl, true_or, or_true, false_or, or_false, true_and, and_true, false_and, and_false, not_true_eq_false, not_false_eq_true, ne_eq, fM_EachAddsALineModel_isLess, gM_EachAddsALineModel_isLess_0, gM_EachAddsALineModel_isLess_16]
  · by_cases d : a = b
    · subst d
      by_cases e : n < m
      · rw [if_pos (Or.inr ⟨rfl, e⟩)]
        simp (disch := omega) only [Option.bind_some, ↓reduceIte, ↓M_1, ↓M_2, L_0, L_1, L_2, L_3, L_4, L_5, L_6, L_7, L_8, L_9, L_10, L_11, L_12, L_13, L_20, L_24, L_26, L_30, L_31, L_32, L_39, L_40, L_48, L_57, L_76, L_80, L_90, L_91, L_97, L_99, L_100, L_255, L_273, L_1000, L_2000, q_ld, q_ldL, q_sto, q_stoL, q_add, q_sub, q_mul, q_dec, q_rem, q_div, q_lt_t, q_lt_f, q_le_t, q_le_f, q_eq_t, q_eq_f, q_em, q_me, q_ml, q_lm, q_mle, q_lem, q_s1, q_s1o, q_s1k, q_s12, q_s2, q_s2o, q_s2k, q_s21, Nat.add_sub_cancel, q_or, q_and, q_shl, true_or, or_true, false_or, or_false, true_and, and_true, false_and, and_false, not_true_eq_false, not_false_eq_true, ne_eq, fM_EachAddsALineModel_isLess, gM_EachAddsALineModel_isLess_0, gM_EachAddsALineModel_isLess_16]
      · rw [if_neg (fun z => z.elim c (fun y => e y.2))]
        simp (disch := omega) only [Option.bind_some, ↓reduceIte, ↓M_1, ↓M_2, L_0, L_1, L_2, L_3, L_4, L_5, L_6, L_7, L_8, L_9, L_10, L_11, L_12, L_13, L_20, L_24, L_26, L_30, L_31, L_32, L_39, L_40, L_48, L_57, L_76, L_80, L_90, L_91, L_97, L_99, L_100, L_255, L_273, L_1000, L_2000, q_ld, q_ldL, q_sto, q_stoL, q_add, q_sub, q_mul, q_dec, q_rem, q_div, q_lt_t, q_lt_f, q_le_t, q_le_f, q_eq_t, q_eq_f, q_em, q_me, q_ml, q_lm, q_mle, q_lem, q_s1, q_s1o, q_s1k, q_s12, q_s2, q_s2o, q_s2k, q_s21, Nat.add_sub_cancel, q_or, q_and, q_shl, true_or, or_true, false_or, or_false, true_and, and_true, false_and, and_false, not_true_eq_false, not_false_eq_true, ne_eq, fM_EachAddsALineModel_isLess, gM_EachAddsALineModel_isLess_0, gM_EachAddsALineModel_isLess_20]
    · rw [if_neg (fun z => z.elim c (fun y => d y.1))]
      simp (disch := omega) only [Option.bind_some, ↓reduceIte, ↓M_1, ↓M_2, L_0, L_1, L_2, L_3, L_4, L_5, L_6, L_7, L_8, L_9, L_10, L_11, L_12, L_13, L_20, L_24, L_26, L_30, L_31, L_32, L_39, L_40, L_48, L_57, L_76, L_80, L_90, L_91, L_97, L_99, L_100, L_255, L_273, L_1000, L_2000, q_ld, q_ldL, q_sto, q_stoL, q_add, q_sub, q_mul, q_dec, q_rem, q_div, q_lt_t, q_lt_f, q_le_t, q_le_f, q_eq_t, q_eq_f, q_em, q_me, q_ml, q_lm, q_mle, q_lem, q_s1, q_s1o, q_s1k, q_s12, q_s2, q_s2o, q_s2k, q_s21, Nat.add_sub_cancel, q_or, q_and, q_shl, true_or, or_true, false_or, or_false, true_and, and_true, false_and, and_false, not_true_eq_false, not_false_eq_true, ne_eq, fM_EachAddsALineModel_isLess, gM_EachAddsALineModel_isLess_0, gM_EachAddsALineModel_isLess_20]
theorem C_place (h : CW w s) {m u : Nat} (hm : m < w 5 1) (hu : hop w m u) (hu9 : u < w 5 0) : fC_Roads_placeOf N (nI m) (nI (oth w m u)) s = some (nI (sw (ix w m u)), s) := by
  have hb := h.bd
  have hq := h.ok.2.2.2 m hm
  have ho := oth_lt h.ok (u := u) hm
  by_cases c : w 1 m = u
  · have e1 : oth w m u = w 2 m := if_pos c
    have e2 : ix w m u = 2 * m := if_pos c
    rw [e1, e2, sw_0]
    simp (disch := omega) only [Option.bind_some, ↓reduceIte, ↓M_1, ↓M_2, L_0, L_1, L_2, L_3, L_4, L_5, L_6, L_7, L_8, L_9, L_10, L_11, L_12, L_13, L_20, L_24, L_26, L_30, L_31, L_32, L_39, L_40, L_48, L_57, L_76, L_80, L_90, L_91, L_97, L_99, L_100, L_255, L_273, L_1000, L_2000, q_ld, q_ldL, q_sto, q_stoL, q_add, q_sub, q_mul, q_dec, q_rem, q_div, q_lt_t, q_lt_f, q_le_t, q_le_f, q_eq_t, q_eq_f, q_em, q_me, q_ml, q_lm, q_mle, q_lem, q_s1, q_s1o, q_s1k, q_s12, q_s2, q_s2o, q_s2k, q_s21, Nat.add_sub_cancel, q_or, q_and, q_shl, true_or, or_true, false_or, or_false, true_and, and_true, false_and, and_false, not_true_eq_false, not_false_eq_true, ne_eq, fC_Roads_placeOf, gC_Roads_placeOf_0, h.a hm]
  · have e1 : oth w m u = w 1 m := if_neg c
    have e2 : ix w m u = 2 * m + 1 := if_neg c
    rw [e1, e2, sw_1]
    simp (disch := omega) only [Option.bind_some, ↓reduceIte, ↓M_1, ↓M_2, L_0, L_1, L_2, L_3, L_4, L_5, L_6, L_7, L_8, L_9, L_10, L_11, L_12, L_13, L_20, L_24, L_26, L_30, L_31, L_32, L_39, L_40, L_48, L_57, L_76, L_80, L_90, L_91, L_97, L_99, L_100, L_255, L_273, L_1000, L_2000, q_ld, q_ldL, q_sto, q_stoL, q_add, q_sub, q_mul, q_dec, q_rem, q_div, q_lt_t, q_lt_f, q_le_t, q_le_f, q_eq_t, q_eq_f, q_em, q_me, q_ml, q_lm, q_mle, q_lem, q_s1, q_s1o, q_s1k, q_s12, q_s2, q_s2o, q_s2k, q_s21, Nat.add_sub_cancel, q_or, q_and, q_shl, true_or, or_true, false_or, or_false, true_and, and_true, false_and, and_false, not_true_eq_false, not_false_eq_true, ne_eq, fC_Roads_placeOf, gC_Roads_placeOf_0, h.a hm]
theorem C_getterAt (h : CW w s) {a : Nat} (ha : a < 2 * w 5 1) : fC_Roads_getterAt N (nI a) s = some (nI (gv w a), s) := by
  have hb := h.bd
  have e1 : a / 2 ^ 1 = a / 2 := rfl
  unfold gv
  by_cases c : a % 2 = 0
  · rw [if_pos c]
    simp (disch := omega) only [Option.bind_some, ↓reduceIte, ↓M_1, ↓M_2, L_0, L_1, L_2, L_3, L_4, L_5, L_6, L_7, L_8, L_9, L_10, L_11, L_12, L_13, L_20, L_24, L_26, L_30, L_31, L_32, L_39, L_40, L_48, L_57, L_76, L_80, L_90, L_91, L_97, L_99, L_100, L_255, L_273, L_1000, L_2000, q_ld, q_ldL, q_sto, q_stoL, q_add, q_sub, q_mul, q_dec, q_rem, q_div, q_lt_t, q_lt_f, q_le_t, q_le_f, q_eq_t, q_eq_f, q_em, q_me, q_ml, q_lm, q_mle, q_lem, q_s1, q_s1o, q_s1k, q_s12, q_s2, q_s2o, q_s2k, q_s21, Nat.add_sub_cancel, q_or, q_and, q_shl, true_or, or_true, false_or, or_false, true_and, and_true, false_and, and_false, not_true_eq_false, not_false_eq_true, ne_eq, fC_Roads_getterAt, gC_Roads_getterAt_0, q_shr, Nat.and_one_is_mod, c, e1, h.a (m := a / 2) (by omega)]
  · rw [if_neg c]
    simp (disch := omega) only [Option.bind_some, ↓reduceIte, ↓M_1, ↓M_2, L_0, L_1, L_2, L_3, L_4, L_5, L_6, L_7, L_8, L_9, L_10, L_11, L_12, L_13, L_20, L_24, L_26, L_30, L_31, L_32, L_39, L_40, L_48, L_57, L_76, L_80, L_90, L_91, L_97, L_99, L_100, L_255, L_273, L_1000, L_2000, q_ld, q_ldL, q_sto, q_stoL, q_add, q_sub, q_mul, q_dec, q_rem, q_div, q_lt_t, q_lt_f, q_le_t, q_le_f, q_eq_t, q_eq_f, q_em, q_me, q_ml, q_lm, q_mle, q_lem, q_s1, q_s1o, q_s1k, q_s12, q_s2, q_s2o, q_s2k, q_s21, Nat.add_sub_cancel, q_or, q_and, q_shl, true_or, or_true, false_or, or_false, true_and, and_true, false_and, and_false, not_true_eq_false, not_false_eq_true, ne_eq, fC_Roads_getterAt, gC_Roads_getterAt_0, q_shr, Nat.and_one_is_mod, e1, h.b (m := a / 2) (by omega)]
theorem C_readyAt (h : CW w s) {a : Nat} (ha : a < 2 * w 5 1) : fC_Roads_readyAt N (nI a) s = some (nI (w 3 (a / 2) + w 0 (gv w a)), s) := by
  have hb := h.bd
  have e1 : a / 2 ^ 1 = a / 2 := rfl
  have h2 := gv_lt h.ok ha
  simp (disch := omega) only [Option.bind_some, ↓reduceIte, ↓M_1, ↓M_2, L_0, L_1, L_2, L_3, L_4, L_5, L_6, L_7, L_8, L_9, L_10, L_11, L_12, L_13, L_20, L_24, L_26, L_30, L_31, L_32, L_39, L_40, L_48, L_57, L_76, L_80, L_90, L_91, L_97, L_99, L_100, L_255, L_273, L_1000, L_2000, q_ld, q_ldL, q_sto, q_stoL, q_add, q_sub, q_mul, q_dec, q_rem, q_div, q_lt_t, q_lt_f, q_le_t, q_le_f, q_eq_t, q_eq_f, q_em, q_me, q_ml, q_lm, q_mle, q_lem, q_s1, q_s1o, q_s1k, q_s12, q_s2, q_s2o, q_s2k, q_s21, Nat.add_sub_cancel, q_or, q_and, q_shl, true_or, or_true, false_or, or_false, true_and, and_true, false_and, and_false, not_true_eq_false, not_false_eq_true, ne_eq, fC_Roads_readyAt, gC_Roads_readyAt_0, q_shr, C_getterAt h ha, e1, h.h (m := a / 2) (by omega), h.rd h2]
theorem C_getter (h : CW w s) {a : Nat} (ha : a < 2 * w 5 1) : fC_Roads_getterAt N (nI (sw a)) s = some (nI (gt w a), s) := by rw [C_getterAt h (sw_lt ha), gv_sw]
theorem C_ready (h : CW w s) {a : Nat} (ha : a < 2 * w 5 1) : fC_Roads_readyAt N (nI (sw a)) s = some (nI (rd w a), s) := by rw [C_readyAt h (sw_lt ha), gv_sw, sw_half]; rfl
end SE
/-! the reference's order of steps -/
section MO
variable {N : Nat} {w : Nat → Nat → Nat} {t : vSt}
theorem M_sort22 (R : Int32 → vSt → Option vSt) {e : Nat → Nat} {m : Nat} (h : MW w t) (hm : m < 2 * w 5 1) (hN : 60 ≤ N)
    (he : ∀ k, k < m → t.1 11 k = nI (e k)) (hs : srt (hr w) e m) :
    ∃ u e', gM_EachAddsALineModel_findOrder_22 N R N (nI m) (nI m) t = R (nI (m + 1)) u ∧ Fm [11] [] [] t u ∧ (∀ k, k < m + 1 → u.1 11 k = nI (e' k)) ∧ srt (hr w) e' (m + 1) := by
  have hb := h.bd
  refine loopD (fun f i u => gM_EachAddsALineModel_findOrder_22 N R f (nI m) (nI i) u) m (fun i u => i ≤ m ∧ Fm [11] [] [] t u ∧ (∀ j, j < i → u.1 11 j = nI (e j)) ∧ (∀ j, i < j → j ≤ m → u.1 11 j = nI (e (j - 1))) ∧ ∀ j, i ≤ j → j < m → hr w m < hr w (e j))
    (fun o => ∃ u e', o = R (nI (m + 1)) u ∧ Fm [11] [] [] t u ∧ (∀ k, k < m + 1 → u.1 11 k = nI (e' k)) ∧ srt (hr w) e' (m + 1)) ?_ ?_ m N t (Nat.le_refl _) (by omega) ⟨Nat.le_refl _, Fm.rf, he, fun j h1 h2 => by omega, fun j h1 h2 => by omega⟩
  · rintro f i u hi ⟨h1, h2, h3, h4, h5⟩
    have k1 := hr_le h.ok hm
    have k3 := hs.1 i (by omega)
    have k2 := hr_le h.ok (s := e i) (by omega)
    have e1 : u.1 11 i = nI (e i) := h3 i (by omega)
    have e2 : u.1 4 (e i / 2) = nI (hr w (e i)) := by rw [h2.1 4 (by decide) (by decide)]; exact h.h (m := e i / 2) (by omega)
    have e3 : u.1 4 (m / 2) = nI (hr w m) := by rw [h2.1 4 (by decide) (by decide)]; exact h.h (m := m / 2) (by omega)
    by_cases c : hr w (e i) ≤ hr w m
    · refine Or.inr ⟨s1 u 11 (i + 1) (nI m), fun j => if j < i + 1 then e j else if j = i + 1 then m else e (j - 1), ?_, h2.tr (Fm.w1 (by decide) (by decide)), fun k hk => ?_, ?_⟩
      · rw [gM_EachAddsALineModel_findOrder_22]
        simp (disch := omega) only [Option.bind_some, ↓reduceIte, ↓M_1, ↓M_2, L_0, L_1, L_2, L_3, L_4, L_5, L_6, L_7, L_8, L_9, L_10, L_11, L_12, L_13, L_20, L_24, L_26, L_30, L_31, L_32, L_39, L_40, L_48, L_57, L_76, L_80, L_90, L_91, L_97, L_99, L_100, L_255, L_273, L_1000, L_2000, q_ld, q_ldL, q_sto, q_stoL, q_add, q_sub, q_mul, q_dec, q_rem, q_div, q_lt_t, q_lt_f, q_le_t, q_le_f, q_eq_t, q_eq_f, q_em, q_me, q_ml, q_lm, q_mle, q_lem, q_s1, q_s1o, q_s1k, q_s12, q_s2, q_s2o, q_s2k, q_s21, Nat.add_sub_cancel, q_or, q_and, q_shl, true_or, or_true, false_or, or_false, true_and, and_true, false_and, and_false, not_true_eq_false, not_false_eq_true, ne_eq, e1, e2, e3, gM_EachAddsALineModel_findOrder_72]
      · rcases Nat.lt_trichotomy k (i + 1) with d | d | d
        · rw [q_s1k (by omega), h3 k d]; exact congrArg nI (if_pos d).symm
        · subst d; rw [q_s1]; exact congrArg nI ((if_neg (by omega)).trans (if_pos rfl)).symm
        · rw [q_s1k (by omega), h4 k d (by omega)]; exact congrArg nI ((if_neg (by omega)).trans (if_neg (by omega))).symm
      · refine srt_ins (k := i + 1) hs (by omega) h5 (fun _ => c) (fun j hj => if_pos hj) ?_ (fun j h1 h2 => ?_)
        · exact (if_neg (by omega)).trans (if_pos rfl)
        · exact (if_neg (by omega)).trans (if_neg (by omega))
    · refine Or.inl ⟨s1 u 11 (i + 1) (nI (e i)), ?_, by omega, h2.tr (Fm.w1 (by decide) (by decide)), fun j hj => ?_, fun j a1 a2 => ?_, fun j a1 a2 => ?_⟩
      · rw [gM_EachAddsALineModel_findOrder_22]
        simp (disch := omega) only [Option.bind_some, ↓reduceIte, ↓M_1, ↓M_2, L_0, L_1, L_2, L_3, L_4, L_5, L_6, L_7, L_8, L_9, L_10, L_11, L_12, L_13, L_20, L_24, L_26, L_30, L_31, L_32, L_39, L_40, L_48, L_57, L_76, L_80, L_90, L_91, L_97, L_99, L_100, L_255, L_273, L_1000, L_2000, q_ld, q_ldL, q_sto, q_stoL, q_add, q_sub, q_mul, q_dec, q_rem, q_div, q_lt_t, q_lt_f, q_le_t, q_le_f, q_eq_t, q_eq_f, q_em, q_me, q_ml, q_lm, q_mle, q_lem, q_s1, q_s1o, q_s1k, q_s12, q_s2, q_s2o, q_s2k, q_s21, Nat.add_sub_cancel, q_or, q_and, q_shl, true_or, or_true, false_or, or_false, true_and, and_true, false_and, and_false, not_true_eq_false, not_false_eq_true, ne_eq, e1, e2, e3]
      · rw [q_s1k (by omega), h3 j (by omega)]
      · by_cases d : j = i + 1
        · subst d; rw [q_s1]; rfl
        · rw [q_s1k d, h4 j (by omega) a2]
      · by_cases d : j = i
        · subst d; omega
        · exact h5 j (by omega) a2
  · rintro f u ⟨h1, h2, h3, h4, h5⟩
    refine ⟨s1 u 11 0 (nI m), fun j => if j = 0 then m else e (j - 1), ?_, h2.tr (Fm.w1 (by decide) (by decide)), fun k hk => ?_, ?_⟩
    · rw [gM_EachAddsALineModel_findOrder_22]
      simp (disch := omega) only [Option.bind_some, ↓reduceIte, ↓M_1, ↓M_2, L_0, L_1, L_2, L_3, L_4, L_5, L_6, L_7, L_8, L_9, L_10, L_11, L_12, L_13, L_20, L_24, L_26, L_30, L_31, L_32, L_39, L_40, L_48, L_57, L_76, L_80, L_90, L_91, L_97, L_99, L_100, L_255, L_273, L_1000, L_2000, q_ld, q_ldL, q_sto, q_stoL, q_add, q_sub, q_mul, q_dec, q_rem, q_div, q_lt_t, q_lt_f, q_le_t, q_le_f, q_eq_t, q_eq_f, q_em, q_me, q_ml, q_lm, q_mle, q_lem, q_s1, q_s1o, q_s1k, q_s12, q_s2, q_s2o, q_s2k, q_s21, Nat.add_sub_cancel, q_or, q_and, q_shl, true_or, or_true, false_or, or_false, true_and, and_true, false_and, and_false, not_true_eq_false, not_false_eq_true, ne_eq, gM_EachAddsALineModel_findOrder_72]
    · by_cases d : k = 0
      · subst d; rw [q_s1]; exact congrArg nI (if_pos rfl).symm
      · rw [q_s1k d, h4 k (by omega) (by omega)]; exact congrArg nI (if_neg d).symm
    · refine srt_ins (k := 0) hs (by omega) h5 (fun z => by omega) (fun j hj => by omega) (if_pos rfl) (fun j a1 a2 => if_neg (by omega))
theorem M_findOrder (h : MW w t) (hN : 60 ≤ N) :
    ∃ u e, fM_EachAddsALineModel_findOrder N t = some u ∧ Fm [11] [] [30] t u ∧ u.1 0 30 = nI (2 * w 5 1) ∧ (∀ k, k < 2 * w 5 1 → u.1 11 k = nI (e k)) ∧ srt (hr w) e (2 * w 5 1) := by
  have hb := h.bd
  simp (disch := omega) only [Option.bind_some, ↓reduceIte, ↓M_1, ↓M_2, L_0, L_1, L_2, L_3, L_4, L_5, L_6, L_7, L_8, L_9, L_10, L_11, L_12, L_13, L_20, L_24, L_26, L_30, L_31, L_32, L_39, L_40, L_48, L_57, L_76, L_80, L_90, L_91, L_97, L_99, L_100, L_255, L_273, L_1000, L_2000, q_ld, q_ldL, q_sto, q_stoL, q_add, q_sub, q_mul, q_dec, q_rem, q_div, q_lt_t, q_lt_f, q_le_t, q_le_f, q_eq_t, q_eq_f, q_em, q_me, q_ml, q_lm, q_mle, q_lem, q_s1, q_s1o, q_s1k, q_s12, q_s2, q_s2o, q_s2k, q_s21, Nat.add_sub_cancel, q_or, q_and, q_shl, true_or, or_true, false_or, or_false, true_and, and_true, false_and, and_false, not_true_eq_false, not_false_eq_true, ne_eq, fM_EachAddsALineModel_findOrder, gM_EachAddsALineModel_findOrder_0, h.m]
  refine loopU (fun f i u => gM_EachAddsALineModel_findOrder_12 N f (nI i) u) (2 * w 5 1) (fun i u => i ≤ 2 * w 5 1 ∧ Fm [11] [] [30] t u ∧ u.1 0 30 = nI (2 * w 5 1) ∧ ∃ e, (∀ k, k < i → u.1 11 k = nI (e k)) ∧ srt (hr w) e i)
    (fun o => ∃ u e, o = some u ∧ Fm [11] [] [30] t u ∧ u.1 0 30 = nI (2 * w 5 1) ∧ (∀ k, k < 2 * w 5 1 → u.1 11 k = nI (e k)) ∧ srt (hr w) e (2 * w 5 1)) ?_ ?_ (2 * w 5 1) N 0 _ (by omega) (by omega) ⟨by omega, Fm.w10 (by decide), q_s1 _ _ _ _, fun _ => 0, fun k hk => by omega, fun k hk => by omega, fun i j h1 h2 => by omega⟩
  · rintro f i u hi ⟨h1, h2, h3, e, h4, h5⟩
    obtain ⟨u', e', a1, a2, a3, a4⟩ := M_sort22 (t := u) (gM_EachAddsALineModel_findOrder_12 N f) (h.fm h2 (by decide) (by decide)) hi hN h4 h5
    refine Or.inl ⟨u', ?_, by omega, h2.tr (a2.mono (by decide) (by decide) (by decide)), ?_, e', a3, a4⟩
    · rw [gM_EachAddsALineModel_findOrder_12, h3]
      simp (disch := omega) only [Option.bind_some, ↓reduceIte, ↓M_1, ↓M_2, L_0, L_1, L_2, L_3, L_4, L_5, L_6, L_7, L_8, L_9, L_10, L_11, L_12, L_13, L_20, L_24, L_26, L_30, L_31, L_32, L_39, L_40, L_48, L_57, L_76, L_80, L_90, L_91, L_97, L_99, L_100, L_255, L_273, L_1000, L_2000, q_ld, q_ldL, q_sto, q_stoL, q_add, q_sub, q_mul, q_dec, q_rem, q_div, q_lt_t, q_lt_f, q_le_t, q_le_f, q_eq_t, q_eq_f, q_em, q_me, q_ml, q_lm, q_mle, q_lem, q_s1, q_s1o, q_s1k, q_s12, q_s2, q_s2o, q_s2k, q_s21, Nat.add_sub_cancel, q_or, q_and, q_shl, true_or, or_true, false_or, or_false, true_and, and_true, false_and, and_false, not_true_eq_false, not_false_eq_true, ne_eq, a1]
    · rw [a2.2.2 30 (by decide)]; exact h3
  · rintro f u ⟨h1, h2, h3, e, h4, h5⟩
    refine ⟨u, e, ?_, h2, h3, h4, h5⟩
    rw [gM_EachAddsALineModel_findOrder_12, h3]
    simp (disch := omega) only [Option.bind_some, ↓reduceIte, ↓M_1, ↓M_2, L_0, L_1, L_2, L_3, L_4, L_5, L_6, L_7, L_8, L_9, L_10, L_11, L_12, L_13, L_20, L_24, L_26, L_30, L_31, L_32, L_39, L_40, L_48, L_57, L_76, L_80, L_90, L_91, L_97, L_99, L_100, L_255, L_273, L_1000, L_2000, q_ld, q_ldL, q_sto, q_stoL, q_add, q_sub, q_mul, q_dec, q_rem, q_div, q_lt_t, q_lt_f, q_le_t, q_le_f, q_eq_t, q_eq_f, q_em, q_me, q_ml, q_lm, q_mle, q_lem, q_s1, q_s1o, q_s1k, q_s12, q_s2, q_s2o, q_s2k, q_s21, Nat.add_sub_cancel, q_or, q_and, q_shl, true_or, or_true, false_or, or_false, true_and, and_true, false_and, and_false, not_true_eq_false, not_false_eq_true, ne_eq]
end MO
