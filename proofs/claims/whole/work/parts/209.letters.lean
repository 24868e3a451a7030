/-! letters: what both sides read of them -/
def okL (p n : Nat) (wh si li : Nat → Nat) : Prop := n ≤ 30 ∧ ∀ k, k < n → wh k < p ∧ si k ≤ 99 ∧ li k ≤ 9
def CL (l n : Nat) (wh si li : Nat → Nat) (s : vSt) : Prop := s.1 27 l = nI n ∧ ∀ k, k < n → s.1 28 (30 * l + k) = nI (wh k) ∧ s.1 29 (30 * l + k) = nI (si k) ∧ s.1 30 (30 * l + k) = nI (li k)
def ML (l n : Nat) (wh si li : Nat → Nat) (t : vSt) : Prop := t.1 9 (91 * l) = nI n ∧ ∀ k, k < n → t.1 9 (91 * l + 1 + 3 * k) = nI (li k) ∧ t.1 9 (91 * l + 2 + 3 * k) = nI (wh k) ∧ t.1 9 (91 * l + 3 + 3 * k) = nI (si k)
theorem LTx.get {p l : Nat} {s t : vSt} (h : LTx p 26 9 0 s t) (hl : l < 3) : ∃ n wh si li, okL p n wh si li ∧ CL l n wh si li s ∧ ML l n wh si li t := by
  obtain ⟨n, wh, si, li, h1, h2, h3, h4⟩ := h l hl
  simp only [Nat.zero_add] at h3 h4
  exact ⟨n, wh, si, li, ⟨h1, fun k hk => ⟨(h4 k hk).1, (h4 k hk).2.1, (h4 k hk).2.2.1⟩⟩, ⟨h2, fun k hk => ⟨(h4 k hk).2.2.2.1, (h4 k hk).2.2.2.2.1, (h4 k hk).2.2.2.2.2.1⟩⟩, h3, fun k hk => ⟨(h4 k hk).2.2.2.2.2.2.1, (h4 k hk).2.2.2.2.2.2.2.1, (h4 k hk).2.2.2.2.2.2.2.2⟩⟩
theorem LTx.put {p : Nat} {s t : vSt} (h : ∀ l, l < 3 → ∃ n wh si li, okL p n wh si li ∧ CL l n wh si li s ∧ ML l n wh si li t) : LTx p 26 9 0 s t := fun l hl => by
  obtain ⟨n, wh, si, li, h1, h2, h3⟩ := h l hl
  refine ⟨n, wh, si, li, h1.1, h2.1, ?_, fun k hk => ?_⟩
  · rw [Nat.zero_add]; exact h3.1
  · rw [Nat.zero_add]
    exact ⟨(h1.2 k hk).1, (h1.2 k hk).2.1, (h1.2 k hk).2.2, (h2.2 k hk).1, (h2.2 k hk).2.1, (h2.2 k hk).2.2, (h3.2 k hk).1, (h3.2 k hk).2.1, (h3.2 k hk).2.2⟩
/-- who has read it -/
def rdr (wh : Nat → Nat) : Nat → Nat
  | 0 => 0
  | n + 1 => rdr wh n ||| 2 ^ wh n
theorem rdr_lt {wh : Nat → Nat} : ∀ {n : Nat}, (∀ k, k < n → wh k < 9) → rdr wh n < 512
  | 0, _ => (by decide : 0 < 512)
  | n + 1, h => or_lt9 (rdr_lt (fun k hk => h k (by omega))) (pow9 (h n (by omega)))
section LB
variable {N : Nat} {s t : vSt} {w : Nat → Nat → Nat} {p l n : Nat} {wh si li : Nat → Nat}
theorem CL.fr (h : CL l n wh si li s) {L K : List Nat} {u : vSt} (f : Fr L K s u) (hL : 27 ∉ L ∧ 28 ∉ L ∧ 29 ∉ L ∧ 30 ∉ L) : CL l n wh si li u := by
  unfold CL at h ⊢
  rw [f.1 27 hL.1, f.1 28 hL.2.1, f.1 29 hL.2.2.1, f.1 30 hL.2.2.2]
  exact h
theorem ML.fm (h : ML l n wh si li t) {L K F : List Nat} {u : vSt} (f : Fm L K F t u) (hL : 9 ∉ L) : ML l n wh si li u := by
  unfold ML at h ⊢
  rw [f.1 9 (by decide) hL]
  exact h
theorem C_isThere (hl : l < 3) (hn : n ≤ 30) (h : CL l n wh si li s) : fC_Letters_isThere N (nI l) s = some (if n = 0 then nI 0 else nI 1, s) := by
  by_cases c : n = 0
  · subst c
    simp (disch := omega) only [Option.bind_some, ↓reduceIte, ↓M_1, ↓M_2, L_0, L_1, L_2, L_3, L_4, L_5, L_6, L_7, L_8, L_9, L_10, L_11, L_12, L_13, L_20, L_24, L_26, L_30, L_31, L_32, L_39, L_40, L_48, L_57, L_76, L_80, L_90, L_91, L_97, L_99, L_100, L_255, L_273, L_1000, L_2000, q_ld, q_ldL, q_sto, q_stoL, q_add, q_sub, q_mul, q_dec, q_rem, q_div, q_lt_t, q_lt_f, q_le_t, q_le_f, q_eq_t, q_eq_f, q_em, q_me, q_ml, q_lm, q_mle, q_lem, q_s1, q_s1o, q_s1k, q_s12, q_s2, q_s2o, q_s2k, q_s21, Nat.add_sub_cancel, q_or, q_and, q_shl, true_or, or_true, false_or, or_false, true_and, and_true, false_and, and_false, not_true_eq_false, not_false_eq_true, ne_eq, fC_Letters_isThere, gC_Letters_isThere_0, gC_Letters_isThere_22, h.1]
  · rw [if_neg c]
    simp (disch := omega) only [Option.bind_some, ↓reduceIte, ↓M_1, ↓M_2, L_0, L_1, L_2, L_3, L_4, L_5, L_6, L_7, L_8, L_9, L_10, L_11, L_12, L_13, L_20, L_24, L_26, L_30, L_31, L_32, L_39, L_40, L_48, L_57, L_76, L_80, L_90, L_91, L_97, L_99, L_100, L_255, L_273, L_1000, L_2000, q_ld, q_ldL, q_sto, q_stoL, q_add, q_sub, q_mul, q_dec, q_rem, q_div, q_lt_t, q_lt_f, q_le_t, q_le_f, q_eq_t, q_eq_f, q_em, q_me, q_ml, q_lm, q_mle, q_lem, q_s1, q_s1o, q_s1k, q_s12, q_s2, q_s2o, q_s2k, q_s21, Nat.add_sub_cancel, q_or, q_and, q_shl, true_or, or_true, false_or, or_false, true_and, and_true, false_and, and_false, not_true_eq_false, not_false_eq_true, ne_eq, fC_Letters_isThere, gC_Letters_isThere_0, gC_Letters_isThere_22, h.1]
theorem C_isThere_f {v : Int32} (c : ¬ isP 3 v) : fC_Letters_isThere N v s = some (nI 0, s) := by
  rcases isP_lt (by decide) c with hv | hv
  · simp (disch := omega) only [Option.bind_some, ↓reduceIte, ↓M_1, ↓M_2, L_0, L_1, L_2, L_3, L_4, L_5, L_6, L_7, L_8, L_9, L_10, L_11, L_12, L_13, L_20, L_24, L_26, L_30, L_31, L_32, L_39, L_40, L_48, L_57, L_76, L_80, L_90, L_91, L_97, L_99, L_100, L_255, L_273, L_1000, L_2000, q_ld, q_ldL, q_sto, q_stoL, q_add, q_sub, q_mul, q_dec, q_rem, q_div, q_lt_t, q_lt_f, q_le_t, q_le_f, q_eq_t, q_eq_f, q_em, q_me, q_ml, q_lm, q_mle, q_lem, q_s1, q_s1o, q_s1k, q_s12, q_s2, q_s2o, q_s2k, q_s21, Nat.add_sub_cancel, q_or, q_and, q_shl, true_or, or_true, false_or, or_false, true_and, and_true, false_and, and_false, not_true_eq_false, not_false_eq_true, ne_eq, fC_Letters_isThere, gC_Letters_isThere_0, gC_Letters_isThere_22, neg_lt hv, neg_nle hv, neg_ne hv, neg_le hv]
  · simp (disch := omega) only [Option.bind_some, ↓reduceIte, ↓M_1, ↓M_2, L_0, L_1, L_2, L_3, L_4, L_5, L_6, L_7, L_8, L_9, L_10, L_11, L_12, L_13, L_20, L_24, L_26, L_30, L_31, L_32, L_39, L_40, L_48, L_57, L_76, L_80, L_90, L_91, L_97, L_99, L_100, L_255, L_273, L_1000, L_2000, q_ld, q_ldL, q_sto, q_stoL, q_add, q_sub, q_mul, q_dec, q_rem, q_div, q_lt_t, q_lt_f, q_le_t, q_le_f, q_eq_t, q_eq_f, q_em, q_me, q_ml, q_lm, q_mle, q_lem, q_s1, q_s1o, q_s1k, q_s12, q_s2, q_s2o, q_s2k, q_s21, Nat.add_sub_cancel, q_or, q_and, q_shl, true_or, or_true, false_or, or_false, true_and, and_true, false_and, and_false, not_true_eq_false, not_false_eq_true, ne_eq, fC_Letters_isThere, gC_Letters_isThere_0, gC_Letters_isThere_22, big_nlt hv, big_lt hv, big_nle hv, big_ne hv, big_le hv]
theorem M_linesOf (hl : l < 3) (h : ML l n wh si li t) : fM_EachAddsALineModel_linesOf N (nI l) t = some (nI n, t) := by
  simp (disch := omega) only [Option.bind_some, ↓reduceIte, ↓M_1, ↓M_2, L_0, L_1, L_2, L_3, L_4, L_5, L_6, L_7, L_8, L_9, L_10, L_11, L_12, L_13, L_20, L_24, L_26, L_30, L_31, L_32, L_39, L_40, L_48, L_57, L_76, L_80, L_90, L_91, L_97, L_99, L_100, L_255, L_273, L_1000, L_2000, q_ld, q_ldL, q_sto, q_stoL, q_add, q_sub, q_mul, q_dec, q_rem, q_div, q_lt_t, q_lt_f, q_le_t, q_le_f, q_eq_t, q_eq_f, q_em, q_me, q_ml, q_lm, q_mle, q_lem, q_s1, q_s1o, q_s1k, q_s12, q_s2, q_s2o, q_s2k, q_s21, Nat.add_sub_cancel, q_or, q_and, q_shl, true_or, or_true, false_or, or_false, true_and, and_true, false_and, and_false, not_true_eq_false, not_false_eq_true, ne_eq, fM_EachAddsALineModel_linesOf, gM_EachAddsALineModel_linesOf_0, L_91, h.1]
theorem M_isLetter (hl : l < 3) (hn : n ≤ 30) (h : ML l n wh si li t) : fM_EachAddsALineModel_isLetter N (nI l) t = some (if n = 0 then nI 0 else nI 1, t) := by
  by_cases c : n = 0
  · subst c
    simp (disch := omega) only [Option.bind_some, ↓reduceIte, ↓M_1, ↓M_2, L_0, L_1, L_2, L_3, L_4, L_5, L_6, L_7, L_8, L_9, L_10, L_11, L_12, L_13, L_20, L_24, L_26, L_30, L_31, L_32, L_39, L_40, L_48, L_57, L_76, L_80, L_90, L_91, L_97, L_99, L_100, L_255, L_273, L_1000, L_2000, q_ld, q_ldL, q_sto, q_stoL, q_add, q_sub, q_mul, q_dec, q_rem, q_div, q_lt_t, q_lt_f, q_le_t, q_le_f, q_eq_t, q_eq_f, q_em, q_me, q_ml, q_lm, q_mle, q_lem, q_s1, q_s1o, q_s1k, q_s12, q_s2, q_s2o, q_s2k, q_s21, Nat.add_sub_cancel, q_or, q_and, q_shl, true_or, or_true, false_or, or_false, true_and, and_true, false_and, and_false, not_true_eq_false, not_false_eq_true, ne_eq, fM_EachAddsALineModel_isLetter, gM_EachAddsALineModel_isLetter_0, gM_EachAddsALineModel_isLetter_21, M_in_any, M_linesOf hl h]
  · rw [if_neg c]
    simp (disch := omega) only [Option.bind_some, ↓reduceIte, ↓M_1, ↓M_2, L_0, L_1, L_2, L_3, L_4, L_5, L_6, L_7, L_8, L_9, L_10, L_11, L_12, L_13, L_20, L_24, L_26, L_30, L_31, L_32, L_39, L_40, L_48, L_57, L_76, L_80, L_90, L_91, L_97, L_99, L_100, L_255, L_273, L_1000, L_2000, q_ld, q_ldL, q_sto, q_stoL, q_add, q_sub, q_mul, q_dec, q_rem, q_div, q_lt_t, q_lt_f, q_le_t, q_le_f, q_eq_t, q_eq_f, q_em, q_me, q_ml, q_lm, q_mle, q_lem, q_s1, q_s1o, q_s1k, q_s12, q_s2, q_s2o, q_s2k, q_s21, Nat.add_sub_cancel, q_or, q_and, q_shl, true_or, or_true, false_or, or_false, true_and, and_true, false_and, and_false, not_true_eq_false, not_false_eq_true, ne_eq, fM_EachAddsALineModel_isLetter, gM_EachAddsALineModel_isLetter_0, gM_EachAddsALineModel_isLetter_21, M_in_any, M_linesOf hl h]
theorem M_isLetter_f {v : Int32} (c : ¬ isP 3 v) : fM_EachAddsALineModel_isLetter N v t = some (nI 0, t) := by
  rcases isP_lt (by decide) c with hv | hv
  · simp (disch := omega) only [Option.bind_some, ↓reduceIte, ↓M_1, ↓M_2, L_0, L_1, L_2, L_3, L_4, L_5, L_6, L_7, L_8, L_9, L_10, L_11, L_12, L_13, L_20, L_24, L_26, L_30, L_31, L_32, L_39, L_40, L_48, L_57, L_76, L_80, L_90, L_91, L_97, L_99, L_100, L_255, L_273, L_1000, L_2000, q_ld, q_ldL, q_sto, q_stoL, q_add, q_sub, q_mul, q_dec, q_rem, q_div, q_lt_t, q_lt_f, q_le_t, q_le_f, q_eq_t, q_eq_f, q_em, q_me, q_ml, q_lm, q_mle, q_lem, q_s1, q_s1o, q_s1k, q_s12, q_s2, q_s2o, q_s2k, q_s21, Nat.add_sub_cancel, q_or, q_and, q_shl, true_or, or_true, false_or, or_false, true_and, and_true, false_and, and_false, not_true_eq_false, not_false_eq_true, ne_eq, fM_EachAddsALineModel_isLetter, gM_EachAddsALineModel_isLetter_0, gM_EachAddsALineModel_isLetter_21, M_in_any, neg_lt hv, neg_nle hv, neg_ne hv, neg_le hv]
  · simp (disch := omega) only [Option.bind_some, ↓reduceIte, ↓M_1, ↓M_2, L_0, L_1, L_2, L_3, L_4, L_5, L_6, L_7, L_8, L_9, L_10, L_11, L_12, L_13, L_20, L_24, L_26, L_30, L_31, L_32, L_39, L_40, L_48, L_57, L_76, L_80, L_90, L_91, L_97, L_99, L_100, L_255, L_273, L_1000, L_2000, q_ld, q_ldL, q_sto, q_stoL, q_add, q_sub, q_mul, q_dec, q_rem, q_div, q_lt_t, q_lt_f, q_le_t, q_le_f, q_eq_t, q_eq_f, q_em, q_me, q_ml, q_lm, q_mle, q_lem, q_s1, q_s1o, q_s1k, q_s12, q_s2, q_s2o, q_s2k, q_s21, Nat.add_sub_cancel, q_or, q_and, q_shl, true_or, or_true, false_or, or_false, true_and, and_true, false_and, and_false, not_true_eq_false, not_false_eq_true, ne_eq, fM_EachAddsALineModel_isLetter, gM_EachAddsALineModel_isLetter_0, gM_EachAddsALineModel_isLetter_21, M_in_any, big_nlt hv, big_lt hv, big_nle hv, big_ne hv, big_le hv]
theorem C_holderAt (hl : l < 3) (ho : okL p n wh si li) (h : CL l n wh si li s) {k : Nat} (hk : k < n) : fC_Letters_holderAt N (nI l) (nI k) s = some (nI (wh k), s) := by
  have e : l * 30 + k = 30 * l + k := by omega
  have := ho.1
  simp (disch := omega) only [Option.bind_some, ↓reduceIte, ↓M_1, ↓M_2, L_0, L_1, L_2, L_3, L_4, L_5, L_6, L_7, L_8, L_9, L_10, L_11, L_12, L_13, L_20, L_24, L_26, L_30, L_31, L_32, L_39, L_40, L_48, L_57, L_76, L_80, L_90, L_91, L_97, L_99, L_100, L_255, L_273, L_1000, L_2000, q_ld, q_ldL, q_sto, q_stoL, q_add, q_sub, q_mul, q_dec, q_rem, q_div, q_lt_t, q_lt_f, q_le_t, q_le_f, q_eq_t, q_eq_f, q_em, q_me, q_ml, q_lm, q_mle, q_lem, q_s1, q_s1o, q_s1k, q_s12, q_s2, q_s2o, q_s2k, q_s21, Nat.add_sub_cancel, q_or, q_and, q_shl, true_or, or_true, false_or, or_false, true_and, and_true, false_and, and_false, not_true_eq_false, not_false_eq_true, ne_eq, fC_Letters_holderAt, gC_Letters_holderAt_0, e, (h.2 k hk).1]
theorem C_sinceAt (hl : l < 3) (ho : okL p n wh si li) (h : CL l n wh si li s) {k : Nat} (hk : k < n) : fC_Letters_sinceAt N (nI l) (nI k) s = some (nI (si k), s) := by
  have e : l * 30 + k = 30 * l + k := by omega
  have := ho.1
  simp (disch := omega) only [Option.bind_some, ↓reduceIte, ↓M_1, ↓M_2, L_0, L_1, L_2, L_3, L_4, L_5, L_6, L_7, L_8, L_9, L_10, L_11, L_12, L_13, L_20, L_24, L_26, L_30, L_31, L_32, L_39, L_40, L_48, L_57, L_76, L_80, L_90, L_91, L_97, L_99, L_100, L_255, L_273, L_1000, L_2000, q_ld, q_ldL, q_sto, q_stoL, q_add, q_sub, q_mul, q_dec, q_rem, q_div, q_lt_t, q_lt_f, q_le_t, q_le_f, q_eq_t, q_eq_f, q_em, q_me, q_ml, q_lm, q_mle, q_lem, q_s1, q_s1o, q_s1k, q_s12, q_s2, q_s2o, q_s2k, q_s21, Nat.add_sub_cancel, q_or, q_and, q_shl, true_or, or_true, false_or, or_false, true_and, and_true, false_and, and_false, not_true_eq_false, not_false_eq_true, ne_eq, fC_Letters_sinceAt, gC_Letters_sinceAt_0, e, (h.2 k hk).2.1]
theorem C_lineAt (hl : l < 3) (ho : okL p n wh si li) (h : CL l n wh si li s) {k : Nat} (hk : k < n) : fC_Letters_lineAt N (nI l) (nI k) s = some (nI (li k), s) := by
  have e : l * 30 + k = 30 * l + k := by omega
  have := ho.1
  simp (disch := omega) only [Option.bind_some, ↓reduceIte, ↓M_1, ↓M_2, L_0, L_1, L_2, L_3, L_4, L_5, L_6, L_7, L_8, L_9, L_10, L_11, L_12, L_13, L_20, L_24, L_26, L_30, L_31, L_32, L_39, L_40, L_48, L_57, L_76, L_80, L_90, L_91, L_97, L_99, L_100, L_255, L_273, L_1000, L_2000, q_ld, q_ldL, q_sto, q_stoL, q_add, q_sub, q_mul, q_dec, q_rem, q_div, q_lt_t, q_lt_f, q_le_t, q_le_f, q_eq_t, q_eq_f, q_em, q_me, q_ml, q_lm, q_mle, q_lem, q_s1, q_s1o, q_s1k, q_s12, q_s2, q_s2o, q_s2k, q_s21, Nat.add_sub_cancel, q_or, q_and, q_shl, true_or, or_true, false_or, or_false, true_and, and_true, false_and, and_false, not_true_eq_false, not_false_eq_true, ne_eq, fC_Letters_lineAt, gC_Letters_lineAt_0, e, (h.2 k hk).2.2]
theorem M_at (a b : Nat) : fM_EachAddsALineModel_at N (nI a) (nI b) t = some (nI (91 * a + 1 + 3 * b), t) := by
  simp (disch := omega) only [Option.bind_some, ↓reduceIte, ↓M_1, ↓M_2, L_0, L_1, L_2, L_3, L_4, L_5, L_6, L_7, L_8, L_9, L_10, L_11, L_12, L_13, L_20, L_24, L_26, L_30, L_31, L_32, L_39, L_40, L_48, L_57, L_76, L_80, L_90, L_91, L_97, L_99, L_100, L_255, L_273, L_1000, L_2000, q_ld, q_ldL, q_sto, q_stoL, q_add, q_sub, q_mul, q_dec, q_rem, q_div, q_lt_t, q_lt_f, q_le_t, q_le_f, q_eq_t, q_eq_f, q_em, q_me, q_ml, q_lm, q_mle, q_lem, q_s1, q_s1o, q_s1k, q_s12, q_s2, q_s2o, q_s2k, q_s21, Nat.add_sub_cancel, q_or, q_and, q_shl, true_or, or_true, false_or, or_false, true_and, and_true, false_and, and_false, not_true_eq_false, not_false_eq_true, ne_eq, fM_EachAddsALineModel_at, gM_EachAddsALineModel_at_0, L_91]
theorem M_holder {m : Nat} (hl : l < 3) (ho : okL p (m + 1) wh si li) (h : ML l (m + 1) wh si li t) : fM_EachAddsALineModel_holder N (nI l) t = some (nI (wh m), t) := by
  have := ho.1
  have e : 91 * l + 1 + 3 * m + 1 = 91 * l + 2 + 3 * m := by omega
  have e2 := (h.2 m (by omega)).2.1
  rw [fM_EachAddsALineModel_holder, gM_EachAddsALineModel_holder_0, M_linesOf hl h, Option.bind_some]
  simp only
  rw [show nI (m + 1) - 1 = nI m from nI_pred m, M_at, Option.bind_some]
  simp only
  rw [nI_1, e, ld_n (by omega), e2, Option.bind_some]
theorem M_since {m : Nat} (hl : l < 3) (ho : okL p (m + 1) wh si li) (h : ML l (m + 1) wh si li t) : fM_EachAddsALineModel_since N (nI l) t = some (nI (si m), t) := by
  have := ho.1
  have e : 91 * l + 1 + 3 * m + 2 = 91 * l + 3 + 3 * m := by omega
  have e2 := (h.2 m (by omega)).2.2
  rw [fM_EachAddsALineModel_since, gM_EachAddsALineModel_since_0, M_linesOf hl h, Option.bind_some]
  simp only
  rw [show nI (m + 1) - 1 = nI m from nI_pred m, M_at, Option.bind_some]
  simp only
  rw [show nI (91 * l + 1 + 3 * m) + 2 = nI (91 * l + 1 + 3 * m + 2) from nI_add _ 2, e, ld_n (by omega), e2, Option.bind_some]
theorem C_readers (hN : 40 ≤ N) (hl : l < 3) (hp : p ≤ 9) (ho : okL p n wh si li) (h : CL l n wh si li s) : fC_Letters_readers N (nI l) s = some (nI (rdr wh n), s) := by
  have hn := ho.1
  simp only [fC_Letters_readers, gC_Letters_readers_0]
  refine loopU (fun f i (a : Nat) => gC_Letters_readers_4 N f (nI l) (nI a) (nI i) s) n (fun i a => a = rdr wh i) (fun o => o = some (nI (rdr wh n), s)) ?_ ?_ n N 0 0 (by omega) (by omega) rfl
  · rintro f i a hi rfl
    have := (ho.2 i hi).1
    refine Or.inl ⟨_, ?_, rfl⟩
    show gC_Letters_readers_4 N (f + 1) (nI l) (nI (rdr wh i)) (nI i) s = gC_Letters_readers_4 N f (nI l) (nI (rdr wh i ||| 2 ^ wh i)) (nI (i + 1)) s
    rw [gC_Letters_readers_4]
    simp (disch := omega) only [Option.bind_some, ↓reduceIte, ↓M_1, ↓M_2, L_0, L_1, L_2, L_3, L_4, L_5, L_6, L_7, L_8, L_9, L_10, L_11, L_12, L_13, L_20, L_24, L_26, L_30, L_31, L_32, L_39, L_40, L_48, L_57, L_76, L_80, L_90, L_91, L_97, L_99, L_100, L_255, L_273, L_1000, L_2000, q_ld, q_ldL, q_sto, q_stoL, q_add, q_sub, q_mul, q_dec, q_rem, q_div, q_lt_t, q_lt_f, q_le_t, q_le_f, q_eq_t, q_eq_f, q_em, q_me, q_ml, q_lm, q_mle, q_lem, q_s1, q_s1o, q_s1k, q_s12, q_s2, q_s2o, q_s2k, q_s21, Nat.add_sub_cancel, q_or, q_and, q_shl, true_or, or_true, false_or, or_false, true_and, and_true, false_and, and_false, not_true_eq_false, not_false_eq_true, ne_eq, h.1, C_holderAt hl ho h hi]
  · rintro f a rfl
    show gC_Letters_readers_4 N (f + 1) (nI l) (nI (rdr wh n)) (nI n) s = _
    rw [gC_Letters_readers_4]
    simp (disch := omega) only [Option.bind_some, ↓reduceIte, ↓M_1, ↓M_2, L_0, L_1, L_2, L_3, L_4, L_5, L_6, L_7, L_8, L_9, L_10, L_11, L_12, L_13, L_20, L_24, L_26, L_30, L_31, L_32, L_39, L_40, L_48, L_57, L_76, L_80, L_90, L_91, L_97, L_99, L_100, L_255, L_273, L_1000, L_2000, q_ld, q_ldL, q_sto, q_stoL, q_add, q_sub, q_mul, q_dec, q_rem, q_div, q_lt_t, q_lt_f, q_le_t, q_le_f, q_eq_t, q_eq_f, q_em, q_me, q_ml, q_lm, q_mle, q_lem, q_s1, q_s1o, q_s1k, q_s12, q_s2, q_s2o, q_s2k, q_s21, Nat.add_sub_cancel, q_or, q_and, q_shl, true_or, or_true, false_or, or_false, true_and, and_true, false_and, and_false, not_true_eq_false, not_false_eq_true, ne_eq, h.1]
theorem M_readers (hN : 40 ≤ N) (hl : l < 3) (hp : p ≤ 9) (ho : okL p n wh si li) (h : ML l n wh si li t) : fM_EachAddsALineModel_readers N (nI l) t = some (nI (rdr wh n), t) := by
  have hn := ho.1
  simp only [fM_EachAddsALineModel_readers, gM_EachAddsALineModel_readers_0]
  refine loopU (fun f i (a : Nat) => gM_EachAddsALineModel_readers_4 N f (nI l) (nI a) (nI i) t) n (fun i a => a = rdr wh i) (fun o => o = some (nI (rdr wh n), t)) ?_ ?_ n N 0 0 (by omega) (by omega) rfl
  · rintro f i a hi rfl
    have := (ho.2 i hi).1
    have e : 91 * l + 1 + 3 * i + 1 = 91 * l + 2 + 3 * i := by omega
    refine Or.inl ⟨_, ?_, rfl⟩
    show gM_EachAddsALineModel_readers_4 N (f + 1) (nI l) (nI (rdr wh i)) (nI i) t = gM_EachAddsALineModel_readers_4 N f (nI l) (nI (rdr wh i ||| 2 ^ wh i)) (nI (i + 1)) t
    rw [gM_EachAddsALineModel_readers_4]
    simp (disch := omega) only [Option.bind_some, ↓reduceIte, ↓M_1, ↓M_2, L_0, L_1, L_2, L_3, L_4, L_5, L_6, L_7, L_8, L_9, L_10, L_11, L_12, L_13, L_20, L_24, L_26, L_30, L_31, L_32, L_39, L_40, L_48, L_57, L_76, L_80, L_90, L_91, L_97, L_99, L_100, L_255, L_273, L_1000, L_2000, q_ld, q_ldL, q_sto, q_stoL, q_add, q_sub, q_mul, q_dec, q_rem, q_div, q_lt_t, q_lt_f, q_le_t, q_le_f, q_eq_t, q_eq_f, q_em, q_me, q_ml, q_lm, q_mle, q_lem, q_s1, q_s1o, q_s1k, q_s12, q_s2, q_s2o, q_s2k, q_s21, Nat.add_sub_cancel, q_or, q_and, q_shl, true_or, or_true, false_or, or_false, true_and, and_true, false_and, and_false, not_true_eq_false, not_false_eq_true, ne_eq, M_linesOf hl h, M_at, e, (h.2 i hi).2.1]
  · rintro f a rfl
    show gM_EachAddsALineModel_readers_4 N (f + 1) (nI l) (nI (rdr wh n)) (nI n) t = _
    rw [gM_EachAddsALineModel_readers_4]
    simp (disch := omega) only [Option.bind_some, ↓reduceIte, ↓M_1, ↓M_2, L_0, L_1, L_2, L_3, L_4, L_5, L_6, L_7, L_8, L_9, L_10, L_11, L_12, L_13, L_20, L_24, L_26, L_30, L_31, L_32, L_39, L_40, L_48, L_57, L_76, L_80, L_90, L_91, L_97, L_99, L_100, L_255, L_273, L_1000, L_2000, q_ld, q_ldL, q_sto, q_stoL, q_add, q_sub, q_mul, q_dec, q_rem, q_div, q_lt_t, q_lt_f, q_le_t, q_le_f, q_eq_t, q_eq_f, q_em, q_me, q_ml, q_lm, q_mle, q_lem, q_s1, q_s1o, q_s1k, q_s12, q_s2, q_s2o, q_s2k, q_s21, Nat.add_sub_cancel, q_or, q_and, q_shl, true_or, or_true, false_or, or_false, true_and, and_true, false_and, and_false, not_true_eq_false, not_false_eq_true, ne_eq, M_linesOf hl h]
end LB
