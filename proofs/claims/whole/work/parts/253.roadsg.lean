/-! roads: the signs (cap 76) as both readers see them -/
def chq (n : Nat) (x : Nat → Nat) (p : Nat) : Nat := if p < n ∧ p < 76 then x p else 255
/-- the class' sign: as it is, or -1 -/
def SGc (v : Int32) (y : Nat) : Prop := (y < 256 ∧ v = nI y) ∨ (y = 255 ∧ v = mI 1)
theorem SGc.n {v : Int32} {y : Nat} (h : SGc v y) : SGn v y := by
  rcases h with ⟨h1, rfl⟩ | ⟨rfl, rfl⟩
  · exact SGn.pm h1
  · exact SGn.m1
section RG
variable {N : Nat} {s t : vSt} {n p : Nat} {x : Nat → Nat}
theorem chq_lt {p : Nat} (h : chq n x p < 128) : p < n ∧ p < 76 ∧ x p = chq n x p := by
  unfold chq at h ⊢
  by_cases c : p < n ∧ p < 76
  · rw [if_pos c]; exact ⟨c.1, c.2, rfl⟩
  · rw [if_neg c] at h; omega
theorem C_nextR (h : CSt n x s) (h1 : s.1 16 2 = nI p) (hp : p ≤ 76) : ∃ v, fC_RoadReader_next N s = some (v, s) ∧ SGc v (chq n x p) := by
  have hn := h.1
  unfold chq
  by_cases c : p < n ∧ p < 76
  · have e := C_signAt (N := N) h.2.1 h.1 c.1
    rw [(h.2.2 p c.1).2] at e
    rw [if_pos c]
    refine ⟨nI (x p), ?_, Or.inl ⟨(h.2.2 p c.1).1, rfl⟩⟩
    have := c.2
    simp (disch := omega) only [Option.bind_some, ↓reduceIte, ↓M_1, ↓M_2, L_0, L_1, L_2, L_3, L_4, L_5, L_6, L_7, L_8, L_9, L_10, L_11, L_12, L_13, L_20, L_24, L_26, L_30, L_31, L_32, L_39, L_40, L_48, L_57, L_76, L_80, L_90, L_91, L_97, L_99, L_100, L_255, L_273, L_1000, L_2000, q_ld, q_ldL, q_sto, q_stoL, q_add, q_sub, q_mul, q_dec, q_rem, q_div, q_lt_t, q_lt_f, q_le_t, q_le_f, q_eq_t, q_eq_f, q_em, q_me, q_ml, q_lm, q_mle, q_lem, q_s1, q_s1o, q_s1k, q_s12, q_s2, q_s2o, q_s2k, q_s21, Nat.add_sub_cancel, q_or, q_and, q_shl, true_or, or_true, false_or, or_false, true_and, and_true, false_and, and_false, not_true_eq_false, not_false_eq_true, ne_eq, fC_RoadReader_next, gC_RoadReader_next_0, h1, e]
  · rw [if_neg c]
    refine ⟨mI 1, ?_, Or.inr ⟨rfl, rfl⟩⟩
    by_cases d : p < 76
    · have e := C_signAt_no (N := N) h.2.1 h.1 (p := p) (by omega) (by omega)
      simp (disch := omega) only [Option.bind_some, ↓reduceIte, ↓M_1, ↓M_2, L_0, L_1, L_2, L_3, L_4, L_5, L_6, L_7, L_8, L_9, L_10, L_11, L_12, L_13, L_20, L_24, L_26, L_30, L_31, L_32, L_39, L_40, L_48, L_57, L_76, L_80, L_90, L_91, L_97, L_99, L_100, L_255, L_273, L_1000, L_2000, q_ld, q_ldL, q_sto, q_stoL, q_add, q_sub, q_mul, q_dec, q_rem, q_div, q_lt_t, q_lt_f, q_le_t, q_le_f, q_eq_t, q_eq_f, q_em, q_me, q_ml, q_lm, q_mle, q_lem, q_s1, q_s1o, q_s1k, q_s12, q_s2, q_s2o, q_s2k, q_s21, Nat.add_sub_cancel, q_or, q_and, q_shl, true_or, or_true, false_or, or_false, true_and, and_true, false_and, and_false, not_true_eq_false, not_false_eq_true, ne_eq, fC_RoadReader_next, gC_RoadReader_next_0, h1, e]
    · simp (disch := omega) only [Option.bind_some, ↓reduceIte, ↓M_1, ↓M_2, L_0, L_1, L_2, L_3, L_4, L_5, L_6, L_7, L_8, L_9, L_10, L_11, L_12, L_13, L_20, L_24, L_26, L_30, L_31, L_32, L_39, L_40, L_48, L_57, L_76, L_80, L_90, L_91, L_97, L_99, L_100, L_255, L_273, L_1000, L_2000, q_ld, q_ldL, q_sto, q_stoL, q_add, q_sub, q_mul, q_dec, q_rem, q_div, q_lt_t, q_lt_f, q_le_t, q_le_f, q_eq_t, q_eq_f, q_em, q_me, q_ml, q_lm, q_mle, q_lem, q_s1, q_s1o, q_s1k, q_s12, q_s2, q_s2o, q_s2k, q_s21, Nat.add_sub_cancel, q_or, q_and, q_shl, true_or, or_true, false_or, or_false, true_and, and_true, false_and, and_false, not_true_eq_false, not_false_eq_true, ne_eq, fC_RoadReader_next, gC_RoadReader_next_0, h1]
/-- what the reference reads: the text (row 6), at most 76 signs -/
def MSq (n : Nat) (x : Nat → Nat) (t : vSt) : Prop := n ≤ 80 ∧ t.1 0 13 = nI n ∧ t.1 0 14 = nI 76 ∧ t.1 0 12 = nI 6 ∧ ∀ k, k < n → x k < 256 ∧ t.1 6 k = byteI (x k)
theorem MSq.fm {L K F : List Nat} {t' : vSt} (h : MSq n x t) (f : Fm L K F t t') (h6 : 6 ∉ L) (hF : 12 ∉ F ∧ 13 ∉ F ∧ 14 ∉ F) : MSq n x t' := by
  refine ⟨h.1, ?_, ?_, ?_, fun k hk => ⟨(h.2.2.2.2 k hk).1, ?_⟩⟩
  · rw [f.2.2 13 hF.2.1]; exact h.2.1
  · rw [f.2.2 14 hF.2.2]; exact h.2.2.1
  · rw [f.2.2 12 hF.1]; exact h.2.2.2.1
  · rw [f.1 6 (by decide) h6]; exact (h.2.2.2.2 k hk).2
theorem M_hereQ (h : MSq n x t) (h1 : t.1 0 15 = nI p) (hp : p ≤ 76) : ∃ v, fM_EachAddsALineModel_here N t = some (v, t) ∧ SGn v (chq n x p) := by
  obtain ⟨hn, h13, h14, h12, h6⟩ := h
  unfold chq
  by_cases c : p < n ∧ p < 76
  · rw [if_pos c]
    refine ⟨byteI (x p), ?_, SGn.by (h6 p c.1).1⟩
    rw [M_here6 h12 h13 h14 h1 hn (by omega) c.1 c.2, (h6 p c.1).2]
  · rw [if_neg c]
    exact ⟨mI 1, M_here_no h13 h14 h1 hn (by omega) (by omega) c, SGn.m1⟩
theorem M_passQ_t (h : MSq n x t) (h1 : t.1 0 15 = nI p) (h2 : t.1 0 16 = mI 1) (hp : p ≤ 76) {a : Nat} (ha : a < 128) (hc : chq n x p = a) : fM_EachAddsALineModel_passes N (nI a) t = some (nI 1, s1 t 0 15 (nI (p + 1))) := by
  obtain ⟨v, e1, e2⟩ := M_hereQ (N := N) h h1 hp
  have e3 : v = nI a := by rw [e2.eq ha]; exact hc
  subst e3
  simp (disch := omega) only [Option.bind_some, ↓reduceIte, ↓M_1, ↓M_2, L_0, L_1, L_2, L_3, L_4, L_5, L_6, L_7, L_8, L_9, L_10, L_11, L_12, L_13, L_20, L_24, L_26, L_30, L_31, L_32, L_39, L_40, L_48, L_57, L_76, L_80, L_90, L_91, L_97, L_99, L_100, L_255, L_273, L_1000, L_2000, q_ld, q_ldL, q_sto, q_stoL, q_add, q_sub, q_mul, q_dec, q_rem, q_div, q_lt_t, q_lt_f, q_le_t, q_le_f, q_eq_t, q_eq_f, q_em, q_me, q_ml, q_lm, q_mle, q_lem, q_s1, q_s1o, q_s1k, q_s12, q_s2, q_s2o, q_s2k, q_s21, Nat.add_sub_cancel, q_or, q_and, q_shl, true_or, or_true, false_or, or_false, true_and, and_true, false_and, and_false, not_true_eq_false, not_false_eq_true, ne_eq, fM_EachAddsALineModel_passes, gM_EachAddsALineModel_passes_0, M_fine_t h2, e1, h1]
theorem M_passQ_f (h : MSq n x t) (h1 : t.1 0 15 = nI p) (h2 : t.1 0 16 = mI 1) (hp : p ≤ 76) {a : Nat} (ha : a < 128) (hc : chq n x p ≠ a) : fM_EachAddsALineModel_passes N (nI a) t = some (nI 0, t) := by
  obtain ⟨v, e1, e2⟩ := M_hereQ (N := N) h h1 hp
  have e3 : ¬ v = nI a := by rw [e2.eq ha]; exact hc
  simp (disch := omega) only [Option.bind_some, ↓reduceIte, ↓M_1, ↓M_2, L_0, L_1, L_2, L_3, L_4, L_5, L_6, L_7, L_8, L_9, L_10, L_11, L_12, L_13, L_20, L_24, L_26, L_30, L_31, L_32, L_39, L_40, L_48, L_57, L_76, L_80, L_90, L_91, L_97, L_99, L_100, L_255, L_273, L_1000, L_2000, q_ld, q_ldL, q_sto, q_stoL, q_add, q_sub, q_mul, q_dec, q_rem, q_div, q_lt_t, q_lt_f, q_le_t, q_le_f, q_eq_t, q_eq_f, q_em, q_me, q_ml, q_lm, q_mle, q_lem, q_s1, q_s1o, q_s1k, q_s12, q_s2, q_s2o, q_s2k, q_s21, Nat.add_sub_cancel, q_or, q_and, q_shl, true_or, or_true, false_or, or_false, true_and, and_true, false_and, and_false, not_true_eq_false, not_false_eq_true, ne_eq, fM_EachAddsALineModel_passes, gM_EachAddsALineModel_passes_0, M_fine_t h2, e1, e3]
theorem M_inQ {v : Int32} {y a b : Nat} (h : SGn v y) (ha : a < 128) (hb : b < 128) : fM_EachAddsALineModel_in N v (nI a) (nI b) t = some (if a ≤ y ∧ y ≤ b then nI 1 else nI 0, t) := by
  rw [M_in_any]
  by_cases c : a ≤ y ∧ y ≤ b
  · rw [if_neg (show ¬ (v < nI a ∨ nI b < v) by rw [h.dig ha hb]; exact fun q => q c), if_pos c]; rfl
  · rw [if_pos (show (v < nI a ∨ nI b < v) by rw [h.dig ha hb]; exact c), if_neg c]; rfl
theorem M_letter_t {P : Nat} (h : MSq n x t) (h1 : t.1 0 15 = nI p) (h2 : t.1 0 16 = mI 1) (hp : p ≤ 76) (hP : P ≤ 9) (hc : 97 ≤ chq n x p ∧ chq n x p < 97 + P) : fM_EachAddsALineModel_letter N (nI P) t = some (nI (chq n x p - 97), s1 t 0 15 (nI (p + 1))) := by
  obtain ⟨v, e1, e2⟩ := M_hereQ (N := N) h h1 hp
  have e3 := M_inQ (N := N) (t := t) (a := 97) (b := 97 + P - 1) e2 (by omega) (by omega)
  rw [if_pos (by omega)] at e3
  obtain ⟨c1, c2, c3⟩ := chq_lt (n := n) (x := x) (p := p) (by omega)
  have e6 : t.1 6 p = nI (chq n x p) := by rw [(h.2.2.2.2 p c1).2, by_n (by omega), c3]
  have h12 := h.2.2.2.1
  have hn := h.1
  have hq := hc.1
  simp (disch := omega) only [Option.bind_some, ↓reduceIte, ↓M_1, ↓M_2, L_0, L_1, L_2, L_3, L_4, L_5, L_6, L_7, L_8, L_9, L_10, L_11, L_12, L_13, L_20, L_24, L_26, L_30, L_31, L_32, L_39, L_40, L_48, L_57, L_76, L_80, L_90, L_91, L_97, L_99, L_100, L_255, L_273, L_1000, L_2000, q_ld, q_ldL, q_sto, q_stoL, q_add, q_sub, q_mul, q_dec, q_rem, q_div, q_lt_t, q_lt_f, q_le_t, q_le_f, q_eq_t, q_eq_f, q_em, q_me, q_ml, q_lm, q_mle, q_lem, q_s1, q_s1o, q_s1k, q_s12, q_s2, q_s2o, q_s2k, q_s21, Nat.add_sub_cancel, q_or, q_and, q_shl, true_or, or_true, false_or, or_false, true_and, and_true, false_and, and_false, not_true_eq_false, not_false_eq_true, ne_eq, fM_EachAddsALineModel_letter, gM_EachAddsALineModel_letter_0, M_fine_t h2, e1, e3, h1, h12, e6]
theorem M_letter_f {P : Nat} (h : MSq n x t) (h1 : t.1 0 15 = nI p) (h2 : t.1 0 16 = mI 1) (hp : p ≤ 76) (hP : P ≤ 9) (hc : ¬ (97 ≤ chq n x p ∧ chq n x p < 97 + P)) : fM_EachAddsALineModel_letter N (nI P) t = some (nI 0, s1 t 0 16 (nI p)) := by
  obtain ⟨v, e1, e2⟩ := M_hereQ (N := N) h h1 hp
  have e3 := M_inQ (N := N) (t := t) (a := 97) (b := 97 + P - 1) e2 (by omega) (by omega)
  rw [if_neg (by omega)] at e3
  simp (disch := omega) only [Option.bind_some, ↓reduceIte, ↓M_1, ↓M_2, L_0, L_1, L_2, L_3, L_4, L_5, L_6, L_7, L_8, L_9, L_10, L_11, L_12, L_13, L_20, L_24, L_26, L_30, L_31, L_32, L_39, L_40, L_48, L_57, L_76, L_80, L_90, L_91, L_97, L_99, L_100, L_255, L_273, L_1000, L_2000, q_ld, q_ldL, q_sto, q_stoL, q_add, q_sub, q_mul, q_dec, q_rem, q_div, q_lt_t, q_lt_f, q_le_t, q_le_f, q_eq_t, q_eq_f, q_em, q_me, q_ml, q_lm, q_mle, q_lem, q_s1, q_s1o, q_s1k, q_s12, q_s2, q_s2o, q_s2k, q_s21, Nat.add_sub_cancel, q_or, q_and, q_shl, true_or, or_true, false_or, or_false, true_and, and_true, false_and, and_false, not_true_eq_false, not_false_eq_true, ne_eq, fM_EachAddsALineModel_letter, gM_EachAddsALineModel_letter_0, M_fine_t h2, e1, e3, h1, M_fault_t h2]
theorem M_letter_d {q : Nat} {a : Int32} (h2 : t.1 0 16 = nI q) (hq : q < 1000) : fM_EachAddsALineModel_letter N a t = some (nI 0, t) := by
  simp (disch := omega) only [Option.bind_some, ↓reduceIte, ↓M_1, ↓M_2, L_0, L_1, L_2, L_3, L_4, L_5, L_6, L_7, L_8, L_9, L_10, L_11, L_12, L_13, L_20, L_24, L_26, L_30, L_31, L_32, L_39, L_40, L_48, L_57, L_76, L_80, L_90, L_91, L_97, L_99, L_100, L_255, L_273, L_1000, L_2000, q_ld, q_ldL, q_sto, q_stoL, q_add, q_sub, q_mul, q_dec, q_rem, q_div, q_lt_t, q_lt_f, q_le_t, q_le_f, q_eq_t, q_eq_f, q_em, q_me, q_ml, q_lm, q_mle, q_lem, q_s1, q_s1o, q_s1k, q_s12, q_s2, q_s2o, q_s2k, q_s21, Nat.add_sub_cancel, q_or, q_and, q_shl, true_or, or_true, false_or, or_false, true_and, and_true, false_and, and_false, not_true_eq_false, not_false_eq_true, ne_eq, fM_EachAddsALineModel_letter, gM_EachAddsALineModel_letter_0, M_fine_f h2 hq]
theorem M_number_d {q : Nat} {a : Int32} (h2 : t.1 0 16 = nI q) (hq : q < 1000) : fM_EachAddsALineModel_number N a t = some (nI 0, t) := by
  simp (disch := omega) only [Option.bind_some, ↓reduceIte, ↓M_1, ↓M_2, L_0, L_1, L_2, L_3, L_4, L_5, L_6, L_7, L_8, L_9, L_10, L_11, L_12, L_13, L_20, L_24, L_26, L_30, L_31, L_32, L_39, L_40, L_48, L_57, L_76, L_80, L_90, L_91, L_97, L_99, L_100, L_255, L_273, L_1000, L_2000, q_ld, q_ldL, q_sto, q_stoL, q_add, q_sub, q_mul, q_dec, q_rem, q_div, q_lt_t, q_lt_f, q_le_t, q_le_f, q_eq_t, q_eq_f, q_em, q_me, q_ml, q_lm, q_mle, q_lem, q_s1, q_s1o, q_s1k, q_s12, q_s2, q_s2o, q_s2k, q_s21, Nat.add_sub_cancel, q_or, q_and, q_shl, true_or, or_true, false_or, or_false, true_and, and_true, false_and, and_false, not_true_eq_false, not_false_eq_true, ne_eq, fM_EachAddsALineModel_number, gM_EachAddsALineModel_number_0, M_fine_f h2 hq]
/-- the class: is it a person that is there (a sign less 97) -/
theorem C_isPersonR {v : Int32} {y P : Nat} (hv : SGc v y) (h : s.1 16 3 = nI P) (hP : P ≤ 9) : fC_RoadReader_isPerson N (v - 97) s = some (if 97 ≤ y ∧ y < 97 + P then nI 1 else nI 0, s) := by
  have ge : ∀ k : Nat, k < 256 → fC_RoadReader_isPerson N (nI k - 97) s = some (if 97 ≤ k ∧ k < 97 + P then nI 1 else nI 0, s) := fun k hk => by
    rcases Nat.lt_or_ge k 97 with c | c
    · rw [if_neg (by omega)]
      have e : nI k - 97 = mI (97 - k) := (show ∀ k, k < 97 → nI k - 97 = mI (97 - k) by decide +kernel) k c
      have e2 : (mI (97 - k) < nI 0) = True := q_ml (by omega) (by omega) (by omega)
      rw [e]
      simp (disch := omega) only [Option.bind_some, ↓reduceIte, ↓M_1, ↓M_2, L_0, L_1, L_2, L_3, L_4, L_5, L_6, L_7, L_8, L_9, L_10, L_11, L_12, L_13, L_20, L_24, L_26, L_30, L_31, L_32, L_39, L_40, L_48, L_57, L_76, L_80, L_90, L_91, L_97, L_99, L_100, L_255, L_273, L_1000, L_2000, q_ld, q_ldL, q_sto, q_stoL, q_add, q_sub, q_mul, q_dec, q_rem, q_div, q_lt_t, q_lt_f, q_le_t, q_le_f, q_eq_t, q_eq_f, q_em, q_me, q_ml, q_lm, q_mle, q_lem, q_s1, q_s1o, q_s1k, q_s12, q_s2, q_s2o, q_s2k, q_s21, Nat.add_sub_cancel, q_or, q_and, q_shl, true_or, or_true, false_or, or_false, true_and, and_true, false_and, and_false, not_true_eq_false, not_false_eq_true, ne_eq, fC_RoadReader_isPerson, gC_RoadReader_isPerson_0, gC_RoadReader_isPerson_16, e2]
    · have e : nI k - 97 = nI (k - 97) := pk_sub (b := 97) c
      rw [e]
      by_cases d : k < 97 + P
      · rw [if_pos ⟨c, d⟩]
        simp (disch := omega) only [Option.bind_some, ↓reduceIte, ↓M_1, ↓M_2, L_0, L_1, L_2, L_3, L_4, L_5, L_6, L_7, L_8, L_9, L_10, L_11, L_12, L_13, L_20, L_24, L_26, L_30, L_31, L_32, L_39, L_40, L_48, L_57, L_76, L_80, L_90, L_91, L_97, L_99, L_100, L_255, L_273, L_1000, L_2000, q_ld, q_ldL, q_sto, q_stoL, q_add, q_sub, q_mul, q_dec, q_rem, q_div, q_lt_t, q_lt_f, q_le_t, q_le_f, q_eq_t, q_eq_f, q_em, q_me, q_ml, q_lm, q_mle, q_lem, q_s1, q_s1o, q_s1k, q_s12, q_s2, q_s2o, q_s2k, q_s21, Nat.add_sub_cancel, q_or, q_and, q_shl, true_or, or_true, false_or, or_false, true_and, and_true, false_and, and_false, not_true_eq_false, not_false_eq_true, ne_eq, fC_RoadReader_isPerson, gC_RoadReader_isPerson_0, gC_RoadReader_isPerson_16, h]
      · rw [if_neg (fun q => d q.2)]
        simp (disch := omega) only [Option.bind_some, ↓reduceIte, ↓M_1, ↓M_2, L_0, L_1, L_2, L_3, L_4, L_5, L_6, L_7, L_8, L_9, L_10, L_11, L_12, L_13, L_20, L_24, L_26, L_30, L_31, L_32, L_39, L_40, L_48, L_57, L_76, L_80, L_90, L_91, L_97, L_99, L_100, L_255, L_273, L_1000, L_2000, q_ld, q_ldL, q_sto, q_stoL, q_add, q_sub, q_mul, q_dec, q_rem, q_div, q_lt_t, q_lt_f, q_le_t, q_le_f, q_eq_t, q_eq_f, q_em, q_me, q_ml, q_lm, q_mle, q_lem, q_s1, q_s1o, q_s1k, q_s12, q_s2, q_s2o, q_s2k, q_s21, Nat.add_sub_cancel, q_or, q_and, q_shl, true_or, or_true, false_or, or_false, true_and, and_true, false_and, and_false, not_true_eq_false, not_false_eq_true, ne_eq, fC_RoadReader_isPerson, gC_RoadReader_isPerson_0, gC_RoadReader_isPerson_16, h]
  rcases hv with ⟨h1, rfl⟩ | ⟨rfl, rfl⟩
  · exact ge y h1
  · rw [if_neg (by omega)]
    have e : mI 1 - 97 = mI 98 := by decide
    have e2 : (mI 98 < nI 0) = True := q_ml (by omega) (by omega) (by omega)
    rw [e]
    simp (disch := omega) only [Option.bind_some, ↓reduceIte, ↓M_1, ↓M_2, L_0, L_1, L_2, L_3, L_4, L_5, L_6, L_7, L_8, L_9, L_10, L_11, L_12, L_13, L_20, L_24, L_26, L_30, L_31, L_32, L_39, L_40, L_48, L_57, L_76, L_80, L_90, L_91, L_97, L_99, L_100, L_255, L_273, L_1000, L_2000, q_ld, q_ldL, q_sto, q_stoL, q_add, q_sub, q_mul, q_dec, q_rem, q_div, q_lt_t, q_lt_f, q_le_t, q_le_f, q_eq_t, q_eq_f, q_em, q_me, q_ml, q_lm, q_mle, q_lem, q_s1, q_s1o, q_s1k, q_s12, q_s2, q_s2o, q_s2k, q_s21, Nat.add_sub_cancel, q_or, q_and, q_shl, true_or, or_true, false_or, or_false, true_and, and_true, false_and, and_false, not_true_eq_false, not_false_eq_true, ne_eq, fC_RoadReader_isPerson, gC_RoadReader_isPerson_0, gC_RoadReader_isPerson_16, e2]
end RG
