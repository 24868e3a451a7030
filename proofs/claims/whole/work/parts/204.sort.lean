/-! the order by hour, then by number: two insertion sorts -/
def srt (key e : Nat → Nat) (n : Nat) : Prop := (∀ k, k < n → e k < n) ∧ ∀ i j, i < j → j < n → key (e i) < key (e j) ∨ (key (e i) = key (e j) ∧ e i < e j)
theorem srt_onto {key e : Nat → Nat} {n : Nat} (h : srt key e n) {y : Nat} (hy : y < n) : ∃ i, i < n ∧ e i = y := fb_onto h.1 (fun i j h1 h2 h3 => by
  have := h.2 i j h1 h2
  rw [h3] at this
  omega) hy
theorem srt_ins {key e e' : Nat → Nat} {m k : Nat} (h : srt key e m) (hk : k ≤ m) (h1 : ∀ j, k ≤ j → j < m → key m < key (e j)) (h2 : 0 < k → key (e (k - 1)) ≤ key m)
    (g1 : ∀ j, j < k → e' j = e j) (g2 : e' k = m) (g3 : ∀ j, k < j → j ≤ m → e' j = e (j - 1)) : srt key e' (m + 1) := by
  refine ⟨fun j hj => ?_, fun i j hij hj => ?_⟩
  · rcases Nat.lt_trichotomy j k with c | c | c
    · rw [g1 j c]; exact Nat.lt_succ_of_lt (h.1 j (by omega))
    · rw [c, g2]; omega
    · rw [g3 j c (by omega)]; exact Nat.lt_succ_of_lt (h.1 _ (by omega))
  · rcases Nat.lt_trichotomy j k with c | c | c
    · rw [g1 j c, g1 i (by omega)]; exact h.2 i j hij (by omega)
    · subst c
      rw [g2, g1 i hij]
      have a1 := h.1 i (by omega)
      have a2 := h2 (by omega)
      rcases Nat.lt_or_ge i (j - 1) with d | d
      · rcases h.2 i (j - 1) d (by omega) with a3 | a3 <;> omega
      · rw [show j - 1 = i by omega] at a2; omega
    · rw [g3 j c (by omega)]
      rcases Nat.lt_trichotomy i k with d | d | d
      · rw [g1 i d]; exact h.2 i (j - 1) (by omega) (by omega)
      · rw [d, g2]; exact Or.inl (h1 (j - 1) (by omega) (by omega))
      · rw [g3 i d (by omega)]; exact h.2 (i - 1) (j - 1) (by omega) (by omega)
section CS
variable {N : Nat} {s : vSt}
theorem C_sort12 (R : Int32 → vSt → Option vSt) {key e : Nat → Nat} {n m : Nat} (hn : n ≤ 20) (hm : m < n) (hk9 : ∀ m, m < n → key m ≤ 99) (hN : 30 ≤ N)
    (hh : ∀ m, m < n → s.1 13 m = nI (key m)) (he : ∀ k, k < m → s.1 15 k = nI (e k)) (hs : srt key e m) :
    ∃ u e', gC_Roads_sortByHour_12 N R N (nI m) (nI m) s = R (nI (m + 1)) u ∧ Fr [15] [] s u ∧ (∀ k, k < m + 1 → u.1 15 k = nI (e' k)) ∧ srt key e' (m + 1) := by
  refine loopD (fun f i u => gC_Roads_sortByHour_12 N R f (nI m) (nI i) u) m (fun i u => i ≤ m ∧ Fr [15] [] s u ∧ (∀ j, j < i → u.1 15 j = nI (e j)) ∧ (∀ j, i < j → j ≤ m → u.1 15 j = nI (e (j - 1))) ∧ ∀ j, i ≤ j → j < m → key m < key (e j))
    (fun o => ∃ u e', o = R (nI (m + 1)) u ∧ Fr [15] [] s u ∧ (∀ k, k < m + 1 → u.1 15 k = nI (e' k)) ∧ srt key e' (m + 1)) ?_ ?_ m N s (Nat.le_refl _) (by omega) ⟨Nat.le_refl _, Fr.rf, he, fun j h1 h2 => by omega, fun j h1 h2 => by omega⟩
  · rintro f i u hi ⟨h1, h2, h3, h4, h5⟩
    have k1 := hk9 m hm
    have k2 := hk9 (e i) (Nat.lt_trans (hs.1 i (by omega)) hm)
    have k3 := hs.1 i (by omega)
    have e1 : u.1 15 i = nI (e i) := h3 i (by omega)
    have e2 : u.1 13 (e i) = nI (key (e i)) := by rw [h2.1 13 (by decide)]; exact hh _ (by omega)
    have e3 : u.1 13 m = nI (key m) := by rw [h2.1 13 (by decide)]; exact hh _ hm
    by_cases c : key (e i) ≤ key m
    · refine Or.inr ⟨s1 u 15 (i + 1) (nI m), fun j => if j < i + 1 then e j else if j = i + 1 then m else e (j - 1), ?_, h2.tr (Fr.s1 (by decide)), fun k hk => ?_, ?_⟩
      · rw [gC_Roads_sortByHour_12]
        simp (disch := omega) only [Option.bind_some, ↓reduceIte, ↓M_1, ↓M_2, L_0, L_1, L_2, L_3, L_4, L_5, L_6, L_7, L_8, L_9, L_10, L_11, L_12, L_13, L_20, L_24, L_26, L_30, L_31, L_32, L_39, L_40, L_48, L_57, L_76, L_80, L_90, L_91, L_97, L_99, L_100, L_255, L_273, L_1000, L_2000, q_ld, q_ldL, q_sto, q_stoL, q_add, q_sub, q_mul, q_dec, q_rem, q_div, q_lt_t, q_lt_f, q_le_t, q_le_f, q_eq_t, q_eq_f, q_em, q_me, q_ml, q_lm, q_mle, q_lem, q_s1, q_s1o, q_s1k, q_s12, q_s2, q_s2o, q_s2k, q_s21, Nat.add_sub_cancel, q_or, q_and, q_shl, true_or, or_true, false_or, or_false, true_and, and_true, false_and, and_false, not_true_eq_false, not_false_eq_true, ne_eq, e1, e2, e3, gC_Roads_sortByHour_58]
      · rcases Nat.lt_trichotomy k (i + 1) with d | d | d
        · rw [q_s1k (by omega), h3 k d]; exact congrArg nI (if_pos d).symm
        · subst d; rw [q_s1]; exact congrArg nI ((if_neg (by omega)).trans (if_pos rfl)).symm
        · rw [q_s1k (by omega), h4 k d (by omega)]; exact congrArg nI ((if_neg (by omega)).trans (if_neg (by omega))).symm
      · refine srt_ins (k := i + 1) hs (by omega) h5 (fun _ => c) (fun j hj => if_pos hj) ?_ (fun j h1 h2 => ?_)
        · exact (if_neg (by omega)).trans (if_pos rfl)
        · exact (if_neg (by omega)).trans (if_neg (by omega))
    · refine Or.inl ⟨s1 u 15 (i + 1) (nI (e i)), ?_, by omega, h2.tr (Fr.s1 (by decide)), fun j hj => ?_, fun j a1 a2 => ?_, fun j a1 a2 => ?_⟩
      · rw [gC_Roads_sortByHour_12]
        simp (disch := omega) only [Option.bind_some, ↓reduceIte, ↓M_1, ↓M_2, L_0, L_1, L_2, L_3, L_4, L_5, L_6, L_7, L_8, L_9, L_10, L_11, L_12, L_13, L_20, L_24, L_26, L_30, L_31, L_32, L_39, L_40, L_48, L_57, L_76, L_80, L_90, L_91, L_97, L_99, L_100, L_255, L_273, L_1000, L_2000, q_ld, q_ldL, q_sto, q_stoL, q_add, q_sub, q_mul, q_dec, q_rem, q_div, q_lt_t, q_lt_f, q_le_t, q_le_f, q_eq_t, q_eq_f, q_em, q_me, q_ml, q_lm, q_mle, q_lem, q_s1, q_s1o, q_s1k, q_s12, q_s2, q_s2o, q_s2k, q_s21, Nat.add_sub_cancel, q_or, q_and, q_shl, true_or, or_true, false_or, or_false, true_and, and_true, false_and, and_false, not_true_eq_false, not_false_eq_true, ne_eq, e1, e2, e3]
      · rw [q_s1k (by omega), h3 j (by omega)]
      · by_cases d : j = i + 1
        · subst d; rw [q_s1]; rfl
        · rw [q_s1k d, h4 j (by omega) a2]
      · by_cases d : j = i
        · subst d; omega
        · exact h5 j (by omega) a2
  · rintro f u ⟨h1, h2, h3, h4, h5⟩
    refine ⟨s1 u 15 0 (nI m), fun j => if j = 0 then m else e (j - 1), ?_, h2.tr (Fr.s1 (by decide)), fun k hk => ?_, ?_⟩
    · rw [gC_Roads_sortByHour_12]
      simp (disch := omega) only [Option.bind_some, ↓reduceIte, ↓M_1, ↓M_2, L_0, L_1, L_2, L_3, L_4, L_5, L_6, L_7, L_8, L_9, L_10, L_11, L_12, L_13, L_20, L_24, L_26, L_30, L_31, L_32, L_39, L_40, L_48, L_57, L_76, L_80, L_90, L_91, L_97, L_99, L_100, L_255, L_273, L_1000, L_2000, q_ld, q_ldL, q_sto, q_stoL, q_add, q_sub, q_mul, q_dec, q_rem, q_div, q_lt_t, q_lt_f, q_le_t, q_le_f, q_eq_t, q_eq_f, q_em, q_me, q_ml, q_lm, q_mle, q_lem, q_s1, q_s1o, q_s1k, q_s12, q_s2, q_s2o, q_s2k, q_s21, Nat.add_sub_cancel, q_or, q_and, q_shl, true_or, or_true, false_or, or_false, true_and, and_true, false_and, and_false, not_true_eq_false, not_false_eq_true, ne_eq, gC_Roads_sortByHour_58]
    · by_cases d : k = 0
      · subst d; rw [q_s1]; exact congrArg nI (if_pos rfl).symm
      · rw [q_s1k d, h4 k (by omega) (by omega)]; exact congrArg nI (if_neg d).symm
    · refine srt_ins (k := 0) hs (by omega) h5 (fun z => by omega) (fun j hj => by omega) (if_pos rfl) (fun j a1 a2 => if_neg (by omega))
theorem C_sort {key : Nat → Nat} {n : Nat} (hn : n ≤ 20) (hk9 : ∀ m, m < n → key m ≤ 99) (hN : 30 ≤ N) (hq : s.1 9 7 = nI n) (hh : ∀ m, m < n → s.1 13 m = nI (key m)) :
    ∃ u e, fC_Roads_sortByHour N s = some u ∧ Fr [15] [] s u ∧ (∀ k, k < n → u.1 15 k = nI (e k)) ∧ srt key e n := by
  simp only [fC_Roads_sortByHour, gC_Roads_sortByHour_0]
  refine loopU (fun f i u => gC_Roads_sortByHour_2 N f (nI i) u) n (fun i u => i ≤ n ∧ Fr [15] [] s u ∧ ∃ e, (∀ k, k < i → u.1 15 k = nI (e k)) ∧ srt key e i)
    (fun o => ∃ u e, o = some u ∧ Fr [15] [] s u ∧ (∀ k, k < n → u.1 15 k = nI (e k)) ∧ srt key e n) ?_ ?_ n N 0 s (by omega) (by omega) ⟨by omega, Fr.rf, fun _ => 0, fun k hk => by omega, fun k hk => by omega, fun i j h1 h2 => by omega⟩
  · rintro f i u hi ⟨h1, h2, e, h3, h4⟩
    obtain ⟨u', e', a1, a2, a3, a4⟩ := C_sort12 (s := u) (gC_Roads_sortByHour_2 N f) hn hi hk9 hN (fun m hm => by rw [h2.1 13 (by decide)]; exact hh m hm) h3 h4
    refine Or.inl ⟨u', ?_, by omega, h2.tr a2, e', a3, a4⟩
    rw [gC_Roads_sortByHour_2, h2.1 9 (by decide), hq]
    simp (disch := omega) only [Option.bind_some, ↓reduceIte, ↓M_1, ↓M_2, L_0, L_1, L_2, L_3, L_4, L_5, L_6, L_7, L_8, L_9, L_10, L_11, L_12, L_13, L_20, L_24, L_26, L_30, L_31, L_32, L_39, L_40, L_48, L_57, L_76, L_80, L_90, L_91, L_97, L_99, L_100, L_255, L_273, L_1000, L_2000, q_ld, q_ldL, q_sto, q_stoL, q_add, q_sub, q_mul, q_dec, q_rem, q_div, q_lt_t, q_lt_f, q_le_t, q_le_f, q_eq_t, q_eq_f, q_em, q_me, q_ml, q_lm, q_mle, q_lem, q_s1, q_s1o, q_s1k, q_s12, q_s2, q_s2o, q_s2k, q_s21, Nat.add_sub_cancel, q_or, q_and, q_shl, true_or, or_true, false_or, or_false, true_and, and_true, false_and, and_false, not_true_eq_false, not_false_eq_true, ne_eq, a1]
  · rintro f u ⟨h1, h2, e, h3, h4⟩
    refine ⟨u, e, ?_, h2, h3, h4⟩
    rw [gC_Roads_sortByHour_2, h2.1 9 (by decide), hq]
    simp (disch := omega) only [Option.bind_some, ↓reduceIte, ↓M_1, ↓M_2, L_0, L_1, L_2, L_3, L_4, L_5, L_6, L_7, L_8, L_9, L_10, L_11, L_12, L_13, L_20, L_24, L_26, L_30, L_31, L_32, L_39, L_40, L_48, L_57, L_76, L_80, L_90, L_91, L_97, L_99, L_100, L_255, L_273, L_1000, L_2000, q_ld, q_ldL, q_sto, q_stoL, q_add, q_sub, q_mul, q_dec, q_rem, q_div, q_lt_t, q_lt_f, q_le_t, q_le_f, q_eq_t, q_eq_f, q_em, q_me, q_ml, q_lm, q_mle, q_lem, q_s1, q_s1o, q_s1k, q_s12, q_s2, q_s2o, q_s2k, q_s21, Nat.add_sub_cancel, q_or, q_and, q_shl, true_or, or_true, false_or, or_false, true_and, and_true, false_and, and_false, not_true_eq_false, not_false_eq_true, ne_eq]
end CS
