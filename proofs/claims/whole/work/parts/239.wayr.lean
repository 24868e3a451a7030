/-! way: the reference, and both -/
section WR
variable {N : Nat} {U : vSt → vSt → Prop} {w : Nat → Nat → Nat} {s t z : vSt} {n u k : Nat} {x : Nat → Nat}
theorem M_way139 (h : MW w t) (ho : okO w) (hN : 100 ≤ N) (hu : u < w 5 0) (hk : k < 100) (hn : n ≤ 30) (h15 : ∀ j, j < n → t.1 15 j = nI (x j - 97)) (hx : ∀ j, j < n → 97 ≤ x j ∧ x j < 97 + w 5 0) :
    (wf w u k x n < n ∧ ∃ z, gM_EachAddsALineModel_way_139 N N (nI n) (nI u) (nI k) (nI 1) (nI 0) t = some (mI (100 + wf w u k x n), z) ∧ Fm [10] [] [] t z) ∨ (¬ wf w u k x n < n ∧ ∃ z, gM_EachAddsALineModel_way_139 N N (nI n) (nI u) (nI k) (nI 1) (nI 0) t = some (nI (wst w u k x n).2.2, z) ∧ Fm [7, 10] [] [10] t z ∧ z.1 0 10 = nI (min n 12) ∧ ∀ j, j < min n 12 → z.1 7 j = nI (wm w u k x j)) := by
  have hb := h.bd
  refine loopU (fun f j z => gM_EachAddsALineModel_way_139 N f (nI n) (nI (wst w u k x j).1) (nI (wst w u k x j).2.2) (if j = 0 then nI 1 else nI 0) (nI j) z) n (fun j z => j ≤ n ∧ Fm [10] [] [] t z ∧ (∀ i, i < j → ¬ wm w u k x i = 100) ∧ ∀ i, i < j → z.1 10 i = nI (wm w u k x i)) (fun o => (wf w u k x n < n ∧ ∃ z, o = some (mI (100 + wf w u k x n), z) ∧ Fm [10] [] [] t z) ∨ (¬ wf w u k x n < n ∧ ∃ z, o = some (nI (wst w u k x n).2.2, z) ∧ Fm [7, 10] [] [10] t z ∧ z.1 0 10 = nI (min n 12) ∧ ∀ j, j < min n 12 → z.1 7 j = nI (wm w u k x j))) ?_ ?_ n N 0 t (by omega) (by omega) ⟨by omega, Fm.rf, fun i hi => by omega, fun i hi => by omega⟩
  · rintro f j z hj ⟨g1, g2, g3, g4⟩
    have hz : MW w z := h.fm g2 (by decide) (by decide)
    obtain ⟨o1, o2, o3⟩ := wst_ok h.ok ho hu hk hx j (by omega) g3
    have hxj := hx j hj
    have ewm : mb w (wst w u k x j).1 (x j - 97) (wst w u k x j).2.1 = wm w u k x j := rfl
    have hst : ∃ rdy, (if j = 0 then nI 1 else nI 0) = nI rdy ∧ ((rdy = 1 ∧ (wst w u k x j).2.1 = (wst w u k x j).2.2) ∨ (rdy = 0 ∧ (wst w u k x j).2.1 = (wst w u k x j).2.2 + w 0 (wst w u k x j).1)) := by
      cases j with
      | zero => exact ⟨1, rfl, Or.inl ⟨rfl, rfl⟩⟩
      | succ j => exact ⟨0, rfl, Or.inr ⟨rfl, rfl⟩⟩
    obtain ⟨rdy, hr1, hr2⟩ := hst
    have st := M_way151 (N := N) (gM_EachAddsALineModel_way_139 N f) (a3 := nI n) (since := (wst w u k x j).2.2) (rdy := rdy) (j := j) (g := (wst w u k x j).1) (y := x j - 97) (r := (wst w u k x j).2.1) hz ho (by omega) o1 (by omega) (by omega) (by omega) hr2 (by rw [g2.1 15 (by decide) (by decide)]; exact h15 j hj)
    rw [ewm] at st
    have ehd : gM_EachAddsALineModel_way_139 N (f + 1) (nI n) (nI (wst w u k x j).1) (nI (wst w u k x j).2.2) (if j = 0 then nI 1 else nI 0) (nI j) z = if wm w u k x j = 100 then some (mI (100 + j), z) else gM_EachAddsALineModel_way_139 N f (nI n) (nI (x j - 97)) (nI (w 3 (wm w u k x j))) (nI 0) (nI (j + 1)) (s1 z 10 j (nI (wm w u k x j))) := by
      rw [hr1, ← st, gM_EachAddsALineModel_way_139]
      simp (disch := omega) only [Option.bind_some, ↓reduceIte, ↓M_1, ↓M_2, L_0, L_1, L_2, L_3, L_4, L_5, L_6, L_7, L_8, L_9, L_10, L_11, L_12, L_13, L_20, L_24, L_26, L_30, L_31, L_32, L_39, L_40, L_48, L_57, L_76, L_80, L_90, L_91, L_97, L_99, L_100, L_255, L_273, L_1000, L_2000, q_ld, q_ldL, q_sto, q_stoL, q_add, q_sub, q_mul, q_dec, q_rem, q_div, q_lt_t, q_lt_f, q_le_t, q_le_f, q_eq_t, q_eq_f, q_em, q_me, q_ml, q_lm, q_mle, q_lem, q_s1, q_s1o, q_s1k, q_s12, q_s2, q_s2o, q_s2k, q_s21, Nat.add_sub_cancel, q_or, q_and, q_shl, true_or, or_true, false_or, or_false, true_and, and_true, false_and, and_false, not_true_eq_false, not_false_eq_true, ne_eq]
    by_cases hmj : wm w u k x j = 100
    · have hf : wf w u k x n = j := fst1_of hj (decide_eq_true hmj) (fun i hi => decide_eq_false (g3 i hi))
      refine Or.inr (Or.inl ⟨by omega, z, ?_, g2⟩)
      rw [hf]
      try simp only
      rw [ehd, if_pos hmj]
    · refine Or.inl ⟨s1 z 10 j (nI (wm w u k x j)), ?_, by omega, g2.tr (Fm.w1 (by decide) (by decide)), fun i hi => ?_, fun i hi => ?_⟩
      · try simp only
        rw [ehd, if_neg hmj, wst_s, if_neg (Nat.succ_ne_zero j)]
      · by_cases e : i = j
        · rw [e]; exact hmj
        · exact g3 i (by omega)
      · by_cases e : i = j
        · rw [e, q_s1]
        · rw [q_s1k e]; exact g4 i (by omega)
  · rintro f z ⟨g1, g2, g3, g4⟩
    have hf : ¬ wf w u k x n < n := fun q => g3 _ q (of_decide_eq_true (fst1_lt q))
    have tellr : ∃ z', gM_EachAddsALineModel_way_310 N N (nI n) (nI (wst w u k x n).2.2) (nI 0) (s1 z 0 10 (nI 0)) = some (nI (wst w u k x n).2.2, z') ∧ Rm (fun j => nI (wm w u k x j)) (min n 12) z z' := by
      refine loopU (fun f i y => gM_EachAddsALineModel_way_310 N f (nI n) (nI (wst w u k x n).2.2) (nI i) y) (min n 12) (fun i y => i ≤ min n 12 ∧ Rm (fun j => nI (wm w u k x j)) i z y) (fun o => ∃ z', o = some (nI (wst w u k x n).2.2, z') ∧ Rm (fun j => nI (wm w u k x j)) (min n 12) z z') ?_ ?_ (min n 12) N 0 _ (by omega) (by omega) ⟨by omega, Rm.nil⟩
      · rintro f i y hi ⟨p1, p2⟩
        obtain ⟨y', v1, v2⟩ := M_tell (N := N) p2 (by omega) (x := nI (wm w u k x i)) rfl
        have e10 : y.1 10 i = nI (wm w u k x i) := by rw [p2.1.1 10 (by decide) (by decide)]; exact g4 i (by omega)
        refine Or.inl ⟨y', ?_, by omega, v2⟩
        rw [gM_EachAddsALineModel_way_310]
        simp (disch := omega) only [Option.bind_some, ↓reduceIte, ↓M_1, ↓M_2, L_0, L_1, L_2, L_3, L_4, L_5, L_6, L_7, L_8, L_9, L_10, L_11, L_12, L_13, L_20, L_24, L_26, L_30, L_31, L_32, L_39, L_40, L_48, L_57, L_76, L_80, L_90, L_91, L_97, L_99, L_100, L_255, L_273, L_1000, L_2000, q_ld, q_ldL, q_sto, q_stoL, q_add, q_sub, q_mul, q_dec, q_rem, q_div, q_lt_t, q_lt_f, q_le_t, q_le_f, q_eq_t, q_eq_f, q_em, q_me, q_ml, q_lm, q_mle, q_lem, q_s1, q_s1o, q_s1k, q_s12, q_s2, q_s2o, q_s2k, q_s21, Nat.add_sub_cancel, q_or, q_and, q_shl, true_or, or_true, false_or, or_false, true_and, and_true, false_and, and_false, not_true_eq_false, not_false_eq_true, ne_eq, e10, v1]
      · rintro f y ⟨p1, p2⟩
        refine ⟨y, ?_, p2⟩
        try simp only
        rw [gM_EachAddsALineModel_way_310]
        by_cases d : n ≤ 12
        · rw [show min n 12 = n by omega]
          simp (disch := omega) only [Option.bind_some, ↓reduceIte, ↓M_1, ↓M_2, L_0, L_1, L_2, L_3, L_4, L_5, L_6, L_7, L_8, L_9, L_10, L_11, L_12, L_13, L_20, L_24, L_26, L_30, L_31, L_32, L_39, L_40, L_48, L_57, L_76, L_80, L_90, L_91, L_97, L_99, L_100, L_255, L_273, L_1000, L_2000, q_ld, q_ldL, q_sto, q_stoL, q_add, q_sub, q_mul, q_dec, q_rem, q_div, q_lt_t, q_lt_f, q_le_t, q_le_f, q_eq_t, q_eq_f, q_em, q_me, q_ml, q_lm, q_mle, q_lem, q_s1, q_s1o, q_s1k, q_s12, q_s2, q_s2o, q_s2k, q_s21, Nat.add_sub_cancel, q_or, q_and, q_shl, true_or, or_true, false_or, or_false, true_and, and_true, false_and, and_false, not_true_eq_false, not_false_eq_true, ne_eq]
        · rw [show min n 12 = 12 by omega]
          simp (disch := omega) only [Option.bind_some, ↓reduceIte, ↓M_1, ↓M_2, L_0, L_1, L_2, L_3, L_4, L_5, L_6, L_7, L_8, L_9, L_10, L_11, L_12, L_13, L_20, L_24, L_26, L_30, L_31, L_32, L_39, L_40, L_48, L_57, L_76, L_80, L_90, L_91, L_97, L_99, L_100, L_255, L_273, L_1000, L_2000, q_ld, q_ldL, q_sto, q_stoL, q_add, q_sub, q_mul, q_dec, q_rem, q_div, q_lt_t, q_lt_f, q_le_t, q_le_f, q_eq_t, q_eq_f, q_em, q_me, q_ml, q_lm, q_mle, q_lem, q_s1, q_s1o, q_s1k, q_s12, q_s2, q_s2o, q_s2k, q_s21, Nat.add_sub_cancel, q_or, q_and, q_shl, true_or, or_true, false_or, or_false, true_and, and_true, false_and, and_false, not_true_eq_false, not_false_eq_true, ne_eq]
    obtain ⟨z', v1, v2⟩ := tellr
    refine Or.inr ⟨hf, z', ?_, (g2.mono (by decide) (by decide) (by decide)).tr (v2.1.mono (by decide) (by decide) (by decide)), v2.2.1, v2.2.2⟩
    try simp only
    rw [gM_EachAddsALineModel_way_139]
    simp (disch := omega) only [Option.bind_some, ↓reduceIte, ↓M_1, ↓M_2, L_0, L_1, L_2, L_3, L_4, L_5, L_6, L_7, L_8, L_9, L_10, L_11, L_12, L_13, L_20, L_24, L_26, L_30, L_31, L_32, L_39, L_40, L_48, L_57, L_76, L_80, L_90, L_91, L_97, L_99, L_100, L_255, L_273, L_1000, L_2000, q_ld, q_ldL, q_sto, q_stoL, q_add, q_sub, q_mul, q_dec, q_rem, q_div, q_lt_t, q_lt_f, q_le_t, q_le_f, q_eq_t, q_eq_f, q_em, q_me, q_ml, q_lm, q_mle, q_lem, q_s1, q_s1o, q_s1k, q_s12, q_s2, q_s2o, q_s2k, q_s21, Nat.add_sub_cancel, q_or, q_and, q_shl, true_or, or_true, false_or, or_false, true_and, and_true, false_and, and_false, not_true_eq_false, not_false_eq_true, ne_eq, v1]
theorem M_way_t (h : MW w t) (ho : okO w) (hN : 200 ≤ N) (hu : u < w 5 0) (hk : k < 100) (h8 : t.1 0 8 = nI n) (hn : n ≤ 80) (hx : ∀ k, k < n → x k < 256 ∧ t.1 6 k = byteI (x k)) :
    (fst1 (waB (w 5 0) x) n < n → ∃ z, fM_EachAddsALineModel_way N (nI u) (nI k) t = some (mI (1 + fst1 (waB (w 5 0) x) n), z) ∧ Fm [15] [] [8, 11, 12, 13, 14, 15, 16] t z ∧ z.1 0 8 = nI 0) ∧
    (¬ fst1 (waB (w 5 0) x) n < n → (wf w u k x n < n ∧ ∃ z, fM_EachAddsALineModel_way N (nI u) (nI k) t = some (mI (100 + wf w u k x n), z) ∧ Fm [10, 15] [] [8, 11, 12, 13, 14, 15, 16] t z ∧ z.1 0 8 = nI 0) ∨ (¬ wf w u k x n < n ∧ ∃ z, fM_EachAddsALineModel_way N (nI u) (nI k) t = some (nI (wst w u k x n).2.2, z) ∧ Fm [7, 10, 15] [] [8, 10, 11, 12, 13, 14, 15, 16] t z ∧ z.1 0 8 = nI 0 ∧ z.1 0 10 = nI (min n 12) ∧ ∀ j, j < min n 12 → z.1 7 j = nI (wm w u k x j))) := by
  have hb := h.bd
  have hst : ∃ z0, fM_EachAddsALineModel_way N (nI u) (nI k) t = gM_EachAddsALineModel_way_45 N N (nI u) (nI k) (nI 0) z0 ∧ Fm [] [] [8, 11, 12, 13, 14, 15, 16] t z0 ∧ z0.1 0 8 = nI 0 ∧ z0.1 0 12 = nI 6 ∧ z0.1 0 13 = nI n ∧ z0.1 0 14 = nI 30 ∧ z0.1 0 15 = nI 0 ∧ z0.1 0 16 = mI 1 := by
    have f0 : Fm [] [] [8, 11, 12, 13, 14, 15, 16] t (s1 (s1 (s1 (s1 (s1 (s1 (s1 t 0 11 (nI 0)) 0 12 (nI 6)) 0 13 (nI n)) 0 14 (nI 30)) 0 15 (nI 0)) 0 16 (mI 1)) 0 8 (nI 0)) := ((((((Fm.w10 (by decide)).tr (Fm.w10 (by decide))).tr (Fm.w10 (by decide))).tr (Fm.w10 (by decide))).tr (Fm.w10 (by decide))).tr (Fm.w10 (by decide))).tr (Fm.w10 (by decide))
    have h0 : MW w (s1 (s1 (s1 (s1 (s1 (s1 (s1 t 0 11 (nI 0)) 0 12 (nI 6)) 0 13 (nI n)) 0 14 (nI 30)) 0 15 (nI 0)) 0 16 (mI 1)) 0 8 (nI 0)) := h.fm f0 (by decide) (by decide)
    refine ⟨_, ?_, f0, ?_, ?_, ?_, ?_, ?_, ?_⟩
    · simp (disch := omega) only [Option.bind_some, ↓reduceIte, ↓M_1, ↓M_2, L_0, L_1, L_2, L_3, L_4, L_5, L_6, L_7, L_8, L_9, L_10, L_11, L_12, L_13, L_20, L_24, L_26, L_30, L_31, L_32, L_39, L_40, L_48, L_57, L_76, L_80, L_90, L_91, L_97, L_99, L_100, L_255, L_273, L_1000, L_2000, q_ld, q_ldL, q_sto, q_stoL, q_add, q_sub, q_mul, q_dec, q_rem, q_div, q_lt_t, q_lt_f, q_le_t, q_le_f, q_eq_t, q_eq_f, q_em, q_me, q_ml, q_lm, q_mle, q_lem, q_s1, q_s1o, q_s1k, q_s12, q_s2, q_s2o, q_s2k, q_s21, Nat.add_sub_cancel, q_or, q_and, q_shl, true_or, or_true, false_or, or_false, true_and, and_true, false_and, and_false, not_true_eq_false, not_false_eq_true, ne_eq, fM_EachAddsALineModel_way, gM_EachAddsALineModel_way_0, fM_EachAddsALineModel_begin_m_text, gM_EachAddsALineModel_begin_m_text_0, h8, M_isOne_t h0 hu, M_isHour_t hk]
    all_goals simp (disch := omega) only [Option.bind_some, ↓reduceIte, ↓M_1, ↓M_2, L_0, L_1, L_2, L_3, L_4, L_5, L_6, L_7, L_8, L_9, L_10, L_11, L_12, L_13, L_20, L_24, L_26, L_30, L_31, L_32, L_39, L_40, L_48, L_57, L_76, L_80, L_90, L_91, L_97, L_99, L_100, L_255, L_273, L_1000, L_2000, q_ld, q_ldL, q_sto, q_stoL, q_add, q_sub, q_mul, q_dec, q_rem, q_div, q_lt_t, q_lt_f, q_le_t, q_le_f, q_eq_t, q_eq_f, q_em, q_me, q_ml, q_lm, q_mle, q_lem, q_s1, q_s1o, q_s1k, q_s12, q_s2, q_s2o, q_s2k, q_s21, Nat.add_sub_cancel, q_or, q_and, q_shl, true_or, or_true, false_or, or_false, true_and, and_true, false_and, and_false, not_true_eq_false, not_false_eq_true, ne_eq]
  obtain ⟨z0, e0, f0, a8, a12, a13, a14, a15, a16⟩ := hst
  have h0 : MW w z0 := h.fm f0 (by decide) (by decide)
  have run : ∃ z, gM_EachAddsALineModel_way_45 N N (nI u) (nI k) (nI 0) z0 = gM_EachAddsALineModel_way_113 N (nI u) (nI k) (nI (if fst1 (waB (w 5 0) x) n < n then (if fst1 (waB (w 5 0) x) n < 30 then fst1 (waB (w 5 0) x) n + 1 else 30) else n)) z ∧ Fm [15] [] [15, 16] z0 z ∧ ((fst1 (waB (w 5 0) x) n < n ∧ z.1 0 16 = nI (fst1 (waB (w 5 0) x) n)) ∨ (¬ fst1 (waB (w 5 0) x) n < n ∧ n ≤ 30 ∧ z.1 0 16 = mI 1 ∧ ∀ j, j < n → z.1 15 j = nI (x j - 97))) := by
    refine loopUf (fun f i z => gM_EachAddsALineModel_way_45 N f (nI u) (nI k) (nI i) z) (min n 30) (fun i z => i ≤ min n 30 ∧ Fm [15] [] [15, 16] z0 z ∧ z.1 0 15 = nI i ∧ z.1 0 16 = mI 1 ∧ (∀ j, j < i → waB (w 5 0) x j = false) ∧ ∀ j, j < i → z.1 15 j = nI (x j - 97)) (fun o => ∃ z, o = gM_EachAddsALineModel_way_113 N (nI u) (nI k) (nI (if fst1 (waB (w 5 0) x) n < n then (if fst1 (waB (w 5 0) x) n < 30 then fst1 (waB (w 5 0) x) n + 1 else 30) else n)) z ∧ Fm [15] [] [15, 16] z0 z ∧ ((fst1 (waB (w 5 0) x) n < n ∧ z.1 0 16 = nI (fst1 (waB (w 5 0) x) n)) ∨ (¬ fst1 (waB (w 5 0) x) n < n ∧ n ≤ 30 ∧ z.1 0 16 = mI 1 ∧ ∀ j, j < n → z.1 15 j = nI (x j - 97)))) ?_ ?_ (min n 30) N 0 z0 (by omega) (by omega) ⟨by omega, Fm.rf, a15, a16, fun j hj => by omega, fun j hj => by omega⟩
    · rintro f i z hi hfu ⟨g1, g2, g3, g4, g5, g6⟩
      have hz : MW w z := h0.fm g2 (by decide) (by decide)
      have z12 : z.1 0 12 = nI 6 := (g2.2.2 12 (by decide)).trans a12
      have z13 : z.1 0 13 = nI n := (g2.2.2 13 (by decide)).trans a13
      have z14 : z.1 0 14 = nI 30 := (g2.2.2 14 (by decide)).trans a14
      have z6 : z.1 6 i = byteI (x i) := by rw [g2.1 6 (by decide) (by decide), f0.1 6 (by decide) (by decide)]; exact (hx i (by omega)).2
      have el := M_letter (N := N) z12 hb.1 z13 z14 g3 g4 hn (by decide) (show i < n by omega) (by omega) (hx i (by omega)).1 z6
      have ef := M_fine_t (N := N) g4
      by_cases c : 97 ≤ x i ∧ x i < 97 + w 5 0
      · rw [if_pos c] at el
        refine Or.inl ⟨s1 (s1 z 0 15 (nI (i + 1))) 15 i (nI (x i - 97)), ?_, by omega, (g2.tr (Fm.w10 (by decide))).tr (Fm.w1 (by decide) (by decide)), by simp (disch := omega) only [Option.bind_some, ↓reduceIte, ↓M_1, ↓M_2, L_0, L_1, L_2, L_3, L_4, L_5, L_6, L_7, L_8, L_9, L_10, L_11, L_12, L_13, L_20, L_24, L_26, L_30, L_31, L_32, L_39, L_40, L_48, L_57, L_76, L_80, L_90, L_91, L_97, L_99, L_100, L_255, L_273, L_1000, L_2000, q_ld, q_ldL, q_sto, q_stoL, q_add, q_sub, q_mul, q_dec, q_rem, q_div, q_lt_t, q_lt_f, q_le_t, q_le_f, q_eq_t, q_eq_f, q_em, q_me, q_ml, q_lm, q_mle, q_lem, q_s1, q_s1o, q_s1k, q_s12, q_s2, q_s2o, q_s2k, q_s21, Nat.add_sub_cancel, q_or, q_and, q_shl, true_or, or_true, false_or, or_false, true_and, and_true, false_and, and_false, not_true_eq_false, not_false_eq_true, ne_eq], by simp (disch := omega) only [Option.bind_some, ↓reduceIte, ↓M_1, ↓M_2, L_0, L_1, L_2, L_3, L_4, L_5, L_6, L_7, L_8, L_9, L_10, L_11, L_12, L_13, L_20, L_24, L_26, L_30, L_31, L_32, L_39, L_40, L_48, L_57, L_76, L_80, L_90, L_91, L_97, L_99, L_100, L_255, L_273, L_1000, L_2000, q_ld, q_ldL, q_sto, q_stoL, q_add, q_sub, q_mul, q_dec, q_rem, q_div, q_lt_t, q_lt_f, q_le_t, q_le_f, q_eq_t, q_eq_f, q_em, q_me, q_ml, q_lm, q_mle, q_lem, q_s1, q_s1o, q_s1k, q_s12, q_s2, q_s2o, q_s2k, q_s21, Nat.add_sub_cancel, q_or, q_and, q_shl, true_or, or_true, false_or, or_false, true_and, and_true, false_and, and_false, not_true_eq_false, not_false_eq_true, ne_eq]; exact g4, fun j hj => ?_, fun j hj => ?_⟩
        · rw [gM_EachAddsALineModel_way_45]
          simp (disch := omega) only [Option.bind_some, ↓reduceIte, ↓M_1, ↓M_2, L_0, L_1, L_2, L_3, L_4, L_5, L_6, L_7, L_8, L_9, L_10, L_11, L_12, L_13, L_20, L_24, L_26, L_30, L_31, L_32, L_39, L_40, L_48, L_57, L_76, L_80, L_90, L_91, L_97, L_99, L_100, L_255, L_273, L_1000, L_2000, q_ld, q_ldL, q_sto, q_stoL, q_add, q_sub, q_mul, q_dec, q_rem, q_div, q_lt_t, q_lt_f, q_le_t, q_le_f, q_eq_t, q_eq_f, q_em, q_me, q_ml, q_lm, q_mle, q_lem, q_s1, q_s1o, q_s1k, q_s12, q_s2, q_s2o, q_s2k, q_s21, Nat.add_sub_cancel, q_or, q_and, q_shl, true_or, or_true, false_or, or_false, true_and, and_true, false_and, and_false, not_true_eq_false, not_false_eq_true, ne_eq, ef, z13, z14, g3, hz.p, el]
        · by_cases e : j = i
          · rw [e]; exact waB_f (by omega) c
          · exact g5 j (by omega)
        · by_cases e : j = i
          · rw [e, q_s1]
          · rw [q_s1k e, q_s1o (by decide)]; exact g6 j (by omega)
      · rw [if_neg c] at el
        have hf : fst1 (waB (w 5 0) x) n = i := fst1_of (by omega) (waB_t (fun q => c q.2)) g5
        refine Or.inr ⟨s1 (s1 z 0 16 (nI i)) 15 i (nI 0), ?_, (g2.tr (Fm.w10 (by decide))).tr (Fm.w1 (by decide) (by decide)), Or.inl ⟨by omega, by rw [hf]; simp (disch := omega) only [Option.bind_some, ↓reduceIte, ↓M_1, ↓M_2, L_0, L_1, L_2, L_3, L_4, L_5, L_6, L_7, L_8, L_9, L_10, L_11, L_12, L_13, L_20, L_24, L_26, L_30, L_31, L_32, L_39, L_40, L_48, L_57, L_76, L_80, L_90, L_91, L_97, L_99, L_100, L_255, L_273, L_1000, L_2000, q_ld, q_ldL, q_sto, q_stoL, q_add, q_sub, q_mul, q_dec, q_rem, q_div, q_lt_t, q_lt_f, q_le_t, q_le_f, q_eq_t, q_eq_f, q_em, q_me, q_ml, q_lm, q_mle, q_lem, q_s1, q_s1o, q_s1k, q_s12, q_s2, q_s2o, q_s2k, q_s21, Nat.add_sub_cancel, q_or, q_and, q_shl, true_or, or_true, false_or, or_false, true_and, and_true, false_and, and_false, not_true_eq_false, not_false_eq_true, ne_eq]⟩⟩
        obtain ⟨f', rfl⟩ : ∃ f', f = f' + 1 := ⟨f - 1, by omega⟩
        have ef2 := M_fine_f (N := N) (z := s1 (s1 z 0 16 (nI i)) 15 i (nI 0)) (p := i) (by simp (disch := omega) only [Option.bind_some, ↓reduceIte, ↓M_1, ↓M_2, L_0, L_1, L_2, L_3, L_4, L_5, L_6, L_7, L_8, L_9, L_10, L_11, L_12, L_13, L_20, L_24, L_26, L_30, L_31, L_32, L_39, L_40, L_48, L_57, L_76, L_80, L_90, L_91, L_97, L_99, L_100, L_255, L_273, L_1000, L_2000, q_ld, q_ldL, q_sto, q_stoL, q_add, q_sub, q_mul, q_dec, q_rem, q_div, q_lt_t, q_lt_f, q_le_t, q_le_f, q_eq_t, q_eq_f, q_em, q_me, q_ml, q_lm, q_mle, q_lem, q_s1, q_s1o, q_s1k, q_s12, q_s2, q_s2o, q_s2k, q_s21, Nat.add_sub_cancel, q_or, q_and, q_shl, true_or, or_true, false_or, or_false, true_and, and_true, false_and, and_false, not_true_eq_false, not_false_eq_true, ne_eq]) (by omega)
        have eff := M_fault_f (N := N) (z := s1 (s1 z 0 16 (nI i)) 15 i (nI 0)) (p := i) (v := nI i) (by simp (disch := omega) only [Option.bind_some, ↓reduceIte, ↓M_1, ↓M_2, L_0, L_1, L_2, L_3, L_4, L_5, L_6, L_7, L_8, L_9, L_10, L_11, L_12, L_13, L_20, L_24, L_26, L_30, L_31, L_32, L_39, L_40, L_48, L_57, L_76, L_80, L_90, L_91, L_97, L_99, L_100, L_255, L_273, L_1000, L_2000, q_ld, q_ldL, q_sto, q_stoL, q_add, q_sub, q_mul, q_dec, q_rem, q_div, q_lt_t, q_lt_f, q_le_t, q_le_f, q_eq_t, q_eq_f, q_em, q_me, q_ml, q_lm, q_mle, q_lem, q_s1, q_s1o, q_s1k, q_s12, q_s2, q_s2o, q_s2k, q_s21, Nat.add_sub_cancel, q_or, q_and, q_shl, true_or, or_true, false_or, or_false, true_and, and_true, false_and, and_false, not_true_eq_false, not_false_eq_true, ne_eq]) (by omega)
        rw [hf, if_pos (show i < n by omega), if_pos (show i < 30 by omega)]
        try simp only
        rw [gM_EachAddsALineModel_way_45]
        simp (disch := omega) only [Option.bind_some, ↓reduceIte, ↓M_1, ↓M_2, L_0, L_1, L_2, L_3, L_4, L_5, L_6, L_7, L_8, L_9, L_10, L_11, L_12, L_13, L_20, L_24, L_26, L_30, L_31, L_32, L_39, L_40, L_48, L_57, L_76, L_80, L_90, L_91, L_97, L_99, L_100, L_255, L_273, L_1000, L_2000, q_ld, q_ldL, q_sto, q_stoL, q_add, q_sub, q_mul, q_dec, q_rem, q_div, q_lt_t, q_lt_f, q_le_t, q_le_f, q_eq_t, q_eq_f, q_em, q_me, q_ml, q_lm, q_mle, q_lem, q_s1, q_s1o, q_s1k, q_s12, q_s2, q_s2o, q_s2k, q_s21, Nat.add_sub_cancel, q_or, q_and, q_shl, true_or, or_true, false_or, or_false, true_and, and_true, false_and, and_false, not_true_eq_false, not_false_eq_true, ne_eq, ef, z13, z14, g3, hz.p, el]
        rw [gM_EachAddsALineModel_way_45]
        simp (disch := omega) only [Option.bind_some, ↓reduceIte, ↓M_1, ↓M_2, L_0, L_1, L_2, L_3, L_4, L_5, L_6, L_7, L_8, L_9, L_10, L_11, L_12, L_13, L_20, L_24, L_26, L_30, L_31, L_32, L_39, L_40, L_48, L_57, L_76, L_80, L_90, L_91, L_97, L_99, L_100, L_255, L_273, L_1000, L_2000, q_ld, q_ldL, q_sto, q_stoL, q_add, q_sub, q_mul, q_dec, q_rem, q_div, q_lt_t, q_lt_f, q_le_t, q_le_f, q_eq_t, q_eq_f, q_em, q_me, q_ml, q_lm, q_mle, q_lem, q_s1, q_s1o, q_s1k, q_s12, q_s2, q_s2o, q_s2k, q_s21, Nat.add_sub_cancel, q_or, q_and, q_shl, true_or, or_true, false_or, or_false, true_and, and_true, false_and, and_false, not_true_eq_false, not_false_eq_true, ne_eq, ef2, gM_EachAddsALineModel_way_94, z13, g3, eff]
    · rintro f z ⟨g1, g2, g3, g4, g5, g6⟩
      have z13 : z.1 0 13 = nI n := (g2.2.2 13 (by decide)).trans a13
      have z14 : z.1 0 14 = nI 30 := (g2.2.2 14 (by decide)).trans a14
      have ef := M_fine_t (N := N) g4
      by_cases c : n ≤ 30
      · rw [Nat.min_eq_left c] at g3 g5 g6 ⊢
        have hf : ¬ fst1 (waB (w 5 0) x) n < n := fun q => by
          have := fst1_lt q
          rw [g5 _ q] at this
          cases this
        refine ⟨z, ?_, g2, Or.inr ⟨hf, c, g4, g6⟩⟩
        rw [if_neg hf]
        try simp only
        rw [gM_EachAddsALineModel_way_45]
        simp (disch := omega) only [Option.bind_some, ↓reduceIte, ↓M_1, ↓M_2, L_0, L_1, L_2, L_3, L_4, L_5, L_6, L_7, L_8, L_9, L_10, L_11, L_12, L_13, L_20, L_24, L_26, L_30, L_31, L_32, L_39, L_40, L_48, L_57, L_76, L_80, L_90, L_91, L_97, L_99, L_100, L_255, L_273, L_1000, L_2000, q_ld, q_ldL, q_sto, q_stoL, q_add, q_sub, q_mul, q_dec, q_rem, q_div, q_lt_t, q_lt_f, q_le_t, q_le_f, q_eq_t, q_eq_f, q_em, q_me, q_ml, q_lm, q_mle, q_lem, q_s1, q_s1o, q_s1k, q_s12, q_s2, q_s2o, q_s2k, q_s21, Nat.add_sub_cancel, q_or, q_and, q_shl, true_or, or_true, false_or, or_false, true_and, and_true, false_and, and_false, not_true_eq_false, not_false_eq_true, ne_eq, ef, z13, g3, gM_EachAddsALineModel_way_94]
      · rw [Nat.min_eq_right (by omega)] at g3 g5 g6 ⊢
        have hf : fst1 (waB (w 5 0) x) n = 30 := fst1_of (by omega) (waB_t (fun q => by omega)) g5
        have eft := M_fault_t (N := N) (v := nI 30) g4
        refine ⟨s1 z 0 16 (nI 30), ?_, g2.tr (Fm.w10 (by decide)), Or.inl ⟨by omega, by rw [hf]; exact q_s1 _ _ _ _⟩⟩
        rw [hf, if_pos (show 30 < n by omega), if_neg (show ¬ 30 < 30 by omega)]
        try simp only
        rw [gM_EachAddsALineModel_way_45]
        simp (disch := omega) only [Option.bind_some, ↓reduceIte, ↓M_1, ↓M_2, L_0, L_1, L_2, L_3, L_4, L_5, L_6, L_7, L_8, L_9, L_10, L_11, L_12, L_13, L_20, L_24, L_26, L_30, L_31, L_32, L_39, L_40, L_48, L_57, L_76, L_80, L_90, L_91, L_97, L_99, L_100, L_255, L_273, L_1000, L_2000, q_ld, q_ldL, q_sto, q_stoL, q_add, q_sub, q_mul, q_dec, q_rem, q_div, q_lt_t, q_lt_f, q_le_t, q_le_f, q_eq_t, q_eq_f, q_em, q_me, q_ml, q_lm, q_mle, q_lem, q_s1, q_s1o, q_s1k, q_s12, q_s2, q_s2o, q_s2k, q_s21, Nat.add_sub_cancel, q_or, q_and, q_shl, true_or, or_true, false_or, or_false, true_and, and_true, false_and, and_false, not_true_eq_false, not_false_eq_true, ne_eq, ef, z13, z14, g3, gM_EachAddsALineModel_way_94, eft]
  obtain ⟨z, e1, f1, hw⟩ := run
  have fz1 : Fm [15] [] [8, 11, 12, 13, 14, 15, 16] t z := (f0.mono (by decide) (by decide) (by decide)).tr (f1.mono (by decide) (by decide) (by decide))
  have z8 : z.1 0 8 = nI 0 := (f1.2.2 8 (by decide)).trans a8
  refine ⟨fun hf => ?_, fun hf => ?_⟩
  · have z16 := (hw.resolve_right (fun q => q.1 hf)).2
    refine ⟨z, ?_, fz1, z8⟩
    have ef := M_fine_f (N := N) z16 (by omega)
    rw [e0, e1, gM_EachAddsALineModel_way_113]
    simp (disch := omega) only [Option.bind_some, ↓reduceIte, ↓M_1, ↓M_2, L_0, L_1, L_2, L_3, L_4, L_5, L_6, L_7, L_8, L_9, L_10, L_11, L_12, L_13, L_20, L_24, L_26, L_30, L_31, L_32, L_39, L_40, L_48, L_57, L_76, L_80, L_90, L_91, L_97, L_99, L_100, L_255, L_273, L_1000, L_2000, q_ld, q_ldL, q_sto, q_stoL, q_add, q_sub, q_mul, q_dec, q_rem, q_div, q_lt_t, q_lt_f, q_le_t, q_le_f, q_eq_t, q_eq_f, q_em, q_me, q_ml, q_lm, q_mle, q_lem, q_s1, q_s1o, q_s1k, q_s12, q_s2, q_s2o, q_s2k, q_s21, Nat.add_sub_cancel, q_or, q_and, q_shl, true_or, or_true, false_or, or_false, true_and, and_true, false_and, and_false, not_true_eq_false, not_false_eq_true, ne_eq, ef, z16, q_ms]
  · obtain ⟨_, n30, z16, z15⟩ := hw.resolve_left (fun q => hf q.1)
    have hz : MW w z := h.fm fz1 (by decide) (by decide)
    have ef := M_fine_t (N := N) z16
    have hall : ∀ j, j < n → waB (w 5 0) x j = false := fun j hj => fst1_not (p := waB (w 5 0) x) (n := n) (by omega)
    have e2 : fM_EachAddsALineModel_way N (nI u) (nI k) t = gM_EachAddsALineModel_way_139 N N (nI n) (nI u) (nI k) (nI 1) (nI 0) z := by
      rw [e0, e1, if_neg hf, gM_EachAddsALineModel_way_113]
      simp (disch := omega) only [Option.bind_some, ↓reduceIte, ↓M_1, ↓M_2, L_0, L_1, L_2, L_3, L_4, L_5, L_6, L_7, L_8, L_9, L_10, L_11, L_12, L_13, L_20, L_24, L_26, L_30, L_31, L_32, L_39, L_40, L_48, L_57, L_76, L_80, L_90, L_91, L_97, L_99, L_100, L_255, L_273, L_1000, L_2000, q_ld, q_ldL, q_sto, q_stoL, q_add, q_sub, q_mul, q_dec, q_rem, q_div, q_lt_t, q_lt_f, q_le_t, q_le_f, q_eq_t, q_eq_f, q_em, q_me, q_ml, q_lm, q_mle, q_lem, q_s1, q_s1o, q_s1k, q_s12, q_s2, q_s2o, q_s2k, q_s21, Nat.add_sub_cancel, q_or, q_and, q_shl, true_or, or_true, false_or, or_false, true_and, and_true, false_and, and_false, not_true_eq_false, not_false_eq_true, ne_eq, ef]
    rw [e2]
    rcases M_way139 (N := N) hz ho (by omega) hu hk n30 z15 (fun j hj => (waB_of (hall j hj)).2) with ⟨p1, y, p2, p3⟩ | ⟨p1, y, p2, p3, p4, p5⟩
    · exact Or.inl ⟨p1, y, p2, (fz1.mono (by decide) (by decide) (by decide)).tr (p3.mono (by decide) (by decide) (by decide)), (p3.2.2 8 (by decide)).trans z8⟩
    · exact Or.inr ⟨p1, y, p2, (fz1.mono (by decide) (by decide) (by decide)).tr (p3.mono (by decide) (by decide) (by decide)), (p3.2.2 8 (by decide)).trans z8, p4, p5⟩
/-- text and row -/
theorem RR.tr (hU : okU U) {L K L' K' F : List Nat} {s' t' : vSt} (h : RR U s t) (h3 : TX s' t') (h4 : RO s' t') (f : Fr L K s s') (g : Fm L' K' F t t') (hL : ∀ o, o ∈ L → (1 ≤ o ∧ o ≤ 4) ∨ o = 16 ∨ (19 ≤ o ∧ o ≤ 24) ∨ 41 ≤ o)
    (hM : ∀ o, o ∈ L' → (6 ≤ o ∧ o ≤ 7) ∨ (10 ≤ o ∧ o ≤ 15) ∨ (17 ≤ o ∧ o ≤ 21)) (hF : ∀ o, o ∈ F → o = 8 ∨ (10 ≤ o ∧ o ≤ 17) ∨ (19 ≤ o ∧ o ≤ 33) ∨ (45 ≤ o)) : RR U s' t' := by
  obtain ⟨w, h1, h2, _, _, h5, h6, h7, h8, h9⟩ := h
  have a : ∀ o, ((4 < o ∧ o < 16) ∨ (16 < o ∧ o < 19) ∨ (24 < o ∧ o < 41)) → o ∉ L := fun o ho z => by have := hL o z; omega
  have b : ∀ o, (o < 6 ∨ (7 < o ∧ o < 10) ∨ o = 16 ∨ 21 < o) → o ∉ L' := fun o ho z => by have := hM o z; omega
  have c : ∀ o, (o < 8 ∨ o = 9 ∨ o = 18 ∨ (33 < o ∧ o < 45)) → o ∉ F := fun o ho z => by have := hF o z; omega
  exact ⟨w, h1.fr f ⟨a _ (by decide), a _ (by decide), a _ (by decide), a _ (by decide), a _ (by decide), a _ (by decide), a _ (by decide)⟩,
    h2.fm g ⟨c _ (by decide), c _ (by decide)⟩ ⟨b _ (by decide), b _ (by decide), b _ (by decide), b _ (by decide), b _ (by decide)⟩, h3, h4,
    h5.fr f g ⟨a _ (by decide), a _ (by decide)⟩ ⟨b _ (by decide), c _ (by decide)⟩, h6.fr f g ⟨a _ (by decide), a _ (by decide)⟩ ⟨b _ (by decide), c _ (by decide)⟩,
    h7.fr f g (fun o ho z => a o (by omega) ho) ⟨b _ (by decide), b _ (by decide), b _ (by decide)⟩, hU.fr h8 f g ⟨a _ (by decide), a _ (by decide)⟩ ⟨b _ (by decide), c _ (by decide)⟩,
    h9.fr g ⟨c _ (by decide), c _ (by decide), c _ (by decide), c _ (by decide)⟩⟩
theorem k_way (hU : okU U) (hN : 200 ≤ N) : keeps2 N (RR U) fC_EachAddsALine_way fM_EachAddsALineModel_way := fun s t hr a b => by
  obtain ⟨w, h1, h2, h3, h4, _⟩ := id hr
  obtain ⟨n, x, n1, n2, n3, n4⟩ := h3.d
  have hb := h1.bd
  have h0 : ∀ z, Fm [] [] [8, 11, 12, 13, 14, 15, 16] t z → MW w z := fun z f => h2.fm f (by decide) (by decide)
  have f0 : Fm [] [] [8, 11, 12, 13, 14, 15, 16] t (s1 (s1 (s1 (s1 (s1 (s1 (s1 t 0 11 (nI 0)) 0 12 (nI 6)) 0 13 (nI n)) 0 14 (nI 30)) 0 15 (nI 0)) 0 16 (mI 1)) 0 8 (nI 0)) := ((((((Fm.w10 (by decide)).tr (Fm.w10 (by decide))).tr (Fm.w10 (by decide))).tr (Fm.w10 (by decide))).tr (Fm.w10 (by decide))).tr (Fm.w10 (by decide))).tr (Fm.w10 (by decide))
  have none : fC_EachAddsALine_way N a b s = some (mI 200, s1 s 1 1 (nI 0)) → fM_EachAddsALineModel_way N a b t = some (mI 200, s1 (s1 (s1 (s1 (s1 (s1 (s1 t 0 11 (nI 0)) 0 12 (nI 6)) 0 13 (nI n)) 0 14 (nI 30)) 0 15 (nI 0)) 0 16 (mI 1)) 0 8 (nI 0)) → ∃ r s' t', fC_EachAddsALine_way N a b s = some (r, s') ∧ fM_EachAddsALineModel_way N a b t = some (r, t') ∧ RR U s' t' := fun a1 a2 => ⟨_, _, _, a1, a2, hr.tx hU ⟨0, by decide, q_s1 _ _ _ _, q_s1 _ _ _ _, fun k hk => by omega⟩ (Fr.s1 (L := [1]) (K := []) (by decide)) f0 (by decide) (by decide) (by decide)⟩
  by_cases q : isP (w 5 0) a
  · obtain ⟨u, hu, rfl⟩ := q
    by_cases q2 : isP 100 b
    · obtain ⟨k, hk, rfl⟩ := q2
      have hM := M_way_t (N := N) h2 h1.or hN hu hk n3 n1 (fun k hk => ⟨(n4 k hk).1, (n4 k hk).2.2⟩)
      have hC := C_wayFault (N := N) h1 (by omega) n2 n1 (fun k hk => ⟨(n4 k hk).1, (n4 k hk).2.1⟩)
      by_cases c : fst1 (waB (w 5 0) x) n < n
      · obtain ⟨z, m1, m2, m3⟩ := hM.1 c
        rw [show nxI (fst1 (waB (w 5 0) x) n) n = nI (fst1 (waB (w 5 0) x) n) from if_pos c] at hC
        refine ⟨mI (1 + fst1 (waB (w 5 0) x) n), s1 s 1 1 (nI 0), z, ?_, m1, hr.tx hU ⟨0, by decide, q_s1 _ _ _ _, m3, fun k hk => by omega⟩ (Fr.s1 (L := [1]) (K := []) (by decide)) m2 (by decide) (by decide) (by decide)⟩
        simp (disch := omega) only [Option.bind_some, ↓reduceIte, ↓M_1, ↓M_2, L_0, L_1, L_2, L_3, L_4, L_5, L_6, L_7, L_8, L_9, L_10, L_11, L_12, L_13, L_20, L_24, L_26, L_30, L_31, L_32, L_39, L_40, L_48, L_57, L_76, L_80, L_90, L_91, L_97, L_99, L_100, L_255, L_273, L_1000, L_2000, q_ld, q_ldL, q_sto, q_stoL, q_add, q_sub, q_mul, q_dec, q_rem, q_div, q_lt_t, q_lt_f, q_le_t, q_le_f, q_eq_t, q_eq_f, q_em, q_me, q_ml, q_lm, q_mle, q_lem, q_s1, q_s1o, q_s1k, q_s12, q_s2, q_s2o, q_s2k, q_s21, Nat.add_sub_cancel, q_or, q_and, q_shl, true_or, or_true, false_or, or_false, true_and, and_true, false_and, and_false, not_true_eq_false, not_false_eq_true, ne_eq, fC_EachAddsALine_way, gC_EachAddsALine_way_0, ↓M_200, C_hasPerson_t h1 hu, C_isHour_t hk, hC, q_ms, gC_EachAddsALine_way_58, gC_EachAddsALine_way_59, fC_Text_clear, gC_Text_clear_0]
      · rw [show nxI (fst1 (waB (w 5 0) x) n) n = mI 1 from if_neg c] at hC
        have hall : ∀ j, j < n → waB (w 5 0) x j = false := fun j hj => fst1_not (p := waB (w 5 0) x) (n := n) (by omega)
        have n30 : n ≤ 30 := by
          rcases Nat.lt_or_ge 30 n with d | d
          · have := (waB_of (hall 30 d)).1
            omega
          · exact d
        have hF := C_follow (N := N) h1 (by omega) hu hk n2 n30 (fun k hk => (n4 k hk).2.1) (fun j hj => (waB_of (hall j hj)).2)
        rcases hM.2 c with ⟨p1, z, m1, m2, m3⟩ | ⟨p1, z, m1, m2, m3, m4, m5⟩
        · have e := hF.1 p1
          refine ⟨mI (100 + wf w u k x n), s1 s 1 1 (nI 0), z, ?_, m1, hr.tx hU ⟨0, by decide, q_s1 _ _ _ _, m3, fun k hk => by omega⟩ (Fr.s1 (L := [1]) (K := []) (by decide)) m2 (by decide) (by decide) (by decide)⟩
          simp (disch := omega) only [Option.bind_some, ↓reduceIte, ↓M_1, ↓M_2, L_0, L_1, L_2, L_3, L_4, L_5, L_6, L_7, L_8, L_9, L_10, L_11, L_12, L_13, L_20, L_24, L_26, L_30, L_31, L_32, L_39, L_40, L_48, L_57, L_76, L_80, L_90, L_91, L_97, L_99, L_100, L_255, L_273, L_1000, L_2000, q_ld, q_ldL, q_sto, q_stoL, q_add, q_sub, q_mul, q_dec, q_rem, q_div, q_lt_t, q_lt_f, q_le_t, q_le_f, q_eq_t, q_eq_f, q_em, q_me, q_ml, q_lm, q_mle, q_lem, q_s1, q_s1o, q_s1k, q_s12, q_s2, q_s2o, q_s2k, q_s21, Nat.add_sub_cancel, q_or, q_and, q_shl, true_or, or_true, false_or, or_false, true_and, and_true, false_and, and_false, not_true_eq_false, not_false_eq_true, ne_eq, fC_EachAddsALine_way, gC_EachAddsALine_way_0, ↓M_200, C_hasPerson_t h1 hu, C_isHour_t hk, hC, e, gC_EachAddsALine_way_58, gC_EachAddsALine_way_59, fC_Text_clear, gC_Text_clear_0]
        · obtain ⟨s', e1, e2⟩ := hF.2 p1
          have hro : RO s' z := RO.of e2 (t := z) ⟨Fm.rf, m4, m5⟩
          have hro2 : RO (s1 s' 1 1 (nI 0)) z := hro.fr (Fr.s1 (L := [1]) (K := []) (by decide)) (Fm.rf (L := []) (K := []) (F := [])) (by decide) (by decide)
          refine ⟨nI (wst w u k x n).2.2, s1 s' 1 1 (nI 0), z, ?_, m1, hr.tr hU ⟨0, by decide, q_s1 _ _ _ _, m3, fun k hk => by omega⟩ hro2 ((e2.1.mono (by decide) (by decide)).tr (Fr.s1 (by decide)) : Fr [1, 3, 4] [] s _) m2 (by decide) (by decide) (by decide)⟩
          simp (disch := omega) only [Option.bind_some, ↓reduceIte, ↓M_1, ↓M_2, L_0, L_1, L_2, L_3, L_4, L_5, L_6, L_7, L_8, L_9, L_10, L_11, L_12, L_13, L_20, L_24, L_26, L_30, L_31, L_32, L_39, L_40, L_48, L_57, L_76, L_80, L_90, L_91, L_97, L_99, L_100, L_255, L_273, L_1000, L_2000, q_ld, q_ldL, q_sto, q_stoL, q_add, q_sub, q_mul, q_dec, q_rem, q_div, q_lt_t, q_lt_f, q_le_t, q_le_f, q_eq_t, q_eq_f, q_em, q_me, q_ml, q_lm, q_mle, q_lem, q_s1, q_s1o, q_s1k, q_s12, q_s2, q_s2o, q_s2k, q_s21, Nat.add_sub_cancel, q_or, q_and, q_shl, true_or, or_true, false_or, or_false, true_and, and_true, false_and, and_false, not_true_eq_false, not_false_eq_true, ne_eq, fC_EachAddsALine_way, gC_EachAddsALine_way_0, ↓M_200, C_hasPerson_t h1 hu, C_isHour_t hk, hC, e1, gC_EachAddsALine_way_58, gC_EachAddsALine_way_59, fC_Text_clear, gC_Text_clear_0]
    · refine none ?_ ?_
      · simp (disch := omega) only [Option.bind_some, ↓reduceIte, ↓M_1, ↓M_2, L_0, L_1, L_2, L_3, L_4, L_5, L_6, L_7, L_8, L_9, L_10, L_11, L_12, L_13, L_20, L_24, L_26, L_30, L_31, L_32, L_39, L_40, L_48, L_57, L_76, L_80, L_90, L_91, L_97, L_99, L_100, L_255, L_273, L_1000, L_2000, q_ld, q_ldL, q_sto, q_stoL, q_add, q_sub, q_mul, q_dec, q_rem, q_div, q_lt_t, q_lt_f, q_le_t, q_le_f, q_eq_t, q_eq_f, q_em, q_me, q_ml, q_lm, q_mle, q_lem, q_s1, q_s1o, q_s1k, q_s12, q_s2, q_s2o, q_s2k, q_s21, Nat.add_sub_cancel, q_or, q_and, q_shl, true_or, or_true, false_or, or_false, true_and, and_true, false_and, and_false, not_true_eq_false, not_false_eq_true, ne_eq, fC_EachAddsALine_way, gC_EachAddsALine_way_0, ↓M_200, C_hasPerson_t h1 hu, C_isHour_f q2, gC_EachAddsALine_way_59, fC_Text_clear, gC_Text_clear_0]
      · simp (disch := omega) only [Option.bind_some, ↓reduceIte, ↓M_1, ↓M_2, L_0, L_1, L_2, L_3, L_4, L_5, L_6, L_7, L_8, L_9, L_10, L_11, L_12, L_13, L_20, L_24, L_26, L_30, L_31, L_32, L_39, L_40, L_48, L_57, L_76, L_80, L_90, L_91, L_97, L_99, L_100, L_255, L_273, L_1000, L_2000, q_ld, q_ldL, q_sto, q_stoL, q_add, q_sub, q_mul, q_dec, q_rem, q_div, q_lt_t, q_lt_f, q_le_t, q_le_f, q_eq_t, q_eq_f, q_em, q_me, q_ml, q_lm, q_mle, q_lem, q_s1, q_s1o, q_s1k, q_s12, q_s2, q_s2o, q_s2k, q_s21, Nat.add_sub_cancel, q_or, q_and, q_shl, true_or, or_true, false_or, or_false, true_and, and_true, false_and, and_false, not_true_eq_false, not_false_eq_true, ne_eq, fM_EachAddsALineModel_way, gM_EachAddsALineModel_way_0, ↓M_200, fM_EachAddsALineModel_begin_m_text, gM_EachAddsALineModel_begin_m_text_0, n3, M_isOne_t (h0 _ f0) hu, M_isHour_f q2]
  · refine none ?_ ?_
    · simp (disch := omega) only [Option.bind_some, ↓reduceIte, ↓M_1, ↓M_2, L_0, L_1, L_2, L_3, L_4, L_5, L_6, L_7, L_8, L_9, L_10, L_11, L_12, L_13, L_20, L_24, L_26, L_30, L_31, L_32, L_39, L_40, L_48, L_57, L_76, L_80, L_90, L_91, L_97, L_99, L_100, L_255, L_273, L_1000, L_2000, q_ld, q_ldL, q_sto, q_stoL, q_add, q_sub, q_mul, q_dec, q_rem, q_div, q_lt_t, q_lt_f, q_le_t, q_le_f, q_eq_t, q_eq_f, q_em, q_me, q_ml, q_lm, q_mle, q_lem, q_s1, q_s1o, q_s1k, q_s12, q_s2, q_s2o, q_s2k, q_s21, Nat.add_sub_cancel, q_or, q_and, q_shl, true_or, or_true, false_or, or_false, true_and, and_true, false_and, and_false, not_true_eq_false, not_false_eq_true, ne_eq, fC_EachAddsALine_way, gC_EachAddsALine_way_0, ↓M_200, C_hasPerson_f h1 q, gC_EachAddsALine_way_59, fC_Text_clear, gC_Text_clear_0]
    · simp (disch := omega) only [Option.bind_some, ↓reduceIte, ↓M_1, ↓M_2, L_0, L_1, L_2, L_3, L_4, L_5, L_6, L_7, L_8, L_9, L_10, L_11, L_12, L_13, L_20, L_24, L_26, L_30, L_31, L_32, L_39, L_40, L_48, L_57, L_76, L_80, L_90, L_91, L_97, L_99, L_100, L_255, L_273, L_1000, L_2000, q_ld, q_ldL, q_sto, q_stoL, q_add, q_sub, q_mul, q_dec, q_rem, q_div, q_lt_t, q_lt_f, q_le_t, q_le_f, q_eq_t, q_eq_f, q_em, q_me, q_ml, q_lm, q_mle, q_lem, q_s1, q_s1o, q_s1k, q_s12, q_s2, q_s2o, q_s2k, q_s21, Nat.add_sub_cancel, q_or, q_and, q_shl, true_or, or_true, false_or, or_false, true_and, and_true, false_and, and_false, not_true_eq_false, not_false_eq_true, ne_eq, fM_EachAddsALineModel_way, gM_EachAddsALineModel_way_0, ↓M_200, fM_EachAddsALineModel_begin_m_text, gM_EachAddsALineModel_begin_m_text_0, n3, M_isOne_f (h0 _ f0) q]
end WR
