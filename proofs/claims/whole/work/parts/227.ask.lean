/-! ask, worst -/
section AS
variable {N : Nat} {U : vSt → vSt → Prop} {w : Nat → Nat → Nat} {s t : vSt} {u v k : Nat}
def bI (x : Nat) : Int32 := if x = 100 then mI 2 else nI x
def askF (w : Nat → Nat → Nat) (u k p : Nat) (x : Nat × Nat) : Nat × Nat := if ¬ p = u ∧ ans w u p k < x.2 then (p, ans w u p k) else x
def askS (w : Nat → Nat → Nat) (u k n : Nat) : Nat × Nat := fz (askF w u k) (100, 1000000) n
theorem askS_ok (h : okW w) (n : Nat) : ((askS w u k n).1 = 100 ∧ (askS w u k n).2 = 1000000) ∨ ((askS w u k n).1 < n ∧ (askS w u k n).2 ≤ 99) := by
  refine fz_ind (f := askF w u k) (z := (100, 1000000)) (n := n) (fun i a => (a.1 = 100 ∧ a.2 = 1000000) ∨ (a.1 < i ∧ a.2 ≤ 99)) (Or.inl ⟨rfl, rfl⟩) (fun i a hi ha => ?_) n (Nat.le_refl _)
  have hb := ans_bd (u := u) (v := i) (k := k) h
  unfold askF
  split
  · refine Or.inr ⟨?_, ?_⟩
    · show i < i + 1; omega
    · show ans w u i k ≤ 99
      rcases ha with ha | ha <;> omega
  · exact ha.imp id (fun z => ⟨by omega, z.2⟩)
theorem C_ask31 (h : CW w s) (hN : 60 ≤ N) (hu : u < w 5 0) (hk : k < 100) :
    ∃ z, gC_EachAddsALine_ask_31 N N (nI u) (nI k) (mI 2) (nI 1048576) (nI 0) s = some (bI (askS w u k (w 5 0)).1, z) ∧ Fr [3, 4, 41, 42] [] s z ∧ ((askS w u k (w 5 0)).1 = 100 → Fr [41, 42] [] s z) ∧ (¬ (askS w u k (w 5 0)).1 = 100 → z.1 3 1 = nI 1 ∧ z.1 4 0 = nI (askS w u k (w 5 0)).2) := by
  have hb := h.bd
  refine loopU (fun f i z => gC_EachAddsALine_ask_31 N f (nI u) (nI k) (bI (askS w u k i).1) (if (askS w u k i).1 = 100 then nI 1048576 else nI (askS w u k i).2) (nI i) z) (w 5 0) (fun i z => i ≤ w 5 0 ∧ Fr [41, 42] [] s z) (fun o => ∃ z, o = some (bI (askS w u k (w 5 0)).1, z) ∧ Fr [3, 4, 41, 42] [] s z ∧ ((askS w u k (w 5 0)).1 = 100 → Fr [41, 42] [] s z) ∧ (¬ (askS w u k (w 5 0)).1 = 100 → z.1 3 1 = nI 1 ∧ z.1 4 0 = nI (askS w u k (w 5 0)).2)) ?_ ?_ (w 5 0) N 0 s (by omega) (by omega) ⟨by omega, Fr.rf⟩
  · rintro f i z hi ⟨g1, g2⟩
    have hz : CW w z := h.fr g2 (by decide)
    have hx := askS_ok (u := u) (k := k) h.ok i
    have es : askS w u k (i + 1) = askF w u k i (askS w u k i) := rfl
    try simp only
    rw [es]
    generalize askS w u k i = x at hx
    by_cases c : i = u
    · refine Or.inl ⟨z, ?_, by omega, g2⟩
      rw [show askF w u k i x = x from if_neg (fun y => y.1 c), gC_EachAddsALine_ask_31]
      simp (disch := omega) only [Option.bind_some, ↓reduceIte, ↓M_1, ↓M_2, L_0, L_1, L_2, L_3, L_4, L_5, L_6, L_7, L_8, L_9, L_10, L_11, L_12, L_13, L_20, L_24, L_26, L_30, L_31, L_32, L_39, L_40, L_48, L_57, L_76, L_80, L_90, L_91, L_97, L_99, L_100, L_255, L_273, L_1000, L_2000, q_ld, q_ldL, q_sto, q_stoL, q_add, q_sub, q_mul, q_dec, q_rem, q_div, q_lt_t, q_lt_f, q_le_t, q_le_f, q_eq_t, q_eq_f, q_em, q_me, q_ml, q_lm, q_mle, q_lem, q_s1, q_s1o, q_s1k, q_s12, q_s2, q_s2o, q_s2k, q_s21, Nat.add_sub_cancel, q_or, q_and, q_shl, true_or, or_true, false_or, or_false, true_and, and_true, false_and, and_false, not_true_eq_false, not_false_eq_true, ne_eq, hz.p, gC_EachAddsALine_ask_64, gC_EachAddsALine_ask_86]
    · obtain ⟨z', x1, x2, x3⟩ := C_answerHour (N := N) hz hN hu hi hk
      refine Or.inl ⟨z', ?_, by omega, g2.tr x2⟩
      rcases ans_bd (u := u) (v := i) (k := k) h.ok with d | d
      · rw [ea_lt d] at x1
        by_cases e : ans w u i k < x.2
        · rw [show askF w u k i x = (i, ans w u i k) from if_pos ⟨c, e⟩, gC_EachAddsALine_ask_31]
          show _ = gC_EachAddsALine_ask_31 N f (nI u) (nI k) (bI i) (if i = 100 then nI 1048576 else nI (ans w u i k)) (nI (i + 1)) z'
          rw [show bI i = nI i from if_neg (by omega), if_neg (show ¬ i = 100 by omega)]
          by_cases x0 : x.1 = 100
          · simp (disch := omega) only [Option.bind_some, ↓reduceIte, ↓M_1, ↓M_2, L_0, L_1, L_2, L_3, L_4, L_5, L_6, L_7, L_8, L_9, L_10, L_11, L_12, L_13, L_20, L_24, L_26, L_30, L_31, L_32, L_39, L_40, L_48, L_57, L_76, L_80, L_90, L_91, L_97, L_99, L_100, L_255, L_273, L_1000, L_2000, q_ld, q_ldL, q_sto, q_stoL, q_add, q_sub, q_mul, q_dec, q_rem, q_div, q_lt_t, q_lt_f, q_le_t, q_le_f, q_eq_t, q_eq_f, q_em, q_me, q_ml, q_lm, q_mle, q_lem, q_s1, q_s1o, q_s1k, q_s12, q_s2, q_s2o, q_s2k, q_s21, Nat.add_sub_cancel, q_or, q_and, q_shl, true_or, or_true, false_or, or_false, true_and, and_true, false_and, and_false, not_true_eq_false, not_false_eq_true, ne_eq, hz.p, x1, x0, gC_EachAddsALine_ask_64, gC_EachAddsALine_ask_86]
          · have hx2 : x.2 ≤ 99 := by omega
            simp (disch := omega) only [Option.bind_some, ↓reduceIte, ↓M_1, ↓M_2, L_0, L_1, L_2, L_3, L_4, L_5, L_6, L_7, L_8, L_9, L_10, L_11, L_12, L_13, L_20, L_24, L_26, L_30, L_31, L_32, L_39, L_40, L_48, L_57, L_76, L_80, L_90, L_91, L_97, L_99, L_100, L_255, L_273, L_1000, L_2000, q_ld, q_ldL, q_sto, q_stoL, q_add, q_sub, q_mul, q_dec, q_rem, q_div, q_lt_t, q_lt_f, q_le_t, q_le_f, q_eq_t, q_eq_f, q_em, q_me, q_ml, q_lm, q_mle, q_lem, q_s1, q_s1o, q_s1k, q_s12, q_s2, q_s2o, q_s2k, q_s21, Nat.add_sub_cancel, q_or, q_and, q_shl, true_or, or_true, false_or, or_false, true_and, and_true, false_and, and_false, not_true_eq_false, not_false_eq_true, ne_eq, hz.p, x1, x0, gC_EachAddsALine_ask_64, gC_EachAddsALine_ask_86]
        · rw [show askF w u k i x = x from if_neg (fun y => e y.2), gC_EachAddsALine_ask_31]
          have x0 : ¬ x.1 = 100 := fun y => by omega
          have hx2 : x.2 ≤ 99 := by omega
          simp (disch := omega) only [Option.bind_some, ↓reduceIte, ↓M_1, ↓M_2, L_0, L_1, L_2, L_3, L_4, L_5, L_6, L_7, L_8, L_9, L_10, L_11, L_12, L_13, L_20, L_24, L_26, L_30, L_31, L_32, L_39, L_40, L_48, L_57, L_76, L_80, L_90, L_91, L_97, L_99, L_100, L_255, L_273, L_1000, L_2000, q_ld, q_ldL, q_sto, q_stoL, q_add, q_sub, q_mul, q_dec, q_rem, q_div, q_lt_t, q_lt_f, q_le_t, q_le_f, q_eq_t, q_eq_f, q_em, q_me, q_ml, q_lm, q_mle, q_lem, q_s1, q_s1o, q_s1k, q_s12, q_s2, q_s2o, q_s2k, q_s21, Nat.add_sub_cancel, q_or, q_and, q_shl, true_or, or_true, false_or, or_false, true_and, and_true, false_and, and_false, not_true_eq_false, not_false_eq_true, ne_eq, hz.p, x1, x0, gC_EachAddsALine_ask_64, gC_EachAddsALine_ask_86]
      · rw [d, ea_far] at x1
        rw [show askF w u k i x = x from if_neg (fun y => by have := y.2; omega), gC_EachAddsALine_ask_31]
        simp (disch := omega) only [Option.bind_some, ↓reduceIte, ↓M_1, ↓M_2, L_0, L_1, L_2, L_3, L_4, L_5, L_6, L_7, L_8, L_9, L_10, L_11, L_12, L_13, L_20, L_24, L_26, L_30, L_31, L_32, L_39, L_40, L_48, L_57, L_76, L_80, L_90, L_91, L_97, L_99, L_100, L_255, L_273, L_1000, L_2000, q_ld, q_ldL, q_sto, q_stoL, q_add, q_sub, q_mul, q_dec, q_rem, q_div, q_lt_t, q_lt_f, q_le_t, q_le_f, q_eq_t, q_eq_f, q_em, q_me, q_ml, q_lm, q_mle, q_lem, q_s1, q_s1o, q_s1k, q_s12, q_s2, q_s2o, q_s2k, q_s21, Nat.add_sub_cancel, q_or, q_and, q_shl, true_or, or_true, false_or, or_false, true_and, and_true, false_and, and_false, not_true_eq_false, not_false_eq_true, ne_eq, hz.p, x1, gC_EachAddsALine_ask_64, gC_EachAddsALine_ask_86]
  · rintro f z ⟨g1, g2⟩
    have hz : CW w z := h.fr g2 (by decide)
    have hx := askS_ok (u := u) (k := k) h.ok (w 5 0)
    try simp only
    generalize askS w u k (w 5 0) = x at hx
    by_cases x0 : x.1 = 100
    · refine ⟨z, ?_, g2.mono (by decide) (by decide), fun _ => g2, fun y => absurd x0 y⟩
      rw [x0, show bI 100 = mI 2 from rfl, gC_EachAddsALine_ask_31]
      simp (disch := omega) only [Option.bind_some, ↓reduceIte, ↓M_1, ↓M_2, L_0, L_1, L_2, L_3, L_4, L_5, L_6, L_7, L_8, L_9, L_10, L_11, L_12, L_13, L_20, L_24, L_26, L_30, L_31, L_32, L_39, L_40, L_48, L_57, L_76, L_80, L_90, L_91, L_97, L_99, L_100, L_255, L_273, L_1000, L_2000, q_ld, q_ldL, q_sto, q_stoL, q_add, q_sub, q_mul, q_dec, q_rem, q_div, q_lt_t, q_lt_f, q_le_t, q_le_f, q_eq_t, q_eq_f, q_em, q_me, q_ml, q_lm, q_mle, q_lem, q_s1, q_s1o, q_s1k, q_s12, q_s2, q_s2o, q_s2k, q_s21, Nat.add_sub_cancel, q_or, q_and, q_shl, true_or, or_true, false_or, or_false, true_and, and_true, false_and, and_false, not_true_eq_false, not_false_eq_true, ne_eq, hz.p, M_2]
    · have hx1 : x.1 < w 5 0 := by omega
      obtain ⟨z0, v1, v2⟩ := C_clear_row (N := N) (q := fun _ => nI x.2) (s := z)
      obtain ⟨z2, w1, w2⟩ := C_add_row (N := N) v2 (x := nI x.2) rfl
      refine ⟨z2, ?_, (g2.mono (by decide) (by decide)).tr (w2.1.mono (by decide) (by decide)), fun y => absurd y x0, fun _ => ⟨w2.2.1, w2.2.2 0 (by decide)⟩⟩
      rw [show bI x.1 = nI x.1 from if_neg x0, if_neg x0, gC_EachAddsALine_ask_31]
      simp (disch := omega) only [Option.bind_some, ↓reduceIte, ↓M_1, ↓M_2, L_0, L_1, L_2, L_3, L_4, L_5, L_6, L_7, L_8, L_9, L_10, L_11, L_12, L_13, L_20, L_24, L_26, L_30, L_31, L_32, L_39, L_40, L_48, L_57, L_76, L_80, L_90, L_91, L_97, L_99, L_100, L_255, L_273, L_1000, L_2000, q_ld, q_ldL, q_sto, q_stoL, q_add, q_sub, q_mul, q_dec, q_rem, q_div, q_lt_t, q_lt_f, q_le_t, q_le_f, q_eq_t, q_eq_f, q_em, q_me, q_ml, q_lm, q_mle, q_lem, q_s1, q_s1o, q_s1k, q_s12, q_s2, q_s2o, q_s2k, q_s21, Nat.add_sub_cancel, q_or, q_and, q_shl, true_or, or_true, false_or, or_false, true_and, and_true, false_and, and_false, not_true_eq_false, not_false_eq_true, ne_eq, hz.p, M_2, v1, w1]
theorem M_ask27 (h : MW w t) (hN : 60 ≤ N) (hu : u < w 5 0) (hk : k < 100) (h34 : t.1 0 34 = nI 1000000) (h35 : t.1 0 35 = gI 100) :
    ∃ z, gM_EachAddsALineModel_ask_27 N N (nI u) (nI k) (mI 2) (nI 1000000) (nI 0) t = some (bI (askS w u k (w 5 0)).1, z) ∧ Fm [7, 11, 12, 13] [] [10, 30, 33, 46] t z ∧ ((askS w u k (w 5 0)).1 = 100 → Fm [11, 12, 13] [] [30, 33, 46] t z) ∧ (¬ (askS w u k (w 5 0)).1 = 100 → z.1 0 10 = nI 1 ∧ z.1 7 0 = nI (askS w u k (w 5 0)).2) := by
  have hb := h.bd
  refine loopU (fun f i z => gM_EachAddsALineModel_ask_27 N f (nI u) (nI k) (bI (askS w u k i).1) (nI (askS w u k i).2) (nI i) z) (w 5 0) (fun i z => i ≤ w 5 0 ∧ Fm [11, 12, 13] [] [30, 33, 46] t z) (fun o => ∃ z, o = some (bI (askS w u k (w 5 0)).1, z) ∧ Fm [7, 11, 12, 13] [] [10, 30, 33, 46] t z ∧ ((askS w u k (w 5 0)).1 = 100 → Fm [11, 12, 13] [] [30, 33, 46] t z) ∧ (¬ (askS w u k (w 5 0)).1 = 100 → z.1 0 10 = nI 1 ∧ z.1 7 0 = nI (askS w u k (w 5 0)).2)) ?_ ?_ (w 5 0) N 0 t (by omega) (by omega) ⟨by omega, Fm.rf⟩
  · rintro f i z hi ⟨g1, g2⟩
    have hz : MW w z := h.fm g2 (by decide) (by decide)
    have hx := askS_ok (u := u) (k := k) h.ok i
    have es : askS w u k (i + 1) = askF w u k i (askS w u k i) := rfl
    try simp only
    rw [es]
    generalize askS w u k i = x at hx
    by_cases c : i = u
    · refine Or.inl ⟨z, ?_, by omega, g2⟩
      rw [show askF w u k i x = x from if_neg (fun y => y.1 c), gM_EachAddsALineModel_ask_27]
      simp (disch := omega) only [Option.bind_some, ↓reduceIte, ↓M_1, ↓M_2, L_0, L_1, L_2, L_3, L_4, L_5, L_6, L_7, L_8, L_9, L_10, L_11, L_12, L_13, L_20, L_24, L_26, L_30, L_31, L_32, L_39, L_40, L_48, L_57, L_76, L_80, L_90, L_91, L_97, L_99, L_100, L_255, L_273, L_1000, L_2000, q_ld, q_ldL, q_sto, q_stoL, q_add, q_sub, q_mul, q_dec, q_rem, q_div, q_lt_t, q_lt_f, q_le_t, q_le_f, q_eq_t, q_eq_f, q_em, q_me, q_ml, q_lm, q_mle, q_lem, q_s1, q_s1o, q_s1k, q_s12, q_s2, q_s2o, q_s2k, q_s21, Nat.add_sub_cancel, q_or, q_and, q_shl, true_or, or_true, false_or, or_false, true_and, and_true, false_and, and_false, not_true_eq_false, not_false_eq_true, ne_eq, hz.p, L_1000000, gM_EachAddsALineModel_ask_55, gM_EachAddsALineModel_ask_74]
    · obtain ⟨z', x1, x2, x3⟩ := M_answerBy (N := N) hz hN hu hi hk ((g2.2.2 34 (by decide)).trans h34) ((g2.2.2 35 (by decide)).trans h35)
      refine Or.inl ⟨z', ?_, by omega, g2.tr x2⟩
      have hd := ans_bd (u := u) (v := i) (k := k) h.ok
      by_cases e : ans w u i k < x.2
      · rw [show askF w u k i x = (i, ans w u i k) from if_pos ⟨c, e⟩, gM_EachAddsALineModel_ask_27]
        show _ = gM_EachAddsALineModel_ask_27 N f (nI u) (nI k) (bI i) (nI (ans w u i k)) (nI (i + 1)) z'
        rw [show bI i = nI i from if_neg (by omega)]
        simp (disch := omega) only [Option.bind_some, ↓reduceIte, ↓M_1, ↓M_2, L_0, L_1, L_2, L_3, L_4, L_5, L_6, L_7, L_8, L_9, L_10, L_11, L_12, L_13, L_20, L_24, L_26, L_30, L_31, L_32, L_39, L_40, L_48, L_57, L_76, L_80, L_90, L_91, L_97, L_99, L_100, L_255, L_273, L_1000, L_2000, q_ld, q_ldL, q_sto, q_stoL, q_add, q_sub, q_mul, q_dec, q_rem, q_div, q_lt_t, q_lt_f, q_le_t, q_le_f, q_eq_t, q_eq_f, q_em, q_me, q_ml, q_lm, q_mle, q_lem, q_s1, q_s1o, q_s1k, q_s12, q_s2, q_s2o, q_s2k, q_s21, Nat.add_sub_cancel, q_or, q_and, q_shl, true_or, or_true, false_or, or_false, true_and, and_true, false_and, and_false, not_true_eq_false, not_false_eq_true, ne_eq, hz.p, x1, gM_EachAddsALineModel_ask_55, gM_EachAddsALineModel_ask_74]
      · rw [show askF w u k i x = x from if_neg (fun y => e y.2), gM_EachAddsALineModel_ask_27]
        simp (disch := omega) only [Option.bind_some, ↓reduceIte, ↓M_1, ↓M_2, L_0, L_1, L_2, L_3, L_4, L_5, L_6, L_7, L_8, L_9, L_10, L_11, L_12, L_13, L_20, L_24, L_26, L_30, L_31, L_32, L_39, L_40, L_48, L_57, L_76, L_80, L_90, L_91, L_97, L_99, L_100, L_255, L_273, L_1000, L_2000, q_ld, q_ldL, q_sto, q_stoL, q_add, q_sub, q_mul, q_dec, q_rem, q_div, q_lt_t, q_lt_f, q_le_t, q_le_f, q_eq_t, q_eq_f, q_em, q_me, q_ml, q_lm, q_mle, q_lem, q_s1, q_s1o, q_s1k, q_s12, q_s2, q_s2o, q_s2k, q_s21, Nat.add_sub_cancel, q_or, q_and, q_shl, true_or, or_true, false_or, or_false, true_and, and_true, false_and, and_false, not_true_eq_false, not_false_eq_true, ne_eq, hz.p, x1, gM_EachAddsALineModel_ask_55, gM_EachAddsALineModel_ask_74]
  · rintro f z ⟨g1, g2⟩
    have hz : MW w z := h.fm g2 (by decide) (by decide)
    have hx := askS_ok (u := u) (k := k) h.ok (w 5 0)
    try simp only
    generalize askS w u k (w 5 0) = x at hx
    by_cases x0 : x.1 = 100
    · refine ⟨z, ?_, g2.mono (by decide) (by decide) (by decide), fun _ => g2, fun y => absurd x0 y⟩
      rw [x0, show bI 100 = mI 2 from rfl, gM_EachAddsALineModel_ask_27]
      simp (disch := omega) only [Option.bind_some, ↓reduceIte, ↓M_1, ↓M_2, L_0, L_1, L_2, L_3, L_4, L_5, L_6, L_7, L_8, L_9, L_10, L_11, L_12, L_13, L_20, L_24, L_26, L_30, L_31, L_32, L_39, L_40, L_48, L_57, L_76, L_80, L_90, L_91, L_97, L_99, L_100, L_255, L_273, L_1000, L_2000, q_ld, q_ldL, q_sto, q_stoL, q_add, q_sub, q_mul, q_dec, q_rem, q_div, q_lt_t, q_lt_f, q_le_t, q_le_f, q_eq_t, q_eq_f, q_em, q_me, q_ml, q_lm, q_mle, q_lem, q_s1, q_s1o, q_s1k, q_s12, q_s2, q_s2o, q_s2k, q_s21, Nat.add_sub_cancel, q_or, q_and, q_shl, true_or, or_true, false_or, or_false, true_and, and_true, false_and, and_false, not_true_eq_false, not_false_eq_true, ne_eq, hz.p, M_2]
    · have hx1 : x.1 < w 5 0 := by omega
      obtain ⟨z2, w1, w2⟩ := M_tell (N := N) (q := fun _ => nI x.2) (Rm.nil (t := z)) (by decide) (x := nI x.2) rfl
      have f2 : Fm [7, 11, 12, 13] [] [10, 30, 33, 46] t z2 := (g2.mono (by decide) (by decide) (by decide)).tr (w2.1.mono (by decide) (by decide) (by decide))
      refine ⟨z2, ?_, f2, fun y => absurd y x0, fun _ => ⟨w2.2.1, w2.2.2 0 (by decide)⟩⟩
      rw [show bI x.1 = nI x.1 from if_neg x0, gM_EachAddsALineModel_ask_27]
      simp (disch := omega) only [Option.bind_some, ↓reduceIte, ↓M_1, ↓M_2, L_0, L_1, L_2, L_3, L_4, L_5, L_6, L_7, L_8, L_9, L_10, L_11, L_12, L_13, L_20, L_24, L_26, L_30, L_31, L_32, L_39, L_40, L_48, L_57, L_76, L_80, L_90, L_91, L_97, L_99, L_100, L_255, L_273, L_1000, L_2000, q_ld, q_ldL, q_sto, q_stoL, q_add, q_sub, q_mul, q_dec, q_rem, q_div, q_lt_t, q_lt_f, q_le_t, q_le_f, q_eq_t, q_eq_f, q_em, q_me, q_ml, q_lm, q_mle, q_lem, q_s1, q_s1o, q_s1k, q_s12, q_s2, q_s2o, q_s2k, q_s21, Nat.add_sub_cancel, q_or, q_and, q_shl, true_or, or_true, false_or, or_false, true_and, and_true, false_and, and_false, not_true_eq_false, not_false_eq_true, ne_eq, hz.p, w1]
theorem k_ask (hU : okU U) (hN : 200 ≤ N) : keeps2 N (RR U) fC_EachAddsALine_ask fM_EachAddsALineModel_ask := fun s t hr a c => by
  obtain ⟨w, h1, h2, _⟩ := id hr
  have h2' := M_rd0 h2 (nI 0)
  have hmc := hr.mc.r
  have hb := h1.bd
  by_cases q : isP (w 5 0) a
  · obtain ⟨u, hu, rfl⟩ := q
    by_cases q2 : isP 100 c
    · obtain ⟨k, hk, rfl⟩ := q2
      have em := M_isTrip_t (N := N) h2' hu hu hk
      obtain ⟨z, x1, x2, x3, x4⟩ := C_ask31 (N := N) h1 (by omega) hu hk
      obtain ⟨y, y1, y2, y3, y4⟩ := M_ask27 (N := N) h2' (by omega) hu hk (by simp (disch := omega) only [Option.bind_some, ↓reduceIte, ↓M_1, ↓M_2, L_0, L_1, L_2, L_3, L_4, L_5, L_6, L_7, L_8, L_9, L_10, L_11, L_12, L_13, L_20, L_24, L_26, L_30, L_31, L_32, L_39, L_40, L_48, L_57, L_76, L_80, L_90, L_91, L_97, L_99, L_100, L_255, L_273, L_1000, L_2000, q_ld, q_ldL, q_sto, q_stoL, q_add, q_sub, q_mul, q_dec, q_rem, q_div, q_lt_t, q_lt_f, q_le_t, q_le_f, q_eq_t, q_eq_f, q_em, q_me, q_ml, q_lm, q_mle, q_lem, q_s1, q_s1o, q_s1k, q_s12, q_s2, q_s2o, q_s2k, q_s21, Nat.add_sub_cancel, q_or, q_and, q_shl, true_or, or_true, false_or, or_false, true_and, and_true, false_and, and_false, not_true_eq_false, not_false_eq_true, ne_eq]; exact hmc.1) (by simp (disch := omega) only [Option.bind_some, ↓reduceIte, ↓M_1, ↓M_2, L_0, L_1, L_2, L_3, L_4, L_5, L_6, L_7, L_8, L_9, L_10, L_11, L_12, L_13, L_20, L_24, L_26, L_30, L_31, L_32, L_39, L_40, L_48, L_57, L_76, L_80, L_90, L_91, L_97, L_99, L_100, L_255, L_273, L_1000, L_2000, q_ld, q_ldL, q_sto, q_stoL, q_add, q_sub, q_mul, q_dec, q_rem, q_div, q_lt_t, q_lt_f, q_le_t, q_le_f, q_eq_t, q_eq_f, q_em, q_me, q_ml, q_lm, q_mle, q_lem, q_s1, q_s1o, q_s1k, q_s12, q_s2, q_s2o, q_s2k, q_s21, Nat.add_sub_cancel, q_or, q_and, q_shl, true_or, or_true, false_or, or_false, true_and, and_true, false_and, and_false, not_true_eq_false, not_false_eq_true, ne_eq]; exact hmc.2.1)
      have ea1 : fC_EachAddsALine_ask N (nI u) (nI k) s = some (bI (askS w u k (w 5 0)).1, z) := by simp (disch := omega) only [Option.bind_some, ↓reduceIte, ↓M_1, ↓M_2, L_0, L_1, L_2, L_3, L_4, L_5, L_6, L_7, L_8, L_9, L_10, L_11, L_12, L_13, L_20, L_24, L_26, L_30, L_31, L_32, L_39, L_40, L_48, L_57, L_76, L_80, L_90, L_91, L_97, L_99, L_100, L_255, L_273, L_1000, L_2000, q_ld, q_ldL, q_sto, q_stoL, q_add, q_sub, q_mul, q_dec, q_rem, q_div, q_lt_t, q_lt_f, q_le_t, q_le_f, q_eq_t, q_eq_f, q_em, q_me, q_ml, q_lm, q_mle, q_lem, q_s1, q_s1o, q_s1k, q_s12, q_s2, q_s2o, q_s2k, q_s21, Nat.add_sub_cancel, q_or, q_and, q_shl, true_or, or_true, false_or, or_false, true_and, and_true, false_and, and_false, not_true_eq_false, not_false_eq_true, ne_eq, fC_EachAddsALine_ask, gC_EachAddsALine_ask_0, C_hasPerson_t h1 hu, C_isHour_t hk, M_2, L_1048576, x1]
      have ea2 : fM_EachAddsALineModel_ask N (nI u) (nI k) t = some (bI (askS w u k (w 5 0)).1, y) := by simp (disch := omega) only [Option.bind_some, ↓reduceIte, ↓M_1, ↓M_2, L_0, L_1, L_2, L_3, L_4, L_5, L_6, L_7, L_8, L_9, L_10, L_11, L_12, L_13, L_20, L_24, L_26, L_30, L_31, L_32, L_39, L_40, L_48, L_57, L_76, L_80, L_90, L_91, L_97, L_99, L_100, L_255, L_273, L_1000, L_2000, q_ld, q_ldL, q_sto, q_stoL, q_add, q_sub, q_mul, q_dec, q_rem, q_div, q_lt_t, q_lt_f, q_le_t, q_le_f, q_eq_t, q_eq_f, q_em, q_me, q_ml, q_lm, q_mle, q_lem, q_s1, q_s1o, q_s1k, q_s12, q_s2, q_s2o, q_s2k, q_s21, Nat.add_sub_cancel, q_or, q_and, q_shl, true_or, or_true, false_or, or_false, true_and, and_true, false_and, and_false, not_true_eq_false, not_false_eq_true, ne_eq, fM_EachAddsALineModel_ask, gM_EachAddsALineModel_ask_0, em, M_2, L_1000000, y1]
      refine ⟨_, z, y, ea1, ea2, ?_⟩
      by_cases x0 : (askS w u k (w 5 0)).1 = 100
      · exact hr.fr hU (x3 x0) ((Fm.w10 (by decide)).tr ((y3 x0).mono (by decide) (by decide) (by decide)) : Fm [11, 12, 13] [] [11, 30, 33, 46] t y) (by decide) (by decide) (by decide)
      · have hro : RO z y := ⟨1, by decide, (x4 x0).1, (y4 x0).1, fun j hj => by
          obtain rfl : j = 0 := by omega
          rw [(x4 x0).2, (y4 x0).2]⟩
        exact hr.ro hU hro x2 ((Fm.w10 (by decide)).tr (y2.mono (by decide) (by decide) (by decide)) : Fm [7, 11, 12, 13] [] [10, 11, 30, 33, 46] t y) (by decide) (by decide) (by decide)
    · have em := M_isTrip_f (N := N) (s := s1 t 0 11 (nI 0)) (a := nI u) (b := nI u) (c := c) h2' (fun y => q2 y.2.2)
      exact ⟨mI 1, s, _, by simp (disch := omega) only [Option.bind_some, ↓reduceIte, ↓M_1, ↓M_2, L_0, L_1, L_2, L_3, L_4, L_5, L_6, L_7, L_8, L_9, L_10, L_11, L_12, L_13, L_20, L_24, L_26, L_30, L_31, L_32, L_39, L_40, L_48, L_57, L_76, L_80, L_90, L_91, L_97, L_99, L_100, L_255, L_273, L_1000, L_2000, q_ld, q_ldL, q_sto, q_stoL, q_add, q_sub, q_mul, q_dec, q_rem, q_div, q_lt_t, q_lt_f, q_le_t, q_le_f, q_eq_t, q_eq_f, q_em, q_me, q_ml, q_lm, q_mle, q_lem, q_s1, q_s1o, q_s1k, q_s12, q_s2, q_s2o, q_s2k, q_s21, Nat.add_sub_cancel, q_or, q_and, q_shl, true_or, or_true, false_or, or_false, true_and, and_true, false_and, and_false, not_true_eq_false, not_false_eq_true, ne_eq, fC_EachAddsALine_ask, gC_EachAddsALine_ask_0, C_hasPerson_t h1 hu, C_isHour_f q2], by simp (disch := omega) only [Option.bind_some, ↓reduceIte, ↓M_1, ↓M_2, L_0, L_1, L_2, L_3, L_4, L_5, L_6, L_7, L_8, L_9, L_10, L_11, L_12, L_13, L_20, L_24, L_26, L_30, L_31, L_32, L_39, L_40, L_48, L_57, L_76, L_80, L_90, L_91, L_97, L_99, L_100, L_255, L_273, L_1000, L_2000, q_ld, q_ldL, q_sto, q_stoL, q_add, q_sub, q_mul, q_dec, q_rem, q_div, q_lt_t, q_lt_f, q_le_t, q_le_f, q_eq_t, q_eq_f, q_em, q_me, q_ml, q_lm, q_mle, q_lem, q_s1, q_s1o, q_s1k, q_s12, q_s2, q_s2o, q_s2k, q_s21, Nat.add_sub_cancel, q_or, q_and, q_shl, true_or, or_true, false_or, or_false, true_and, and_true, false_and, and_false, not_true_eq_false, not_false_eq_true, ne_eq, fM_EachAddsALineModel_ask, gM_EachAddsALineModel_ask_0, em], hr.k0 hU⟩
  · have em := M_isTrip_f (N := N) (s := s1 t 0 11 (nI 0)) (a := a) (b := a) (c := c) h2' (fun y => q y.1)
    exact ⟨mI 1, s, _, by simp (disch := omega) only [Option.bind_some, ↓reduceIte, ↓M_1, ↓M_2, L_0, L_1, L_2, L_3, L_4, L_5, L_6, L_7, L_8, L_9, L_10, L_11, L_12, L_13, L_20, L_24, L_26, L_30, L_31, L_32, L_39, L_40, L_48, L_57, L_76, L_80, L_90, L_91, L_97, L_99, L_100, L_255, L_273, L_1000, L_2000, q_ld, q_ldL, q_sto, q_stoL, q_add, q_sub, q_mul, q_dec, q_rem, q_div, q_lt_t, q_lt_f, q_le_t, q_le_f, q_eq_t, q_eq_f, q_em, q_me, q_ml, q_lm, q_mle, q_lem, q_s1, q_s1o, q_s1k, q_s12, q_s2, q_s2o, q_s2k, q_s21, Nat.add_sub_cancel, q_or, q_and, q_shl, true_or, or_true, false_or, or_false, true_and, and_true, false_and, and_false, not_true_eq_false, not_false_eq_true, ne_eq, fC_EachAddsALine_ask, gC_EachAddsALine_ask_0, C_hasPerson_f h1 q], by simp (disch := omega) only [Option.bind_some, ↓reduceIte, ↓M_1, ↓M_2, L_0, L_1, L_2, L_3, L_4, L_5, L_6, L_7, L_8, L_9, L_10, L_11, L_12, L_13, L_20, L_24, L_26, L_30, L_31, L_32, L_39, L_40, L_48, L_57, L_76, L_80, L_90, L_91, L_97, L_99, L_100, L_255, L_273, L_1000, L_2000, q_ld, q_ldL, q_sto, q_stoL, q_add, q_sub, q_mul, q_dec, q_rem, q_div, q_lt_t, q_lt_f, q_le_t, q_le_f, q_eq_t, q_eq_f, q_em, q_me, q_ml, q_lm, q_mle, q_lem, q_s1, q_s1o, q_s1k, q_s12, q_s2, q_s2o, q_s2k, q_s21, Nat.add_sub_cancel, q_or, q_and, q_shl, true_or, or_true, false_or, or_false, true_and, and_true, false_and, and_false, not_true_eq_false, not_false_eq_true, ne_eq, fM_EachAddsALineModel_ask, gM_EachAddsALineModel_ask_0, em], hr.k0 hU⟩
/-- the meeting without which it comes the latest, and when, one above -/
def woF (w : Nat → Nat → Nat) (u v k m : Nat) (x : Nat × Nat) : Nat × Nat := if x.2 < arr w 0 m u k v + 1 then (m, arr w 0 m u k v + 1) else x
def woS (w : Nat → Nat → Nat) (u v k n : Nat) : Nat × Nat := fz (woF w u v k) (100, 0) n
theorem woS_ok (h : okW w) (n : Nat) : (woS w u v k n).2 ≤ 1000001 ∧ ((woS w u v k n).1 = 100 ∧ (woS w u v k n).2 = 0 ∧ n = 0 ∨ (woS w u v k n).1 < n ∧ 0 < (woS w u v k n).2 ∧ ((woS w u v k n).2 ≤ 100 ∨ (woS w u v k n).2 = 1000001)) := by
  refine fz_ind (f := woF w u v k) (z := (100, 0)) (n := n) (fun i a => a.2 ≤ 1000001 ∧ (a.1 = 100 ∧ a.2 = 0 ∧ i = 0 ∨ a.1 < i ∧ 0 < a.2 ∧ (a.2 ≤ 100 ∨ a.2 = 1000001))) ⟨by decide, Or.inl ⟨rfl, rfl, rfl⟩⟩ (fun i a hi ha => ?_) n (Nat.le_refl _)
  have hb := arr_bd (br := 0) (go := i) (u := u) (k := k) (v := v) h
  unfold woF
  split
  · refine ⟨?_, Or.inr ⟨?_, ?_, ?_⟩⟩
    · show arr w 0 i u k v + 1 ≤ 1000001; omega
    · show i < i + 1; omega
    · show 0 < arr w 0 i u k v + 1; omega
    · show arr w 0 i u k v + 1 ≤ 100 ∨ arr w 0 i u k v + 1 = 1000001; omega
  · rename_i c
    refine ⟨ha.1, Or.inr ?_⟩
    rcases ha.2 with z | z
    · omega
    · exact ⟨by omega, z.2⟩
def lcI (y : Nat) : Int32 := if y = 0 then mI 1 else if y = 1000001 then nI 1048576 else nI (y - 1)
def lmI (y : Nat) : Int32 := if y = 0 then mI 1 else nI (y - 1)
theorem lmI_s (y : Nat) : lmI (y + 1) = nI y := if_neg (Nat.succ_ne_zero y)
theorem lcI_s (y : Nat) : lcI (y + 1) = if y = 1000000 then nI 1048576 else nI y := by
  unfold lcI
  rw [if_neg (Nat.succ_ne_zero y), Nat.add_sub_cancel]
  by_cases c : y = 1000000
  · rw [if_pos c, if_pos (show y + 1 = 1000001 by omega)]
  · rw [if_neg c, if_neg (show ¬ y + 1 = 1000001 by omega)]
theorem C_worst31 (h : CW w s) (hN : 60 ≤ N) (hu : u < w 5 0) (hv : v < w 5 0) (hk : k < 100) (hM : 0 < w 5 1) :
    ∃ z, gC_Paths_worstLoss_31 N N (nI u) (nI v) (nI k) (mI 2) (mI 1) (nI 0) s = some (nI (woS w u v k (w 5 1)).1, z) ∧ Fr [3, 4, 42] [] s z ∧ z.1 3 1 = nI 1 ∧ z.1 4 0 = ea ((woS w u v k (w 5 1)).2 - 1) := by
  have hb := h.bd
  refine loopU (fun f i z => gC_Paths_worstLoss_31 N f (nI u) (nI v) (nI k) (bI (woS w u v k i).1) (lcI (woS w u v k i).2) (nI i) z) (w 5 1) (fun i z => i ≤ w 5 1 ∧ Fr [42] [] s z) (fun o => ∃ z, o = some (nI (woS w u v k (w 5 1)).1, z) ∧ Fr [3, 4, 42] [] s z ∧ z.1 3 1 = nI 1 ∧ z.1 4 0 = ea ((woS w u v k (w 5 1)).2 - 1)) ?_ ?_ (w 5 1) N 0 s (by omega) (by omega) ⟨by omega, Fr.rf⟩
  · rintro f i z hi ⟨g1, g2⟩
    have hz : CW w z := h.fr g2 (by decide)
    have hx := woS_ok (u := u) (v := v) (k := k) h.ok i
    have es : woS w u v k (i + 1) = woF w u v k i (woS w u v k i) := rfl
    have hbd := arr_bd (br := 0) (go := i) (u := u) (k := k) (v := v) h.ok
    obtain ⟨z', x1, x2, x3⟩ := C_spread0 (N := N) (go := i) (br := 0) hz hN hu (show k < 1000 by omega) shuts0 (Or.inl (by omega))
    rw [gI_nI (g := i) (by omega)] at x1
    have e1 := x3 v hv
    refine Or.inl ⟨z', ?_, by omega, g2.tr x2⟩
    try simp only
    rw [es]
    generalize woS w u v k i = x at hx
    have ecl : (if arr w 0 i u k v = 1000000 then nI 1048576 else nI (arr w 0 i u k v)) = lcI (arr w 0 i u k v + 1) := (lcI_s _).symm
    have elt : (lcI (arr w 0 i u k v + 1) ≤ lcI x.2) = ¬ (x.2 < arr w 0 i u k v + 1) := by
      rw [← ecl]
      unfold lcI
      refine propext ?_
      by_cases c : arr w 0 i u k v = 1000000
      · rw [if_pos c]
        by_cases c0 : x.2 = 0
        · rw [if_pos c0]
          exact ⟨fun y => absurd y (by decide), fun y => by omega⟩
        · rw [if_neg c0]
          by_cases c1 : x.2 = 1000001
          · rw [if_pos c1]
            exact ⟨fun y => by omega, fun y => Int32.le_refl _⟩
          · rw [if_neg c1]
            rw [nI_leI (by decide) (by omega)]
            omega
      · rw [if_neg c]
        by_cases c0 : x.2 = 0
        · rw [if_pos c0, (q_lem (a := arr w 0 i u k v) (b := 1) (by omega) (by decide) (by omega))]
          exact ⟨False.elim, fun y => by omega⟩
        · rw [if_neg c0]
          by_cases c1 : x.2 = 1000001
          · rw [if_pos c1, nI_leI (by omega) (by decide)]
            omega
          · rw [if_neg c1, nI_leI (by omega) (by omega)]
            omega
    have estep : gC_Paths_worstLoss_31 N (f + 1) (nI u) (nI v) (nI k) (bI x.1) (lcI x.2) (nI i) z = gC_Paths_worstLoss_73 N (gC_Paths_worstLoss_31 N f) (nI u) (nI v) (nI k) (bI x.1) (lcI x.2) (nI i) (lcI (arr w 0 i u k v + 1)) z' := by
      rw [← ecl, gC_Paths_worstLoss_31]
      rcases hbd with d | d
      · rw [ea_lt d] at e1
        rw [if_neg (show ¬ arr w 0 i u k v = 1000000 by omega)]
        simp (disch := omega) only [Option.bind_some, ↓reduceIte, ↓M_1, ↓M_2, L_0, L_1, L_2, L_3, L_4, L_5, L_6, L_7, L_8, L_9, L_10, L_11, L_12, L_13, L_20, L_24, L_26, L_30, L_31, L_32, L_39, L_40, L_48, L_57, L_76, L_80, L_90, L_91, L_97, L_99, L_100, L_255, L_273, L_1000, L_2000, q_ld, q_ldL, q_sto, q_stoL, q_add, q_sub, q_mul, q_dec, q_rem, q_div, q_lt_t, q_lt_f, q_le_t, q_le_f, q_eq_t, q_eq_f, q_em, q_me, q_ml, q_lm, q_mle, q_lem, q_s1, q_s1o, q_s1k, q_s12, q_s2, q_s2o, q_s2k, q_s21, Nat.add_sub_cancel, q_or, q_and, q_shl, true_or, or_true, false_or, or_false, true_and, and_true, false_and, and_false, not_true_eq_false, not_false_eq_true, ne_eq, hz.m, x1, e1]
      · rw [if_pos d]
        rw [d, ea_far] at e1
        simp (disch := omega) only [Option.bind_some, ↓reduceIte, ↓M_1, ↓M_2, L_0, L_1, L_2, L_3, L_4, L_5, L_6, L_7, L_8, L_9, L_10, L_11, L_12, L_13, L_20, L_24, L_26, L_30, L_31, L_32, L_39, L_40, L_48, L_57, L_76, L_80, L_90, L_91, L_97, L_99, L_100, L_255, L_273, L_1000, L_2000, q_ld, q_ldL, q_sto, q_stoL, q_add, q_sub, q_mul, q_dec, q_rem, q_div, q_lt_t, q_lt_f, q_le_t, q_le_f, q_eq_t, q_eq_f, q_em, q_me, q_ml, q_lm, q_mle, q_lem, q_s1, q_s1o, q_s1k, q_s12, q_s2, q_s2o, q_s2k, q_s21, Nat.add_sub_cancel, q_or, q_and, q_shl, true_or, or_true, false_or, or_false, true_and, and_true, false_and, and_false, not_true_eq_false, not_false_eq_true, ne_eq, hz.m, x1, e1, L_1048576]
    rw [estep, gC_Paths_worstLoss_73]
    by_cases c : x.2 < arr w 0 i u k v + 1
    · rw [show woF w u v k i x = (i, arr w 0 i u k v + 1) from if_pos c, if_neg (by rw [elt]; exact fun y => y c), gC_Paths_worstLoss_90]
      show _ = gC_Paths_worstLoss_31 N f (nI u) (nI v) (nI k) (bI i) (lcI (arr w 0 i u k v + 1)) (nI (i + 1)) z'
      rw [show bI i = nI i from if_neg (by omega)]
      simp (disch := omega) only [Option.bind_some, ↓reduceIte, ↓M_1, ↓M_2, L_0, L_1, L_2, L_3, L_4, L_5, L_6, L_7, L_8, L_9, L_10, L_11, L_12, L_13, L_20, L_24, L_26, L_30, L_31, L_32, L_39, L_40, L_48, L_57, L_76, L_80, L_90, L_91, L_97, L_99, L_100, L_255, L_273, L_1000, L_2000, q_ld, q_ldL, q_sto, q_stoL, q_add, q_sub, q_mul, q_dec, q_rem, q_div, q_lt_t, q_lt_f, q_le_t, q_le_f, q_eq_t, q_eq_f, q_em, q_me, q_ml, q_lm, q_mle, q_lem, q_s1, q_s1o, q_s1k, q_s12, q_s2, q_s2o, q_s2k, q_s21, Nat.add_sub_cancel, q_or, q_and, q_shl, true_or, or_true, false_or, or_false, true_and, and_true, false_and, and_false, not_true_eq_false, not_false_eq_true, ne_eq]
    · rw [show woF w u v k i x = x from if_neg c, if_pos (by rw [elt]; exact c), gC_Paths_worstLoss_90]
      simp (disch := omega) only [Option.bind_some, ↓reduceIte, ↓M_1, ↓M_2, L_0, L_1, L_2, L_3, L_4, L_5, L_6, L_7, L_8, L_9, L_10, L_11, L_12, L_13, L_20, L_24, L_26, L_30, L_31, L_32, L_39, L_40, L_48, L_57, L_76, L_80, L_90, L_91, L_97, L_99, L_100, L_255, L_273, L_1000, L_2000, q_ld, q_ldL, q_sto, q_stoL, q_add, q_sub, q_mul, q_dec, q_rem, q_div, q_lt_t, q_lt_f, q_le_t, q_le_f, q_eq_t, q_eq_f, q_em, q_me, q_ml, q_lm, q_mle, q_lem, q_s1, q_s1o, q_s1k, q_s12, q_s2, q_s2o, q_s2k, q_s21, Nat.add_sub_cancel, q_or, q_and, q_shl, true_or, or_true, false_or, or_false, true_and, and_true, false_and, and_false, not_true_eq_false, not_false_eq_true, ne_eq]
  · rintro f z ⟨g1, g2⟩
    have hz : CW w z := h.fr g2 (by decide)
    have hx := (woS_ok (u := u) (v := v) (k := k) h.ok (w 5 1)).2.resolve_left (fun y => by omega)
    try simp only
    generalize woS w u v k (w 5 1) = x at hx
    obtain ⟨z0, v1, v2⟩ := C_clear_row (N := N) (q := fun _ => ea (x.2 - 1)) (s := z)
    obtain ⟨z2, w1, w2⟩ := C_add_row (N := N) v2 (x := ea (x.2 - 1)) rfl
    refine ⟨z2, ?_, (g2.mono (by decide) (by decide)).tr (w2.1.mono (by decide) (by decide)), w2.2.1, w2.2.2 0 (by decide)⟩
    rw [show bI x.1 = nI x.1 from if_neg (by omega), gC_Paths_worstLoss_31]
    obtain ⟨e, he⟩ : ∃ e, x.2 = e + 1 := ⟨x.2 - 1, by omega⟩
    rw [he, lcI_s]
    rw [he, Nat.add_sub_cancel] at w1
    by_cases c1 : e = 1000000
    · rw [c1, ea_far] at w1
      rw [if_pos c1]
      simp (disch := omega) only [Option.bind_some, ↓reduceIte, ↓M_1, ↓M_2, L_0, L_1, L_2, L_3, L_4, L_5, L_6, L_7, L_8, L_9, L_10, L_11, L_12, L_13, L_20, L_24, L_26, L_30, L_31, L_32, L_39, L_40, L_48, L_57, L_76, L_80, L_90, L_91, L_97, L_99, L_100, L_255, L_273, L_1000, L_2000, q_ld, q_ldL, q_sto, q_stoL, q_add, q_sub, q_mul, q_dec, q_rem, q_div, q_lt_t, q_lt_f, q_le_t, q_le_f, q_eq_t, q_eq_f, q_em, q_me, q_ml, q_lm, q_mle, q_lem, q_s1, q_s1o, q_s1k, q_s12, q_s2, q_s2o, q_s2k, q_s21, Nat.add_sub_cancel, q_or, q_and, q_shl, true_or, or_true, false_or, or_false, true_and, and_true, false_and, and_false, not_true_eq_false, not_false_eq_true, ne_eq, hz.m, v1, w1, L_1048576]
    · rw [show ea e = nI e from if_pos (by omega)] at w1
      rw [if_neg c1]
      simp (disch := omega) only [Option.bind_some, ↓reduceIte, ↓M_1, ↓M_2, L_0, L_1, L_2, L_3, L_4, L_5, L_6, L_7, L_8, L_9, L_10, L_11, L_12, L_13, L_20, L_24, L_26, L_30, L_31, L_32, L_39, L_40, L_48, L_57, L_76, L_80, L_90, L_91, L_97, L_99, L_100, L_255, L_273, L_1000, L_2000, q_ld, q_ldL, q_sto, q_stoL, q_add, q_sub, q_mul, q_dec, q_rem, q_div, q_lt_t, q_lt_f, q_le_t, q_le_f, q_eq_t, q_eq_f, q_em, q_me, q_ml, q_lm, q_mle, q_lem, q_s1, q_s1o, q_s1k, q_s12, q_s2, q_s2o, q_s2k, q_s21, Nat.add_sub_cancel, q_or, q_and, q_shl, true_or, or_true, false_or, or_false, true_and, and_true, false_and, and_false, not_true_eq_false, not_false_eq_true, ne_eq, hz.m, v1, w1, L_1048576]
theorem M_worst46 (h : MW w t) (hN : 60 ≤ N) (hu : u < w 5 0) (hv : v < w 5 0) (hk : k < 100) (hM : 0 < w 5 1) (h33 : t.1 0 33 = nI 0) (h34 : t.1 0 34 = nI 1000000) :
    ∃ z, gM_EachAddsALineModel_worst_46 N N (nI u) (nI v) (nI k) (mI 1) (mI 1) (nI 0) t = some (nI (woS w u v k (w 5 1)).1, z) ∧ Fm [7, 11, 12, 13] [] [10, 30, 35] t z ∧ z.1 0 35 = mI 1 ∧ z.1 0 10 = nI 1 ∧ z.1 7 0 = ea ((woS w u v k (w 5 1)).2 - 1) := by
  have hb := h.bd
  refine loopU (fun f i z => gM_EachAddsALineModel_worst_46 N f (nI u) (nI v) (nI k) (gI (woS w u v k i).1) (lmI (woS w u v k i).2) (nI i) z) (w 5 1) (fun i z => i ≤ w 5 1 ∧ Fm [11, 12, 13] [] [30, 35] t z) (fun o => ∃ z, o = some (nI (woS w u v k (w 5 1)).1, z) ∧ Fm [7, 11, 12, 13] [] [10, 30, 35] t z ∧ z.1 0 35 = mI 1 ∧ z.1 0 10 = nI 1 ∧ z.1 7 0 = ea ((woS w u v k (w 5 1)).2 - 1)) ?_ ?_ (w 5 1) N 0 t (by omega) (by omega) ⟨by omega, Fm.rf⟩
  · rintro f i z hi ⟨g1, g2⟩
    have f3 : Fm [11, 12, 13] [] [30, 35] t (s1 z 0 35 (nI i)) := g2.tr (Fm.w10 (by decide))
    have hz : MW w z := h.fm g2 (by decide) (by decide)
    have hz3 : MW w (s1 z 0 35 (nI i)) := h.fm f3 (by decide) (by decide)
    have hx := woS_ok (u := u) (v := v) (k := k) h.ok i
    have es : woS w u v k (i + 1) = woF w u v k i (woS w u v k i) := rfl
    have hbd := arr_bd (br := 0) (go := i) (u := u) (k := k) (v := v) h.ok
    obtain ⟨z', x1, x2⟩ := M_soonest0 (N := N) (br := 0) (go := i) (k := k) hz3 hN hu hv (by omega) (by decide) ((f3.2.2 33 (by decide)).trans h33) ((f3.2.2 34 (by decide)).trans h34) (by rw [q_s1, gI_nI (g := i) (by omega)])
    refine Or.inl ⟨z', ?_, by omega, f3.tr (x2.mono (by decide) (by decide) (by decide))⟩
    try simp only
    rw [es]
    generalize woS w u v k i = x at hx
    have elt : (lmI x.2 < nI (arr w 0 i u k v)) = (x.2 < arr w 0 i u k v + 1) := by
      unfold lmI
      refine propext ?_
      by_cases c0 : x.2 = 0
      · rw [if_pos c0, (q_ml (a := arr w 0 i u k v) (b := 1) (by omega) (by decide) (by omega))]
        exact ⟨fun _ => by omega, fun _ => trivial⟩
      · rw [if_neg c0, nI_ltI (by omega) (by omega)]
        omega
    rw [gM_EachAddsALineModel_worst_46]
    by_cases c : x.2 < arr w 0 i u k v + 1
    · rw [show woF w u v k i x = (i, arr w 0 i u k v + 1) from if_pos c]
      show _ = gM_EachAddsALineModel_worst_46 N f (nI u) (nI v) (nI k) (gI i) (lmI (arr w 0 i u k v + 1)) (nI (i + 1)) z'
      rw [gI_nI (g := i) (by omega), show lmI (arr w 0 i u k v + 1) = nI (arr w 0 i u k v) from if_neg (by omega)]
      simp (disch := omega) only [Option.bind_some, ↓reduceIte, ↓M_1, ↓M_2, L_0, L_1, L_2, L_3, L_4, L_5, L_6, L_7, L_8, L_9, L_10, L_11, L_12, L_13, L_20, L_24, L_26, L_30, L_31, L_32, L_39, L_40, L_48, L_57, L_76, L_80, L_90, L_91, L_97, L_99, L_100, L_255, L_273, L_1000, L_2000, q_ld, q_ldL, q_sto, q_stoL, q_add, q_sub, q_mul, q_dec, q_rem, q_div, q_lt_t, q_lt_f, q_le_t, q_le_f, q_eq_t, q_eq_f, q_em, q_me, q_ml, q_lm, q_mle, q_lem, q_s1, q_s1o, q_s1k, q_s12, q_s2, q_s2o, q_s2k, q_s21, Nat.add_sub_cancel, q_or, q_and, q_shl, true_or, or_true, false_or, or_false, true_and, and_true, false_and, and_false, not_true_eq_false, not_false_eq_true, ne_eq, hz.m, x1, elt, eq_true c, gM_EachAddsALineModel_worst_88]
    · rw [show woF w u v k i x = x from if_neg c]
      simp (disch := omega) only [Option.bind_some, ↓reduceIte, ↓M_1, ↓M_2, L_0, L_1, L_2, L_3, L_4, L_5, L_6, L_7, L_8, L_9, L_10, L_11, L_12, L_13, L_20, L_24, L_26, L_30, L_31, L_32, L_39, L_40, L_48, L_57, L_76, L_80, L_90, L_91, L_97, L_99, L_100, L_255, L_273, L_1000, L_2000, q_ld, q_ldL, q_sto, q_stoL, q_add, q_sub, q_mul, q_dec, q_rem, q_div, q_lt_t, q_lt_f, q_le_t, q_le_f, q_eq_t, q_eq_f, q_em, q_me, q_ml, q_lm, q_mle, q_lem, q_s1, q_s1o, q_s1k, q_s12, q_s2, q_s2o, q_s2k, q_s21, Nat.add_sub_cancel, q_or, q_and, q_shl, true_or, or_true, false_or, or_false, true_and, and_true, false_and, and_false, not_true_eq_false, not_false_eq_true, ne_eq, hz.m, x1, elt, eq_false c, gM_EachAddsALineModel_worst_88]
  · rintro f z ⟨g1, g2⟩
    have hz : MW w z := h.fm g2 (by decide) (by decide)
    have hx := (woS_ok (u := u) (v := v) (k := k) h.ok (w 5 1)).2.resolve_left (fun y => by omega)
    try simp only
    generalize woS w u v k (w 5 1) = x at hx
    have f3 : Fm [7, 11, 12, 13] [] [10, 30, 35] t (s1 z 0 35 (mI 1)) := (g2.mono (by decide) (by decide) (by decide)).tr (Fm.w10 (by decide))
    obtain ⟨z2, w1, w2⟩ := M_tell (N := N) (q := fun _ => ea (x.2 - 1)) (Rm.nil (t := s1 z 0 35 (mI 1))) (by decide) (x := ea (x.2 - 1)) rfl
    refine ⟨z2, ?_, f3.tr (w2.1.mono (by decide) (by decide) (by decide)), ?_, w2.2.1, w2.2.2 0 (by decide)⟩
    · rw [gI_nI (g := x.1) (by omega), gM_EachAddsALineModel_worst_46]
      obtain ⟨e, he⟩ : ∃ e, x.2 = e + 1 := ⟨x.2 - 1, by omega⟩
      rw [he, lmI_s]
      rw [he, Nat.add_sub_cancel] at w1
      by_cases c1 : e = 1000000
      · rw [c1, ea_far] at w1
        rw [c1]
        simp (disch := omega) only [Option.bind_some, ↓reduceIte, ↓M_1, ↓M_2, L_0, L_1, L_2, L_3, L_4, L_5, L_6, L_7, L_8, L_9, L_10, L_11, L_12, L_13, L_20, L_24, L_26, L_30, L_31, L_32, L_39, L_40, L_48, L_57, L_76, L_80, L_90, L_91, L_97, L_99, L_100, L_255, L_273, L_1000, L_2000, q_ld, q_ldL, q_sto, q_stoL, q_add, q_sub, q_mul, q_dec, q_rem, q_div, q_lt_t, q_lt_f, q_le_t, q_le_f, q_eq_t, q_eq_f, q_em, q_me, q_ml, q_lm, q_mle, q_lem, q_s1, q_s1o, q_s1k, q_s12, q_s2, q_s2o, q_s2k, q_s21, Nat.add_sub_cancel, q_or, q_and, q_shl, true_or, or_true, false_or, or_false, true_and, and_true, false_and, and_false, not_true_eq_false, not_false_eq_true, ne_eq, hz.m, w1, L_1000000]
      · rw [show ea e = nI e from if_pos (by omega)] at w1
        simp (disch := omega) only [Option.bind_some, ↓reduceIte, ↓M_1, ↓M_2, L_0, L_1, L_2, L_3, L_4, L_5, L_6, L_7, L_8, L_9, L_10, L_11, L_12, L_13, L_20, L_24, L_26, L_30, L_31, L_32, L_39, L_40, L_48, L_57, L_76, L_80, L_90, L_91, L_97, L_99, L_100, L_255, L_273, L_1000, L_2000, q_ld, q_ldL, q_sto, q_stoL, q_add, q_sub, q_mul, q_dec, q_rem, q_div, q_lt_t, q_lt_f, q_le_t, q_le_f, q_eq_t, q_eq_f, q_em, q_me, q_ml, q_lm, q_mle, q_lem, q_s1, q_s1o, q_s1k, q_s12, q_s2, q_s2o, q_s2k, q_s21, Nat.add_sub_cancel, q_or, q_and, q_shl, true_or, or_true, false_or, or_false, true_and, and_true, false_and, and_false, not_true_eq_false, not_false_eq_true, ne_eq, hz.m, w1, L_1000000]
    · rw [w2.1.2.2 35 (by decide)]; exact q_s1 _ _ _ _
theorem k_worst (hU : okU U) (hN : 200 ≤ N) : keeps3 N (RR U) fC_EachAddsALine_worst fM_EachAddsALineModel_worst := by
  refine keeps3_trip hU (fun w s a b c hw e => by simp (disch := omega) only [Option.bind_some, ↓reduceIte, ↓M_1, ↓M_2, L_0, L_1, L_2, L_3, L_4, L_5, L_6, L_7, L_8, L_9, L_10, L_11, L_12, L_13, L_20, L_24, L_26, L_30, L_31, L_32, L_39, L_40, L_48, L_57, L_76, L_80, L_90, L_91, L_97, L_99, L_100, L_255, L_273, L_1000, L_2000, q_ld, q_ldL, q_sto, q_stoL, q_add, q_sub, q_mul, q_dec, q_rem, q_div, q_lt_t, q_lt_f, q_le_t, q_le_f, q_eq_t, q_eq_f, q_em, q_me, q_ml, q_lm, q_mle, q_lem, q_s1, q_s1o, q_s1k, q_s12, q_s2, q_s2o, q_s2k, q_s21, Nat.add_sub_cancel, q_or, q_and, q_shl, true_or, or_true, false_or, or_false, true_and, and_true, false_and, and_false, not_true_eq_false, not_false_eq_true, ne_eq, fC_EachAddsALine_worst, gC_EachAddsALine_worst_0, e]) (fun w t a b c hw e => by simp (disch := omega) only [Option.bind_some, ↓reduceIte, ↓M_1, ↓M_2, L_0, L_1, L_2, L_3, L_4, L_5, L_6, L_7, L_8, L_9, L_10, L_11, L_12, L_13, L_20, L_24, L_26, L_30, L_31, L_32, L_39, L_40, L_48, L_57, L_76, L_80, L_90, L_91, L_97, L_99, L_100, L_255, L_273, L_1000, L_2000, q_ld, q_ldL, q_sto, q_stoL, q_add, q_sub, q_mul, q_dec, q_rem, q_div, q_lt_t, q_lt_f, q_le_t, q_le_f, q_eq_t, q_eq_f, q_em, q_me, q_ml, q_lm, q_mle, q_lem, q_s1, q_s1o, q_s1k, q_s12, q_s2, q_s2o, q_s2k, q_s21, Nat.add_sub_cancel, q_or, q_and, q_shl, true_or, or_true, false_or, or_false, true_and, and_true, false_and, and_false, not_true_eq_false, not_false_eq_true, ne_eq, fM_EachAddsALineModel_worst, gM_EachAddsALineModel_worst_0, e]) (fun s t w u v k hr h1 h2 hu hv hk ec em => ?_)
  have hmc := hr.mc.r
  have hb := h1.bd
  have g0 : Fm [] [] [11, 33] t (s1 (s1 t 0 11 (nI 0)) 0 33 (nI 0)) := (Fm.w10 (by decide)).tr (Fm.w10 (by decide))
  have h3 : MW w (s1 (s1 t 0 11 (nI 0)) 0 33 (nI 0)) := h2.fm g0 (by decide) (by decide)
  obtain ⟨z, x1, x2, x3⟩ := C_spread0 (N := N) (go := 100) (br := 0) h1 (by omega) hu (show k < 1000 by omega) shuts0 (Or.inr rfl)
  rw [gI_no (g := 100) (by decide)] at x1
  have e1 := x3 v hv
  obtain ⟨y, y1, y2⟩ := M_soonest0 (N := N) (br := 0) (go := 100) (k := k) h3 (by omega) hu hv (by omega) (by decide) (q_s1 _ _ _ _) (by simp (disch := omega) only [Option.bind_some, ↓reduceIte, ↓M_1, ↓M_2, L_0, L_1, L_2, L_3, L_4, L_5, L_6, L_7, L_8, L_9, L_10, L_11, L_12, L_13, L_20, L_24, L_26, L_30, L_31, L_32, L_39, L_40, L_48, L_57, L_76, L_80, L_90, L_91, L_97, L_99, L_100, L_255, L_273, L_1000, L_2000, q_ld, q_ldL, q_sto, q_stoL, q_add, q_sub, q_mul, q_dec, q_rem, q_div, q_lt_t, q_lt_f, q_le_t, q_le_f, q_eq_t, q_eq_f, q_em, q_me, q_ml, q_lm, q_mle, q_lem, q_s1, q_s1o, q_s1k, q_s12, q_s2, q_s2o, q_s2k, q_s21, Nat.add_sub_cancel, q_or, q_and, q_shl, true_or, or_true, false_or, or_false, true_and, and_true, false_and, and_false, not_true_eq_false, not_false_eq_true, ne_eq]; exact hmc.1) (by simp (disch := omega) only [Option.bind_some, ↓reduceIte, ↓M_1, ↓M_2, L_0, L_1, L_2, L_3, L_4, L_5, L_6, L_7, L_8, L_9, L_10, L_11, L_12, L_13, L_20, L_24, L_26, L_30, L_31, L_32, L_39, L_40, L_48, L_57, L_76, L_80, L_90, L_91, L_97, L_99, L_100, L_255, L_273, L_1000, L_2000, q_ld, q_ldL, q_sto, q_stoL, q_add, q_sub, q_mul, q_dec, q_rem, q_div, q_lt_t, q_lt_f, q_le_t, q_le_f, q_eq_t, q_eq_f, q_em, q_me, q_ml, q_lm, q_mle, q_lem, q_s1, q_s1o, q_s1k, q_s12, q_s2, q_s2o, q_s2k, q_s21, Nat.add_sub_cancel, q_or, q_and, q_shl, true_or, or_true, false_or, or_false, true_and, and_true, false_and, and_false, not_true_eq_false, not_false_eq_true, ne_eq]; exact hmc.2.1)
  have fy : Fm [11, 12, 13] [] [11, 30, 33] t y := (g0.mono (by decide) (by decide) (by decide)).tr (y2.mono (by decide) (by decide) (by decide))
  rcases arr_bd (br := 0) (go := 100) (u := u) (k := k) (v := v) h1.ok with d | d
  · have hM : 0 < w 5 1 := by
      obtain ⟨o, o1, _⟩ := (arr_min (br := 0) (go := 100) (u := u) (k := k) (v := v) h1.ok (e := 99) (by decide)).mp d
      omega
    rw [ea_lt d] at e1
    have hz : CW w z := h1.fr x2 (by decide)
    have hy : MW w y := h2.fm fy (by decide) (by decide)
    obtain ⟨s', a1, a2, a3, a4⟩ := C_worst31 (N := N) hz (by omega) hu hv hk hM
    obtain ⟨t', b1, b2, b3, b4, b5⟩ := M_worst46 (N := N) hy (by omega) hu hv hk hM (by rw [y2.2.2 33 (by decide)]; exact q_s1 _ _ _ _) (by rw [fy.2.2 34 (by decide)]; exact hmc.1)
    have hro : RO s' t' := ⟨1, by decide, a3, b4, fun j hj => by
      obtain rfl : j = 0 := by omega
      rw [a4, b5]⟩
    have f4 : Fm [7, 11, 12, 13] [] [10, 11, 30, 33, 35] t t' := (fy.mono (by decide) (by decide) (by decide)).tr (b2.mono (by decide) (by decide) (by decide))
    refine ⟨nI (woS w u v k (w 5 1)).1, s', t', ?_, ?_, hr.roM hU hro ⟨(f4.2.2 34 (by decide)).trans hmc.1, b3, (f4.2.2 37 (by decide)).trans hmc.2.2.1, (f4.2.2 44 (by decide)).trans hmc.2.2.2⟩ ((x2.mono (by decide) (by decide)).tr a2 : Fr [3, 4, 42] [] s s') f4 (by decide) (by decide) (by decide)⟩
    · simp (disch := omega) only [Option.bind_some, ↓reduceIte, ↓M_1, ↓M_2, L_0, L_1, L_2, L_3, L_4, L_5, L_6, L_7, L_8, L_9, L_10, L_11, L_12, L_13, L_20, L_24, L_26, L_30, L_31, L_32, L_39, L_40, L_48, L_57, L_76, L_80, L_90, L_91, L_97, L_99, L_100, L_255, L_273, L_1000, L_2000, q_ld, q_ldL, q_sto, q_stoL, q_add, q_sub, q_mul, q_dec, q_rem, q_div, q_lt_t, q_lt_f, q_le_t, q_le_f, q_eq_t, q_eq_f, q_em, q_me, q_ml, q_lm, q_mle, q_lem, q_s1, q_s1o, q_s1k, q_s12, q_s2, q_s2o, q_s2k, q_s21, Nat.add_sub_cancel, q_or, q_and, q_shl, true_or, or_true, false_or, or_false, true_and, and_true, false_and, and_false, not_true_eq_false, not_false_eq_true, ne_eq, fC_EachAddsALine_worst, gC_EachAddsALine_worst_0, ec, fC_Paths_worstLoss, gC_Paths_worstLoss_0, x1, e1, M_2, a1]
    · simp (disch := omega) only [Option.bind_some, ↓reduceIte, ↓M_1, ↓M_2, L_0, L_1, L_2, L_3, L_4, L_5, L_6, L_7, L_8, L_9, L_10, L_11, L_12, L_13, L_20, L_24, L_26, L_30, L_31, L_32, L_39, L_40, L_48, L_57, L_76, L_80, L_90, L_91, L_97, L_99, L_100, L_255, L_273, L_1000, L_2000, q_ld, q_ldL, q_sto, q_stoL, q_add, q_sub, q_mul, q_dec, q_rem, q_div, q_lt_t, q_lt_f, q_le_t, q_le_f, q_eq_t, q_eq_f, q_em, q_me, q_ml, q_lm, q_mle, q_lem, q_s1, q_s1o, q_s1k, q_s12, q_s2, q_s2o, q_s2k, q_s21, Nat.add_sub_cancel, q_or, q_and, q_shl, true_or, or_true, false_or, or_false, true_and, and_true, false_and, and_false, not_true_eq_false, not_false_eq_true, ne_eq, fM_EachAddsALineModel_worst, gM_EachAddsALineModel_worst_0, em, y1, L_1000000, b1]
  · rw [d] at y1 e1
    rw [ea_far] at e1
    refine ⟨mI 2, z, y, ?_, ?_, hr.fr hU x2 fy (by decide) (by decide) (by decide)⟩
    · simp (disch := omega) only [Option.bind_some, ↓reduceIte, ↓M_1, ↓M_2, L_0, L_1, L_2, L_3, L_4, L_5, L_6, L_7, L_8, L_9, L_10, L_11, L_12, L_13, L_20, L_24, L_26, L_30, L_31, L_32, L_39, L_40, L_48, L_57, L_76, L_80, L_90, L_91, L_97, L_99, L_100, L_255, L_273, L_1000, L_2000, q_ld, q_ldL, q_sto, q_stoL, q_add, q_sub, q_mul, q_dec, q_rem, q_div, q_lt_t, q_lt_f, q_le_t, q_le_f, q_eq_t, q_eq_f, q_em, q_me, q_ml, q_lm, q_mle, q_lem, q_s1, q_s1o, q_s1k, q_s12, q_s2, q_s2o, q_s2k, q_s21, Nat.add_sub_cancel, q_or, q_and, q_shl, true_or, or_true, false_or, or_false, true_and, and_true, false_and, and_false, not_true_eq_false, not_false_eq_true, ne_eq, fC_EachAddsALine_worst, gC_EachAddsALine_worst_0, ec, fC_Paths_worstLoss, gC_Paths_worstLoss_0, x1, e1, M_2]
    · simp (disch := omega) only [Option.bind_some, ↓reduceIte, ↓M_1, ↓M_2, L_0, L_1, L_2, L_3, L_4, L_5, L_6, L_7, L_8, L_9, L_10, L_11, L_12, L_13, L_20, L_24, L_26, L_30, L_31, L_32, L_39, L_40, L_48, L_57, L_76, L_80, L_90, L_91, L_97, L_99, L_100, L_255, L_273, L_1000, L_2000, q_ld, q_ldL, q_sto, q_stoL, q_add, q_sub, q_mul, q_dec, q_rem, q_div, q_lt_t, q_lt_f, q_le_t, q_le_f, q_eq_t, q_eq_f, q_em, q_me, q_ml, q_lm, q_mle, q_lem, q_s1, q_s1o, q_s1k, q_s12, q_s2, q_s2o, q_s2k, q_s21, Nat.add_sub_cancel, q_or, q_and, q_shl, true_or, or_true, false_or, or_false, true_and, and_true, false_and, and_false, not_true_eq_false, not_false_eq_true, ne_eq, fM_EachAddsALineModel_worst, gM_EachAddsALineModel_worst_0, em, y1, L_1000000, M_2]
end AS
