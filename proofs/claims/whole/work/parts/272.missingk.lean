/-! tales: that somebody has left a line out; the class -/
section CMI
variable {N : Nat} {w : Nat → Nat → Nat} {C : List Nat} {x ta : Nat → Nat} {n u v r k a q no : Nat} {s t : vSt}
theorem C_isRightK (hJ : CJ w C ta n v s) (hk : 0 < k ∧ k ≤ n) (ha : a < 2 * w 5 1) (hM : w 5 1 ≤ 20) : fC_Tales_isRight N (nI k) (nI (sw a)) s = some (if k < n ∧ SO w C ta k a then nI 1 else nI 0, s) := by
  have hn := hJ.1
  have h9 := hJ.2.1
  by_cases c : k < n
  · rw [C_isRight hJ ⟨hk.1, c⟩ ha hM]
    by_cases d : SO w C ta k a
    · rw [if_pos d, if_pos (show k < n ∧ SO w C ta k a from ⟨c, d⟩)]
    · rw [if_neg d, if_neg (show ¬ (k < n ∧ SO w C ta k a) from fun z => d z.2)]
  · rw [if_neg (show ¬ (k < n ∧ SO w C ta k a) from fun z => c z.1)]
    have e : k = n := by omega
    subst e
    simp (disch := omega) only [Option.bind_some, ↓reduceIte, ↓M_1, ↓M_2, L_0, L_1, L_2, L_3, L_4, L_5, L_6, L_7, L_8, L_9, L_10, L_11, L_12, L_13, L_20, L_24, L_26, L_30, L_31, L_32, L_39, L_40, L_48, L_57, L_76, L_80, L_90, L_91, L_97, L_99, L_100, L_255, L_273, L_1000, L_2000, q_ld, q_ldL, q_sto, q_stoL, q_add, q_sub, q_mul, q_dec, q_rem, q_div, q_lt_t, q_lt_f, q_le_t, q_le_f, q_eq_t, q_eq_f, q_em, q_me, q_ml, q_lm, q_mle, q_lem, q_s1, q_s1o, q_s1k, q_s12, q_s2, q_s2o, q_s2k, q_s21, Nat.add_sub_cancel, q_or, q_and, q_shl, true_or, or_true, false_or, or_false, true_and, and_true, false_and, and_false, not_true_eq_false, not_false_eq_true, ne_eq, fC_Tales_isRight, gC_Tales_isRight_0, gC_Tales_isRight_26, h9]
/-- the class' rows at a step -/
def CMo (w : Nat → Nat → Nat) (C : List Nat) (ta : Nat → Nat) (n v o : Nat) (s : vSt) : Prop := ∀ k, 0 < k → k ≤ n → s.2 53 (k * 40 + sw o) = lN (lss w C ta n v 100 k o) ∧ s.2 53 (520 + k * 40 + sw o) = lN (dnn w C ta n v k o) ∧ s.1 54 (k * 40 + sw o) = nI (wrP (fun i => 0 < lss w C ta n v i k o) (w 5 0))
theorem C_wl0 (h : CW w s) (hN : 60 ≤ N) (hJ : CJ w C ta n v s) (hu : u < w 5 0) (hr : r < 1000) (hk : 0 < k ∧ k ≤ n) (hT : ∀ o, o < 2 * w 5 1 → beg w u r o → CMo w C ta n v o s) : fC_Leaving_waysOn N (nI u) (nI r) (nI k) (nI 0) s = some (lN (wy w (tE w C ta n v 100 k) u r (2 * w 5 1)), s) := by
  have hb := h.bd
  have hn := hJ.1
  have hk2 := hk.2
  simp (disch := omega) only [Option.bind_some, ↓reduceIte, ↓M_1, ↓M_2, L_0, L_1, L_2, L_3, L_4, L_5, L_6, L_7, L_8, L_9, L_10, L_11, L_12, L_13, L_20, L_24, L_26, L_30, L_31, L_32, L_39, L_40, L_48, L_57, L_76, L_80, L_90, L_91, L_97, L_99, L_100, L_255, L_273, L_1000, L_2000, q_ld, q_ldL, q_sto, q_stoL, q_add, q_sub, q_mul, q_dec, q_rem, q_div, q_lt_t, q_lt_f, q_le_t, q_le_f, q_eq_t, q_eq_f, q_em, q_me, q_ml, q_lm, q_mle, q_lem, q_s1, q_s1o, q_s1k, q_s12, q_s2, q_s2o, q_s2k, q_s21, Nat.add_sub_cancel, q_or, q_and, q_shl, true_or, or_true, false_or, or_false, true_and, and_true, false_and, and_false, not_true_eq_false, not_false_eq_true, ne_eq, fC_Leaving_waysOn, gC_Leaving_waysOn_0, l_0]
  refine loopS (fun f i (y : Nat) => gC_Leaving_waysOn_6 N f (nI u) (nI r) (nI k) (nI 0) (lN y) (nI i) s) (fun i => wy w (tE w C ta n v 100 k) u r (2 * i)) (w 5 1) _ (fun f m hm => ?_) (fun f => ?_) N (by omega)
  · have ha := C_isAt (N := N) h hm hu
    have h3 : w 3 m ≤ 99 := (h.ok.2.2.2 m hm).2.2.2.1
    have es := wy_hop h.ok (tE w C ta n v 100 k) u r hm
    show gC_Leaving_waysOn_6 N (f + 1) (nI u) (nI r) (nI k) (nI 0) (lN (wy w (tE w C ta n v 100 k) u r (2 * m))) (nI m) s = gC_Leaving_waysOn_6 N f (nI u) (nI r) (nI k) (nI 0) (lN (wy w (tE w C ta n v 100 k) u r (2 * (m + 1)))) (nI (m + 1)) s
    rw [es]
    generalize wy w (tE w C ta n v 100 k) u r (2 * m) = Y
    by_cases c : w 1 m = u ∨ w 2 m = u
    · rw [if_pos c] at ha
      by_cases d : r ≤ w 3 m
      · have hbg : beg w u r (ix w m u) := ⟨ix_gv c, by rw [ix_hr]; exact d⟩
        have hi := ix_lt (w := w) u hm
        have hsw := sw_lt hi
        have k1 := hT _ hi hbg
        have ep := C_place (N := N) h hm c hu
        have eri := C_isRightK (N := N) hJ hk hi hb.2
        have r1 := (k1 k hk.1 hk.2).2.1
        rw [if_pos (show (w 1 m = u ∨ w 2 m = u) ∧ beg w u r (ix w m u) from ⟨c, hbg⟩), tE_100, ← Nat.add_assoc, gC_Leaving_waysOn_6]
        by_cases e : k < n ∧ SO w C ta k (ix w m u)
        · rw [if_pos e] at eri
          rw [if_pos e]
          have e1 := e.1
          have r0 := (k1 (k + 1) (by omega) (by omega)).1
          simp (disch := omega) only [Option.bind_some, ↓reduceIte, ↓M_1, ↓M_2, L_0, L_1, L_2, L_3, L_4, L_5, L_6, L_7, L_8, L_9, L_10, L_11, L_12, L_13, L_20, L_24, L_26, L_30, L_31, L_32, L_39, L_40, L_48, L_57, L_76, L_80, L_90, L_91, L_97, L_99, L_100, L_255, L_273, L_1000, L_2000, q_ld, q_ldL, q_sto, q_stoL, q_add, q_sub, q_mul, q_dec, q_rem, q_div, q_lt_t, q_lt_f, q_le_t, q_le_f, q_eq_t, q_eq_f, q_em, q_me, q_ml, q_lm, q_mle, q_lem, q_s1, q_s1o, q_s1k, q_s12, q_s2, q_s2o, q_s2k, q_s21, Nat.add_sub_cancel, q_or, q_and, q_shl, true_or, or_true, false_or, or_false, true_and, and_true, false_and, and_false, not_true_eq_false, not_false_eq_true, ne_eq, h.m, ha, h.h hm, C_otherAt h hm hu, ep, eri, L_520, Nat.zero_mul, Nat.zero_add, r0, lN_add, gC_Leaving_waysOn_108, r1, gC_Leaving_waysOn_134]
        · rw [if_neg e] at eri
          rw [if_neg e, Nat.add_zero Y]
          simp (disch := omega) only [Option.bind_some, ↓reduceIte, ↓M_1, ↓M_2, L_0, L_1, L_2, L_3, L_4, L_5, L_6, L_7, L_8, L_9, L_10, L_11, L_12, L_13, L_20, L_24, L_26, L_30, L_31, L_32, L_39, L_40, L_48, L_57, L_76, L_80, L_90, L_91, L_97, L_99, L_100, L_255, L_273, L_1000, L_2000, q_ld, q_ldL, q_sto, q_stoL, q_add, q_sub, q_mul, q_dec, q_rem, q_div, q_lt_t, q_lt_f, q_le_t, q_le_f, q_eq_t, q_eq_f, q_em, q_me, q_ml, q_lm, q_mle, q_lem, q_s1, q_s1o, q_s1k, q_s12, q_s2, q_s2o, q_s2k, q_s21, Nat.add_sub_cancel, q_or, q_and, q_shl, true_or, or_true, false_or, or_false, true_and, and_true, false_and, and_false, not_true_eq_false, not_false_eq_true, ne_eq, h.m, ha, h.h hm, C_otherAt h hm hu, ep, eri, L_520, lN_add, gC_Leaving_waysOn_108, r1, gC_Leaving_waysOn_134]
      · rw [if_neg (show ¬ ((w 1 m = u ∨ w 2 m = u) ∧ beg w u r (ix w m u)) from fun z => d (by have := z.2.2; rw [ix_hr] at this; exact this)), Nat.add_zero Y, gC_Leaving_waysOn_6]
        simp (disch := omega) only [Option.bind_some, ↓reduceIte, ↓M_1, ↓M_2, L_0, L_1, L_2, L_3, L_4, L_5, L_6, L_7, L_8, L_9, L_10, L_11, L_12, L_13, L_20, L_24, L_26, L_30, L_31, L_32, L_39, L_40, L_48, L_57, L_76, L_80, L_90, L_91, L_97, L_99, L_100, L_255, L_273, L_1000, L_2000, q_ld, q_ldL, q_sto, q_stoL, q_add, q_sub, q_mul, q_dec, q_rem, q_div, q_lt_t, q_lt_f, q_le_t, q_le_f, q_eq_t, q_eq_f, q_em, q_me, q_ml, q_lm, q_mle, q_lem, q_s1, q_s1o, q_s1k, q_s12, q_s2, q_s2o, q_s2k, q_s21, Nat.add_sub_cancel, q_or, q_and, q_shl, true_or, or_true, false_or, or_false, true_and, and_true, false_and, and_false, not_true_eq_false, not_false_eq_true, ne_eq, h.m, ha, h.h hm, gC_Leaving_waysOn_134]
    · rw [if_neg c] at ha
      rw [if_neg (show ¬ ((w 1 m = u ∨ w 2 m = u) ∧ beg w u r (ix w m u)) from fun z => c z.1), Nat.add_zero Y, gC_Leaving_waysOn_6]
      simp (disch := omega) only [Option.bind_some, ↓reduceIte, ↓M_1, ↓M_2, L_0, L_1, L_2, L_3, L_4, L_5, L_6, L_7, L_8, L_9, L_10, L_11, L_12, L_13, L_20, L_24, L_26, L_30, L_31, L_32, L_39, L_40, L_48, L_57, L_76, L_80, L_90, L_91, L_97, L_99, L_100, L_255, L_273, L_1000, L_2000, q_ld, q_ldL, q_sto, q_stoL, q_add, q_sub, q_mul, q_dec, q_rem, q_div, q_lt_t, q_lt_f, q_le_t, q_le_f, q_eq_t, q_eq_f, q_em, q_me, q_ml, q_lm, q_mle, q_lem, q_s1, q_s1o, q_s1k, q_s12, q_s2, q_s2o, q_s2k, q_s21, Nat.add_sub_cancel, q_or, q_and, q_shl, true_or, or_true, false_or, or_false, true_and, and_true, false_and, and_false, not_true_eq_false, not_false_eq_true, ne_eq, h.m, ha, gC_Leaving_waysOn_134]
  · show gC_Leaving_waysOn_6 N (f + 1) (nI u) (nI r) (nI k) (nI 0) (lN (wy w (tE w C ta n v 100 k) u r (2 * w 5 1))) (nI (w 5 1)) s = _
    rw [gC_Leaving_waysOn_6]
    simp (disch := omega) only [Option.bind_some, ↓reduceIte, ↓M_1, ↓M_2, L_0, L_1, L_2, L_3, L_4, L_5, L_6, L_7, L_8, L_9, L_10, L_11, L_12, L_13, L_20, L_24, L_26, L_30, L_31, L_32, L_39, L_40, L_48, L_57, L_76, L_80, L_90, L_91, L_97, L_99, L_100, L_255, L_273, L_1000, L_2000, q_ld, q_ldL, q_sto, q_stoL, q_add, q_sub, q_mul, q_dec, q_rem, q_div, q_lt_t, q_lt_f, q_le_t, q_le_f, q_eq_t, q_eq_f, q_em, q_me, q_ml, q_lm, q_mle, q_lem, q_s1, q_s1o, q_s1k, q_s12, q_s2, q_s2o, q_s2k, q_s21, Nat.add_sub_cancel, q_or, q_and, q_shl, true_or, or_true, false_or, or_false, true_and, and_true, false_and, and_false, not_true_eq_false, not_false_eq_true, ne_eq, h.m]
theorem C_wl1 (h : CW w s) (hN : 60 ≤ N) (hJ : CJ w C ta n v s) (hu : u < w 5 0) (hr : r < 1000) (hk : 0 < k ∧ k ≤ n) (hT : ∀ o, o < 2 * w 5 1 → beg w u r o → CMo w C ta n v o s) : fC_Leaving_waysOn N (nI u) (nI r) (nI k) (nI 1) s = some (lN (wy w (tD w C ta n v k) u r (2 * w 5 1)), s) := by
  have hb := h.bd
  have hn := hJ.1
  have hk2 := hk.2
  simp (disch := omega) only [Option.bind_some, ↓reduceIte, ↓M_1, ↓M_2, L_0, L_1, L_2, L_3, L_4, L_5, L_6, L_7, L_8, L_9, L_10, L_11, L_12, L_13, L_20, L_24, L_26, L_30, L_31, L_32, L_39, L_40, L_48, L_57, L_76, L_80, L_90, L_91, L_97, L_99, L_100, L_255, L_273, L_1000, L_2000, q_ld, q_ldL, q_sto, q_stoL, q_add, q_sub, q_mul, q_dec, q_rem, q_div, q_lt_t, q_lt_f, q_le_t, q_le_f, q_eq_t, q_eq_f, q_em, q_me, q_ml, q_lm, q_mle, q_lem, q_s1, q_s1o, q_s1k, q_s12, q_s2, q_s2o, q_s2k, q_s21, Nat.add_sub_cancel, q_or, q_and, q_shl, true_or, or_true, false_or, or_false, true_and, and_true, false_and, and_false, not_true_eq_false, not_false_eq_true, ne_eq, fC_Leaving_waysOn, gC_Leaving_waysOn_0, l_0]
  refine loopS (fun f i (y : Nat) => gC_Leaving_waysOn_6 N f (nI u) (nI r) (nI k) (nI 1) (lN y) (nI i) s) (fun i => wy w (tD w C ta n v k) u r (2 * i)) (w 5 1) _ (fun f m hm => ?_) (fun f => ?_) N (by omega)
  · have ha := C_isAt (N := N) h hm hu
    have h3 : w 3 m ≤ 99 := (h.ok.2.2.2 m hm).2.2.2.1
    have es := wy_hop h.ok (tD w C ta n v k) u r hm
    show gC_Leaving_waysOn_6 N (f + 1) (nI u) (nI r) (nI k) (nI 1) (lN (wy w (tD w C ta n v k) u r (2 * m))) (nI m) s = gC_Leaving_waysOn_6 N f (nI u) (nI r) (nI k) (nI 1) (lN (wy w (tD w C ta n v k) u r (2 * (m + 1)))) (nI (m + 1)) s
    rw [es]
    generalize wy w (tD w C ta n v k) u r (2 * m) = Y
    by_cases c : w 1 m = u ∨ w 2 m = u
    · rw [if_pos c] at ha
      by_cases d : r ≤ w 3 m
      · have hbg : beg w u r (ix w m u) := ⟨ix_gv c, by rw [ix_hr]; exact d⟩
        have hi := ix_lt (w := w) u hm
        have hsw := sw_lt hi
        have k1 := hT _ hi hbg
        have ep := C_place (N := N) h hm c hu
        have eri := C_isRightK (N := N) hJ hk hi hb.2
        rw [if_pos (show (w 1 m = u ∨ w 2 m = u) ∧ beg w u r (ix w m u) from ⟨c, hbg⟩), gC_Leaving_waysOn_6]
        unfold tD
        by_cases e : k < n ∧ SO w C ta k (ix w m u)
        · rw [if_pos e] at eri
          rw [if_pos e]
          have e1 := e.1
          have r0 := (k1 (k + 1) (by omega) (by omega)).2.1
          simp (disch := omega) only [Option.bind_some, ↓reduceIte, ↓M_1, ↓M_2, L_0, L_1, L_2, L_3, L_4, L_5, L_6, L_7, L_8, L_9, L_10, L_11, L_12, L_13, L_20, L_24, L_26, L_30, L_31, L_32, L_39, L_40, L_48, L_57, L_76, L_80, L_90, L_91, L_97, L_99, L_100, L_255, L_273, L_1000, L_2000, q_ld, q_ldL, q_sto, q_stoL, q_add, q_sub, q_mul, q_dec, q_rem, q_div, q_lt_t, q_lt_f, q_le_t, q_le_f, q_eq_t, q_eq_f, q_em, q_me, q_ml, q_lm, q_mle, q_lem, q_s1, q_s1o, q_s1k, q_s12, q_s2, q_s2o, q_s2k, q_s21, Nat.add_sub_cancel, q_or, q_and, q_shl, true_or, or_true, false_or, or_false, true_and, and_true, false_and, and_false, not_true_eq_false, not_false_eq_true, ne_eq, h.m, ha, h.h hm, C_otherAt h hm hu, ep, eri, L_520, Nat.one_mul, r0, lN_add, gC_Leaving_waysOn_108, gC_Leaving_waysOn_134]
        · rw [if_neg e] at eri
          rw [if_neg e, Nat.add_zero Y]
          simp (disch := omega) only [Option.bind_some, ↓reduceIte, ↓M_1, ↓M_2, L_0, L_1, L_2, L_3, L_4, L_5, L_6, L_7, L_8, L_9, L_10, L_11, L_12, L_13, L_20, L_24, L_26, L_30, L_31, L_32, L_39, L_40, L_48, L_57, L_76, L_80, L_90, L_91, L_97, L_99, L_100, L_255, L_273, L_1000, L_2000, q_ld, q_ldL, q_sto, q_stoL, q_add, q_sub, q_mul, q_dec, q_rem, q_div, q_lt_t, q_lt_f, q_le_t, q_le_f, q_eq_t, q_eq_f, q_em, q_me, q_ml, q_lm, q_mle, q_lem, q_s1, q_s1o, q_s1k, q_s12, q_s2, q_s2o, q_s2k, q_s21, Nat.add_sub_cancel, q_or, q_and, q_shl, true_or, or_true, false_or, or_false, true_and, and_true, false_and, and_false, not_true_eq_false, not_false_eq_true, ne_eq, h.m, ha, h.h hm, C_otherAt h hm hu, ep, eri, gC_Leaving_waysOn_108, gC_Leaving_waysOn_134]
      · rw [if_neg (show ¬ ((w 1 m = u ∨ w 2 m = u) ∧ beg w u r (ix w m u)) from fun z => d (by have := z.2.2; rw [ix_hr] at this; exact this)), Nat.add_zero Y, gC_Leaving_waysOn_6]
        simp (disch := omega) only [Option.bind_some, ↓reduceIte, ↓M_1, ↓M_2, L_0, L_1, L_2, L_3, L_4, L_5, L_6, L_7, L_8, L_9, L_10, L_11, L_12, L_13, L_20, L_24, L_26, L_30, L_31, L_32, L_39, L_40, L_48, L_57, L_76, L_80, L_90, L_91, L_97, L_99, L_100, L_255, L_273, L_1000, L_2000, q_ld, q_ldL, q_sto, q_stoL, q_add, q_sub, q_mul, q_dec, q_rem, q_div, q_lt_t, q_lt_f, q_le_t, q_le_f, q_eq_t, q_eq_f, q_em, q_me, q_ml, q_lm, q_mle, q_lem, q_s1, q_s1o, q_s1k, q_s12, q_s2, q_s2o, q_s2k, q_s21, Nat.add_sub_cancel, q_or, q_and, q_shl, true_or, or_true, false_or, or_false, true_and, and_true, false_and, and_false, not_true_eq_false, not_false_eq_true, ne_eq, h.m, ha, h.h hm, gC_Leaving_waysOn_134]
    · rw [if_neg c] at ha
      rw [if_neg (show ¬ ((w 1 m = u ∨ w 2 m = u) ∧ beg w u r (ix w m u)) from fun z => c z.1), Nat.add_zero Y, gC_Leaving_waysOn_6]
      simp (disch := omega) only [Option.bind_some, ↓reduceIte, ↓M_1, ↓M_2, L_0, L_1, L_2, L_3, L_4, L_5, L_6, L_7, L_8, L_9, L_10, L_11, L_12, L_13, L_20, L_24, L_26, L_30, L_31, L_32, L_39, L_40, L_48, L_57, L_76, L_80, L_90, L_91, L_97, L_99, L_100, L_255, L_273, L_1000, L_2000, q_ld, q_ldL, q_sto, q_stoL, q_add, q_sub, q_mul, q_dec, q_rem, q_div, q_lt_t, q_lt_f, q_le_t, q_le_f, q_eq_t, q_eq_f, q_em, q_me, q_ml, q_lm, q_mle, q_lem, q_s1, q_s1o, q_s1k, q_s12, q_s2, q_s2o, q_s2k, q_s21, Nat.add_sub_cancel, q_or, q_and, q_shl, true_or, or_true, false_or, or_false, true_and, and_true, false_and, and_false, not_true_eq_false, not_false_eq_true, ne_eq, h.m, ha, gC_Leaving_waysOn_134]
  · show gC_Leaving_waysOn_6 N (f + 1) (nI u) (nI r) (nI k) (nI 1) (lN (wy w (tD w C ta n v k) u r (2 * w 5 1))) (nI (w 5 1)) s = _
    rw [gC_Leaving_waysOn_6]
    simp (disch := omega) only [Option.bind_some, ↓reduceIte, ↓M_1, ↓M_2, L_0, L_1, L_2, L_3, L_4, L_5, L_6, L_7, L_8, L_9, L_10, L_11, L_12, L_13, L_20, L_24, L_26, L_30, L_31, L_32, L_39, L_40, L_48, L_57, L_76, L_80, L_90, L_91, L_97, L_99, L_100, L_255, L_273, L_1000, L_2000, q_ld, q_ldL, q_sto, q_stoL, q_add, q_sub, q_mul, q_dec, q_rem, q_div, q_lt_t, q_lt_f, q_le_t, q_le_f, q_eq_t, q_eq_f, q_em, q_me, q_ml, q_lm, q_mle, q_lem, q_s1, q_s1o, q_s1k, q_s12, q_s2, q_s2o, q_s2k, q_s21, Nat.add_sub_cancel, q_or, q_and, q_shl, true_or, or_true, false_or, or_false, true_and, and_true, false_and, and_false, not_true_eq_false, not_false_eq_true, ne_eq, h.m]
/-- who can leave it out at a step or behind it -/
theorem Pv_wr {o : Nat} (hg : gt w o < w 5 0) : wrP (Pv w C ta n v k o) (w 5 0) = (if k < n ∧ SO w C ta k o then wrP (fun i => 0 < lss w C ta n v i (k + 1) o) (w 5 0) else 0) ||| (if 0 < dnn w C ta n v k o then 2 ^ gt w o else 0) := by
  have e1 : (if k < n ∧ SO w C ta k o then wrP (fun i => 0 < lss w C ta n v i (k + 1) o) (w 5 0) else 0) = wrP (fun i => k < n ∧ SO w C ta k o ∧ 0 < lss w C ta n v i (k + 1) o) (w 5 0) := by
    by_cases c : k < n ∧ SO w C ta k o
    · rw [if_pos c]
      exact wrP_eq fun i _ => ⟨fun z => ⟨c.1, c.2, z⟩, fun z => z.2.2⟩
    · rw [if_neg c]
      exact wrP_no fun i _ z => c ⟨z.1, z.2.1⟩
  have e2 : (if 0 < dnn w C ta n v k o then 2 ^ gt w o else 0) = wrP (fun i => gt w o = i ∧ 0 < dnn w C ta n v k o) (w 5 0) := by
    by_cases c : 0 < dnn w C ta n v k o
    · rw [if_pos c, wrP_two hg]
      exact wrP_eq fun i _ => ⟨fun z => ⟨z.symm, c⟩, fun z => z.1.symm⟩
    · rw [if_neg c]
      exact wrP_no fun i _ z => c z.2
  rw [e1, e2, wrP_or]
  rfl
theorem C_leaversL (h : CW w s) (hN : 60 ≤ N) (hJ : CJ w C ta n v s) (hu : u < w 5 0) (hr : r < 1000) (hk : 0 < k ∧ k ≤ n) (hT : ∀ o, o < 2 * w 5 1 → beg w u r o → CMo w C ta n v o s) : fC_Leaving_leavers N (nI u) (nI r) (nI k) s = some (nI (wrP (fun i => ∃ o, o < 2 * w 5 1 ∧ beg w u r o ∧ Pv w C ta n v k o i) (w 5 0)), s) := by
  have hb := h.bd
  have hn := hJ.1
  have hk2 := hk.2
  have st : fC_Leaving_leavers N (nI u) (nI r) (nI k) s = gC_Leaving_leavers_6 N N (nI u) (nI r) (nI k) (nI (wrP (fun i => ∃ o, o < 2 * 0 ∧ beg w u r o ∧ Pv w C ta n v k o i) (w 5 0))) (nI 0) s := by
    rw [← wrP_no (P := fun i => ∃ o, o < 2 * 0 ∧ beg w u r o ∧ Pv w C ta n v k o i) (p := w 5 0) (fun i _ ⟨o, o1, _⟩ => absurd o1 (by omega))]
    rfl
  rw [st]
  refine loopS (fun f i (y : Nat) => gC_Leaving_leavers_6 N f (nI u) (nI r) (nI k) (nI y) (nI i) s) (fun m => wrP (fun i => ∃ o, o < 2 * m ∧ beg w u r o ∧ Pv w C ta n v k o i) (w 5 0)) (w 5 1) _ (fun f m hm => ?_) (fun f => ?_) N (by omega)
  · have ha := C_isAt (N := N) h hm hu
    have h3 : w 3 m ≤ 99 := (h.ok.2.2.2 m hm).2.2.2.1
    have hi := ix_lt (w := w) u hm
    have hh := ix_half w m u
    have only : ∀ o, o < 2 * (m + 1) → ¬ o < 2 * m → beg w u r o → o = ix w m u := fun o o1 o2 o3 => by
      have e := ix_eq h.ok (s := o) (by omega)
      rw [show o / 2 = m by omega, o3.1] at e
      exact e.symm
    show gC_Leaving_leavers_6 N (f + 1) (nI u) (nI r) (nI k) (nI (wrP (fun i => ∃ o, o < 2 * m ∧ beg w u r o ∧ Pv w C ta n v k o i) (w 5 0))) (nI m) s = gC_Leaving_leavers_6 N f (nI u) (nI r) (nI k) (nI (wrP (fun i => ∃ o, o < 2 * (m + 1) ∧ beg w u r o ∧ Pv w C ta n v k o i) (w 5 0))) (nI (m + 1)) s
    have same : ¬ ((w 1 m = u ∨ w 2 m = u) ∧ beg w u r (ix w m u)) → wrP (fun i => ∃ o, o < 2 * (m + 1) ∧ beg w u r o ∧ Pv w C ta n v k o i) (w 5 0) = wrP (fun i => ∃ o, o < 2 * m ∧ beg w u r o ∧ Pv w C ta n v k o i) (w 5 0) := fun hno => by
      refine wrP_eq fun i _ => ⟨fun ⟨o, o1, o2, o3⟩ => ?_, fun ⟨o, o1, o2⟩ => ⟨o, by omega, o2⟩⟩
      by_cases d : o < 2 * m
      · exact ⟨o, d, o2, o3⟩
      · have e := only o o1 d o2
        have hg := gv_hop (w := w) o
        rw [show o / 2 = m by omega, o2.1] at hg
        exact absurd ⟨hg, e ▸ o2⟩ hno
    by_cases c : w 1 m = u ∨ w 2 m = u
    · rw [if_pos c] at ha
      by_cases d : r ≤ w 3 m
      · have hbg : beg w u r (ix w m u) := ⟨ix_gv c, by rw [ix_hr]; exact d⟩
        have hsw := sw_lt hi
        have hg := gt_lt h.ok hi
        have k1 := hT _ hi hbg
        have ep := C_place (N := N) h hm c hu
        have eri := C_isRightK (N := N) hJ hk hi hb.2
        have r1 := (k1 k hk.1 hk.2).2.1
        have enew : wrP (fun i => ∃ o, o < 2 * (m + 1) ∧ beg w u r o ∧ Pv w C ta n v k o i) (w 5 0) = wrP (fun i => ∃ o, o < 2 * m ∧ beg w u r o ∧ Pv w C ta n v k o i) (w 5 0) ||| wrP (Pv w C ta n v k (ix w m u)) (w 5 0) := by
          rw [wrP_or]
          refine wrP_eq fun i _ => ⟨fun ⟨o, o1, o2, o3⟩ => ?_, fun y => ?_⟩
          · by_cases d : o < 2 * m
            · exact Or.inl ⟨o, d, o2, o3⟩
            · exact Or.inr (only o o1 d o2 ▸ o3)
          · rcases y with ⟨o, o1, o2⟩ | y
            · exact ⟨o, by omega, o2⟩
            · exact ⟨ix w m u, by omega, hbg, y⟩
        have ec := cmpL_le (a := dnn w C ta n v k (ix w m u)) (b := 0) (dnn_lt h.ok hn) (by decide)
        have eot := C_otherAt (N := N) h hm hu
        rw [← ix_gt] at eot
        have ep' : fC_Roads_placeOf N (nI m) (nI (gt w (ix w m u))) s = some (nI (sw (ix w m u)), s) := by rw [ix_gt]; exact ep
        rw [enew, Pv_wr hg, ← Nat.or_assoc]
        generalize wrP (fun i => ∃ o, o < 2 * m ∧ beg w u r o ∧ Pv w C ta n v k o i) (w 5 0) = B
        -- the second half of a turn
        have e105 : ∀ B' : Nat, gC_Leaving_leavers_105 N (gC_Leaving_leavers_6 N f) (nI u) (nI r) (nI k) (nI B') (nI m) (nI (gt w (ix w m u))) (nI (sw (ix w m u))) s = gC_Leaving_leavers_6 N f (nI u) (nI r) (nI k) (nI (B' ||| if 0 < dnn w C ta n v k (ix w m u) then 2 ^ gt w (ix w m u) else 0)) (nI (m + 1)) s := by
          intro B'
          by_cases g : 0 < dnn w C ta n v k (ix w m u)
          · rw [eq_false (show ¬ dnn w C ta n v k (ix w m u) ≤ 0 by omega)] at ec
            rw [if_pos g]
            simp (disch := omega) only [Option.bind_some, ↓reduceIte, ↓M_1, ↓M_2, L_0, L_1, L_2, L_3, L_4, L_5, L_6, L_7, L_8, L_9, L_10, L_11, L_12, L_13, L_20, L_24, L_26, L_30, L_31, L_32, L_39, L_40, L_48, L_57, L_76, L_80, L_90, L_91, L_97, L_99, L_100, L_255, L_273, L_1000, L_2000, q_ld, q_ldL, q_sto, q_stoL, q_add, q_sub, q_mul, q_dec, q_rem, q_div, q_lt_t, q_lt_f, q_le_t, q_le_f, q_eq_t, q_eq_f, q_em, q_me, q_ml, q_lm, q_mle, q_lem, q_s1, q_s1o, q_s1k, q_s12, q_s2, q_s2o, q_s2k, q_s21, Nat.add_sub_cancel, q_or, q_and, q_shl, true_or, or_true, false_or, or_false, true_and, and_true, false_and, and_false, not_true_eq_false, not_false_eq_true, ne_eq, gC_Leaving_leavers_105, L_520, r1, l_0, ec, q_or, q_shl, gC_Leaving_leavers_135]
          · rw [eq_true (show dnn w C ta n v k (ix w m u) ≤ 0 by omega)] at ec
            rw [if_neg g, Nat.or_zero]
            simp (disch := omega) only [Option.bind_some, ↓reduceIte, ↓M_1, ↓M_2, L_0, L_1, L_2, L_3, L_4, L_5, L_6, L_7, L_8, L_9, L_10, L_11, L_12, L_13, L_20, L_24, L_26, L_30, L_31, L_32, L_39, L_40, L_48, L_57, L_76, L_80, L_90, L_91, L_97, L_99, L_100, L_255, L_273, L_1000, L_2000, q_ld, q_ldL, q_sto, q_stoL, q_add, q_sub, q_mul, q_dec, q_rem, q_div, q_lt_t, q_lt_f, q_le_t, q_le_f, q_eq_t, q_eq_f, q_em, q_me, q_ml, q_lm, q_mle, q_lem, q_s1, q_s1o, q_s1k, q_s12, q_s2, q_s2o, q_s2k, q_s21, Nat.add_sub_cancel, q_or, q_and, q_shl, true_or, or_true, false_or, or_false, true_and, and_true, false_and, and_false, not_true_eq_false, not_false_eq_true, ne_eq, gC_Leaving_leavers_105, L_520, r1, l_0, ec, gC_Leaving_leavers_135]
        rw [← e105, gC_Leaving_leavers_6]
        by_cases e : k < n ∧ SO w C ta k (ix w m u)
        · rw [if_pos e] at eri
          rw [if_pos e]
          have e1 := e.1
          have r0 := (k1 (k + 1) (by omega) (by omega)).2.2
          simp (disch := omega) only [Option.bind_some, ↓reduceIte, ↓M_1, ↓M_2, L_0, L_1, L_2, L_3, L_4, L_5, L_6, L_7, L_8, L_9, L_10, L_11, L_12, L_13, L_20, L_24, L_26, L_30, L_31, L_32, L_39, L_40, L_48, L_57, L_76, L_80, L_90, L_91, L_97, L_99, L_100, L_255, L_273, L_1000, L_2000, q_ld, q_ldL, q_sto, q_stoL, q_add, q_sub, q_mul, q_dec, q_rem, q_div, q_lt_t, q_lt_f, q_le_t, q_le_f, q_eq_t, q_eq_f, q_em, q_me, q_ml, q_lm, q_mle, q_lem, q_s1, q_s1o, q_s1k, q_s12, q_s2, q_s2o, q_s2k, q_s21, Nat.add_sub_cancel, q_or, q_and, q_shl, true_or, or_true, false_or, or_false, true_and, and_true, false_and, and_false, not_true_eq_false, not_false_eq_true, ne_eq, h.m, ha, h.h hm, eot, ep', eri, r0, q_or]
        · rw [if_neg e] at eri
          rw [if_neg e, Nat.or_zero]
          simp (disch := omega) only [Option.bind_some, ↓reduceIte, ↓M_1, ↓M_2, L_0, L_1, L_2, L_3, L_4, L_5, L_6, L_7, L_8, L_9, L_10, L_11, L_12, L_13, L_20, L_24, L_26, L_30, L_31, L_32, L_39, L_40, L_48, L_57, L_76, L_80, L_90, L_91, L_97, L_99, L_100, L_255, L_273, L_1000, L_2000, q_ld, q_ldL, q_sto, q_stoL, q_add, q_sub, q_mul, q_dec, q_rem, q_div, q_lt_t, q_lt_f, q_le_t, q_le_f, q_eq_t, q_eq_f, q_em, q_me, q_ml, q_lm, q_mle, q_lem, q_s1, q_s1o, q_s1k, q_s12, q_s2, q_s2o, q_s2k, q_s21, Nat.add_sub_cancel, q_or, q_and, q_shl, true_or, or_true, false_or, or_false, true_and, and_true, false_and, and_false, not_true_eq_false, not_false_eq_true, ne_eq, h.m, ha, h.h hm, eot, ep', eri]
      · rw [same (fun z => d (by have := z.2.2; rw [ix_hr] at this; exact this)), gC_Leaving_leavers_6]
        simp (disch := omega) only [Option.bind_some, ↓reduceIte, ↓M_1, ↓M_2, L_0, L_1, L_2, L_3, L_4, L_5, L_6, L_7, L_8, L_9, L_10, L_11, L_12, L_13, L_20, L_24, L_26, L_30, L_31, L_32, L_39, L_40, L_48, L_57, L_76, L_80, L_90, L_91, L_97, L_99, L_100, L_255, L_273, L_1000, L_2000, q_ld, q_ldL, q_sto, q_stoL, q_add, q_sub, q_mul, q_dec, q_rem, q_div, q_lt_t, q_lt_f, q_le_t, q_le_f, q_eq_t, q_eq_f, q_em, q_me, q_ml, q_lm, q_mle, q_lem, q_s1, q_s1o, q_s1k, q_s12, q_s2, q_s2o, q_s2k, q_s21, Nat.add_sub_cancel, q_or, q_and, q_shl, true_or, or_true, false_or, or_false, true_and, and_true, false_and, and_false, not_true_eq_false, not_false_eq_true, ne_eq, h.m, ha, h.h hm, gC_Leaving_leavers_135]
    · rw [if_neg c] at ha
      rw [same (fun z => c z.1), gC_Leaving_leavers_6]
      simp (disch := omega) only [Option.bind_some, ↓reduceIte, ↓M_1, ↓M_2, L_0, L_1, L_2, L_3, L_4, L_5, L_6, L_7, L_8, L_9, L_10, L_11, L_12, L_13, L_20, L_24, L_26, L_30, L_31, L_32, L_39, L_40, L_48, L_57, L_76, L_80, L_90, L_91, L_97, L_99, L_100, L_255, L_273, L_1000, L_2000, q_ld, q_ldL, q_sto, q_stoL, q_add, q_sub, q_mul, q_dec, q_rem, q_div, q_lt_t, q_lt_f, q_le_t, q_le_f, q_eq_t, q_eq_f, q_em, q_me, q_ml, q_lm, q_mle, q_lem, q_s1, q_s1o, q_s1k, q_s12, q_s2, q_s2o, q_s2k, q_s21, Nat.add_sub_cancel, q_or, q_and, q_shl, true_or, or_true, false_or, or_false, true_and, and_true, false_and, and_false, not_true_eq_false, not_false_eq_true, ne_eq, h.m, ha, gC_Leaving_leavers_135]
  · show gC_Leaving_leavers_6 N (f + 1) (nI u) (nI r) (nI k) (nI (wrP (fun i => ∃ o, o < 2 * w 5 1 ∧ beg w u r o ∧ Pv w C ta n v k o i) (w 5 0))) (nI (w 5 1)) s = _
    rw [gC_Leaving_leavers_6]
    simp (disch := omega) only [Option.bind_some, ↓reduceIte, ↓M_1, ↓M_2, L_0, L_1, L_2, L_3, L_4, L_5, L_6, L_7, L_8, L_9, L_10, L_11, L_12, L_13, L_20, L_24, L_26, L_30, L_31, L_32, L_39, L_40, L_48, L_57, L_76, L_80, L_90, L_91, L_97, L_99, L_100, L_255, L_273, L_1000, L_2000, q_ld, q_ldL, q_sto, q_stoL, q_add, q_sub, q_mul, q_dec, q_rem, q_div, q_lt_t, q_lt_f, q_le_t, q_le_f, q_eq_t, q_eq_f, q_em, q_me, q_ml, q_lm, q_mle, q_lem, q_s1, q_s1o, q_s1k, q_s12, q_s2, q_s2o, q_s2k, q_s21, Nat.add_sub_cancel, q_or, q_and, q_shl, true_or, or_true, false_or, or_false, true_and, and_true, false_and, and_false, not_true_eq_false, not_false_eq_true, ne_eq, h.m]
/-- what else is kept -/
def CMk (w : Nat → Nat → Nat) (a : Nat) (s z : vSt) : Prop := ∀ o, o < 2 * w 5 1 → o ≠ a → ∀ k, k ≤ 12 → z.2 53 (k * 40 + sw o) = s.2 53 (k * 40 + sw o) ∧ z.2 53 (520 + k * 40 + sw o) = s.2 53 (520 + k * 40 + sw o) ∧ z.1 54 (k * 40 + sw o) = s.1 54 (k * 40 + sw o)
theorem CMk.tr {a : Nat} {s z y : vSt} (h : CMk w a s z) (g : CMk w a z y) : CMk w a s y := fun o ho ne k hk => by
  obtain ⟨h1, h2, h3⟩ := h o ho ne k hk
  obtain ⟨g1, g2, g3⟩ := g o ho ne k hk
  exact ⟨g1.trans h1, g2.trans h2, g3.trans h3⟩
theorem CMo.kp {a o : Nat} {s z : vSt} (h : CMo w C ta n v o s) (hn : n ≤ 12) (g : CMk w a s z) (ho : o < 2 * w 5 1) (ne : o ≠ a) : CMo w C ta n v o z := fun k k1 k2 => by
  obtain ⟨h1, h2, h3⟩ := h k k1 k2
  obtain ⟨g1, g2, g3⟩ := g o ho ne k (by omega)
  exact ⟨g1.trans h1, g2.trans h2, g3.trans h3⟩
theorem CMk.w0 (hM : w 5 1 ≤ 20) (ha : a < 2 * w 5 1) (hk : k ≤ 12) {y : Int64} : CMk w a s (s2 s 53 (k * 40 + sw a) y) := fun o ho ne k' hk' => by
  have h1 := sw_lt ho
  have h2 := sw_lt ha
  have h3 := sw_ne ne
  exact ⟨q_s2k (by omega), q_s2k (by omega), rfl⟩
theorem CMk.w1 (hM : w 5 1 ≤ 20) (ha : a < 2 * w 5 1) (hk : k ≤ 12) {y : Int64} : CMk w a s (s2 s 53 (520 + k * 40 + sw a) y) := fun o ho ne k' hk' => by
  have h1 := sw_lt ho
  have h2 := sw_lt ha
  have h3 := sw_ne ne
  exact ⟨q_s2k (by omega), q_s2k (by omega), rfl⟩
theorem CMk.w2 (hM : w 5 1 ≤ 20) (ha : a < 2 * w 5 1) (hk : k ≤ 12) {y : Int32} : CMk w a s (s1 s 54 (k * 40 + sw a) y) := fun o ho ne k' hk' => by
  have h1 := sw_lt ho
  have h2 := sw_lt ha
  have h3 := sw_ne ne
  exact ⟨rfl, rfl, q_s1k (by omega)⟩
theorem CJ.fr {L K : List Nat} {s z : vSt} (h : CJ w C ta n v s) (f : Fr L K s z) (h1 : 46 ∉ L ∧ 47 ∉ L) : CJ w C ta n v z := by
  unfold CJ at h ⊢
  rw [f.1 46 h1.1, f.1 47 h1.2]; exact h
theorem C_countAtL (h : CW w s) (hN : 60 ≤ N) (hJ : CJ w C ta n v s) (hv : v < w 5 0) (ha : a < 2 * w 5 1) (h4 : s.1 52 4 = nI n) (h5 : s.1 52 5 = nI v) (hT : ∀ o, o < 2 * w 5 1 → fol w o a → CMo w C ta n v o s) :
    ∃ z, fC_Leaving_countAt N (nI (sw a)) s = some z ∧ Fr [54] [53] s z ∧ CMo w C ta n v a z ∧ CMk w a s z := by
  have hb := h.bd
  have hn := hJ.1
  have eg := C_getter (N := N) h ha
  have er := C_ready (N := N) h ha
  have hg := gt_lt h.ok ha
  have hrd := rd_le h.ok ha
  have hsa := sw_lt ha
  have st : fC_Leaving_countAt N (nI (sw a)) s = gC_Leaving_countAt_21 N N (nI (sw a)) (nI (gt w a)) (nI (rd w a)) (nI (0 + 1)) s := by
    simp (disch := omega) only [Option.bind_some, ↓reduceIte, ↓M_1, ↓M_2, L_0, L_1, L_2, L_3, L_4, L_5, L_6, L_7, L_8, L_9, L_10, L_11, L_12, L_13, L_20, L_24, L_26, L_30, L_31, L_32, L_39, L_40, L_48, L_57, L_76, L_80, L_90, L_91, L_97, L_99, L_100, L_255, L_273, L_1000, L_2000, q_ld, q_ldL, q_sto, q_stoL, q_add, q_sub, q_mul, q_dec, q_rem, q_div, q_lt_t, q_lt_f, q_le_t, q_le_f, q_eq_t, q_eq_f, q_em, q_me, q_ml, q_lm, q_mle, q_lem, q_s1, q_s1o, q_s1k, q_s12, q_s2, q_s2o, q_s2k, q_s21, Nat.add_sub_cancel, q_or, q_and, q_shl, true_or, or_true, false_or, or_false, true_and, and_true, false_and, and_false, not_true_eq_false, not_false_eq_true, ne_eq, fC_Leaving_countAt, gC_Leaving_countAt_0, eg, er]
  rw [st]
  refine loopU (fun f i z => gC_Leaving_countAt_21 N f (nI (sw a)) (nI (gt w a)) (nI (rd w a)) (nI (i + 1)) z) n (fun i z => i ≤ n ∧ Fr [54] [53] s z ∧ (∀ k, 0 < k → k ≤ i → z.2 53 (k * 40 + sw a) = lN (lss w C ta n v 100 k a) ∧ z.2 53 (520 + k * 40 + sw a) = lN (dnn w C ta n v k a) ∧ z.1 54 (k * 40 + sw a) = nI (wrP (fun i => 0 < lss w C ta n v i k a) (w 5 0))) ∧ CMk w a s z)
    (fun o => ∃ z, o = some z ∧ Fr [54] [53] s z ∧ CMo w C ta n v a z ∧ CMk w a s z) ?_ ?_ n N 0 s (by omega) (by omega) ⟨by omega, Fr.rf, fun k h1 h2 => by omega, fun o _ _ k _ => ⟨rfl, rfl, rfl⟩⟩
  · rintro f i z hi ⟨g1, g2, g3, g4⟩
    have z4 : z.1 52 4 = nI n := by rw [g2.1 52 (by decide)]; exact h4
    have z5 : z.1 52 5 = nI v := by rw [g2.1 52 (by decide)]; exact h5
    have hTz : ∀ y : vSt, CMk w a s y → ∀ o, o < 2 * w 5 1 → beg w (gt w a) (rd w a) o → CMo w C ta n v o y := fun y hy o ho hbg => (hT o ho hbg).kp hn hy ho (fun e => by
      rw [e] at hbg
      exact gv_ne h.ok ha hbg.1)
    have hk : 0 < i + 1 ∧ i + 1 ≤ n := ⟨by omega, by omega⟩
    obtain ⟨za, hza⟩ : ∃ za, za = s2 z 53 ((i + 1) * 40 + sw a) (lN (lss w C ta n v 100 (i + 1) a)) := ⟨_, rfl⟩
    obtain ⟨zb, hzb⟩ : ∃ zb, zb = s2 za 53 (520 + (i + 1) * 40 + sw a) (lN (dnn w C ta n v (i + 1) a)) := ⟨_, rfl⟩
    obtain ⟨zc, hzc⟩ : ∃ zc, zc = s1 zb 54 ((i + 1) * 40 + sw a) (nI (wrP (fun i' => 0 < lss w C ta n v i' (i + 1) a) (w 5 0))) := ⟨_, rfl⟩
    have fa : Fr [54] [53] s za := by rw [hza]; exact g2.tr (Fr.s2 (by decide))
    have fb : Fr [54] [53] s zb := by rw [hzb]; exact fa.tr (Fr.s2 (by decide))
    have fc : Fr [54] [53] s zc := by rw [hzc]; exact fb.tr (Fr.s1 (by decide))
    have ka : CMk w a s za := by rw [hza]; exact g4.tr (CMk.w0 hb.2 ha (by omega))
    have kb : CMk w a s zb := by rw [hzb]; exact ka.tr (CMk.w1 hb.2 ha (by omega))
    have kc : CMk w a s zc := by rw [hzc]; exact kb.tr (CMk.w2 hb.2 ha (by omega))
    have e0 := C_wl0 (N := N) (h.fr g2 (by decide)) hN (hJ.fr g2 (by decide)) hg (show rd w a < 1000 by omega) hk (hTz z g4)
    have e1 := C_wl1 (N := N) (h.fr fa (by decide)) hN (hJ.fr fa (by decide)) hg (show rd w a < 1000 by omega) hk (hTz za ka)
    have e2 := C_leaversL (N := N) (h.fr fb (by decide)) hN (hJ.fr fb (by decide)) hg (show rd w a < 1000 by omega) hk (hTz zb kb)
    rw [← lss_eq hk.2] at e0
    have eW : wrP (fun i' => ∃ o, o < 2 * w 5 1 ∧ beg w (gt w a) (rd w a) o ∧ Pv w C ta n v (i + 1) o i') (w 5 0) = wrP (fun i' => 0 < lss w C ta n v i' (i + 1) a) (w 5 0) := wrP_eq fun i' hi' => by
      rw [lss_eq hk.2]
      exact (wyE_pos (by omega)).symm
    rw [eW] at e2
    have eD := dnn_eq (w := w) (C := C) (ta := ta) (v := v) (s := a) hk.2
    have i0 : (nI 0).toInt64 = lN 0 := by decide
    have i1 : (nI 1).toInt64 = lN 1 := by decide
    refine Or.inl ⟨zc, ?_, by omega, fc, fun k k1 k2 => ?_, kc⟩
    · show gC_Leaving_countAt_21 N (f + 1) (nI (sw a)) (nI (gt w a)) (nI (rd w a)) (nI (i + 1)) z = gC_Leaving_countAt_21 N f (nI (sw a)) (nI (gt w a)) (nI (rd w a)) (nI (i + 1 + 1)) zc
      rw [eD] at hzb
      by_cases c : i + 1 = n ∧ gt w a = v
      · rw [if_pos c, ← lN_add] at hzb
        have c1 := c.1
        have c2 := c.2
        have z4' : z.1 52 4 = nI (i + 1) := by rw [z4, c1]
        rw [hzc, hzb, hza, gC_Leaving_countAt_21]
        rw [hza] at e1
        rw [hzb, hza] at e2
        simp (disch := omega) only [Option.bind_some, ↓reduceIte, ↓M_1, ↓M_2, L_0, L_1, L_2, L_3, L_4, L_5, L_6, L_7, L_8, L_9, L_10, L_11, L_12, L_13, L_20, L_24, L_26, L_30, L_31, L_32, L_39, L_40, L_48, L_57, L_76, L_80, L_90, L_91, L_97, L_99, L_100, L_255, L_273, L_1000, L_2000, q_ld, q_ldL, q_sto, q_stoL, q_add, q_sub, q_mul, q_dec, q_rem, q_div, q_lt_t, q_lt_f, q_le_t, q_le_f, q_eq_t, q_eq_f, q_em, q_me, q_ml, q_lm, q_mle, q_lem, q_s1, q_s1o, q_s1k, q_s12, q_s2, q_s2o, q_s2k, q_s21, Nat.add_sub_cancel, q_or, q_and, q_shl, true_or, or_true, false_or, or_false, true_and, and_true, false_and, and_false, not_true_eq_false, not_false_eq_true, ne_eq, z4', z5, gC_Leaving_countAt_52, e0, gC_Leaving_countAt_100, L_520, e1, i1, e2]
      · rw [if_neg c, ← lN_add] at hzb
        rw [hzc, hzb, hza, gC_Leaving_countAt_21]
        rw [hza] at e1
        rw [hzb, hza] at e2
        by_cases c1 : i + 1 = n
        · have c2 : ¬ gt w a = v := fun z => c ⟨c1, z⟩
          have z4' : z.1 52 4 = nI (i + 1) := by rw [z4, c1]
          simp (disch := omega) only [Option.bind_some, ↓reduceIte, ↓M_1, ↓M_2, L_0, L_1, L_2, L_3, L_4, L_5, L_6, L_7, L_8, L_9, L_10, L_11, L_12, L_13, L_20, L_24, L_26, L_30, L_31, L_32, L_39, L_40, L_48, L_57, L_76, L_80, L_90, L_91, L_97, L_99, L_100, L_255, L_273, L_1000, L_2000, q_ld, q_ldL, q_sto, q_stoL, q_add, q_sub, q_mul, q_dec, q_rem, q_div, q_lt_t, q_lt_f, q_le_t, q_le_f, q_eq_t, q_eq_f, q_em, q_me, q_ml, q_lm, q_mle, q_lem, q_s1, q_s1o, q_s1k, q_s12, q_s2, q_s2o, q_s2k, q_s21, Nat.add_sub_cancel, q_or, q_and, q_shl, true_or, or_true, false_or, or_false, true_and, and_true, false_and, and_false, not_true_eq_false, not_false_eq_true, ne_eq, z4', z5, gC_Leaving_countAt_51, gC_Leaving_countAt_52, e0, gC_Leaving_countAt_100, L_520, e1, i0, e2]
        · simp (disch := omega) only [Option.bind_some, ↓reduceIte, ↓M_1, ↓M_2, L_0, L_1, L_2, L_3, L_4, L_5, L_6, L_7, L_8, L_9, L_10, L_11, L_12, L_13, L_20, L_24, L_26, L_30, L_31, L_32, L_39, L_40, L_48, L_57, L_76, L_80, L_90, L_91, L_97, L_99, L_100, L_255, L_273, L_1000, L_2000, q_ld, q_ldL, q_sto, q_stoL, q_add, q_sub, q_mul, q_dec, q_rem, q_div, q_lt_t, q_lt_f, q_le_t, q_le_f, q_eq_t, q_eq_f, q_em, q_me, q_ml, q_lm, q_mle, q_lem, q_s1, q_s1o, q_s1k, q_s12, q_s2, q_s2o, q_s2k, q_s21, Nat.add_sub_cancel, q_or, q_and, q_shl, true_or, or_true, false_or, or_false, true_and, and_true, false_and, and_false, not_true_eq_false, not_false_eq_true, ne_eq, z4, gC_Leaving_countAt_51, gC_Leaving_countAt_52, e0, gC_Leaving_countAt_100, L_520, e1, i0, e2]
    · by_cases c : k = i + 1
      · subst c
        refine ⟨?_, ?_, ?_⟩
        · rw [hzc, q_s12, hzb, q_s2k (by omega), hza, q_s2]
        · rw [hzc, q_s12, hzb, q_s2]
        · rw [hzc, q_s1]
      · obtain ⟨x1, x2, x3⟩ := g3 k k1 (by omega)
        refine ⟨?_, ?_, ?_⟩
        · rw [hzc, q_s12, hzb, q_s2k (by omega), hza, q_s2k (by omega)]; exact x1
        · rw [hzc, q_s12, hzb, q_s2k (by omega), hza, q_s2k (by omega)]; exact x2
        · rw [hzc, q_s1k (by omega), hzb, q_s21, hza, q_s21]; exact x3
  · rintro f z ⟨g1, g2, g3, g4⟩
    have z4 : z.1 52 4 = nI n := by rw [g2.1 52 (by decide)]; exact h4
    refine ⟨z, ?_, g2, fun k k1 k2 => g3 k k1 k2, g4⟩
    show gC_Leaving_countAt_21 N (f + 1) (nI (sw a)) (nI (gt w a)) (nI (rd w a)) (nI (n + 1)) z = _
    rw [gC_Leaving_countAt_21]
    simp (disch := omega) only [Option.bind_some, ↓reduceIte, ↓M_1, ↓M_2, L_0, L_1, L_2, L_3, L_4, L_5, L_6, L_7, L_8, L_9, L_10, L_11, L_12, L_13, L_20, L_24, L_26, L_30, L_31, L_32, L_39, L_40, L_48, L_57, L_76, L_80, L_90, L_91, L_97, L_99, L_100, L_255, L_273, L_1000, L_2000, q_ld, q_ldL, q_sto, q_stoL, q_add, q_sub, q_mul, q_dec, q_rem, q_div, q_lt_t, q_lt_f, q_le_t, q_le_f, q_eq_t, q_eq_f, q_em, q_me, q_ml, q_lm, q_mle, q_lem, q_s1, q_s1o, q_s1k, q_s12, q_s2, q_s2o, q_s2k, q_s21, Nat.add_sub_cancel, q_or, q_and, q_shl, true_or, or_true, false_or, or_false, true_and, and_true, false_and, and_false, not_true_eq_false, not_false_eq_true, ne_eq, z4]
theorem C_countAllL (hN : 100 ≤ N) (h : CW w s) (hU : UC C s) (hn : s.1 5 1 = nI n) (hn0 : 0 < n) (hT : CT 6 n ta s) (hv : v < w 5 0) (hd : ∀ k a, 0 < k → k < n → a < 2 * w 5 1 → C.length = 0 ∨ ∃ v, Den (SOE w ta a k) C v) :
    ∃ z, fC_Leaving_countAll_told N (nI v) s = some z ∧ Fr [17, 19, 20, 46, 47, 52, 54] [53] s z ∧ z.1 17 1 = s.1 17 1 ∧ CJ w C ta n v z ∧ ∀ o, o < 2 * w 5 1 → CMo w C ta n v o z := by
  have hb := h.bd
  have hn12 := hT.1
  obtain ⟨s0, a1, a2, a3, a4, a5, a6⟩ := C_judge_told (N := N) (v := v) hN h hU hn hn0 hT hd
  have hJ0 : CJ w C ta n v s0 := ⟨hn12, a4, a5, a6⟩
  have s05 : s0.1 5 1 = nI n := by rw [a2.1 5 (by decide)]; exact hn
  have h0 : CW w s0 := h.fr a2 (by decide)
  obtain ⟨y0, hy0⟩ : ∃ y0, y0 = s1 (s1 s0 52 4 (nI n)) 52 5 (nI v) := ⟨_, rfl⟩
  have f0 : Fr [52] [] s0 y0 := by rw [hy0]; exact (Fr.s1 (by decide)).tr (Fr.s1 (by decide))
  have y4 : y0.1 52 4 = nI n := by rw [hy0, q_s1k (by decide), q_s1]
  have y5 : y0.1 52 5 = nI v := by rw [hy0, q_s1]
  have em : nI (w 5 1) - nI 1 = nI (w 5 1) + mI 1 := Int32.sub_eq_add_neg _ _
  have st : fC_Leaving_countAll_told N (nI v) s = gC_Leaving_countAll_told_32 N N (nI (w 5 1) + mI 1) y0 := by
    rw [hy0]
    simp (disch := omega) only [Option.bind_some, ↓reduceIte, ↓M_1, ↓M_2, L_0, L_1, L_2, L_3, L_4, L_5, L_6, L_7, L_8, L_9, L_10, L_11, L_12, L_13, L_20, L_24, L_26, L_30, L_31, L_32, L_39, L_40, L_48, L_57, L_76, L_80, L_90, L_91, L_97, L_99, L_100, L_255, L_273, L_1000, L_2000, q_ld, q_ldL, q_sto, q_stoL, q_add, q_mul, q_rem, q_div, q_lt_t, q_lt_f, q_le_t, q_le_f, q_eq_t, q_eq_f, q_em, q_me, q_ml, q_lm, q_mle, q_lem, q_s1, q_s1o, q_s1k, q_s12, q_s2, q_s2o, q_s2k, q_s21, Nat.add_sub_cancel, q_or, q_and, q_shl, true_or, or_true, false_or, or_false, true_and, and_true, false_and, and_false, not_true_eq_false, not_false_eq_true, ne_eq, fC_Leaving_countAll_told, gC_Leaving_countAll_told_0, a1, s05, h0.m, em]
  rw [st]
  refine loopD (fun f i z => gC_Leaving_countAll_told_32 N f (nI i + mI 1) z) (w 5 1) (fun i z => i ≤ w 5 1 ∧ Fr [54] [53] y0 z ∧ ∀ j o, j < w 5 1 → i ≤ j → o < 2 * w 5 1 → o / 2 = w 6 j → CMo w C ta n v o z)
    (fun o => ∃ z, o = some z ∧ Fr [17, 19, 20, 46, 47, 52, 54] [53] s z ∧ z.1 17 1 = s.1 17 1 ∧ CJ w C ta n v z ∧ ∀ o, o < 2 * w 5 1 → CMo w C ta n v o z) ?_ ?_ (w 5 1) N y0 (Nat.le_refl _) (by omega) ⟨Nat.le_refl _, Fr.rf, fun j o h1 h2 => by omega⟩
  · rintro f i z hi ⟨g1, g2, g3⟩
    have fz : Fr [17, 19, 20, 46, 47, 52, 54] [53] s z := (a2.mono (by decide) (by decide)).tr ((f0.mono (by decide) (by decide)).tr (g2.mono (by decide) (by decide)))
    have hz : CW w z := h.fr fz (by decide)
    have hJz : CJ w C ta n v z := (hJ0.fr f0 (by decide)).fr g2 (by decide)
    have e1 : nI (i + 1) + mI 1 = nI i := q_dec (by omega)
    have hm := h.or.1 i hi
    have eo : z.1 15 i = nI (w 6 i) := hz.o hi
    have z4 : z.1 52 4 = nI n := by rw [g2.1 52 (by decide)]; exact y4
    have z5 : z.1 52 5 = nI v := by rw [g2.1 52 (by decide)]; exact y5
    have late : ∀ a, a < 2 * w 5 1 → a / 2 = w 6 i → ∀ o, o < 2 * w 5 1 → fol w o a → o / 2 ≠ w 6 i ∧ CMo w C ta n v o z := fun a ha1 ha2 o ho hbg => by
      have hlt := Nat.lt_of_lt_of_le (rd_gt h.ok ha1) hbg.2
      have hne : o / 2 ≠ w 6 i := fun y => by
        unfold hr at hlt
        rw [ha2, y] at hlt
        exact absurd hlt (Nat.lt_irrefl _)
      obtain ⟨j, j1, j2⟩ := h.or.2.2 (o / 2) (by omega)
      have hkj : i < j := by
        rcases Nat.lt_trichotomy i j with d | d | d
        · exact d
        · subst d; exact absurd j2.symm hne
        · have := h.or.2.1 j i d hi
          rw [j2, ← ha2] at this
          unfold hr at hlt
          omega
      exact ⟨hne, g3 j o j1 (by omega) ho j2.symm⟩
    have ha0 : 2 * w 6 i + 1 < 2 * w 5 1 := by omega
    have ha1 : 2 * w 6 i < 2 * w 5 1 := by omega
    obtain ⟨p, p1, p2, p3, p4⟩ := C_countAtL (N := N) (a := 2 * w 6 i + 1) hz (by omega) hJz hv ha0 z4 z5 (fun o ho hf => (late _ ha0 (by omega) o ho hf).2)
    rw [sw_1] at p1
    have hp : CW w p := hz.fr p2 (by decide)
    obtain ⟨q, q1, q2, q3, q4⟩ := C_countAtL (N := N) (a := 2 * w 6 i) hp (by omega) (hJz.fr p2 (by decide)) hv ha1 (by rw [p2.1 52 (by decide)]; exact z4) (by rw [p2.1 52 (by decide)]; exact z5) (fun o ho hf => by
      obtain ⟨l1, l2⟩ := late _ ha1 (by omega) o ho hf
      exact l2.kp hn12 p4 ho (fun e => l1 (by omega)))
    rw [sw_0] at q1
    refine Or.inl ⟨q, ?_, by omega, (g2.tr p2).tr q2, fun j o j1 j2 o1 o2 => ?_⟩
    · try simp only [e1]
      rw [gC_Leaving_countAll_told_32]
      simp (disch := omega) only [Option.bind_some, ↓reduceIte, ↓M_1, ↓M_2, L_0, L_1, L_2, L_3, L_4, L_5, L_6, L_7, L_8, L_9, L_10, L_11, L_12, L_13, L_20, L_24, L_26, L_30, L_31, L_32, L_39, L_40, L_48, L_57, L_76, L_80, L_90, L_91, L_97, L_99, L_100, L_255, L_273, L_1000, L_2000, q_ld, q_ldL, q_sto, q_stoL, q_add, q_sub, q_mul, q_rem, q_div, q_lt_t, q_lt_f, q_le_t, q_le_f, q_eq_t, q_eq_f, q_em, q_me, q_ml, q_lm, q_mle, q_lem, q_s1, q_s1o, q_s1k, q_s12, q_s2, q_s2o, q_s2k, q_s21, Nat.add_sub_cancel, q_or, q_and, q_shl, true_or, or_true, false_or, or_false, true_and, and_true, false_and, and_false, not_true_eq_false, not_false_eq_true, ne_eq, eo, p1, q1]
    · by_cases d : j = i
      · subst d
        have oo : o = 2 * w 6 j ∨ o = 2 * w 6 j + 1 := by omega
        rcases oo with oo | oo
        · rw [oo]; exact q3
        · rw [oo]; exact p3.kp hn12 q4 (by omega) (by omega)
      · have hne : o / 2 ≠ w 6 i := fun y => by
          rcases Nat.lt_trichotomy j i with g | g | g
          · omega
          · exact d g
          · have := h.or.2.1 i j g j1
            rw [← o2, y] at this
            omega
        exact ((g3 j o j1 (by omega) o1 o2).kp hn12 p4 o1 (by omega)).kp hn12 q4 o1 (by omega)
  · rintro f z ⟨g1, g2, g3⟩
    have fz : Fr [17, 19, 20, 46, 47, 52, 54] [53] s z := (a2.mono (by decide) (by decide)).tr ((f0.mono (by decide) (by decide)).tr (g2.mono (by decide) (by decide)))
    refine ⟨z, ?_, fz, by rw [g2.1 17 (by decide), f0.1 17 (by decide)]; exact a3, (hJ0.fr f0 (by decide)).fr g2 (by decide), fun o ho => by
      obtain ⟨j, j1, j2⟩ := h.or.2.2 (o / 2) (by omega)
      exact g3 j o j1 (by omega) ho j2.symm⟩
    show gC_Leaving_countAll_told_32 N (f + 1) (nI 0 + mI 1) z = _
    rw [gC_Leaving_countAll_told_32, if_pos (by decide)]
theorem k_missing (hN : 200 ≤ N) : keeps3L N (RR (UR N)) fC_EachAddsALine_missing fM_EachAddsALineModel_missing := by
  refine keeps3L_trip (okUR N) (fun w s a b c hw e => by simp (disch := omega) only [Option.bind_some, ↓reduceIte, ↓M_1, ↓M_2, L_0, L_1, L_2, L_3, L_4, L_5, L_6, L_7, L_8, L_9, L_10, L_11, L_12, L_13, L_20, L_24, L_26, L_30, L_31, L_32, L_39, L_40, L_48, L_57, L_76, L_80, L_90, L_91, L_97, L_99, L_100, L_255, L_273, L_1000, L_2000, q_ld, q_ldL, q_sto, q_stoL, q_add, q_sub, q_mul, q_dec, q_rem, q_div, q_lt_t, q_lt_f, q_le_t, q_le_f, q_eq_t, q_eq_f, q_em, q_me, q_ml, q_lm, q_mle, q_lem, q_s1, q_s1o, q_s1k, q_s12, q_s2, q_s2o, q_s2k, q_s21, Nat.add_sub_cancel, q_or, q_and, q_shl, true_or, or_true, false_or, or_false, true_and, and_true, false_and, and_false, not_true_eq_false, not_false_eq_true, ne_eq, fC_EachAddsALine_missing, gC_EachAddsALine_missing_0, e]) (fun w t a b c hw e => by simp (disch := omega) only [Option.bind_some, ↓reduceIte, ↓M_1, ↓M_2, L_0, L_1, L_2, L_3, L_4, L_5, L_6, L_7, L_8, L_9, L_10, L_11, L_12, L_13, L_20, L_24, L_26, L_30, L_31, L_32, L_39, L_40, L_48, L_57, L_76, L_80, L_90, L_91, L_97, L_99, L_100, L_255, L_273, L_1000, L_2000, q_ld, q_ldL, q_sto, q_stoL, q_add, q_sub, q_mul, q_dec, q_rem, q_div, q_lt_t, q_lt_f, q_le_t, q_le_f, q_eq_t, q_eq_f, q_em, q_me, q_ml, q_lm, q_mle, q_lem, q_s1, q_s1o, q_s1k, q_s12, q_s2, q_s2o, q_s2k, q_s21, Nat.add_sub_cancel, q_or, q_and, q_shl, true_or, or_true, false_or, or_false, true_and, and_true, false_and, and_false, not_true_eq_false, not_false_eq_true, ne_eq, fM_EachAddsALineModel_missing, gM_EachAddsALineModel_missing_0, e]) (fun s t w u v k hr h1 h2 hu hv hk ec em => ?_)
  have hb := h1.bd
  have hmc := hr.mc.r
  have h2' := M_rd0 h2 (nI 0)
  obtain ⟨_, _, _, _, _, h5, _, _, h8, _⟩ := id hr
  obtain ⟨n, ta, hn1, hn2, hC, hM⟩ := h5.get
  have hn := hC.1
  have f11 : Fm [] [] [11] t (s1 t 0 11 (nI 0)) := Fm.w10 (by decide)
  have t40 : (s1 t 0 11 (nI 0)).1 0 40 = nI n := by rw [f11.2.2 40 (by decide)]; exact hn2
  by_cases c0 : n = 0
  · subst c0
    refine ⟨(-2 : Int64), s, s1 t 0 11 (nI 0), ?_, ?_, hr.k0 (okUR N)⟩
    · simp (disch := omega) only [Option.bind_some, ↓reduceIte, ↓M_1, ↓M_2, L_0, L_1, L_2, L_3, L_4, L_5, L_6, L_7, L_8, L_9, L_10, L_11, L_12, L_13, L_20, L_24, L_26, L_30, L_31, L_32, L_39, L_40, L_48, L_57, L_76, L_80, L_90, L_91, L_97, L_99, L_100, L_255, L_273, L_1000, L_2000, q_ld, q_ldL, q_sto, q_stoL, q_add, q_sub, q_mul, q_dec, q_rem, q_div, q_lt_t, q_lt_f, q_le_t, q_le_f, q_eq_t, q_eq_f, q_em, q_me, q_ml, q_lm, q_mle, q_lem, q_s1, q_s1o, q_s1k, q_s12, q_s2, q_s2o, q_s2k, q_s21, Nat.add_sub_cancel, q_or, q_and, q_shl, true_or, or_true, false_or, or_false, true_and, and_true, false_and, and_false, not_true_eq_false, not_false_eq_true, ne_eq, fC_EachAddsALine_missing, gC_EachAddsALine_missing_0, ec, hn1]
    · simp (disch := omega) only [Option.bind_some, ↓reduceIte, ↓M_1, ↓M_2, L_0, L_1, L_2, L_3, L_4, L_5, L_6, L_7, L_8, L_9, L_10, L_11, L_12, L_13, L_20, L_24, L_26, L_30, L_31, L_32, L_39, L_40, L_48, L_57, L_76, L_80, L_90, L_91, L_97, L_99, L_100, L_255, L_273, L_1000, L_2000, q_ld, q_ldL, q_sto, q_stoL, q_add, q_sub, q_mul, q_dec, q_rem, q_div, q_lt_t, q_lt_f, q_le_t, q_le_f, q_eq_t, q_eq_f, q_em, q_me, q_ml, q_lm, q_mle, q_lem, q_s1, q_s1o, q_s1k, q_s12, q_s2, q_s2o, q_s2k, q_s21, Nat.add_sub_cancel, q_or, q_and, q_shl, true_or, or_true, false_or, or_false, true_and, and_true, false_and, and_false, not_true_eq_false, not_false_eq_true, ne_eq, fM_EachAddsALineModel_missing, gM_EachAddsALineModel_missing_0, em, hn2]
  · obtain ⟨q, x, C, u1, u2⟩ := h8.get
    have hU' := u1.fm f11 (by decide) (by decide)
    have hM' := hM.fm f11 (by decide)
    have hd := tale_den (N := N) (by omega) h2' hU' hM' (by omega)
    have e44 : (s1 t 0 11 (nI 0)).1 0 44 = gI 100 := by rw [f11.2.2 44 (by decide)]; exact hmc.2.2.2
    -- the class
    obtain ⟨y, y1, y2, y3, y4, y5⟩ := C_countAllL (N := N) (v := v) (by omega) h1 u2 hn1 (by omega) hC hv hd
    have hy : CW w y := h1.fr y2 (by decide)
    obtain ⟨B, hB⟩ : ∃ B, B = wrP (fun i => ∃ o, o < 2 * w 5 1 ∧ beg w u k o ∧ Pv w C ta n v 1 o i) (w 5 0) := ⟨_, rfl⟩
    obtain ⟨c1, v1, v2⟩ := C_clear_row (N := N) (q := fun _ => nI B) (s := y)
    have kp : ∀ z : vSt, Fr [3, 4] [] y z → ∀ o, o < 2 * w 5 1 → beg w u k o → CMo w C ta n v o z := fun z fz o ho _ k' k1 k2 => by
      rw [fz.2 53 (by decide), fz.1 54 (by decide)]
      exact y5 o ho k' k1 k2
    have e1 := C_leaversL (N := N) (u := u) (r := k) (k := 1) (hy.fr v2.1 (by decide)) (by omega) (y4.fr v2.1 (by decide)) hu (by omega) ⟨by omega, by omega⟩ (kp c1 v2.1)
    rw [← hB] at e1
    obtain ⟨c2, v3, v4⟩ := C_add_row (N := N) v2 (x := nI B) rfl
    have e2 := C_wl0 (N := N) (u := u) (r := k) (k := 1) (hy.fr v4.1 (by decide)) (by omega) (y4.fr v4.1 (by decide)) hu (by omega) ⟨by omega, by omega⟩ (kp c2 v4.1)
    -- the reference
    obtain ⟨z, z1, z2⟩ := M_countMissing (N := N) (no := 100) (u := u) (v := v) (r := k) h2' hN hU' hM' (by omega) t40 e44 (by omega) hu hv (by omega)
    have hz : MW w z := h2'.fm z2 (by decide) (by decide)
    obtain ⟨z', m1, m2⟩ := M_miss45 (N := N) (u := u) (v := v) (r := k) (A := wy w (tE w C ta n v 100 1) u k (2 * w 5 1)) hz hN (hU'.fm z2 (by decide) (by decide)) (hM'.fm z2 (by decide)) (by omega) ((z2.2.2 40 (by decide)).trans t40) hu hv (by omega)
    rw [← hB] at m1
    have f44 : Fm [] [] [44] z' (s1 z' 0 44 (mI 1)) := Fm.w10 (by decide)
    obtain ⟨d2, v5, v6⟩ := M_tell (N := N) (Rm.nil (q := fun _ => nI B) (t := s1 z' 0 44 (mI 1))) (by omega) (x := nI B) rfl
    rw [v5, Option.bind_some] at m1
    have fC : Fr [3, 4, 17, 19, 20, 46, 47, 52, 54] [53] s c2 := (y2.mono (by decide) (by decide)).tr (v4.1.mono (by decide) (by decide))
    have fM : Fm [7, 11] [17, 18] [10, 11, 12, 13, 14, 15, 16, 19, 20, 21, 22, 23, 24, 25, 26, 30, 44] t d2 := (f11.mono (by decide) (by decide) (by decide)).tr ((z2.mono (by decide) (by decide) (by decide)).tr ((m2.mono (by decide) (by decide) (by decide)).tr ((f44.mono (by decide) (by decide) (by decide)).tr (v6.1.mono (by decide) (by decide) (by decide)))))
    have h17 : c2.1 17 1 = s.1 17 1 := by rw [v4.1.1 17 (by decide)]; exact y3
    have k44 : d2.1 0 44 = mI 1 := by rw [v6.1.2.2 44 (by decide), q_s1]
    refine ⟨lN (wy w (tE w C ta n v 100 1) u k (2 * w 5 1)), c2, d2, ?_, ?_, hr.rm (RO.of v4 v6) (UR.put (u1.fm fM (by decide) (by decide)) (u2.fr fC h17 (by decide))) ⟨(fM.2.2 34 (by decide)).trans hmc.1, (fM.2.2 35 (by decide)).trans hmc.2.1, (fM.2.2 37 (by decide)).trans hmc.2.2.1, k44⟩ fC fM (by decide) (by decide) (by decide)⟩
    · simp (disch := omega) only [Option.bind_some, ↓reduceIte, ↓M_1, ↓M_2, L_0, L_1, L_2, L_3, L_4, L_5, L_6, L_7, L_8, L_9, L_10, L_11, L_12, L_13, L_20, L_24, L_26, L_30, L_31, L_32, L_39, L_40, L_48, L_57, L_76, L_80, L_90, L_91, L_97, L_99, L_100, L_255, L_273, L_1000, L_2000, q_ld, q_ldL, q_sto, q_stoL, q_add, q_sub, q_mul, q_dec, q_rem, q_div, q_lt_t, q_lt_f, q_le_t, q_le_f, q_eq_t, q_eq_f, q_em, q_me, q_ml, q_lm, q_mle, q_lem, q_s1, q_s1o, q_s1k, q_s12, q_s2, q_s2o, q_s2k, q_s21, Nat.add_sub_cancel, q_or, q_and, q_shl, true_or, or_true, false_or, or_false, true_and, and_true, false_and, and_false, not_true_eq_false, not_false_eq_true, ne_eq, fC_EachAddsALine_missing, gC_EachAddsALine_missing_0, ec, hn1, y1, v1, e1, v3, e2]
    · simp (disch := omega) only [Option.bind_some, ↓reduceIte, ↓M_1, ↓M_2, L_0, L_1, L_2, L_3, L_4, L_5, L_6, L_7, L_8, L_9, L_10, L_11, L_12, L_13, L_20, L_24, L_26, L_30, L_31, L_32, L_39, L_40, L_48, L_57, L_76, L_80, L_90, L_91, L_97, L_99, L_100, L_255, L_273, L_1000, L_2000, q_ld, q_ldL, q_sto, q_stoL, q_add, q_sub, q_mul, q_dec, q_rem, q_div, q_lt_t, q_lt_f, q_le_t, q_le_f, q_eq_t, q_eq_f, q_em, q_me, q_ml, q_lm, q_mle, q_lem, q_s1, q_s1o, q_s1k, q_s12, q_s2, q_s2o, q_s2k, q_s21, Nat.add_sub_cancel, q_or, q_and, q_shl, true_or, or_true, false_or, or_false, true_and, and_true, false_and, and_false, not_true_eq_false, not_false_eq_true, ne_eq, fM_EachAddsALineModel_missing, gM_EachAddsALineModel_missing_0, em, hn2, z1, m1]
end CMI
