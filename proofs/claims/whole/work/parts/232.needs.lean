/-! needs, idle -/
theorem cmpL {a b : Nat} (ha : a < 2 ^ 63) (hb : b < 2 ^ 63) : (lg_cmp (lN a) (lN b) = nI 0) = (a = b) := propext ((lg_cmp_eq (lN a) (lN b)).trans (fb_lN_inj ha hb))
section NI
variable {N : Nat} {U : vSt → vSt → Prop} {w : Nat → Nat → Nat} {s t : vSt} {u v k : Nat}
theorem C_needs (h : CW w s) (hN : 60 ≤ N) (hu : u < w 5 0) (hv : v < w 5 0) (hk : k < 100) : ∃ z, fC_Paths_neededMeetings N (nI u) (nI v) (nI k) s = some (nI (if arr w 0 100 u k v = 1000000 then 0 else bset (fun m => decide (arr w 0 m u k v = 1000000)) (w 5 1)), z) ∧ Fr [42] [] s z := by
  have hb := h.bd
  obtain ⟨z, x1, x2, x3⟩ := C_spread0 (N := N) (go := 100) (br := 0) h hN hu (show k < 1000 by omega) shuts0 (Or.inr rfl)
  rw [gI_no (g := 100) (by decide)] at x1
  have e1 := x3 v hv
  rcases arr_bd (br := 0) (go := 100) (u := u) (k := k) (v := v) h.ok with d | d
  · rw [ea_lt d] at e1
    rw [if_neg (show ¬ arr w 0 100 u k v = 1000000 by omega)]
    simp (disch := omega) only [Option.bind_some, ↓reduceIte, ↓M_1, ↓M_2, L_0, L_1, L_2, L_3, L_4, L_5, L_6, L_7, L_8, L_9, L_10, L_11, L_12, L_13, L_20, L_24, L_26, L_30, L_31, L_32, L_39, L_40, L_48, L_57, L_76, L_80, L_90, L_91, L_97, L_99, L_100, L_255, L_273, L_1000, L_2000, q_ld, q_ldL, q_sto, q_stoL, q_add, q_sub, q_mul, q_dec, q_rem, q_div, q_lt_t, q_lt_f, q_le_t, q_le_f, q_eq_t, q_eq_f, q_em, q_me, q_ml, q_lm, q_mle, q_lem, q_s1, q_s1o, q_s1k, q_s12, q_s2, q_s2o, q_s2k, q_s21, Nat.add_sub_cancel, q_or, q_and, q_shl, true_or, or_true, false_or, or_false, true_and, and_true, false_and, and_false, not_true_eq_false, not_false_eq_true, ne_eq, fC_Paths_neededMeetings, gC_Paths_neededMeetings_0, x1, e1]
    have hz : CW w z := h.fr x2 (by decide)
    refine loopU (fun f i y => gC_Paths_neededMeetings_26 N f (nI u) (nI v) (nI k) (nI (bset (fun m => decide (arr w 0 m u k v = 1000000)) i)) (nI i) y) (w 5 1) (fun i y => i ≤ w 5 1 ∧ Fr [42] [] s y) (fun o => ∃ z, o = some (nI (bset (fun m => decide (arr w 0 m u k v = 1000000)) (w 5 1)), z) ∧ Fr [42] [] s z) ?_ ?_ (w 5 1) N 0 z (by omega) (by omega) ⟨by omega, x2⟩
    · rintro f i y hi ⟨g1, g2⟩
      have hy : CW w y := h.fr g2 (by decide)
      obtain ⟨y', y1, y2, y3⟩ := C_spread0 (N := N) (go := i) (br := 0) hy hN hu (show k < 1000 by omega) shuts0 (Or.inl (by omega))
      rw [gI_nI (g := i) (by omega)] at y1
      have e2 := y3 v hv
      refine Or.inl ⟨y', ?_, by omega, g2.tr y2⟩
      rcases arr_bd (br := 0) (go := i) (u := u) (k := k) (v := v) h.ok with c | c
      · rw [ea_lt c] at e2
        rw [bset_f (f := fun m => decide (arr w 0 m u k v = 1000000)) (decide_eq_false (by omega)), gC_Paths_neededMeetings_26]
        simp (disch := omega) only [Option.bind_some, ↓reduceIte, ↓M_1, ↓M_2, L_0, L_1, L_2, L_3, L_4, L_5, L_6, L_7, L_8, L_9, L_10, L_11, L_12, L_13, L_20, L_24, L_26, L_30, L_31, L_32, L_39, L_40, L_48, L_57, L_76, L_80, L_90, L_91, L_97, L_99, L_100, L_255, L_273, L_1000, L_2000, q_ld, q_ldL, q_sto, q_stoL, q_add, q_sub, q_mul, q_dec, q_rem, q_div, q_lt_t, q_lt_f, q_le_t, q_le_f, q_eq_t, q_eq_f, q_em, q_me, q_ml, q_lm, q_mle, q_lem, q_s1, q_s1o, q_s1k, q_s12, q_s2, q_s2o, q_s2k, q_s21, Nat.add_sub_cancel, q_or, q_and, q_shl, true_or, or_true, false_or, or_false, true_and, and_true, false_and, and_false, not_true_eq_false, not_false_eq_true, ne_eq, hy.m, y1, e2, gC_Paths_neededMeetings_66]
      · rw [c, ea_far] at e2
        rw [bset_t (f := fun m => decide (arr w 0 m u k v = 1000000)) (decide_eq_true c), gC_Paths_neededMeetings_26]
        simp (disch := omega) only [Option.bind_some, ↓reduceIte, ↓M_1, ↓M_2, L_0, L_1, L_2, L_3, L_4, L_5, L_6, L_7, L_8, L_9, L_10, L_11, L_12, L_13, L_20, L_24, L_26, L_30, L_31, L_32, L_39, L_40, L_48, L_57, L_76, L_80, L_90, L_91, L_97, L_99, L_100, L_255, L_273, L_1000, L_2000, q_ld, q_ldL, q_sto, q_stoL, q_add, q_sub, q_mul, q_dec, q_rem, q_div, q_lt_t, q_lt_f, q_le_t, q_le_f, q_eq_t, q_eq_f, q_em, q_me, q_ml, q_lm, q_mle, q_lem, q_s1, q_s1o, q_s1k, q_s12, q_s2, q_s2o, q_s2k, q_s21, Nat.add_sub_cancel, q_or, q_and, q_shl, true_or, or_true, false_or, or_false, true_and, and_true, false_and, and_false, not_true_eq_false, not_false_eq_true, ne_eq, hy.m, y1, e2, gC_Paths_neededMeetings_66]
    · rintro f y ⟨g1, g2⟩
      have hy : CW w y := h.fr g2 (by decide)
      refine ⟨y, ?_, g2⟩
      try simp only
      rw [gC_Paths_neededMeetings_26]
      simp (disch := omega) only [Option.bind_some, ↓reduceIte, ↓M_1, ↓M_2, L_0, L_1, L_2, L_3, L_4, L_5, L_6, L_7, L_8, L_9, L_10, L_11, L_12, L_13, L_20, L_24, L_26, L_30, L_31, L_32, L_39, L_40, L_48, L_57, L_76, L_80, L_90, L_91, L_97, L_99, L_100, L_255, L_273, L_1000, L_2000, q_ld, q_ldL, q_sto, q_stoL, q_add, q_sub, q_mul, q_dec, q_rem, q_div, q_lt_t, q_lt_f, q_le_t, q_le_f, q_eq_t, q_eq_f, q_em, q_me, q_ml, q_lm, q_mle, q_lem, q_s1, q_s1o, q_s1k, q_s12, q_s2, q_s2o, q_s2k, q_s21, Nat.add_sub_cancel, q_or, q_and, q_shl, true_or, or_true, false_or, or_false, true_and, and_true, false_and, and_false, not_true_eq_false, not_false_eq_true, ne_eq, hy.m]
  · rw [d, ea_far] at e1
    rw [if_pos d]
    refine ⟨z, ?_, x2⟩
    simp (disch := omega) only [Option.bind_some, ↓reduceIte, ↓M_1, ↓M_2, L_0, L_1, L_2, L_3, L_4, L_5, L_6, L_7, L_8, L_9, L_10, L_11, L_12, L_13, L_20, L_24, L_26, L_30, L_31, L_32, L_39, L_40, L_48, L_57, L_76, L_80, L_90, L_91, L_97, L_99, L_100, L_255, L_273, L_1000, L_2000, q_ld, q_ldL, q_sto, q_stoL, q_add, q_sub, q_mul, q_dec, q_rem, q_div, q_lt_t, q_lt_f, q_le_t, q_le_f, q_eq_t, q_eq_f, q_em, q_me, q_ml, q_lm, q_mle, q_lem, q_s1, q_s1o, q_s1k, q_s12, q_s2, q_s2o, q_s2k, q_s21, Nat.add_sub_cancel, q_or, q_and, q_shl, true_or, or_true, false_or, or_false, true_and, and_true, false_and, and_false, not_true_eq_false, not_false_eq_true, ne_eq, fC_Paths_neededMeetings, gC_Paths_neededMeetings_0, x1, e1]
theorem k_needs (hU : okU U) (hN : 200 ≤ N) : keeps3 N (RR U) fC_EachAddsALine_needs fM_EachAddsALineModel_needs := by
  refine keeps3_trip hU (fun w s a b c hw e => by simp (disch := omega) only [Option.bind_some, ↓reduceIte, ↓M_1, ↓M_2, L_0, L_1, L_2, L_3, L_4, L_5, L_6, L_7, L_8, L_9, L_10, L_11, L_12, L_13, L_20, L_24, L_26, L_30, L_31, L_32, L_39, L_40, L_48, L_57, L_76, L_80, L_90, L_91, L_97, L_99, L_100, L_255, L_273, L_1000, L_2000, q_ld, q_ldL, q_sto, q_stoL, q_add, q_sub, q_mul, q_dec, q_rem, q_div, q_lt_t, q_lt_f, q_le_t, q_le_f, q_eq_t, q_eq_f, q_em, q_me, q_ml, q_lm, q_mle, q_lem, q_s1, q_s1o, q_s1k, q_s12, q_s2, q_s2o, q_s2k, q_s21, Nat.add_sub_cancel, q_or, q_and, q_shl, true_or, or_true, false_or, or_false, true_and, and_true, false_and, and_false, not_true_eq_false, not_false_eq_true, ne_eq, fC_EachAddsALine_needs, gC_EachAddsALine_needs_0, e]) (fun w t a b c hw e => by simp (disch := omega) only [Option.bind_some, ↓reduceIte, ↓M_1, ↓M_2, L_0, L_1, L_2, L_3, L_4, L_5, L_6, L_7, L_8, L_9, L_10, L_11, L_12, L_13, L_20, L_24, L_26, L_30, L_31, L_32, L_39, L_40, L_48, L_57, L_76, L_80, L_90, L_91, L_97, L_99, L_100, L_255, L_273, L_1000, L_2000, q_ld, q_ldL, q_sto, q_stoL, q_add, q_sub, q_mul, q_dec, q_rem, q_div, q_lt_t, q_lt_f, q_le_t, q_le_f, q_eq_t, q_eq_f, q_em, q_me, q_ml, q_lm, q_mle, q_lem, q_s1, q_s1o, q_s1k, q_s12, q_s2, q_s2o, q_s2k, q_s21, Nat.add_sub_cancel, q_or, q_and, q_shl, true_or, or_true, false_or, or_false, true_and, and_true, false_and, and_false, not_true_eq_false, not_false_eq_true, ne_eq, fM_EachAddsALineModel_needs, gM_EachAddsALineModel_needs_0, e]) (fun s t w u v k hr h1 h2 hu hv hk ec em => ?_)
  have hmc := hr.mc.r
  have hb := h1.bd
  have h2' := M_rd0 h2 (nI 0)
  obtain ⟨z, x1, x2⟩ := C_needs (N := N) h1 (by omega) hu hv hk
  obtain ⟨y, y1, y2, y3⟩ := M_countWays (N := N) (go := 100) (no := 100) (k := k) h2' (by omega) hu hv (by omega) (by simp (disch := omega) only [Option.bind_some, ↓reduceIte, ↓M_1, ↓M_2, L_0, L_1, L_2, L_3, L_4, L_5, L_6, L_7, L_8, L_9, L_10, L_11, L_12, L_13, L_20, L_24, L_26, L_30, L_31, L_32, L_39, L_40, L_48, L_57, L_76, L_80, L_90, L_91, L_97, L_99, L_100, L_255, L_273, L_1000, L_2000, q_ld, q_ldL, q_sto, q_stoL, q_add, q_sub, q_mul, q_dec, q_rem, q_div, q_lt_t, q_lt_f, q_le_t, q_le_f, q_eq_t, q_eq_f, q_em, q_me, q_ml, q_lm, q_mle, q_lem, q_s1, q_s1o, q_s1k, q_s12, q_s2, q_s2o, q_s2k, q_s21, Nat.add_sub_cancel, q_or, q_and, q_shl, true_or, or_true, false_or, or_false, true_and, and_true, false_and, and_false, not_true_eq_false, not_false_eq_true, ne_eq]; exact hmc.2.1) (by simp (disch := omega) only [Option.bind_some, ↓reduceIte, ↓M_1, ↓M_2, L_0, L_1, L_2, L_3, L_4, L_5, L_6, L_7, L_8, L_9, L_10, L_11, L_12, L_13, L_20, L_24, L_26, L_30, L_31, L_32, L_39, L_40, L_48, L_57, L_76, L_80, L_90, L_91, L_97, L_99, L_100, L_255, L_273, L_1000, L_2000, q_ld, q_ldL, q_sto, q_stoL, q_add, q_sub, q_mul, q_dec, q_rem, q_div, q_lt_t, q_lt_f, q_le_t, q_le_f, q_eq_t, q_eq_f, q_em, q_me, q_ml, q_lm, q_mle, q_lem, q_s1, q_s1o, q_s1k, q_s12, q_s2, q_s2o, q_s2k, q_s21, Nat.add_sub_cancel, q_or, q_and, q_shl, true_or, or_true, false_or, or_false, true_and, and_true, false_and, and_false, not_true_eq_false, not_false_eq_true, ne_eq]; exact hmc.2.2.1)
  have fy : Fm [11] [14] [11, 30] t y := (Fm.w10 (by decide)).tr (y2.mono (by decide) (by decide) (by decide))
  have hca := cw_arr (u := u) (v := v) (k := k) (go := 100) h1.ok
  have ec2 : fC_EachAddsALine_needs N (nI u) (nI v) (nI k) s = some (nI (if arr w 0 100 u k v = 1000000 then 0 else bset (fun m => decide (arr w 0 m u k v = 1000000)) (w 5 1)), z) := by
    simp (disch := omega) only [Option.bind_some, ↓reduceIte, ↓M_1, ↓M_2, L_0, L_1, L_2, L_3, L_4, L_5, L_6, L_7, L_8, L_9, L_10, L_11, L_12, L_13, L_20, L_24, L_26, L_30, L_31, L_32, L_39, L_40, L_48, L_57, L_76, L_80, L_90, L_91, L_97, L_99, L_100, L_255, L_273, L_1000, L_2000, q_ld, q_ldL, q_sto, q_stoL, q_add, q_sub, q_mul, q_dec, q_rem, q_div, q_lt_t, q_lt_f, q_le_t, q_le_f, q_eq_t, q_eq_f, q_em, q_me, q_ml, q_lm, q_mle, q_lem, q_s1, q_s1o, q_s1k, q_s12, q_s2, q_s2o, q_s2k, q_s21, Nat.add_sub_cancel, q_or, q_and, q_shl, true_or, or_true, false_or, or_false, true_and, and_true, false_and, and_false, not_true_eq_false, not_false_eq_true, ne_eq, fC_EachAddsALine_needs, gC_EachAddsALine_needs_0, ec, x1]
  by_cases c : arr w 0 100 u k v = 1000000
  · rw [if_pos c] at ec2
    refine ⟨nI 0, z, y, ec2, ?_, hr.fr hU x2 fy (by decide) (by decide) (by decide)⟩
    have c0 := hca.mpr c
    rw [c0] at y1
    have ecm := cmpL (a := 0) (b := 0) (by decide) (by decide)
    simp (disch := omega) only [Option.bind_some, ↓reduceIte, ↓M_1, ↓M_2, L_0, L_1, L_2, L_3, L_4, L_5, L_6, L_7, L_8, L_9, L_10, L_11, L_12, L_13, L_20, L_24, L_26, L_30, L_31, L_32, L_39, L_40, L_48, L_57, L_76, L_80, L_90, L_91, L_97, L_99, L_100, L_255, L_273, L_1000, L_2000, q_ld, q_ldL, q_sto, q_stoL, q_add, q_sub, q_mul, q_dec, q_rem, q_div, q_lt_t, q_lt_f, q_le_t, q_le_f, q_eq_t, q_eq_f, q_em, q_me, q_ml, q_lm, q_mle, q_lem, q_s1, q_s1o, q_s1k, q_s12, q_s2, q_s2o, q_s2k, q_s21, Nat.add_sub_cancel, q_or, q_and, q_shl, true_or, or_true, false_or, or_false, true_and, and_true, false_and, and_false, not_true_eq_false, not_false_eq_true, ne_eq, fM_EachAddsALineModel_needs, gM_EachAddsALineModel_needs_0, em, y1, l_0, ecm]
  · rw [if_neg c] at ec2
    have hy : MW w y := h2.fm fy (by decide) (by decide)
    have main : ∃ y', gM_EachAddsALineModel_needs_37 N N (nI u) (nI v) (nI k) (nI 0) (nI 0) y = some (nI (bset (fun m => decide (arr w 0 m u k v = 1000000)) (w 5 1)), y') ∧ Fm [11] [14] [11, 30, 35] t y' ∧ y'.1 0 35 = mI 1 := by
      refine loopU (fun f i q => gM_EachAddsALineModel_needs_37 N f (nI u) (nI v) (nI k) (nI (bset (fun m => decide (arr w 0 m u k v = 1000000)) i)) (nI i) q) (w 5 1) (fun i q => i ≤ w 5 1 ∧ Fm [11] [14] [11, 30, 35] t q) (fun o => ∃ y', o = some (nI (bset (fun m => decide (arr w 0 m u k v = 1000000)) (w 5 1)), y') ∧ Fm [11] [14] [11, 30, 35] t y' ∧ y'.1 0 35 = mI 1) ?_ ?_ (w 5 1) N 0 y (by omega) (by omega) ⟨by omega, fy.mono (by decide) (by decide) (by decide)⟩
      · rintro f i q hi ⟨g1, g2⟩
        have f3 : Fm [11] [14] [11, 30, 35] t (s1 q 0 35 (nI i)) := g2.tr (Fm.w10 (by decide))
        have hq : MW w q := h2.fm g2 (by decide) (by decide)
        have hq3 : MW w (s1 q 0 35 (nI i)) := h2.fm f3 (by decide) (by decide)
        obtain ⟨q', q1, q2, q3⟩ := M_countWays (N := N) (go := i) (no := 100) (k := k) hq3 (by omega) hu hv (by omega) (by rw [q_s1, gI_nI (g := i) (by omega)]) ((f3.2.2 37 (by decide)).trans hmc.2.2.1)
        have ecm := cmpL (a := cw w u v k i 100) (b := 0) (by omega) (by decide)
        have hci := cw_arr (u := u) (v := v) (k := k) (go := i) h1.ok
        have hbl := bset_lt (fun m => decide (arr w 0 m u k v = 1000000)) i
        refine Or.inl ⟨q', ?_, by omega, f3.tr (q2.mono (by decide) (by decide) (by decide))⟩
        by_cases d : arr w 0 i u k v = 1000000
        · rw [bset_t (f := fun m => decide (arr w 0 m u k v = 1000000)) (decide_eq_true d), gM_EachAddsALineModel_needs_37]
          simp (disch := omega) only [Option.bind_some, ↓reduceIte, ↓M_1, ↓M_2, L_0, L_1, L_2, L_3, L_4, L_5, L_6, L_7, L_8, L_9, L_10, L_11, L_12, L_13, L_20, L_24, L_26, L_30, L_31, L_32, L_39, L_40, L_48, L_57, L_76, L_80, L_90, L_91, L_97, L_99, L_100, L_255, L_273, L_1000, L_2000, q_ld, q_ldL, q_sto, q_stoL, q_add, q_sub, q_mul, q_dec, q_rem, q_div, q_lt_t, q_lt_f, q_le_t, q_le_f, q_eq_t, q_eq_f, q_em, q_me, q_ml, q_lm, q_mle, q_lem, q_s1, q_s1o, q_s1k, q_s12, q_s2, q_s2o, q_s2k, q_s21, Nat.add_sub_cancel, q_or, q_and, q_shl, true_or, or_true, false_or, or_false, true_and, and_true, false_and, and_false, not_true_eq_false, not_false_eq_true, ne_eq, hq.m, q1, l_0, ecm, eq_true (hci.mpr d), gM_EachAddsALineModel_needs_74]
        · rw [bset_f (f := fun m => decide (arr w 0 m u k v = 1000000)) (decide_eq_false d), gM_EachAddsALineModel_needs_37]
          simp (disch := omega) only [Option.bind_some, ↓reduceIte, ↓M_1, ↓M_2, L_0, L_1, L_2, L_3, L_4, L_5, L_6, L_7, L_8, L_9, L_10, L_11, L_12, L_13, L_20, L_24, L_26, L_30, L_31, L_32, L_39, L_40, L_48, L_57, L_76, L_80, L_90, L_91, L_97, L_99, L_100, L_255, L_273, L_1000, L_2000, q_ld, q_ldL, q_sto, q_stoL, q_add, q_sub, q_mul, q_dec, q_rem, q_div, q_lt_t, q_lt_f, q_le_t, q_le_f, q_eq_t, q_eq_f, q_em, q_me, q_ml, q_lm, q_mle, q_lem, q_s1, q_s1o, q_s1k, q_s12, q_s2, q_s2o, q_s2k, q_s21, Nat.add_sub_cancel, q_or, q_and, q_shl, true_or, or_true, false_or, or_false, true_and, and_true, false_and, and_false, not_true_eq_false, not_false_eq_true, ne_eq, hq.m, q1, l_0, ecm, eq_false (fun z => d (hci.mp z)), gM_EachAddsALineModel_needs_74, Nat.or_zero]
      · rintro f q ⟨g1, g2⟩
        have hq : MW w q := h2.fm g2 (by decide) (by decide)
        refine ⟨s1 q 0 35 (mI 1), ?_, g2.tr (Fm.w10 (by decide)), q_s1 _ _ _ _⟩
        try simp only
        rw [gM_EachAddsALineModel_needs_37]
        simp (disch := omega) only [Option.bind_some, ↓reduceIte, ↓M_1, ↓M_2, L_0, L_1, L_2, L_3, L_4, L_5, L_6, L_7, L_8, L_9, L_10, L_11, L_12, L_13, L_20, L_24, L_26, L_30, L_31, L_32, L_39, L_40, L_48, L_57, L_76, L_80, L_90, L_91, L_97, L_99, L_100, L_255, L_273, L_1000, L_2000, q_ld, q_ldL, q_sto, q_stoL, q_add, q_sub, q_mul, q_dec, q_rem, q_div, q_lt_t, q_lt_f, q_le_t, q_le_f, q_eq_t, q_eq_f, q_em, q_me, q_ml, q_lm, q_mle, q_lem, q_s1, q_s1o, q_s1k, q_s12, q_s2, q_s2o, q_s2k, q_s21, Nat.add_sub_cancel, q_or, q_and, q_shl, true_or, or_true, false_or, or_false, true_and, and_true, false_and, and_false, not_true_eq_false, not_false_eq_true, ne_eq, hq.m]
    obtain ⟨y', m1, m2, m3⟩ := main
    refine ⟨_, z, y', ec2, ?_, hr.roM hU (hr.ron.fr x2 m2 (by decide) (by decide)) ⟨(m2.2.2 34 (by decide)).trans hmc.1, m3, (m2.2.2 37 (by decide)).trans hmc.2.2.1, (m2.2.2 44 (by decide)).trans hmc.2.2.2⟩ x2 m2 (by decide) (by decide) (by decide)⟩
    have ecm := cmpL (a := cw w u v k 100 100) (b := 0) (by omega) (by decide)
    simp (disch := omega) only [Option.bind_some, ↓reduceIte, ↓M_1, ↓M_2, L_0, L_1, L_2, L_3, L_4, L_5, L_6, L_7, L_8, L_9, L_10, L_11, L_12, L_13, L_20, L_24, L_26, L_30, L_31, L_32, L_39, L_40, L_48, L_57, L_76, L_80, L_90, L_91, L_97, L_99, L_100, L_255, L_273, L_1000, L_2000, q_ld, q_ldL, q_sto, q_stoL, q_add, q_sub, q_mul, q_dec, q_rem, q_div, q_lt_t, q_lt_f, q_le_t, q_le_f, q_eq_t, q_eq_f, q_em, q_me, q_ml, q_lm, q_mle, q_lem, q_s1, q_s1o, q_s1k, q_s12, q_s2, q_s2o, q_s2k, q_s21, Nat.add_sub_cancel, q_or, q_and, q_shl, true_or, or_true, false_or, or_false, true_and, and_true, false_and, and_false, not_true_eq_false, not_false_eq_true, ne_eq, fM_EachAddsALineModel_needs, gM_EachAddsALineModel_needs_0, em, y1, l_0, ecm, eq_false (fun z => c (hca.mp z)), m1]
/-- given there: some way comes to it -/
theorem given_TP (h : okW w) (hp : PI w u 0 (fun o => o < 2 * w 5 1 ∧ ¬ o / 2 = 100 ∧ k ≤ hr w o) (fun p => arr w 0 100 u k p)) {s : Nat} (hs : s < 2 * w 5 1) : ((gv w s = u ∧ k ≤ hr w s) ∨ (¬ gv w s = u ∧ arr w 0 100 u k (gv w s) + w 0 (gv w s) ≤ hr w s)) ↔ 0 < TP w u k 100 100 s := by
  have h5 := h.2.1
  have h6 := h.1
  have fr0 : ∀ s, s < 2 * w 5 1 → fre w 100 100 s := fun s hs => ⟨by omega, by have := gt_lt h hs; omega⟩
  have ng : ∀ s, s < 2 * w 5 1 → ¬ s / 2 = 100 := fun s hs => (fr0 s hs).1
  have pos1 : ∀ s, s < 2 * w 5 1 → beg w u k s → 0 < TP w u k 100 100 s := fun s hs hb => by
    rw [TP_rec h hs]
    unfold FP
    rw [if_pos (fr0 s hs), if_pos hb]
    omega
  have pos2 : ∀ s o, s < 2 * w 5 1 → o < 2 * w 5 1 → fol w s o → 0 < TP w u k 100 100 o → 0 < TP w u k 100 100 s := fun s o hs ho hf hq => by
    rw [TP_rec h hs]
    unfold FP
    rw [if_pos (fr0 s hs)]
    have : 0 < fb_sm (fun o => if fol w s o then TP w u k 100 100 o else 0) (2 * w 5 1) := sm_pos.mpr ⟨o, ho, by rw [if_pos hf]; exact hq⟩
    omega
  have inv : ∀ s, s < 2 * w 5 1 → 0 < TP w u k 100 100 s → beg w u k s ∨ ∃ o, o < 2 * w 5 1 ∧ fol w s o ∧ 0 < TP w u k 100 100 o := fun s hs hq => by
    rw [TP_rec h hs] at hq
    unfold FP at hq
    rw [if_pos (fr0 s hs)] at hq
    by_cases c : beg w u k s
    · exact Or.inl c
    · rw [if_neg c, Nat.zero_add] at hq
      obtain ⟨o, o1, o2⟩ := sm_pos.mp hq
      by_cases f : fol w s o
      · rw [if_pos f] at o2
        exact Or.inr ⟨o, o1, f, o2⟩
      · rw [if_neg f] at o2
        exact absurd o2 (Nat.lt_irrefl _)
  have clA : ∀ s, s < 2 * w 5 1 → k ≤ hr w s → cg w u 0 (fun p => arr w 0 100 u k p) s → 0 < TP w u k 100 100 s := by
    refine upI (key := hr w) _ (fun s hs ih hk hc => ?_)
    rcases hc with hc | ⟨_, hc⟩
    · exact pos1 s hs ⟨hc, hk⟩
    · have h99 := hr_le h hs
      have hR := h.2.2.1 _ (gv_lt h hs)
      rcases hp.2 _ (gv_lt h hs) with z | ⟨o, z1, z2, z3, z4⟩
      · simp only at z hc
        omega
      · simp only at z4 hc
        have hf : fol w s o := ⟨z3.symm, by unfold rd; rw [z3]; omega⟩
        exact pos2 s o hs z1.1 hf (ih o z1.1 (by omega) z1.2.2 z2)
  have clB : ∀ s, s < 2 * w 5 1 → 0 < TP w u k 100 100 s → k ≤ hr w s ∧ arr w 0 100 u k (gt w s) ≤ hr w s := by
    refine upI (key := hr w) _ (fun s hs ih hq => ?_)
    rcases inv s hs hq with c | ⟨o, o1, o2, o3⟩
    · exact ⟨c.2, hp.1 s ⟨hs, ng s hs, c.2⟩ (Or.inl c.1)⟩
    · have hl := fol_lt h o1 o2
      obtain ⟨i1, i2⟩ := ih o o1 hl o3
      have hkk : k ≤ hr w s := by omega
      have h2 := o2.2
      unfold rd at h2
      rw [← o2.1] at i2 h2
      exact ⟨hkk, hp.1 s ⟨hs, ng s hs, hkk⟩ (Or.inr ⟨Nat.zero_testBit _, by simp only; omega⟩)⟩
  constructor
  · rintro (⟨z1, z2⟩ | ⟨z1, z2⟩)
    · exact pos1 s hs ⟨z1, z2⟩
    · have h99 := hr_le h hs
      have hR := h.2.2.1 _ (gv_lt h hs)
      rcases hp.2 _ (gv_lt h hs) with z | ⟨o, y1, y2, y3, y4⟩
      · simp only at z
        omega
      · simp only at y4
        have hf : fol w s o := ⟨y3.symm, by unfold rd; rw [y3]; omega⟩
        exact pos2 s o hs y1.1 hf (clA o y1.1 y1.2.2 y2)
  · intro hq
    have hk := (clB s hs hq).1
    by_cases c : gv w s = u
    · exact Or.inl ⟨c, hk⟩
    · rcases inv s hs hq with d | ⟨o, o1, o2, o3⟩
      · exact absurd d.1 c
      · have i2 := (clB o o1 o3).2
        have h2 := o2.2
        unfold rd at h2
        rw [← o2.1] at i2 h2
        exact Or.inr ⟨c, by omega⟩
/-- who is on some way -/
def bsy (w : Nat → Nat → Nat) (u v k n : Nat) : Nat := fz (fun o x => if 0 < TP w u k 100 100 (sw o) ∧ 0 < TN w v 100 100 (sw o) then x ||| 2 ^ gv w o else x) (2 ^ u ||| 2 ^ v) n
theorem bsy_ok (h : okW w) (hu : u < w 5 0) (hv : v < w 5 0) {n : Nat} (hn : n ≤ 2 * w 5 1) : bsy w u v k n < 512 ∧ ∀ i, (bsy w u v k n).testBit i = true ↔ i = u ∨ i = v ∨ ∃ o, o < n ∧ 0 < TP w u k 100 100 (sw o) ∧ 0 < TN w v 100 100 (sw o) ∧ gv w o = i := by
  have h6 := h.1
  refine fz_ind (f := fun o x => if 0 < TP w u k 100 100 (sw o) ∧ 0 < TN w v 100 100 (sw o) then x ||| 2 ^ gv w o else x) (z := 2 ^ u ||| 2 ^ v) (n := n) (fun j x => x < 512 ∧ ∀ i, x.testBit i = true ↔ i = u ∨ i = v ∨ ∃ o, o < j ∧ 0 < TP w u k 100 100 (sw o) ∧ 0 < TN w v 100 100 (sw o) ∧ gv w o = i) ⟨or_lt9 (pow9 (by omega)) (pow9 (by omega)), fun i => ?_⟩ (fun j x hj hx => ?_) n (Nat.le_refl _)
  · rw [Nat.testBit_or, Nat.testBit_two_pow, Nat.testBit_two_pow, Bool.or_eq_true, decide_eq_true_eq, decide_eq_true_eq]
    refine ⟨fun z => ?_, fun z => ?_⟩
    · rcases z with z | z
      · exact Or.inl z.symm
      · exact Or.inr (Or.inl z.symm)
    · rcases z with z | z | ⟨o, z, _⟩
      · exact Or.inl z.symm
      · exact Or.inr z.symm
      · exact absurd z (Nat.not_lt_zero _)
  · have hg := gv_lt h (s := j) (by omega)
    by_cases c : 0 < TP w u k 100 100 (sw j) ∧ 0 < TN w v 100 100 (sw j)
    · rw [if_pos c]
      refine ⟨or_lt9 hx.1 (pow9 (by omega)), fun i => ?_⟩
      rw [Nat.testBit_or, Nat.testBit_two_pow, Bool.or_eq_true, decide_eq_true_eq, hx.2 i]
      refine ⟨fun z => ?_, fun z => ?_⟩
      · rcases z with (z | z | ⟨o, z1, z2⟩) | z
        · exact Or.inl z
        · exact Or.inr (Or.inl z)
        · exact Or.inr (Or.inr ⟨o, by omega, z2⟩)
        · exact Or.inr (Or.inr ⟨j, by omega, c.1, c.2, z⟩)
      · rcases z with z | z | ⟨o, z1, z2, z3, z4⟩
        · exact Or.inl (Or.inl z)
        · exact Or.inl (Or.inr (Or.inl z))
        · by_cases d : o = j
          · rw [d] at z4; exact Or.inr z4
          · exact Or.inl (Or.inr (Or.inr ⟨o, by omega, z2, z3, z4⟩))
    · rw [if_neg c]
      refine ⟨hx.1, fun i => ?_⟩
      rw [hx.2 i]
      refine ⟨fun z => ?_, fun z => ?_⟩
      · rcases z with z | z | ⟨o, z1, z2⟩
        · exact Or.inl z
        · exact Or.inr (Or.inl z)
        · exact Or.inr (Or.inr ⟨o, by omega, z2⟩)
      · rcases z with z | z | ⟨o, z1, z2, z3, z4⟩
        · exact Or.inl z
        · exact Or.inr (Or.inl z)
        · by_cases d : o = j
          · rw [d] at z2 z3; exact absurd ⟨z2, z3⟩ c
          · exact Or.inr (Or.inr ⟨o, by omega, z2, z3, z4⟩)
def idl (w : Nat → Nat → Nat) (u v k : Nat) : Nat → Bool := fun i => decide (¬ i = u ∧ ¬ i = v ∧ cw w u v k 100 i = cw w u v k 100 100)
theorem idl_eq (h : okW w) (hu : u < w 5 0) (hv : v < w 5 0) : nand (2 ^ w 5 0 - 1) (bsy w u v k (2 * w 5 1)) = bset (idl w u v k) (w 5 0) := by
  have hbo := bsy_ok (u := u) (v := v) (k := k) h hu hv (Nat.le_refl _)
  refine Nat.eq_of_testBit_eq (fun i => ?_)
  rw [nand_tb, all_tb, bset_tb]
  congr 1
  have hi := cw_idle (u := u) (v := v) (k := k) (i := i) h
  have hq := hbo.2 i
  unfold idl
  by_cases c : (bsy w u v k (2 * w 5 1)).testBit i = true
  · rw [c, Bool.not_true]
    symm
    refine decide_eq_false (fun z => ?_)
    rcases hq.mp c with y | y | ⟨o, y1, y2, y3, y4⟩
    · exact z.1 y
    · exact z.2.1 y
    · exact (hi.mp z.2.2) ⟨sw o, sw_lt y1, by rw [gt_sw]; exact y4, y2, y3⟩
  · rw [eq_false_of_ne_true c, Bool.not_false]
    symm
    refine decide_eq_true ⟨fun y => c (hq.mpr (Or.inl y)), fun y => c (hq.mpr (Or.inr (Or.inl y))), hi.mpr ?_⟩
    rintro ⟨o, y1, y2, y3, y4⟩
    exact c (hq.mpr (Or.inr (Or.inr ⟨sw o, sw_lt y1, by rw [sw_sw]; exact y3, by rw [sw_sw]; exact y4, by rw [gv_sw]; exact y2⟩)))
theorem C_idle (h : CW w s) (hN : 200 ≤ N) (hu : u < w 5 0) (hv : v < w 5 0) (hk : k < 100) : ∃ z, fC_Paths_idlePeople N (nI u) (nI v) (nI k) s = some (nI (nand (2 ^ w 5 0 - 1) (bsy w u v k (2 * w 5 1))), z) ∧ Fr [41, 42, 43] [] s z := by
  have hb := h.bd
  have hN6 : 60 ≤ N := by omega
  obtain ⟨z, a1, a2, a3, a4, a5⟩ := C_aim (N := N) (me := 0) h hN6 (by decide) hv (show 99 < 2 ^ 31 by decide) shuts0
  have hz : CW w z := h.fr a2 (by decide)
  obtain ⟨y, x1, x2, x3, x4⟩ := C_spread1 (N := N) (go := 100) (br := 0) hz hN6 hu (show k < 1000 by omega) shuts0 (Or.inr rfl)
  rw [gI_no (g := 100) (by decide)] at x1
  have hy : CW w y := hz.fr x2 (by decide)
  have fy : Fr [41, 42, 43] [] s y := (a2.mono (by decide) (by decide)).tr (x2.mono (by decide) (by decide))
  have hs1 := q_shlp (P := w 5 0) (by omega)
  refine ⟨y, ?_, fy⟩
  simp (disch := omega) only [Option.bind_some, ↓reduceIte, ↓M_1, ↓M_2, L_0, L_1, L_2, L_3, L_4, L_5, L_6, L_7, L_8, L_9, L_10, L_11, L_12, L_13, L_20, L_24, L_26, L_30, L_31, L_32, L_39, L_40, L_48, L_57, L_76, L_80, L_90, L_91, L_97, L_99, L_100, L_255, L_273, L_1000, L_2000, q_ld, q_ldL, q_sto, q_stoL, q_add, q_sub, q_mul, q_dec, q_rem, q_div, q_lt_t, q_lt_f, q_le_t, q_le_f, q_eq_t, q_eq_f, q_em, q_me, q_ml, q_lm, q_mle, q_lem, q_s1, q_s1o, q_s1k, q_s12, q_s2, q_s2o, q_s2k, q_s21, Nat.add_sub_cancel, q_or, q_and, q_shl, true_or, or_true, false_or, or_false, true_and, and_true, false_and, and_false, not_true_eq_false, not_false_eq_true, ne_eq, fC_Paths_idlePeople, gC_Paths_idlePeople_0, a1, x1]
  refine loopS (fun f i (a : Nat) => gC_Paths_idlePeople_29 N f (nI u) (nI k) (nI a) (nI i) y) (fun i => bsy w u v k i) (2 * w 5 1) _ (fun f i hi => ?_) (fun f => ?_) N (by omega)
  · have hbo := (bsy_ok (u := u) (v := v) (k := k) h.ok hu hv (n := i) (by omega)).1
    have hsi := sw_lt hi
    have hg := gv_lt h.ok hi
    have hgs := gt_lt h.ok hi
    have h3 : y.1 13 (i / 2) = nI (hr w i) := hy.h (m := i / 2) (by omega)
    have hh := hr_le h.ok hi
    have e1 : i / 2 ^ 1 = i / 2 := rfl
    have eg := C_getterAt (N := N) hy hi
    have eo := C_otherAt (N := N) hy (m := i / 2) (u := gv w i) (by omega) hg
    rw [oth_ix h.ok hi] at eo
    have hT := given_TP h.ok x4 hsi
    rw [gv_sw, hr_sw] at hT
    have eh := C_hasRead (N := N) (a := fun p => arr w 0 100 u k p) hy (g := gt w i) (x := hr w i) hgs hh (x3 _ hgs) (arr_bd h.ok)
    have e43 : y.1 43 i = iZ (TA w v 99 0 0 (sw i)) := by
      rw [x2.1 43 (by decide), ← a5 (sw i) hsi, sw_sw]
    have hre := TA_reach (v := v) h.ok (Nat.le_refl 99) (sw i) hsi
    have hkk := TA_ok (v := v) (bb := 99) (br := 0) (me := 0) h.ok hsi
    have eF : (iZ (TA w v 99 0 0 (sw i)) = nI 1048576) = (TA w v 99 0 0 (sw i) = fC) := by
      rw [z_F]
      rcases hkk with q | q
      · rw [q]
        exact propext ⟨fun _ => rfl, fun _ => rfl⟩
      · rw [z_eq (by omega) (by omega) (by decide) (by decide)]
    have hTN := TN_pos (v := v) (go := 100) h.ok (sw i) hsi
    have h99 := TB99 (v := v) (br := 0) (go := 100) h.ok (sw i) hsi
    have hval : TA w v 99 0 0 (sw i) = fC ↔ ¬ 0 < TN w v 100 100 (sw i) := by
      constructor
      · intro q q2
        exact hre.mpr (h99 (hTN.mp q2)) q
      · intro q
        refine Classical.byContradiction (fun q2 => q (hTN.mpr ?_))
        have := hre.mp q2
        omega
    have es : bsy w u v k (i + 1) = if 0 < TP w u k 100 100 (sw i) ∧ 0 < TN w v 100 100 (sw i) then bsy w u v k i ||| 2 ^ gv w i else bsy w u v k i := rfl
    show gC_Paths_idlePeople_29 N (f + 1) (nI u) (nI k) (nI (bsy w u v k i)) (nI i) y = gC_Paths_idlePeople_29 N f (nI u) (nI k) (nI (bsy w u v k (i + 1))) (nI (i + 1)) y
    generalize bsy w u v k i = x at hbo es
    have mid : gC_Paths_idlePeople_29 N (f + 1) (nI u) (nI k) (nI x) (nI i) y = gC_Paths_idlePeople_117 N (gC_Paths_idlePeople_29 N f) (nI u) (nI k) (nI x) (nI i) (nI (gv w i)) (if 0 < TP w u k 100 100 (sw i) then nI 1 else nI 0) y := by
      rw [gC_Paths_idlePeople_29]
      by_cases c : gt w i = u
      · by_cases d : k ≤ hr w i
        · rw [if_pos (hT.mp (Or.inl ⟨c, d⟩))]
          simp (disch := omega) only [Option.bind_some, ↓reduceIte, ↓M_1, ↓M_2, L_0, L_1, L_2, L_3, L_4, L_5, L_6, L_7, L_8, L_9, L_10, L_11, L_12, L_13, L_20, L_24, L_26, L_30, L_31, L_32, L_39, L_40, L_48, L_57, L_76, L_80, L_90, L_91, L_97, L_99, L_100, L_255, L_273, L_1000, L_2000, q_ld, q_ldL, q_sto, q_stoL, q_add, q_sub, q_mul, q_dec, q_rem, q_div, q_lt_t, q_lt_f, q_le_t, q_le_f, q_eq_t, q_eq_f, q_em, q_me, q_ml, q_lm, q_mle, q_lem, q_s1, q_s1o, q_s1k, q_s12, q_s2, q_s2o, q_s2k, q_s21, Nat.add_sub_cancel, q_or, q_and, q_shl, true_or, or_true, false_or, or_false, true_and, and_true, false_and, and_false, not_true_eq_false, not_false_eq_true, ne_eq, hy.m, q_shr, e1, eg, eo, c, h3]
        · rw [if_neg (fun q => (hT.mpr q).elim (fun r => d r.2) (fun r => r.1 c))]
          simp (disch := omega) only [Option.bind_some, ↓reduceIte, ↓M_1, ↓M_2, L_0, L_1, L_2, L_3, L_4, L_5, L_6, L_7, L_8, L_9, L_10, L_11, L_12, L_13, L_20, L_24, L_26, L_30, L_31, L_32, L_39, L_40, L_48, L_57, L_76, L_80, L_90, L_91, L_97, L_99, L_100, L_255, L_273, L_1000, L_2000, q_ld, q_ldL, q_sto, q_stoL, q_add, q_sub, q_mul, q_dec, q_rem, q_div, q_lt_t, q_lt_f, q_le_t, q_le_f, q_eq_t, q_eq_f, q_em, q_me, q_ml, q_lm, q_mle, q_lem, q_s1, q_s1o, q_s1k, q_s12, q_s2, q_s2o, q_s2k, q_s21, Nat.add_sub_cancel, q_or, q_and, q_shl, true_or, or_true, false_or, or_false, true_and, and_true, false_and, and_false, not_true_eq_false, not_false_eq_true, ne_eq, hy.m, q_shr, e1, eg, eo, c, h3]
      · by_cases d : arr w 0 100 u k (gt w i) + w 0 (gt w i) ≤ hr w i
        · rw [if_pos d] at eh
          rw [if_pos (hT.mp (Or.inr ⟨c, d⟩))]
          simp (disch := omega) only [Option.bind_some, ↓reduceIte, ↓M_1, ↓M_2, L_0, L_1, L_2, L_3, L_4, L_5, L_6, L_7, L_8, L_9, L_10, L_11, L_12, L_13, L_20, L_24, L_26, L_30, L_31, L_32, L_39, L_40, L_48, L_57, L_76, L_80, L_90, L_91, L_97, L_99, L_100, L_255, L_273, L_1000, L_2000, q_ld, q_ldL, q_sto, q_stoL, q_add, q_sub, q_mul, q_dec, q_rem, q_div, q_lt_t, q_lt_f, q_le_t, q_le_f, q_eq_t, q_eq_f, q_em, q_me, q_ml, q_lm, q_mle, q_lem, q_s1, q_s1o, q_s1k, q_s12, q_s2, q_s2o, q_s2k, q_s21, Nat.add_sub_cancel, q_or, q_and, q_shl, true_or, or_true, false_or, or_false, true_and, and_true, false_and, and_false, not_true_eq_false, not_false_eq_true, ne_eq, hy.m, q_shr, e1, eg, eo, h3, eh]
        · rw [if_neg d] at eh
          rw [if_neg (fun q => (hT.mpr q).elim (fun r => c r.1) (fun r => d r.2))]
          simp (disch := omega) only [Option.bind_some, ↓reduceIte, ↓M_1, ↓M_2, L_0, L_1, L_2, L_3, L_4, L_5, L_6, L_7, L_8, L_9, L_10, L_11, L_12, L_13, L_20, L_24, L_26, L_30, L_31, L_32, L_39, L_40, L_48, L_57, L_76, L_80, L_90, L_91, L_97, L_99, L_100, L_255, L_273, L_1000, L_2000, q_ld, q_ldL, q_sto, q_stoL, q_add, q_sub, q_mul, q_dec, q_rem, q_div, q_lt_t, q_lt_f, q_le_t, q_le_f, q_eq_t, q_eq_f, q_em, q_me, q_ml, q_lm, q_mle, q_lem, q_s1, q_s1o, q_s1k, q_s12, q_s2, q_s2o, q_s2k, q_s21, Nat.add_sub_cancel, q_or, q_and, q_shl, true_or, or_true, false_or, or_false, true_and, and_true, false_and, and_false, not_true_eq_false, not_false_eq_true, ne_eq, hy.m, q_shr, e1, eg, eo, h3, eh]
    rw [mid, es, gC_Paths_idlePeople_117]
    by_cases c : 0 < TP w u k 100 100 (sw i)
    · by_cases d : 0 < TN w v 100 100 (sw i)
      · rw [if_pos c, show (if 0 < TP w u k 100 100 (sw i) ∧ 0 < TN w v 100 100 (sw i) then x ||| 2 ^ gv w i else x) = x ||| 2 ^ gv w i from if_pos ⟨c, d⟩]
        simp (disch := omega) only [Option.bind_some, ↓reduceIte, ↓M_1, ↓M_2, L_0, L_1, L_2, L_3, L_4, L_5, L_6, L_7, L_8, L_9, L_10, L_11, L_12, L_13, L_20, L_24, L_26, L_30, L_31, L_32, L_39, L_40, L_48, L_57, L_76, L_80, L_90, L_91, L_97, L_99, L_100, L_255, L_273, L_1000, L_2000, q_ld, q_ldL, q_sto, q_stoL, q_add, q_sub, q_mul, q_dec, q_rem, q_div, q_lt_t, q_lt_f, q_le_t, q_le_f, q_eq_t, q_eq_f, q_em, q_me, q_ml, q_lm, q_mle, q_lem, q_s1, q_s1o, q_s1k, q_s12, q_s2, q_s2o, q_s2k, q_s21, Nat.add_sub_cancel, q_or, q_and, q_shl, true_or, or_true, false_or, or_false, true_and, and_true, false_and, and_false, not_true_eq_false, not_false_eq_true, ne_eq, e43, L_1048576, eF, eq_false (fun q => (hval.mp q) d), gC_Paths_idlePeople_145]
      · rw [if_pos c, if_neg (fun q : 0 < TP w u k 100 100 (sw i) ∧ 0 < TN w v 100 100 (sw i) => d q.2)]
        simp (disch := omega) only [Option.bind_some, ↓reduceIte, ↓M_1, ↓M_2, L_0, L_1, L_2, L_3, L_4, L_5, L_6, L_7, L_8, L_9, L_10, L_11, L_12, L_13, L_20, L_24, L_26, L_30, L_31, L_32, L_39, L_40, L_48, L_57, L_76, L_80, L_90, L_91, L_97, L_99, L_100, L_255, L_273, L_1000, L_2000, q_ld, q_ldL, q_sto, q_stoL, q_add, q_sub, q_mul, q_dec, q_rem, q_div, q_lt_t, q_lt_f, q_le_t, q_le_f, q_eq_t, q_eq_f, q_em, q_me, q_ml, q_lm, q_mle, q_lem, q_s1, q_s1o, q_s1k, q_s12, q_s2, q_s2o, q_s2k, q_s21, Nat.add_sub_cancel, q_or, q_and, q_shl, true_or, or_true, false_or, or_false, true_and, and_true, false_and, and_false, not_true_eq_false, not_false_eq_true, ne_eq, e43, L_1048576, eF, eq_true (hval.mpr d), gC_Paths_idlePeople_145]
    · rw [if_neg c, if_neg (fun q : 0 < TP w u k 100 100 (sw i) ∧ 0 < TN w v 100 100 (sw i) => c q.1)]
      simp (disch := omega) only [Option.bind_some, ↓reduceIte, ↓M_1, ↓M_2, L_0, L_1, L_2, L_3, L_4, L_5, L_6, L_7, L_8, L_9, L_10, L_11, L_12, L_13, L_20, L_24, L_26, L_30, L_31, L_32, L_39, L_40, L_48, L_57, L_76, L_80, L_90, L_91, L_97, L_99, L_100, L_255, L_273, L_1000, L_2000, q_ld, q_ldL, q_sto, q_stoL, q_add, q_sub, q_mul, q_dec, q_rem, q_div, q_lt_t, q_lt_f, q_le_t, q_le_f, q_eq_t, q_eq_f, q_em, q_me, q_ml, q_lm, q_mle, q_lem, q_s1, q_s1o, q_s1k, q_s12, q_s2, q_s2o, q_s2k, q_s21, Nat.add_sub_cancel, q_or, q_and, q_shl, true_or, or_true, false_or, or_false, true_and, and_true, false_and, and_false, not_true_eq_false, not_false_eq_true, ne_eq, gC_Paths_idlePeople_145]
  · show gC_Paths_idlePeople_29 N (f + 1) (nI u) (nI k) (nI (bsy w u v k (2 * w 5 1))) (nI (2 * w 5 1)) y = _
    have eall : fC_Roads_everybody N y = some (nI (2 ^ w 5 0 - 1), y) := by
      simp (disch := omega) only [Option.bind_some, ↓reduceIte, ↓M_1, ↓M_2, L_0, L_1, L_2, L_3, L_4, L_5, L_6, L_7, L_8, L_9, L_10, L_11, L_12, L_13, L_20, L_24, L_26, L_30, L_31, L_32, L_39, L_40, L_48, L_57, L_76, L_80, L_90, L_91, L_97, L_99, L_100, L_255, L_273, L_1000, L_2000, q_ld, q_ldL, q_sto, q_stoL, q_add, q_mul, q_dec, q_rem, q_div, q_lt_t, q_lt_f, q_le_t, q_le_f, q_eq_t, q_eq_f, q_em, q_me, q_ml, q_lm, q_mle, q_lem, q_s1, q_s1o, q_s1k, q_s12, q_s2, q_s2o, q_s2k, q_s21, Nat.add_sub_cancel, q_or, q_and, true_or, or_true, false_or, or_false, true_and, and_true, false_and, and_false, not_true_eq_false, not_false_eq_true, ne_eq, fC_Roads_everybody, gC_Roads_everybody_0, hy.p, hs1]
    rw [gC_Paths_idlePeople_29]
    simp (disch := omega) only [Option.bind_some, ↓reduceIte, ↓M_1, ↓M_2, L_0, L_1, L_2, L_3, L_4, L_5, L_6, L_7, L_8, L_9, L_10, L_11, L_12, L_13, L_20, L_24, L_26, L_30, L_31, L_32, L_39, L_40, L_48, L_57, L_76, L_80, L_90, L_91, L_97, L_99, L_100, L_255, L_273, L_1000, L_2000, q_ld, q_ldL, q_sto, q_stoL, q_add, q_sub, q_mul, q_dec, q_rem, q_div, q_lt_t, q_lt_f, q_le_t, q_le_f, q_eq_t, q_eq_f, q_em, q_me, q_ml, q_lm, q_mle, q_lem, q_s1, q_s1o, q_s1k, q_s12, q_s2, q_s2o, q_s2k, q_s21, Nat.add_sub_cancel, q_or, q_and, q_shl, true_or, or_true, false_or, or_false, true_and, and_true, false_and, and_false, not_true_eq_false, not_false_eq_true, ne_eq, hy.m, eall, q_nand]
theorem M_idle32 (h : MW w t) (hN : 60 ≤ N) (hu : u < w 5 0) (hv : v < w 5 0) (hk : k < 100) (h35 : t.1 0 35 = gI 100) (hlt : cw w u v k 100 100 < 2 ^ 41) : ∃ z, gM_EachAddsALineModel_idle_32 N N (nI u) (nI v) (nI k) (lN (cw w u v k 100 100)) (nI 0) (nI 0) t = some (nI (bset (idl w u v k) (w 5 0)), z) ∧ Fm [11] [14] [30, 37] t z ∧ z.1 0 37 = mI 1 := by
  have hb := h.bd
  refine loopU (fun f i z => gM_EachAddsALineModel_idle_32 N f (nI u) (nI v) (nI k) (lN (cw w u v k 100 100)) (nI (bset (idl w u v k) i)) (nI i) z) (w 5 0) (fun i z => i ≤ w 5 0 ∧ Fm [11] [14] [30, 37] t z) (fun o => ∃ z, o = some (nI (bset (idl w u v k) (w 5 0)), z) ∧ Fm [11] [14] [30, 37] t z ∧ z.1 0 37 = mI 1) ?_ ?_ (w 5 0) N 0 t (by omega) (by omega) ⟨by omega, Fm.rf⟩
  · rintro f i z hi ⟨g1, g2⟩
    have hz : MW w z := h.fm g2 (by decide) (by decide)
    by_cases c1 : i = u
    · refine Or.inl ⟨z, ?_, by omega, g2⟩
      rw [bset_f (f := idl w u v k) (decide_eq_false (fun q => q.1 c1)), gM_EachAddsALineModel_idle_32]
      simp (disch := omega) only [Option.bind_some, ↓reduceIte, ↓M_1, ↓M_2, L_0, L_1, L_2, L_3, L_4, L_5, L_6, L_7, L_8, L_9, L_10, L_11, L_12, L_13, L_20, L_24, L_26, L_30, L_31, L_32, L_39, L_40, L_48, L_57, L_76, L_80, L_90, L_91, L_97, L_99, L_100, L_255, L_273, L_1000, L_2000, q_ld, q_ldL, q_sto, q_stoL, q_add, q_sub, q_mul, q_dec, q_rem, q_div, q_lt_t, q_lt_f, q_le_t, q_le_f, q_eq_t, q_eq_f, q_em, q_me, q_ml, q_lm, q_mle, q_lem, q_s1, q_s1o, q_s1k, q_s12, q_s2, q_s2o, q_s2k, q_s21, Nat.add_sub_cancel, q_or, q_and, q_shl, true_or, or_true, false_or, or_false, true_and, and_true, false_and, and_false, not_true_eq_false, not_false_eq_true, ne_eq, hz.p, gM_EachAddsALineModel_idle_88]
    · by_cases c2 : i = v
      · refine Or.inl ⟨z, ?_, by omega, g2⟩
        rw [bset_f (f := idl w u v k) (decide_eq_false (fun q => q.2.1 c2)), gM_EachAddsALineModel_idle_32]
        simp (disch := omega) only [Option.bind_some, ↓reduceIte, ↓M_1, ↓M_2, L_0, L_1, L_2, L_3, L_4, L_5, L_6, L_7, L_8, L_9, L_10, L_11, L_12, L_13, L_20, L_24, L_26, L_30, L_31, L_32, L_39, L_40, L_48, L_57, L_76, L_80, L_90, L_91, L_97, L_99, L_100, L_255, L_273, L_1000, L_2000, q_ld, q_ldL, q_sto, q_stoL, q_add, q_sub, q_mul, q_dec, q_rem, q_div, q_lt_t, q_lt_f, q_le_t, q_le_f, q_eq_t, q_eq_f, q_em, q_me, q_ml, q_lm, q_mle, q_lem, q_s1, q_s1o, q_s1k, q_s12, q_s2, q_s2o, q_s2k, q_s21, Nat.add_sub_cancel, q_or, q_and, q_shl, true_or, or_true, false_or, or_false, true_and, and_true, false_and, and_false, not_true_eq_false, not_false_eq_true, ne_eq, hz.p, gM_EachAddsALineModel_idle_88]
      · have f3 : Fm [11] [14] [30, 37] t (s1 z 0 37 (nI i)) := g2.tr (Fm.w10 (by decide))
        have hz3 : MW w (s1 z 0 37 (nI i)) := h.fm f3 (by decide) (by decide)
        obtain ⟨q', q1, q2, q3⟩ := M_countWays (N := N) (go := 100) (no := i) (k := k) hz3 hN hu hv (by omega) ((f3.2.2 35 (by decide)).trans h35) (by rw [q_s1, gI_nI (g := i) (by omega)])
        have ecm := cmpL (a := cw w u v k 100 i) (b := cw w u v k 100 100) (by omega) (by omega)
        have hbl := bset_lt (idl w u v k) i
        refine Or.inl ⟨q', ?_, by omega, f3.tr (q2.mono (by decide) (by decide) (by decide))⟩
        by_cases d : cw w u v k 100 i = cw w u v k 100 100
        · rw [bset_t (f := idl w u v k) (decide_eq_true ⟨c1, c2, d⟩), gM_EachAddsALineModel_idle_32]
          simp (disch := omega) only [Option.bind_some, ↓reduceIte, ↓M_1, ↓M_2, L_0, L_1, L_2, L_3, L_4, L_5, L_6, L_7, L_8, L_9, L_10, L_11, L_12, L_13, L_20, L_24, L_26, L_30, L_31, L_32, L_39, L_40, L_48, L_57, L_76, L_80, L_90, L_91, L_97, L_99, L_100, L_255, L_273, L_1000, L_2000, q_ld, q_ldL, q_sto, q_stoL, q_add, q_sub, q_mul, q_dec, q_rem, q_div, q_lt_t, q_lt_f, q_le_t, q_le_f, q_eq_t, q_eq_f, q_em, q_me, q_ml, q_lm, q_mle, q_lem, q_s1, q_s1o, q_s1k, q_s12, q_s2, q_s2o, q_s2k, q_s21, Nat.add_sub_cancel, q_or, q_and, q_shl, true_or, or_true, false_or, or_false, true_and, and_true, false_and, and_false, not_true_eq_false, not_false_eq_true, ne_eq, hz.p, q1, ecm, eq_true d, gM_EachAddsALineModel_idle_85, gM_EachAddsALineModel_idle_88]
        · rw [bset_f (f := idl w u v k) (decide_eq_false (fun q => d q.2.2)), gM_EachAddsALineModel_idle_32]
          simp (disch := omega) only [Option.bind_some, ↓reduceIte, ↓M_1, ↓M_2, L_0, L_1, L_2, L_3, L_4, L_5, L_6, L_7, L_8, L_9, L_10, L_11, L_12, L_13, L_20, L_24, L_26, L_30, L_31, L_32, L_39, L_40, L_48, L_57, L_76, L_80, L_90, L_91, L_97, L_99, L_100, L_255, L_273, L_1000, L_2000, q_ld, q_ldL, q_sto, q_stoL, q_add, q_sub, q_mul, q_dec, q_rem, q_div, q_lt_t, q_lt_f, q_le_t, q_le_f, q_eq_t, q_eq_f, q_em, q_me, q_ml, q_lm, q_mle, q_lem, q_s1, q_s1o, q_s1k, q_s12, q_s2, q_s2o, q_s2k, q_s21, Nat.add_sub_cancel, q_or, q_and, q_shl, true_or, or_true, false_or, or_false, true_and, and_true, false_and, and_false, not_true_eq_false, not_false_eq_true, ne_eq, hz.p, q1, ecm, eq_false d, gM_EachAddsALineModel_idle_85, gM_EachAddsALineModel_idle_88, Nat.or_zero]
  · rintro f z ⟨g1, g2⟩
    have hz : MW w z := h.fm g2 (by decide) (by decide)
    refine ⟨s1 z 0 37 (mI 1), ?_, g2.tr (Fm.w10 (by decide)), q_s1 _ _ _ _⟩
    try simp only
    rw [gM_EachAddsALineModel_idle_32]
    simp (disch := omega) only [Option.bind_some, ↓reduceIte, ↓M_1, ↓M_2, L_0, L_1, L_2, L_3, L_4, L_5, L_6, L_7, L_8, L_9, L_10, L_11, L_12, L_13, L_20, L_24, L_26, L_30, L_31, L_32, L_39, L_40, L_48, L_57, L_76, L_80, L_90, L_91, L_97, L_99, L_100, L_255, L_273, L_1000, L_2000, q_ld, q_ldL, q_sto, q_stoL, q_add, q_sub, q_mul, q_dec, q_rem, q_div, q_lt_t, q_lt_f, q_le_t, q_le_f, q_eq_t, q_eq_f, q_em, q_me, q_ml, q_lm, q_mle, q_lem, q_s1, q_s1o, q_s1k, q_s12, q_s2, q_s2o, q_s2k, q_s21, Nat.add_sub_cancel, q_or, q_and, q_shl, true_or, or_true, false_or, or_false, true_and, and_true, false_and, and_false, not_true_eq_false, not_false_eq_true, ne_eq, hz.p]
theorem k_idle (hU : okU U) (hN : 200 ≤ N) : keeps3 N (RR U) fC_EachAddsALine_idle fM_EachAddsALineModel_idle := by
  refine keeps3_trip hU (fun w s a b c hw e => by simp (disch := omega) only [Option.bind_some, ↓reduceIte, ↓M_1, ↓M_2, L_0, L_1, L_2, L_3, L_4, L_5, L_6, L_7, L_8, L_9, L_10, L_11, L_12, L_13, L_20, L_24, L_26, L_30, L_31, L_32, L_39, L_40, L_48, L_57, L_76, L_80, L_90, L_91, L_97, L_99, L_100, L_255, L_273, L_1000, L_2000, q_ld, q_ldL, q_sto, q_stoL, q_add, q_sub, q_mul, q_dec, q_rem, q_div, q_lt_t, q_lt_f, q_le_t, q_le_f, q_eq_t, q_eq_f, q_em, q_me, q_ml, q_lm, q_mle, q_lem, q_s1, q_s1o, q_s1k, q_s12, q_s2, q_s2o, q_s2k, q_s21, Nat.add_sub_cancel, q_or, q_and, q_shl, true_or, or_true, false_or, or_false, true_and, and_true, false_and, and_false, not_true_eq_false, not_false_eq_true, ne_eq, fC_EachAddsALine_idle, gC_EachAddsALine_idle_0, e]) (fun w t a b c hw e => by simp (disch := omega) only [Option.bind_some, ↓reduceIte, ↓M_1, ↓M_2, L_0, L_1, L_2, L_3, L_4, L_5, L_6, L_7, L_8, L_9, L_10, L_11, L_12, L_13, L_20, L_24, L_26, L_30, L_31, L_32, L_39, L_40, L_48, L_57, L_76, L_80, L_90, L_91, L_97, L_99, L_100, L_255, L_273, L_1000, L_2000, q_ld, q_ldL, q_sto, q_stoL, q_add, q_sub, q_mul, q_dec, q_rem, q_div, q_lt_t, q_lt_f, q_le_t, q_le_f, q_eq_t, q_eq_f, q_em, q_me, q_ml, q_lm, q_mle, q_lem, q_s1, q_s1o, q_s1k, q_s12, q_s2, q_s2o, q_s2k, q_s21, Nat.add_sub_cancel, q_or, q_and, q_shl, true_or, or_true, false_or, or_false, true_and, and_true, false_and, and_false, not_true_eq_false, not_false_eq_true, ne_eq, fM_EachAddsALineModel_idle, gM_EachAddsALineModel_idle_0, e]) (fun s t w u v k hr h1 h2 hu hv hk ec em => ?_)
  have hmc := hr.mc.r
  have h2' := M_rd0 h2 (nI 0)
  obtain ⟨z, x1, x2⟩ := C_idle (N := N) h1 hN hu hv hk
  rw [idl_eq h1.ok hu hv] at x1
  obtain ⟨y, y1, y2, y3⟩ := M_countWays (N := N) (go := 100) (no := 100) (k := k) h2' (by omega) hu hv (by omega) (by simp (disch := omega) only [Option.bind_some, ↓reduceIte, ↓M_1, ↓M_2, L_0, L_1, L_2, L_3, L_4, L_5, L_6, L_7, L_8, L_9, L_10, L_11, L_12, L_13, L_20, L_24, L_26, L_30, L_31, L_32, L_39, L_40, L_48, L_57, L_76, L_80, L_90, L_91, L_97, L_99, L_100, L_255, L_273, L_1000, L_2000, q_ld, q_ldL, q_sto, q_stoL, q_add, q_sub, q_mul, q_dec, q_rem, q_div, q_lt_t, q_lt_f, q_le_t, q_le_f, q_eq_t, q_eq_f, q_em, q_me, q_ml, q_lm, q_mle, q_lem, q_s1, q_s1o, q_s1k, q_s12, q_s2, q_s2o, q_s2k, q_s21, Nat.add_sub_cancel, q_or, q_and, q_shl, true_or, or_true, false_or, or_false, true_and, and_true, false_and, and_false, not_true_eq_false, not_false_eq_true, ne_eq]; exact hmc.2.1) (by simp (disch := omega) only [Option.bind_some, ↓reduceIte, ↓M_1, ↓M_2, L_0, L_1, L_2, L_3, L_4, L_5, L_6, L_7, L_8, L_9, L_10, L_11, L_12, L_13, L_20, L_24, L_26, L_30, L_31, L_32, L_39, L_40, L_48, L_57, L_76, L_80, L_90, L_91, L_97, L_99, L_100, L_255, L_273, L_1000, L_2000, q_ld, q_ldL, q_sto, q_stoL, q_add, q_sub, q_mul, q_dec, q_rem, q_div, q_lt_t, q_lt_f, q_le_t, q_le_f, q_eq_t, q_eq_f, q_em, q_me, q_ml, q_lm, q_mle, q_lem, q_s1, q_s1o, q_s1k, q_s12, q_s2, q_s2o, q_s2k, q_s21, Nat.add_sub_cancel, q_or, q_and, q_shl, true_or, or_true, false_or, or_false, true_and, and_true, false_and, and_false, not_true_eq_false, not_false_eq_true, ne_eq]; exact hmc.2.2.1)
  have fy : Fm [11] [14] [11, 30] t y := (Fm.w10 (by decide)).tr (y2.mono (by decide) (by decide) (by decide))
  obtain ⟨y', m1, m2, m3⟩ := M_idle32 (N := N) (h2.fm fy (by decide) (by decide)) (by omega) hu hv hk ((fy.2.2 35 (by decide)).trans hmc.2.1) y3
  have f4 : Fm [11] [14] [11, 30, 37] t y' := (fy.mono (by decide) (by decide) (by decide)).tr (m2.mono (by decide) (by decide) (by decide))
  refine ⟨nI (bset (idl w u v k) (w 5 0)), z, y', ?_, ?_, hr.roM hU (hr.ron.fr x2 f4 (by decide) (by decide)) ⟨(f4.2.2 34 (by decide)).trans hmc.1, (f4.2.2 35 (by decide)).trans hmc.2.1, m3, (f4.2.2 44 (by decide)).trans hmc.2.2.2⟩ x2 f4 (by decide) (by decide) (by decide)⟩
  · simp (disch := omega) only [Option.bind_some, ↓reduceIte, ↓M_1, ↓M_2, L_0, L_1, L_2, L_3, L_4, L_5, L_6, L_7, L_8, L_9, L_10, L_11, L_12, L_13, L_20, L_24, L_26, L_30, L_31, L_32, L_39, L_40, L_48, L_57, L_76, L_80, L_90, L_91, L_97, L_99, L_100, L_255, L_273, L_1000, L_2000, q_ld, q_ldL, q_sto, q_stoL, q_add, q_sub, q_mul, q_dec, q_rem, q_div, q_lt_t, q_lt_f, q_le_t, q_le_f, q_eq_t, q_eq_f, q_em, q_me, q_ml, q_lm, q_mle, q_lem, q_s1, q_s1o, q_s1k, q_s12, q_s2, q_s2o, q_s2k, q_s21, Nat.add_sub_cancel, q_or, q_and, q_shl, true_or, or_true, false_or, or_false, true_and, and_true, false_and, and_false, not_true_eq_false, not_false_eq_true, ne_eq, fC_EachAddsALine_idle, gC_EachAddsALine_idle_0, ec, x1]
  · simp (disch := omega) only [Option.bind_some, ↓reduceIte, ↓M_1, ↓M_2, L_0, L_1, L_2, L_3, L_4, L_5, L_6, L_7, L_8, L_9, L_10, L_11, L_12, L_13, L_20, L_24, L_26, L_30, L_31, L_32, L_39, L_40, L_48, L_57, L_76, L_80, L_90, L_91, L_97, L_99, L_100, L_255, L_273, L_1000, L_2000, q_ld, q_ldL, q_sto, q_stoL, q_add, q_sub, q_mul, q_dec, q_rem, q_div, q_lt_t, q_lt_f, q_le_t, q_le_f, q_eq_t, q_eq_f, q_em, q_me, q_ml, q_lm, q_mle, q_lem, q_s1, q_s1o, q_s1k, q_s12, q_s2, q_s2o, q_s2k, q_s21, Nat.add_sub_cancel, q_or, q_and, q_shl, true_or, or_true, false_or, or_false, true_and, and_true, false_and, and_false, not_true_eq_false, not_false_eq_true, ne_eq, fM_EachAddsALineModel_idle, gM_EachAddsALineModel_idle_0, em, y1, m1]
end NI
