/-! tales: writers, when, copies -/
section HK
variable {N : Nat} {w : Nat → Nat → Nat} {C : List Nat} {x ta tb : Nat → Nat} {n n' u v r k a q y off : Nat} {s t : vSt}
abbrev wP (w : Nat → Nat → Nat) (C : List Nat) (ta : Nat → Nat) (n v k : Nat) : Nat → Bool := fun p => decide (0 < CF w C ta n p v k 100)
theorem C_writers (h : CW w s) (hN : 60 ≤ N) (hJ : CJ w C ta n v s) (hn0 : 0 < n) (hF : CN w C ta n v s) (hv : v < w 5 0) (hk : k < 1000) : gC_EachAddsALine_writers_50 N N (nI k) (nI 0) (nI 0) s = some (nI (wrB (wP w C ta n v k) (w 5 0)), s) := by
  have hb := h.bd
  have hn := hJ.1
  refine loopS (fun f i (b : Nat) => gC_EachAddsALine_writers_50 N f (nI k) (nI b) (nI i) s) (fun i => wrB (wP w C ta n v k) i) (w 5 0) _ (fun f i hi => ?_) (fun f => ?_) N (by omega)
  · have ef := C_fitting (N := N) (u := i) h hN hJ hn0 hF hi hv hk
    have hA := CF_lt (C := C) (ta := ta) (n := n) (u := i) (v := v) (r := k) (no := 100) h.ok hn
    have ec := cmpL_le (a := CF w C ta n i v k 100) (b := 0) (Nat.lt_trans hA (by decide)) (by decide)
    show gC_EachAddsALine_writers_50 N (f + 1) (nI k) (nI (wrB (wP w C ta n v k) i)) (nI i) s = gC_EachAddsALine_writers_50 N f (nI k) (nI (wrB (wP w C ta n v k) (i + 1))) (nI (i + 1)) s
    rw [wrB_s, gC_EachAddsALine_writers_50]
    by_cases c : 0 < CF w C ta n i v k 100
    · rw [eq_false (show ¬ CF w C ta n i v k 100 ≤ 0 by omega)] at ec
      rw [if_pos (decide_eq_true c)]
      simp (disch := omega) only [Option.bind_some, ↓reduceIte, ↓M_1, ↓M_2, L_0, L_1, L_2, L_3, L_4, L_5, L_6, L_7, L_8, L_9, L_10, L_11, L_12, L_13, L_20, L_24, L_26, L_30, L_31, L_32, L_39, L_40, L_48, L_57, L_76, L_80, L_90, L_91, L_97, L_99, L_100, L_255, L_273, L_1000, L_2000, q_ld, q_ldL, q_sto, q_stoL, q_add, q_sub, q_mul, q_dec, q_rem, q_div, q_lt_t, q_lt_f, q_le_t, q_le_f, q_eq_t, q_eq_f, q_em, q_me, q_ml, q_lm, q_mle, q_lem, q_s1, q_s1o, q_s1k, q_s12, q_s2, q_s2o, q_s2k, q_s21, Nat.add_sub_cancel, q_or, q_and, q_shl, true_or, or_true, false_or, or_false, true_and, and_true, false_and, and_false, not_true_eq_false, not_false_eq_true, ne_eq, h.p, ef, l_0, ec, gC_EachAddsALine_writers_84, q_shl]
    · rw [eq_true (show CF w C ta n i v k 100 ≤ 0 by omega)] at ec
      rw [if_neg (show ¬ wP w C ta n v k i = true from fun z => c (of_decide_eq_true z))]
      simp (disch := omega) only [Option.bind_some, ↓reduceIte, ↓M_1, ↓M_2, L_0, L_1, L_2, L_3, L_4, L_5, L_6, L_7, L_8, L_9, L_10, L_11, L_12, L_13, L_20, L_24, L_26, L_30, L_31, L_32, L_39, L_40, L_48, L_57, L_76, L_80, L_90, L_91, L_97, L_99, L_100, L_255, L_273, L_1000, L_2000, q_ld, q_ldL, q_sto, q_stoL, q_add, q_sub, q_mul, q_dec, q_rem, q_div, q_lt_t, q_lt_f, q_le_t, q_le_f, q_eq_t, q_eq_f, q_em, q_me, q_ml, q_lm, q_mle, q_lem, q_s1, q_s1o, q_s1k, q_s12, q_s2, q_s2o, q_s2k, q_s21, Nat.add_sub_cancel, q_or, q_and, q_shl, true_or, or_true, false_or, or_false, true_and, and_true, false_and, and_false, not_true_eq_false, not_false_eq_true, ne_eq, h.p, ef, l_0, ec, gC_EachAddsALine_writers_84]
  · show gC_EachAddsALine_writers_50 N (f + 1) (nI k) (nI (wrB (wP w C ta n v k) (w 5 0))) (nI (w 5 0)) s = _
    rw [gC_EachAddsALine_writers_50]
    simp (disch := omega) only [Option.bind_some, ↓reduceIte, ↓M_1, ↓M_2, L_0, L_1, L_2, L_3, L_4, L_5, L_6, L_7, L_8, L_9, L_10, L_11, L_12, L_13, L_20, L_24, L_26, L_30, L_31, L_32, L_39, L_40, L_48, L_57, L_76, L_80, L_90, L_91, L_97, L_99, L_100, L_255, L_273, L_1000, L_2000, q_ld, q_ldL, q_sto, q_stoL, q_add, q_sub, q_mul, q_dec, q_rem, q_div, q_lt_t, q_lt_f, q_le_t, q_le_f, q_eq_t, q_eq_f, q_em, q_me, q_ml, q_lm, q_mle, q_lem, q_s1, q_s1o, q_s1k, q_s12, q_s2, q_s2o, q_s2k, q_s21, Nat.add_sub_cancel, q_or, q_and, q_shl, true_or, or_true, false_or, or_false, true_and, and_true, false_and, and_false, not_true_eq_false, not_false_eq_true, ne_eq, h.p]
theorem M_writers (h : MW w t) (hN : 200 ≤ N) (hU : UM N q x C t) (hT : MT 0 n ta t) (hn0 : 0 < n) (h40 : t.1 0 40 = nI n) (h35 : t.1 0 35 = gI 100) (h37 : t.1 0 37 = gI 100) (hv : v < w 5 0) (hk : k < 1000) :
    ∃ z, gM_EachAddsALineModel_writers_32 N N (nI v) (nI k) (nI 0) (nI 0) t = some (nI (wrB (wP w C ta n v k) (w 5 0)), z) ∧ Fm [11] [17] [12, 13, 14, 15, 16, 19, 20, 21, 22, 23, 24, 25, 26, 30] t z := by
  have hb := h.bd
  refine loopU (fun f i z => gM_EachAddsALineModel_writers_32 N f (nI v) (nI k) (nI (wrB (wP w C ta n v k) i)) (nI i) z) (w 5 0) (fun i z => i ≤ w 5 0 ∧ Fm [11] [17] [12, 13, 14, 15, 16, 19, 20, 21, 22, 23, 24, 25, 26, 30] t z) (fun o => ∃ z, o = some (nI (wrB (wP w C ta n v k) (w 5 0)), z) ∧ Fm [11] [17] [12, 13, 14, 15, 16, 19, 20, 21, 22, 23, 24, 25, 26, 30] t z) ?_ ?_ (w 5 0) N 0 t (by omega) (by omega) ⟨by omega, Fm.rf⟩
  · rintro f i z hi ⟨g1, fz⟩
    have hz : MW w z := h.fm fz (by decide) (by decide)
    have z40 : z.1 0 40 = nI n := (fz.2.2 40 (by decide)).trans h40
    obtain ⟨z', v1, v2, _⟩ := M_countFits (N := N) (no := 100) (r := k) (u := i) (v := v) hz (by omega) (hU.fm fz (by decide) (by decide)) (hT.fm fz (by decide)) (by omega) hn0 ((fz.2.2 35 (by decide)).trans h35) ((fz.2.2 37 (by decide)).trans h37) (by omega) hi hv hk
    have hA := CF_lt (C := C) (ta := ta) (n := n) (u := i) (v := v) (r := k) (no := 100) h.ok hT.1
    have ec := cmpL_le (a := CF w C ta n i v k 100) (b := 0) (Nat.lt_trans hA (by decide)) (by decide)
    refine Or.inl ⟨z', ?_, by omega, fz.tr v2⟩
    show gM_EachAddsALineModel_writers_32 N (f + 1) (nI v) (nI k) (nI (wrB (wP w C ta n v k) i)) (nI i) z = gM_EachAddsALineModel_writers_32 N f (nI v) (nI k) (nI (wrB (wP w C ta n v k) (i + 1))) (nI (i + 1)) z'
    rw [wrB_s, gM_EachAddsALineModel_writers_32]
    by_cases c : 0 < CF w C ta n i v k 100
    · rw [eq_false (show ¬ CF w C ta n i v k 100 ≤ 0 by omega)] at ec
      rw [if_pos (decide_eq_true c)]
      simp (disch := omega) only [Option.bind_some, ↓reduceIte, ↓M_1, ↓M_2, L_0, L_1, L_2, L_3, L_4, L_5, L_6, L_7, L_8, L_9, L_10, L_11, L_12, L_13, L_20, L_24, L_26, L_30, L_31, L_32, L_39, L_40, L_48, L_57, L_76, L_80, L_90, L_91, L_97, L_99, L_100, L_255, L_273, L_1000, L_2000, q_ld, q_ldL, q_sto, q_stoL, q_add, q_sub, q_mul, q_dec, q_rem, q_div, q_lt_t, q_lt_f, q_le_t, q_le_f, q_eq_t, q_eq_f, q_em, q_me, q_ml, q_lm, q_mle, q_lem, q_s1, q_s1o, q_s1k, q_s12, q_s2, q_s2o, q_s2k, q_s21, Nat.add_sub_cancel, q_or, q_and, q_shl, true_or, or_true, false_or, or_false, true_and, and_true, false_and, and_false, not_true_eq_false, not_false_eq_true, ne_eq, hz.p, z40, v1, l_0, ec, gM_EachAddsALineModel_writers_68, q_shl]
    · rw [eq_true (show CF w C ta n i v k 100 ≤ 0 by omega)] at ec
      rw [if_neg (show ¬ wP w C ta n v k i = true from fun z => c (of_decide_eq_true z))]
      simp (disch := omega) only [Option.bind_some, ↓reduceIte, ↓M_1, ↓M_2, L_0, L_1, L_2, L_3, L_4, L_5, L_6, L_7, L_8, L_9, L_10, L_11, L_12, L_13, L_20, L_24, L_26, L_30, L_31, L_32, L_39, L_40, L_48, L_57, L_76, L_80, L_90, L_91, L_97, L_99, L_100, L_255, L_273, L_1000, L_2000, q_ld, q_ldL, q_sto, q_stoL, q_add, q_sub, q_mul, q_dec, q_rem, q_div, q_lt_t, q_lt_f, q_le_t, q_le_f, q_eq_t, q_eq_f, q_em, q_me, q_ml, q_lm, q_mle, q_lem, q_s1, q_s1o, q_s1k, q_s12, q_s2, q_s2o, q_s2k, q_s21, Nat.add_sub_cancel, q_or, q_and, q_shl, true_or, or_true, false_or, or_false, true_and, and_true, false_and, and_false, not_true_eq_false, not_false_eq_true, ne_eq, hz.p, z40, v1, l_0, ec, gM_EachAddsALineModel_writers_68, Nat.or_zero]
  · rintro f z ⟨_, fz⟩
    have hz : MW w z := h.fm fz (by decide) (by decide)
    refine ⟨z, ?_, fz⟩
    show gM_EachAddsALineModel_writers_32 N (f + 1) (nI v) (nI k) (nI (wrB (wP w C ta n v k) (w 5 0))) (nI (w 5 0)) z = _
    rw [gM_EachAddsALineModel_writers_32]
    simp (disch := omega) only [Option.bind_some, ↓reduceIte, ↓M_1, ↓M_2, L_0, L_1, L_2, L_3, L_4, L_5, L_6, L_7, L_8, L_9, L_10, L_11, L_12, L_13, L_20, L_24, L_26, L_30, L_31, L_32, L_39, L_40, L_48, L_57, L_76, L_80, L_90, L_91, L_97, L_99, L_100, L_255, L_273, L_1000, L_2000, q_ld, q_ldL, q_sto, q_stoL, q_add, q_sub, q_mul, q_dec, q_rem, q_div, q_lt_t, q_lt_f, q_le_t, q_le_f, q_eq_t, q_eq_f, q_em, q_me, q_ml, q_lm, q_mle, q_lem, q_s1, q_s1o, q_s1k, q_s12, q_s2, q_s2o, q_s2k, q_s21, Nat.add_sub_cancel, q_or, q_and, q_shl, true_or, or_true, false_or, or_false, true_and, and_true, false_and, and_false, not_true_eq_false, not_false_eq_true, ne_eq, hz.p]
theorem k_writers (hN : 200 ≤ N) : keeps2 N (RR (UR N)) fC_EachAddsALine_writers fM_EachAddsALineModel_writers := fun s t hr a b => by
  obtain ⟨w, h1, h2, _⟩ := id hr
  have hb := h1.bd
  have hmc := hr.mc.r
  have h2' := M_rd0 h2 (nI 0)
  obtain ⟨_, _, _, _, _, h5, _, _, h8, _⟩ := id hr
  by_cases d : isP (w 5 0) a
  · obtain ⟨v, hv, rfl⟩ := d
    have ep := C_hasPerson_t (N := N) h1 hv
    by_cases d2 : isP 100 b
    · obtain ⟨k, hk, rfl⟩ := d2
      have eh := C_isHour_t (N := N) (s := s) hk
      have em := M_isTrip_t (N := N) h2' hv hv hk
      obtain ⟨n, ta, hn1, hn2, hC, hM⟩ := h5.get
      have hn := hC.1
      have f11 : Fm [] [] [11] t (s1 t 0 11 (nI 0)) := Fm.w10 (by decide)
      by_cases c0 : n = 0
      · subst c0
        refine ⟨mI 2, s, s1 t 0 11 (nI 0), ?_, ?_, hr.k0 (okUR N)⟩
        · simp (disch := omega) only [Option.bind_some, ↓reduceIte, ↓M_1, ↓M_2, L_0, L_1, L_2, L_3, L_4, L_5, L_6, L_7, L_8, L_9, L_10, L_11, L_12, L_13, L_20, L_24, L_26, L_30, L_31, L_32, L_39, L_40, L_48, L_57, L_76, L_80, L_90, L_91, L_97, L_99, L_100, L_255, L_273, L_1000, L_2000, q_ld, q_ldL, q_sto, q_stoL, q_add, q_sub, q_mul, q_dec, q_rem, q_div, q_lt_t, q_lt_f, q_le_t, q_le_f, q_eq_t, q_eq_f, q_em, q_me, q_ml, q_lm, q_mle, q_lem, q_s1, q_s1o, q_s1k, q_s12, q_s2, q_s2o, q_s2k, q_s21, Nat.add_sub_cancel, q_or, q_and, q_shl, true_or, or_true, false_or, or_false, true_and, and_true, false_and, and_false, not_true_eq_false, not_false_eq_true, ne_eq, fC_EachAddsALine_writers, gC_EachAddsALine_writers_0, ep, eh, hn1]
        · simp (disch := omega) only [Option.bind_some, ↓reduceIte, ↓M_1, ↓M_2, L_0, L_1, L_2, L_3, L_4, L_5, L_6, L_7, L_8, L_9, L_10, L_11, L_12, L_13, L_20, L_24, L_26, L_30, L_31, L_32, L_39, L_40, L_48, L_57, L_76, L_80, L_90, L_91, L_97, L_99, L_100, L_255, L_273, L_1000, L_2000, q_ld, q_ldL, q_sto, q_stoL, q_add, q_sub, q_mul, q_dec, q_rem, q_div, q_lt_t, q_lt_f, q_le_t, q_le_f, q_eq_t, q_eq_f, q_em, q_me, q_ml, q_lm, q_mle, q_lem, q_s1, q_s1o, q_s1k, q_s12, q_s2, q_s2o, q_s2k, q_s21, Nat.add_sub_cancel, q_or, q_and, q_shl, true_or, or_true, false_or, or_false, true_and, and_true, false_and, and_false, not_true_eq_false, not_false_eq_true, ne_eq, fM_EachAddsALineModel_writers, gM_EachAddsALineModel_writers_0, em, hn2]
      · obtain ⟨q, x, C, u1, u2⟩ := h8.get
        have hU' := u1.fm f11 (by decide) (by decide)
        have hM' := hM.fm f11 (by decide)
        have hd := tale_den (N := N) (by omega) h2' hU' hM' (by omega)
        obtain ⟨z, z1, z2⟩ := M_writers (N := N) (v := v) (k := k) h2' hN hU' hM' (by omega) (by rw [f11.2.2 40 (by decide)]; exact hn2) (by rw [f11.2.2 35 (by decide)]; exact hmc.2.1) (by rw [f11.2.2 37 (by decide)]; exact hmc.2.2.1) hv (by omega)
        obtain ⟨y, y1, y2, y3, y4, y5⟩ := C_countFits_told (N := N) (v := v) (by omega) h1 u2 hn1 (by omega) hC hv hd
        have hy : CW w y := h1.fr y2 (by decide)
        have ew := C_writers (N := N) (k := k) hy (by omega) y4 (by omega) y5 hv (by omega)
        have fM : Fm [11] [17] [11, 12, 13, 14, 15, 16, 19, 20, 21, 22, 23, 24, 25, 26, 30] t z := (f11.mono (by decide) (by decide) (by decide)).tr (z2.mono (by decide) (by decide) (by decide))
        refine ⟨nI (wrB (wP w C ta n v k) (w 5 0)), y, z, ?_, ?_, hr.rm (hr.ron.fr y2 fM (by decide) (by decide)) (UR.put (u1.fm fM (by decide) (by decide)) (u2.fr y2 y3 (by decide))) (hr.mc.fr fM (by decide)) y2 fM (by decide) (by decide) (by decide)⟩
        · simp (disch := omega) only [Option.bind_some, ↓reduceIte, ↓M_1, ↓M_2, L_0, L_1, L_2, L_3, L_4, L_5, L_6, L_7, L_8, L_9, L_10, L_11, L_12, L_13, L_20, L_24, L_26, L_30, L_31, L_32, L_39, L_40, L_48, L_57, L_76, L_80, L_90, L_91, L_97, L_99, L_100, L_255, L_273, L_1000, L_2000, q_ld, q_ldL, q_sto, q_stoL, q_add, q_sub, q_mul, q_dec, q_rem, q_div, q_lt_t, q_lt_f, q_le_t, q_le_f, q_eq_t, q_eq_f, q_em, q_me, q_ml, q_lm, q_mle, q_lem, q_s1, q_s1o, q_s1k, q_s12, q_s2, q_s2o, q_s2k, q_s21, Nat.add_sub_cancel, q_or, q_and, q_shl, true_or, or_true, false_or, or_false, true_and, and_true, false_and, and_false, not_true_eq_false, not_false_eq_true, ne_eq, fC_EachAddsALine_writers, gC_EachAddsALine_writers_0, ep, eh, hn1, y1, ew]
        · simp (disch := omega) only [Option.bind_some, ↓reduceIte, ↓M_1, ↓M_2, L_0, L_1, L_2, L_3, L_4, L_5, L_6, L_7, L_8, L_9, L_10, L_11, L_12, L_13, L_20, L_24, L_26, L_30, L_31, L_32, L_39, L_40, L_48, L_57, L_76, L_80, L_90, L_91, L_97, L_99, L_100, L_255, L_273, L_1000, L_2000, q_ld, q_ldL, q_sto, q_stoL, q_add, q_sub, q_mul, q_dec, q_rem, q_div, q_lt_t, q_lt_f, q_le_t, q_le_f, q_eq_t, q_eq_f, q_em, q_me, q_ml, q_lm, q_mle, q_lem, q_s1, q_s1o, q_s1k, q_s12, q_s2, q_s2o, q_s2k, q_s21, Nat.add_sub_cancel, q_or, q_and, q_shl, true_or, or_true, false_or, or_false, true_and, and_true, false_and, and_false, not_true_eq_false, not_false_eq_true, ne_eq, fM_EachAddsALineModel_writers, gM_EachAddsALineModel_writers_0, em, hn2, z1]
    · have eh := C_isHour_f (N := N) (s := s) d2
      have em := M_isTrip_f (N := N) h2' (a := nI v) (b := nI v) (c := b) (fun z => d2 z.2.2)
      refine ⟨mI 1, s, s1 t 0 11 (nI 0), ?_, ?_, hr.k0 (okUR N)⟩
      · simp (disch := omega) only [Option.bind_some, ↓reduceIte, ↓M_1, ↓M_2, L_0, L_1, L_2, L_3, L_4, L_5, L_6, L_7, L_8, L_9, L_10, L_11, L_12, L_13, L_20, L_24, L_26, L_30, L_31, L_32, L_39, L_40, L_48, L_57, L_76, L_80, L_90, L_91, L_97, L_99, L_100, L_255, L_273, L_1000, L_2000, q_ld, q_ldL, q_sto, q_stoL, q_add, q_sub, q_mul, q_dec, q_rem, q_div, q_lt_t, q_lt_f, q_le_t, q_le_f, q_eq_t, q_eq_f, q_em, q_me, q_ml, q_lm, q_mle, q_lem, q_s1, q_s1o, q_s1k, q_s12, q_s2, q_s2o, q_s2k, q_s21, Nat.add_sub_cancel, q_or, q_and, q_shl, true_or, or_true, false_or, or_false, true_and, and_true, false_and, and_false, not_true_eq_false, not_false_eq_true, ne_eq, fC_EachAddsALine_writers, gC_EachAddsALine_writers_0, ep, eh]
      · simp (disch := omega) only [Option.bind_some, ↓reduceIte, ↓M_1, ↓M_2, L_0, L_1, L_2, L_3, L_4, L_5, L_6, L_7, L_8, L_9, L_10, L_11, L_12, L_13, L_20, L_24, L_26, L_30, L_31, L_32, L_39, L_40, L_48, L_57, L_76, L_80, L_90, L_91, L_97, L_99, L_100, L_255, L_273, L_1000, L_2000, q_ld, q_ldL, q_sto, q_stoL, q_add, q_sub, q_mul, q_dec, q_rem, q_div, q_lt_t, q_lt_f, q_le_t, q_le_f, q_eq_t, q_eq_f, q_em, q_me, q_ml, q_lm, q_mle, q_lem, q_s1, q_s1o, q_s1k, q_s12, q_s2, q_s2o, q_s2k, q_s21, Nat.add_sub_cancel, q_or, q_and, q_shl, true_or, or_true, false_or, or_false, true_and, and_true, false_and, and_false, not_true_eq_false, not_false_eq_true, ne_eq, fM_EachAddsALineModel_writers, gM_EachAddsALineModel_writers_0, em]
  · have ep := C_hasPerson_f (N := N) h1 d
    have em := M_isTrip_f (N := N) h2' (a := a) (b := a) (c := b) (fun z => d z.1)
    refine ⟨mI 1, s, s1 t 0 11 (nI 0), ?_, ?_, hr.k0 (okUR N)⟩
    · simp (disch := omega) only [Option.bind_some, ↓reduceIte, ↓M_1, ↓M_2, L_0, L_1, L_2, L_3, L_4, L_5, L_6, L_7, L_8, L_9, L_10, L_11, L_12, L_13, L_20, L_24, L_26, L_30, L_31, L_32, L_39, L_40, L_48, L_57, L_76, L_80, L_90, L_91, L_97, L_99, L_100, L_255, L_273, L_1000, L_2000, q_ld, q_ldL, q_sto, q_stoL, q_add, q_sub, q_mul, q_dec, q_rem, q_div, q_lt_t, q_lt_f, q_le_t, q_le_f, q_eq_t, q_eq_f, q_em, q_me, q_ml, q_lm, q_mle, q_lem, q_s1, q_s1o, q_s1k, q_s12, q_s2, q_s2o, q_s2k, q_s21, Nat.add_sub_cancel, q_or, q_and, q_shl, true_or, or_true, false_or, or_false, true_and, and_true, false_and, and_false, not_true_eq_false, not_false_eq_true, ne_eq, fC_EachAddsALine_writers, gC_EachAddsALine_writers_0, ep]
    · simp (disch := omega) only [Option.bind_some, ↓reduceIte, ↓M_1, ↓M_2, L_0, L_1, L_2, L_3, L_4, L_5, L_6, L_7, L_8, L_9, L_10, L_11, L_12, L_13, L_20, L_24, L_26, L_30, L_31, L_32, L_39, L_40, L_48, L_57, L_76, L_80, L_90, L_91, L_97, L_99, L_100, L_255, L_273, L_1000, L_2000, q_ld, q_ldL, q_sto, q_stoL, q_add, q_sub, q_mul, q_dec, q_rem, q_div, q_lt_t, q_lt_f, q_le_t, q_le_f, q_eq_t, q_eq_f, q_em, q_me, q_ml, q_lm, q_mle, q_lem, q_s1, q_s1o, q_s1k, q_s12, q_s2, q_s2o, q_s2k, q_s21, Nat.add_sub_cancel, q_or, q_and, q_shl, true_or, or_true, false_or, or_false, true_and, and_true, false_and, and_false, not_true_eq_false, not_false_eq_true, ne_eq, fM_EachAddsALineModel_writers, gM_EachAddsALineModel_writers_0, em]
/-- the hours that were found, told -/
theorem hours_end {s y s' t t0 z : vSt} (hr : RR (UR N) s t) (u1 : UM N q x C t) (u2 : UC C s) (f0 : Fm [] [] [11] t t0) (y2 : Fr [17, 19, 20, 46, 47] [48] s y) (y3 : y.1 17 1 = s.1 17 1) {Y : Nat} (hY : Y ≤ 100) (hz : HT Y 100 t0 z)
    (e1 : fC_EachAddsALine_tellHours N (ls Y) y = some (nI Y, s')) (e2 : Fr [3, 4] [] y s') (e3 : s'.1 3 1 = nI (if Y = 0 then 0 else 2)) (e4 : 0 < Y → s'.1 4 0 = nI 0 ∧ s'.1 4 1 = nI (Y - 1)) : RR (UR N) s' (if Y = 0 then z else s1 (s1 z 7 1 (ls Y)) 0 10 (nI 2)) := by
  have ro := hz.ro hY e3 e4
  have fC : Fr [3, 4, 17, 19, 20, 46, 47] [48] s s' := (y2.mono (by decide) (by decide)).tr (e2.mono (by decide) (by decide))
  have h17 : s'.1 17 1 = s.1 17 1 := by rw [e2.1 17 (by decide)]; exact y3
  have fM : Fm [7, 11] [17] [10, 11, 12, 13, 14, 15, 16, 19, 20, 21, 22, 23, 24, 25, 26, 30] t (if Y = 0 then z else s1 (s1 z 7 1 (ls Y)) 0 10 (nI 2)) := by
    refine (f0.mono (by decide) (by decide) (by decide)).tr ?_
    by_cases c : Y = 0
    · rw [if_pos c]
      exact hz.1.mono (by decide) (by decide) (by decide)
    · rw [if_neg c]
      exact (hz.last (N := N) hY (by omega)).2.mono (by decide) (by decide) (by decide)
  exact hr.rm ro (UR.put (u1.fm fM (by decide) (by decide)) (u2.fr fC h17 (by decide))) (hr.mc.fr fM (by decide)) fC fM (by decide) (by decide) (by decide)
theorem k_when (hN : 200 ≤ N) : keeps2 N (RR (UR N)) fC_EachAddsALine_when fM_EachAddsALineModel_when := fun s t hr a b => by
  obtain ⟨w, h1, h2, _⟩ := id hr
  have hb := h1.bd
  have hmc := hr.mc.r
  have h2' := M_rd0 h2 (nI 0)
  obtain ⟨_, _, _, _, _, h5, _, _, h8, _⟩ := id hr
  by_cases d : isP (w 5 0) a
  · obtain ⟨u, hu, rfl⟩ := d
    have em1 := M_isOne_t (N := N) h2' hu
    by_cases d2 : isP (w 5 0) b
    · obtain ⟨v, hv, rfl⟩ := d2
      have em2 := M_isOne_t (N := N) h2' hv
      have ec := C_isTrip_t (N := N) h1 hu hv (show 0 < 100 by decide)
      obtain ⟨n, ta, hn1, hn2, hC, hM⟩ := h5.get
      have hn := hC.1
      have f11 : Fm [] [] [11] t (s1 t 0 11 (nI 0)) := Fm.w10 (by decide)
      by_cases c0 : n = 0
      · subst c0
        refine ⟨mI 2, s, s1 t 0 11 (nI 0), ?_, ?_, hr.k0 (okUR N)⟩
        · simp (disch := omega) only [Option.bind_some, ↓reduceIte, ↓M_1, ↓M_2, L_0, L_1, L_2, L_3, L_4, L_5, L_6, L_7, L_8, L_9, L_10, L_11, L_12, L_13, L_20, L_24, L_26, L_30, L_31, L_32, L_39, L_40, L_48, L_57, L_76, L_80, L_90, L_91, L_97, L_99, L_100, L_255, L_273, L_1000, L_2000, q_ld, q_ldL, q_sto, q_stoL, q_add, q_sub, q_mul, q_dec, q_rem, q_div, q_lt_t, q_lt_f, q_le_t, q_le_f, q_eq_t, q_eq_f, q_em, q_me, q_ml, q_lm, q_mle, q_lem, q_s1, q_s1o, q_s1k, q_s12, q_s2, q_s2o, q_s2k, q_s21, Nat.add_sub_cancel, q_or, q_and, q_shl, true_or, or_true, false_or, or_false, true_and, and_true, false_and, and_false, not_true_eq_false, not_false_eq_true, ne_eq, fC_EachAddsALine_when, gC_EachAddsALine_when_0, ec, hn1]
        · simp (disch := omega) only [Option.bind_some, ↓reduceIte, ↓M_1, ↓M_2, L_0, L_1, L_2, L_3, L_4, L_5, L_6, L_7, L_8, L_9, L_10, L_11, L_12, L_13, L_20, L_24, L_26, L_30, L_31, L_32, L_39, L_40, L_48, L_57, L_76, L_80, L_90, L_91, L_97, L_99, L_100, L_255, L_273, L_1000, L_2000, q_ld, q_ldL, q_sto, q_stoL, q_add, q_sub, q_mul, q_dec, q_rem, q_div, q_lt_t, q_lt_f, q_le_t, q_le_f, q_eq_t, q_eq_f, q_em, q_me, q_ml, q_lm, q_mle, q_lem, q_s1, q_s1o, q_s1k, q_s12, q_s2, q_s2o, q_s2k, q_s21, Nat.add_sub_cancel, q_or, q_and, q_shl, true_or, or_true, false_or, or_false, true_and, and_true, false_and, and_false, not_true_eq_false, not_false_eq_true, ne_eq, fM_EachAddsALineModel_when, gM_EachAddsALineModel_when_0, em1, em2, hn2]
      · obtain ⟨q, x, C, u1, u2⟩ := h8.get
        have hU' := u1.fm f11 (by decide) (by decide)
        have hM' := hM.fm f11 (by decide)
        have hd := tale_den (N := N) (by omega) h2' hU' hM' (by omega)
        obtain ⟨y, y1, y2, y3, y4, y5⟩ := C_countFits_told (N := N) (v := v) (by omega) h1 u2 hn1 (by omega) hC hv hd
        have hy : CW w y := h1.fr y2 (by decide)
        obtain ⟨Y, l1, l2, l3⟩ := C_lateT (N := N) hy (by omega) y4 (by omega) y5 hu hv
        obtain ⟨z, z1, z2⟩ := M_when (N := N) (u := u) (v := v) h2' hN hU' hM' (by omega) (by rw [f11.2.2 40 (by decide)]; exact hn2) (by rw [f11.2.2 35 (by decide)]; exact hmc.2.1) (by rw [f11.2.2 37 (by decide)]; exact hmc.2.2.1) hu hv l2 l3
        obtain ⟨s', e1, e2, e3, e4⟩ := C_tellHours (N := N) (s := y) l2
        refine ⟨nI Y, s', _, ?_, ?_, hours_end hr u1 u2 f11 y2 y3 l2 z2 e1 e2 e3 e4⟩
        · simp (disch := omega) only [Option.bind_some, ↓reduceIte, ↓M_1, ↓M_2, L_0, L_1, L_2, L_3, L_4, L_5, L_6, L_7, L_8, L_9, L_10, L_11, L_12, L_13, L_20, L_24, L_26, L_30, L_31, L_32, L_39, L_40, L_48, L_57, L_76, L_80, L_90, L_91, L_97, L_99, L_100, L_255, L_273, L_1000, L_2000, q_ld, q_ldL, q_sto, q_stoL, q_add, q_sub, q_mul, q_dec, q_rem, q_div, q_lt_t, q_lt_f, q_le_t, q_le_f, q_eq_t, q_eq_f, q_em, q_me, q_ml, q_lm, q_mle, q_lem, q_s1, q_s1o, q_s1k, q_s12, q_s2, q_s2o, q_s2k, q_s21, Nat.add_sub_cancel, q_or, q_and, q_shl, true_or, or_true, false_or, or_false, true_and, and_true, false_and, and_false, not_true_eq_false, not_false_eq_true, ne_eq, fC_EachAddsALine_when, gC_EachAddsALine_when_0, ec, hn1, y1, l1, e1]
        · simp (disch := omega) only [Option.bind_some, ↓reduceIte, ↓M_1, ↓M_2, L_0, L_1, L_2, L_3, L_4, L_5, L_6, L_7, L_8, L_9, L_10, L_11, L_12, L_13, L_20, L_24, L_26, L_30, L_31, L_32, L_39, L_40, L_48, L_57, L_76, L_80, L_90, L_91, L_97, L_99, L_100, L_255, L_273, L_1000, L_2000, q_ld, q_ldL, q_sto, q_stoL, q_add, q_sub, q_mul, q_dec, q_rem, q_div, q_lt_t, q_lt_f, q_le_t, q_le_f, q_eq_t, q_eq_f, q_em, q_me, q_ml, q_lm, q_mle, q_lem, q_s1, q_s1o, q_s1k, q_s12, q_s2, q_s2o, q_s2k, q_s21, Nat.add_sub_cancel, q_or, q_and, q_shl, true_or, or_true, false_or, or_false, true_and, and_true, false_and, and_false, not_true_eq_false, not_false_eq_true, ne_eq, fM_EachAddsALineModel_when, gM_EachAddsALineModel_when_0, em1, em2, hn2, z1]
    · have em2 := M_isOne_f (N := N) h2' d2
      have ec := C_isTrip_f (N := N) h1 (a := nI u) (b := b) (c := nI 0) (fun z => d2 z.2.1)
      refine ⟨mI 1, s, s1 t 0 11 (nI 0), ?_, ?_, hr.k0 (okUR N)⟩
      · simp (disch := omega) only [Option.bind_some, ↓reduceIte, ↓M_1, ↓M_2, L_0, L_1, L_2, L_3, L_4, L_5, L_6, L_7, L_8, L_9, L_10, L_11, L_12, L_13, L_20, L_24, L_26, L_30, L_31, L_32, L_39, L_40, L_48, L_57, L_76, L_80, L_90, L_91, L_97, L_99, L_100, L_255, L_273, L_1000, L_2000, q_ld, q_ldL, q_sto, q_stoL, q_add, q_sub, q_mul, q_dec, q_rem, q_div, q_lt_t, q_lt_f, q_le_t, q_le_f, q_eq_t, q_eq_f, q_em, q_me, q_ml, q_lm, q_mle, q_lem, q_s1, q_s1o, q_s1k, q_s12, q_s2, q_s2o, q_s2k, q_s21, Nat.add_sub_cancel, q_or, q_and, q_shl, true_or, or_true, false_or, or_false, true_and, and_true, false_and, and_false, not_true_eq_false, not_false_eq_true, ne_eq, fC_EachAddsALine_when, gC_EachAddsALine_when_0, ec]
      · simp (disch := omega) only [Option.bind_some, ↓reduceIte, ↓M_1, ↓M_2, L_0, L_1, L_2, L_3, L_4, L_5, L_6, L_7, L_8, L_9, L_10, L_11, L_12, L_13, L_20, L_24, L_26, L_30, L_31, L_32, L_39, L_40, L_48, L_57, L_76, L_80, L_90, L_91, L_97, L_99, L_100, L_255, L_273, L_1000, L_2000, q_ld, q_ldL, q_sto, q_stoL, q_add, q_sub, q_mul, q_dec, q_rem, q_div, q_lt_t, q_lt_f, q_le_t, q_le_f, q_eq_t, q_eq_f, q_em, q_me, q_ml, q_lm, q_mle, q_lem, q_s1, q_s1o, q_s1k, q_s12, q_s2, q_s2o, q_s2k, q_s21, Nat.add_sub_cancel, q_or, q_and, q_shl, true_or, or_true, false_or, or_false, true_and, and_true, false_and, and_false, not_true_eq_false, not_false_eq_true, ne_eq, fM_EachAddsALineModel_when, gM_EachAddsALineModel_when_0, em1, em2]
  · have em1 := M_isOne_f (N := N) h2' d
    have ec := C_isTrip_f (N := N) h1 (a := a) (b := b) (c := nI 0) (fun z => d z.1)
    refine ⟨mI 1, s, s1 t 0 11 (nI 0), ?_, ?_, hr.k0 (okUR N)⟩
    · simp (disch := omega) only [Option.bind_some, ↓reduceIte, ↓M_1, ↓M_2, L_0, L_1, L_2, L_3, L_4, L_5, L_6, L_7, L_8, L_9, L_10, L_11, L_12, L_13, L_20, L_24, L_26, L_30, L_31, L_32, L_39, L_40, L_48, L_57, L_76, L_80, L_90, L_91, L_97, L_99, L_100, L_255, L_273, L_1000, L_2000, q_ld, q_ldL, q_sto, q_stoL, q_add, q_sub, q_mul, q_dec, q_rem, q_div, q_lt_t, q_lt_f, q_le_t, q_le_f, q_eq_t, q_eq_f, q_em, q_me, q_ml, q_lm, q_mle, q_lem, q_s1, q_s1o, q_s1k, q_s12, q_s2, q_s2o, q_s2k, q_s21, Nat.add_sub_cancel, q_or, q_and, q_shl, true_or, or_true, false_or, or_false, true_and, and_true, false_and, and_false, not_true_eq_false, not_false_eq_true, ne_eq, fC_EachAddsALine_when, gC_EachAddsALine_when_0, ec]
    · simp (disch := omega) only [Option.bind_some, ↓reduceIte, ↓M_1, ↓M_2, L_0, L_1, L_2, L_3, L_4, L_5, L_6, L_7, L_8, L_9, L_10, L_11, L_12, L_13, L_20, L_24, L_26, L_30, L_31, L_32, L_39, L_40, L_48, L_57, L_76, L_80, L_90, L_91, L_97, L_99, L_100, L_255, L_273, L_1000, L_2000, q_ld, q_ldL, q_sto, q_stoL, q_add, q_sub, q_mul, q_dec, q_rem, q_div, q_lt_t, q_lt_f, q_le_t, q_le_f, q_eq_t, q_eq_f, q_em, q_me, q_ml, q_lm, q_mle, q_lem, q_s1, q_s1o, q_s1k, q_s12, q_s2, q_s2o, q_s2k, q_s21, Nat.add_sub_cancel, q_or, q_and, q_shl, true_or, or_true, false_or, or_false, true_and, and_true, false_and, and_false, not_true_eq_false, not_false_eq_true, ne_eq, fM_EachAddsALineModel_when, gM_EachAddsALineModel_when_0, em1]
theorem k_copies (hN : 200 ≤ N) : keeps3 N (RR (UR N)) fC_EachAddsALine_copies fM_EachAddsALineModel_copies := fun s t hr a b c => by
  obtain ⟨w, h1, h2, _⟩ := id hr
  have hb := h1.bd
  have hmc := hr.mc.r
  have h2' := M_rd0 h2 (nI 0)
  obtain ⟨_, _, _, _, _, h5, h6, _, h8, _⟩ := id hr
  by_cases d : isP (w 5 0) a
  · obtain ⟨u, hu, rfl⟩ := d
    have em1 := M_isOne_t (N := N) h2' hu
    by_cases d2 : isP (w 5 0) b
    · obtain ⟨v, hv, rfl⟩ := d2
      have em2 := M_isOne_t (N := N) h2' hv
      have ec := C_isTrip_t (N := N) h1 hu hv (show 0 < 100 by decide)
      by_cases d3 : isP (w 5 0) c
      · obtain ⟨v', hv', rfl⟩ := d3
        have em3 := M_isOne_t (N := N) h2' hv'
        have ep := C_hasPerson_t (N := N) h1 hv'
        obtain ⟨n, ta, hn1, hn2, hC, hM⟩ := h5.get
        obtain ⟨n', tb, hn1', hn2', hC', hM'⟩ := h6.get
        have hn := hC.1
        have hn' := hC'.1
        have f11 : Fm [] [] [11] t (s1 t 0 11 (nI 0)) := Fm.w10 (by decide)
        by_cases c0 : n = 0
        · subst c0
          refine ⟨mI 2, s, s1 t 0 11 (nI 0), ?_, ?_, hr.k0 (okUR N)⟩
          · simp (disch := omega) only [Option.bind_some, ↓reduceIte, ↓M_1, ↓M_2, L_0, L_1, L_2, L_3, L_4, L_5, L_6, L_7, L_8, L_9, L_10, L_11, L_12, L_13, L_20, L_24, L_26, L_30, L_31, L_32, L_39, L_40, L_48, L_57, L_76, L_80, L_90, L_91, L_97, L_99, L_100, L_255, L_273, L_1000, L_2000, q_ld, q_ldL, q_sto, q_stoL, q_add, q_sub, q_mul, q_dec, q_rem, q_div, q_lt_t, q_lt_f, q_le_t, q_le_f, q_eq_t, q_eq_f, q_em, q_me, q_ml, q_lm, q_mle, q_lem, q_s1, q_s1o, q_s1k, q_s12, q_s2, q_s2o, q_s2k, q_s21, Nat.add_sub_cancel, q_or, q_and, q_shl, true_or, or_true, false_or, or_false, true_and, and_true, false_and, and_false, not_true_eq_false, not_false_eq_true, ne_eq, fC_EachAddsALine_copies, gC_EachAddsALine_copies_0, ec, ep, hn1]
          · simp (disch := omega) only [Option.bind_some, ↓reduceIte, ↓M_1, ↓M_2, L_0, L_1, L_2, L_3, L_4, L_5, L_6, L_7, L_8, L_9, L_10, L_11, L_12, L_13, L_20, L_24, L_26, L_30, L_31, L_32, L_39, L_40, L_48, L_57, L_76, L_80, L_90, L_91, L_97, L_99, L_100, L_255, L_273, L_1000, L_2000, q_ld, q_ldL, q_sto, q_stoL, q_add, q_sub, q_mul, q_dec, q_rem, q_div, q_lt_t, q_lt_f, q_le_t, q_le_f, q_eq_t, q_eq_f, q_em, q_me, q_ml, q_lm, q_mle, q_lem, q_s1, q_s1o, q_s1k, q_s12, q_s2, q_s2o, q_s2k, q_s21, Nat.add_sub_cancel, q_or, q_and, q_shl, true_or, or_true, false_or, or_false, true_and, and_true, false_and, and_false, not_true_eq_false, not_false_eq_true, ne_eq, fM_EachAddsALineModel_copies, gM_EachAddsALineModel_copies_0, em1, em2, em3, hn2]
        · by_cases c1 : n' = 0
          · subst c1
            refine ⟨mI 2, s, s1 t 0 11 (nI 0), ?_, ?_, hr.k0 (okUR N)⟩
            · simp (disch := omega) only [Option.bind_some, ↓reduceIte, ↓M_1, ↓M_2, L_0, L_1, L_2, L_3, L_4, L_5, L_6, L_7, L_8, L_9, L_10, L_11, L_12, L_13, L_20, L_24, L_26, L_30, L_31, L_32, L_39, L_40, L_48, L_57, L_76, L_80, L_90, L_91, L_97, L_99, L_100, L_255, L_273, L_1000, L_2000, q_ld, q_ldL, q_sto, q_stoL, q_add, q_sub, q_mul, q_dec, q_rem, q_div, q_lt_t, q_lt_f, q_le_t, q_le_f, q_eq_t, q_eq_f, q_em, q_me, q_ml, q_lm, q_mle, q_lem, q_s1, q_s1o, q_s1k, q_s12, q_s2, q_s2o, q_s2k, q_s21, Nat.add_sub_cancel, q_or, q_and, q_shl, true_or, or_true, false_or, or_false, true_and, and_true, false_and, and_false, not_true_eq_false, not_false_eq_true, ne_eq, fC_EachAddsALine_copies, gC_EachAddsALine_copies_0, ec, ep, hn1, hn1']
            · simp (disch := omega) only [Option.bind_some, ↓reduceIte, ↓M_1, ↓M_2, L_0, L_1, L_2, L_3, L_4, L_5, L_6, L_7, L_8, L_9, L_10, L_11, L_12, L_13, L_20, L_24, L_26, L_30, L_31, L_32, L_39, L_40, L_48, L_57, L_76, L_80, L_90, L_91, L_97, L_99, L_100, L_255, L_273, L_1000, L_2000, q_ld, q_ldL, q_sto, q_stoL, q_add, q_sub, q_mul, q_dec, q_rem, q_div, q_lt_t, q_lt_f, q_le_t, q_le_f, q_eq_t, q_eq_f, q_em, q_me, q_ml, q_lm, q_mle, q_lem, q_s1, q_s1o, q_s1k, q_s12, q_s2, q_s2o, q_s2k, q_s21, Nat.add_sub_cancel, q_or, q_and, q_shl, true_or, or_true, false_or, or_false, true_and, and_true, false_and, and_false, not_true_eq_false, not_false_eq_true, ne_eq, fM_EachAddsALineModel_copies, gM_EachAddsALineModel_copies_0, em1, em2, em3, hn2, hn2']
          · obtain ⟨q, x, C, u1, u2⟩ := h8.get
            have hU2 := u1.fm f11 (by decide) (by decide)
            have hMa := hM.fm f11 (by decide)
            have hMb := hM'.fm f11 (by decide)
            have k6 := hC.2 0 (by omega)
            have k8 := hC'.2 0 (by omega)
            by_cases ce : ta 0 = tb 0
            · have hd := tale_den (N := N) (by omega) h2' hU2 hMa (by omega)
              have hd2 := tale_den (N := N) (by omega) h2' hU2 hMb (by omega)
              obtain ⟨y, y1, y2, y3, y4, y5⟩ := C_countFits_told (N := N) (v := v) (by omega) h1 u2 hn1 (by omega) hC hv hd
              have hy : CW w y := h1.fr y2 (by decide)
              obtain ⟨Y, l1, l2, l3⟩ := C_lateT (N := N) hy (by omega) y4 (by omega) y5 hu hv
              have hyn : y.1 7 1 = nI n' := by rw [y2.1 7 (by decide)]; exact hn1'
              obtain ⟨y', x1, x2, x3, x4, x5⟩ := C_countFits_laid (N := N) (v := v') (by omega) hy (u2.fr y2 y3 (by decide)) hyn (by omega) (hC'.fr y2 (by decide)) hv' hd2
              have hy' : CW w y' := hy.fr x2 (by decide)
              obtain ⟨Y', m1, m2, m3⟩ := C_lateT (N := N) hy' (by omega) x4 (by omega) x5 hu hv'
              have f2 := y2.tr x2
              have f3 : y'.1 17 1 = s.1 17 1 := x3.trans y3
              have hmin := ls_min (y := Y) (z := Y') (by omega) (by omega)
              obtain ⟨z, z1, z2⟩ := M_copies (N := N) (u := u) (v := v) (v' := v') (y := min Y Y') h2' hN hU2 hMa hMb (by omega) (by omega) (by rw [f11.2.2 40 (by decide)]; exact hn2) (by rw [f11.2.2 41 (by decide)]; exact hn2') (by rw [f11.2.2 35 (by decide)]; exact hmc.2.1) (by rw [f11.2.2 37 (by decide)]; exact hmc.2.2.1) hu hv hv' ce (by omega) (fun r hr => by
                have := l3 r hr
                have := m3 r hr
                omega)
              obtain ⟨s', e1, e2, e3, e4⟩ := C_tellHours (N := N) (s := y') (y := min Y Y') (by omega)
              refine ⟨nI (min Y Y'), s', _, ?_, ?_, hours_end hr u1 u2 f11 f2 f3 (by omega) z2 e1 e2 e3 e4⟩
              · simp (disch := omega) only [Option.bind_some, ↓reduceIte, ↓M_1, ↓M_2, L_0, L_1, L_2, L_3, L_4, L_5, L_6, L_7, L_8, L_9, L_10, L_11, L_12, L_13, L_20, L_24, L_26, L_30, L_31, L_32, L_39, L_40, L_48, L_57, L_76, L_80, L_90, L_91, L_97, L_99, L_100, L_255, L_273, L_1000, L_2000, q_ld, q_ldL, q_sto, q_stoL, q_add, q_sub, q_mul, q_dec, q_rem, q_div, q_lt_t, q_lt_f, q_le_t, q_le_f, q_eq_t, q_eq_f, q_em, q_me, q_ml, q_lm, q_mle, q_lem, q_s1, q_s1o, q_s1k, q_s12, q_s2, q_s2o, q_s2k, q_s21, Nat.add_sub_cancel, q_or, q_and, q_shl, true_or, or_true, false_or, or_false, true_and, and_true, false_and, and_false, not_true_eq_false, not_false_eq_true, ne_eq, fC_EachAddsALine_copies, gC_EachAddsALine_copies_0, ec, ep, hn1, hn1', k6.2, k8.2, ce, y1, l1, x1, m1, hmin, e1]
              · simp (disch := omega) only [Option.bind_some, ↓reduceIte, ↓M_1, ↓M_2, L_0, L_1, L_2, L_3, L_4, L_5, L_6, L_7, L_8, L_9, L_10, L_11, L_12, L_13, L_20, L_24, L_26, L_30, L_31, L_32, L_39, L_40, L_48, L_57, L_76, L_80, L_90, L_91, L_97, L_99, L_100, L_255, L_273, L_1000, L_2000, q_ld, q_ldL, q_sto, q_stoL, q_add, q_sub, q_mul, q_dec, q_rem, q_div, q_lt_t, q_lt_f, q_le_t, q_le_f, q_eq_t, q_eq_f, q_em, q_me, q_ml, q_lm, q_mle, q_lem, q_s1, q_s1o, q_s1k, q_s12, q_s2, q_s2o, q_s2k, q_s21, Nat.add_sub_cancel, q_or, q_and, q_shl, true_or, or_true, false_or, or_false, true_and, and_true, false_and, and_false, not_true_eq_false, not_false_eq_true, ne_eq, fM_EachAddsALineModel_copies, gM_EachAddsALineModel_copies_0, em1, em2, em3, hn2, hn2', z1]
            · obtain ⟨s', e1, e2, e3, e4⟩ := C_tellHours (N := N) (s := s) (y := 0) (by omega)
              have ra := (hM.2 0 (by omega)).2
              have rb := (hM'.2 0 (by omega)).2
              rw [Nat.add_zero] at ra rb
              rw [ls_0] at e1
              obtain ⟨m, hm⟩ : ∃ m, N = m + 1 := ⟨N - 1, by omega⟩
              have st : gM_EachAddsALineModel_copies_62 N N (nI u) (nI v) (nI v') (nI 0) (mI 1) (nI 0) (s1 (s1 t 0 11 (nI 0)) 0 10 (nI 0)) = gM_EachAddsALineModel_copies_62 N (m + 1) (nI u) (nI v) (nI v') (nI 0) (mI 1) (nI 0) (s1 (s1 t 0 11 (nI 0)) 0 10 (nI 0)) := by rw [← hm]
              have e6 : gM_EachAddsALineModel_copies_62 N N (nI u) (nI v) (nI v') (nI 0) (mI 1) (nI 0) (s1 (s1 t 0 11 (nI 0)) 0 10 (nI 0)) = some (nI 0, s1 (s1 t 0 11 (nI 0)) 0 10 (nI 0)) := by
                rw [st, gM_EachAddsALineModel_copies_62]
                simp (disch := omega) only [Option.bind_some, ↓reduceIte, ↓M_1, ↓M_2, L_0, L_1, L_2, L_3, L_4, L_5, L_6, L_7, L_8, L_9, L_10, L_11, L_12, L_13, L_20, L_24, L_26, L_30, L_31, L_32, L_39, L_40, L_48, L_57, L_76, L_80, L_90, L_91, L_97, L_99, L_100, L_255, L_273, L_1000, L_2000, q_ld, q_ldL, q_sto, q_stoL, q_add, q_sub, q_mul, q_dec, q_rem, q_div, q_lt_t, q_lt_f, q_le_t, q_le_f, q_eq_t, q_eq_f, q_em, q_me, q_ml, q_lm, q_mle, q_lem, q_s1, q_s1o, q_s1k, q_s12, q_s2, q_s2o, q_s2k, q_s21, Nat.add_sub_cancel, q_or, q_and, q_shl, true_or, or_true, false_or, or_false, true_and, and_true, false_and, and_false, not_true_eq_false, not_false_eq_true, ne_eq, ra, rb, ce, gM_EachAddsALineModel_copies_149]
              have fM : Fm [] [] [10, 11] t (s1 (s1 t 0 11 (nI 0)) 0 10 (nI 0)) := (Fm.w10 (by decide)).tr (Fm.w10 (by decide))
              refine ⟨nI 0, s', s1 (s1 t 0 11 (nI 0)) 0 10 (nI 0), ?_, ?_, hr.rm ⟨0, by omega, e3, q_s1 _ _ _ _, fun k hk => by omega⟩ (UR.put (u1.fm fM (by decide) (by decide)) (u2.fr e2 (by rw [e2.1 17 (by decide)]) (by decide))) (hr.mc.fr fM (by decide)) e2 fM (by decide) (by decide) (by decide)⟩
              · simp (disch := omega) only [Option.bind_some, ↓reduceIte, ↓M_1, ↓M_2, L_0, L_1, L_2, L_3, L_4, L_5, L_6, L_7, L_8, L_9, L_10, L_11, L_12, L_13, L_20, L_24, L_26, L_30, L_31, L_32, L_39, L_40, L_48, L_57, L_76, L_80, L_90, L_91, L_97, L_99, L_100, L_255, L_273, L_1000, L_2000, q_ld, q_ldL, q_sto, q_stoL, q_add, q_sub, q_mul, q_dec, q_rem, q_div, q_lt_t, q_lt_f, q_le_t, q_le_f, q_eq_t, q_eq_f, q_em, q_me, q_ml, q_lm, q_mle, q_lem, q_s1, q_s1o, q_s1k, q_s12, q_s2, q_s2o, q_s2k, q_s21, Nat.add_sub_cancel, q_or, q_and, q_shl, true_or, or_true, false_or, or_false, true_and, and_true, false_and, and_false, not_true_eq_false, not_false_eq_true, ne_eq, fC_EachAddsALine_copies, gC_EachAddsALine_copies_0, ec, ep, hn1, hn1', k6.2, k8.2, ce, e1]
              · simp (disch := omega) only [Option.bind_some, ↓reduceIte, ↓M_1, ↓M_2, L_0, L_1, L_2, L_3, L_4, L_5, L_6, L_7, L_8, L_9, L_10, L_11, L_12, L_13, L_20, L_24, L_26, L_30, L_31, L_32, L_39, L_40, L_48, L_57, L_76, L_80, L_90, L_91, L_97, L_99, L_100, L_255, L_273, L_1000, L_2000, q_ld, q_ldL, q_sto, q_stoL, q_add, q_sub, q_mul, q_dec, q_rem, q_div, q_lt_t, q_lt_f, q_le_t, q_le_f, q_eq_t, q_eq_f, q_em, q_me, q_ml, q_lm, q_mle, q_lem, q_s1, q_s1o, q_s1k, q_s12, q_s2, q_s2o, q_s2k, q_s21, Nat.add_sub_cancel, q_or, q_and, q_shl, true_or, or_true, false_or, or_false, true_and, and_true, false_and, and_false, not_true_eq_false, not_false_eq_true, ne_eq, fM_EachAddsALineModel_copies, gM_EachAddsALineModel_copies_0, em1, em2, em3, hn2, hn2', e6]
      · have em3 := M_isOne_f (N := N) h2' d3
        have ep := C_hasPerson_f (N := N) h1 d3
        refine ⟨mI 1, s, s1 t 0 11 (nI 0), ?_, ?_, hr.k0 (okUR N)⟩
        · simp (disch := omega) only [Option.bind_some, ↓reduceIte, ↓M_1, ↓M_2, L_0, L_1, L_2, L_3, L_4, L_5, L_6, L_7, L_8, L_9, L_10, L_11, L_12, L_13, L_20, L_24, L_26, L_30, L_31, L_32, L_39, L_40, L_48, L_57, L_76, L_80, L_90, L_91, L_97, L_99, L_100, L_255, L_273, L_1000, L_2000, q_ld, q_ldL, q_sto, q_stoL, q_add, q_sub, q_mul, q_dec, q_rem, q_div, q_lt_t, q_lt_f, q_le_t, q_le_f, q_eq_t, q_eq_f, q_em, q_me, q_ml, q_lm, q_mle, q_lem, q_s1, q_s1o, q_s1k, q_s12, q_s2, q_s2o, q_s2k, q_s21, Nat.add_sub_cancel, q_or, q_and, q_shl, true_or, or_true, false_or, or_false, true_and, and_true, false_and, and_false, not_true_eq_false, not_false_eq_true, ne_eq, fC_EachAddsALine_copies, gC_EachAddsALine_copies_0, ec, ep]
        · simp (disch := omega) only [Option.bind_some, ↓reduceIte, ↓M_1, ↓M_2, L_0, L_1, L_2, L_3, L_4, L_5, L_6, L_7, L_8, L_9, L_10, L_11, L_12, L_13, L_20, L_24, L_26, L_30, L_31, L_32, L_39, L_40, L_48, L_57, L_76, L_80, L_90, L_91, L_97, L_99, L_100, L_255, L_273, L_1000, L_2000, q_ld, q_ldL, q_sto, q_stoL, q_add, q_sub, q_mul, q_dec, q_rem, q_div, q_lt_t, q_lt_f, q_le_t, q_le_f, q_eq_t, q_eq_f, q_em, q_me, q_ml, q_lm, q_mle, q_lem, q_s1, q_s1o, q_s1k, q_s12, q_s2, q_s2o, q_s2k, q_s21, Nat.add_sub_cancel, q_or, q_and, q_shl, true_or, or_true, false_or, or_false, true_and, and_true, false_and, and_false, not_true_eq_false, not_false_eq_true, ne_eq, fM_EachAddsALineModel_copies, gM_EachAddsALineModel_copies_0, em1, em2, em3]
    · have em2 := M_isOne_f (N := N) h2' d2
      have ec := C_isTrip_f (N := N) h1 (a := nI u) (b := b) (c := nI 0) (fun z => d2 z.2.1)
      refine ⟨mI 1, s, s1 t 0 11 (nI 0), ?_, ?_, hr.k0 (okUR N)⟩
      · simp (disch := omega) only [Option.bind_some, ↓reduceIte, ↓M_1, ↓M_2, L_0, L_1, L_2, L_3, L_4, L_5, L_6, L_7, L_8, L_9, L_10, L_11, L_12, L_13, L_20, L_24, L_26, L_30, L_31, L_32, L_39, L_40, L_48, L_57, L_76, L_80, L_90, L_91, L_97, L_99, L_100, L_255, L_273, L_1000, L_2000, q_ld, q_ldL, q_sto, q_stoL, q_add, q_sub, q_mul, q_dec, q_rem, q_div, q_lt_t, q_lt_f, q_le_t, q_le_f, q_eq_t, q_eq_f, q_em, q_me, q_ml, q_lm, q_mle, q_lem, q_s1, q_s1o, q_s1k, q_s12, q_s2, q_s2o, q_s2k, q_s21, Nat.add_sub_cancel, q_or, q_and, q_shl, true_or, or_true, false_or, or_false, true_and, and_true, false_and, and_false, not_true_eq_false, not_false_eq_true, ne_eq, fC_EachAddsALine_copies, gC_EachAddsALine_copies_0, ec]
      · simp (disch := omega) only [Option.bind_some, ↓reduceIte, ↓M_1, ↓M_2, L_0, L_1, L_2, L_3, L_4, L_5, L_6, L_7, L_8, L_9, L_10, L_11, L_12, L_13, L_20, L_24, L_26, L_30, L_31, L_32, L_39, L_40, L_48, L_57, L_76, L_80, L_90, L_91, L_97, L_99, L_100, L_255, L_273, L_1000, L_2000, q_ld, q_ldL, q_sto, q_stoL, q_add, q_sub, q_mul, q_dec, q_rem, q_div, q_lt_t, q_lt_f, q_le_t, q_le_f, q_eq_t, q_eq_f, q_em, q_me, q_ml, q_lm, q_mle, q_lem, q_s1, q_s1o, q_s1k, q_s12, q_s2, q_s2o, q_s2k, q_s21, Nat.add_sub_cancel, q_or, q_and, q_shl, true_or, or_true, false_or, or_false, true_and, and_true, false_and, and_false, not_true_eq_false, not_false_eq_true, ne_eq, fM_EachAddsALineModel_copies, gM_EachAddsALineModel_copies_0, em1, em2]
  · have em1 := M_isOne_f (N := N) h2' d
    have ec := C_isTrip_f (N := N) h1 (a := a) (b := b) (c := nI 0) (fun z => d z.1)
    refine ⟨mI 1, s, s1 t 0 11 (nI 0), ?_, ?_, hr.k0 (okUR N)⟩
    · simp (disch := omega) only [Option.bind_some, ↓reduceIte, ↓M_1, ↓M_2, L_0, L_1, L_2, L_3, L_4, L_5, L_6, L_7, L_8, L_9, L_10, L_11, L_12, L_13, L_20, L_24, L_26, L_30, L_31, L_32, L_39, L_40, L_48, L_57, L_76, L_80, L_90, L_91, L_97, L_99, L_100, L_255, L_273, L_1000, L_2000, q_ld, q_ldL, q_sto, q_stoL, q_add, q_sub, q_mul, q_dec, q_rem, q_div, q_lt_t, q_lt_f, q_le_t, q_le_f, q_eq_t, q_eq_f, q_em, q_me, q_ml, q_lm, q_mle, q_lem, q_s1, q_s1o, q_s1k, q_s12, q_s2, q_s2o, q_s2k, q_s21, Nat.add_sub_cancel, q_or, q_and, q_shl, true_or, or_true, false_or, or_false, true_and, and_true, false_and, and_false, not_true_eq_false, not_false_eq_true, ne_eq, fC_EachAddsALine_copies, gC_EachAddsALine_copies_0, ec]
    · simp (disch := omega) only [Option.bind_some, ↓reduceIte, ↓M_1, ↓M_2, L_0, L_1, L_2, L_3, L_4, L_5, L_6, L_7, L_8, L_9, L_10, L_11, L_12, L_13, L_20, L_24, L_26, L_30, L_31, L_32, L_39, L_40, L_48, L_57, L_76, L_80, L_90, L_91, L_97, L_99, L_100, L_255, L_273, L_1000, L_2000, q_ld, q_ldL, q_sto, q_stoL, q_add, q_sub, q_mul, q_dec, q_rem, q_div, q_lt_t, q_lt_f, q_le_t, q_le_f, q_eq_t, q_eq_f, q_em, q_me, q_ml, q_lm, q_mle, q_lem, q_s1, q_s1o, q_s1k, q_s12, q_s2, q_s2o, q_s2k, q_s21, Nat.add_sub_cancel, q_or, q_and, q_shl, true_or, or_true, false_or, or_false, true_and, and_true, false_and, and_false, not_true_eq_false, not_false_eq_true, ne_eq, fM_EachAddsALineModel_copies, gM_EachAddsALineModel_copies_0, em1]
end HK
