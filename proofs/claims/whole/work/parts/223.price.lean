/-! bargain, cheapest, soonest, without -/
section PR
variable {N : Nat} {U : vSt → vSt → Prop} {s t : vSt} {w : Nat → Nat → Nat} {u v k bb bb' br : Nat} {sh : Int32}
theorem price_ok (h1 : CW w s) (h2 : MW w t) (hN : 200 ≤ N) (hu : u < w 5 0) (hv : v < w 5 0) (hk : k < 100) (hbb : bb < 2 ^ 31) (hbb' : bb' < 2 ^ 31) (hb : ∀ s, s < 2 * w 5 1 → (hr w s ≤ bb ↔ hr w s ≤ bb')) (h33 : t.1 0 33 = nI 0) (h34 : t.1 0 34 = nI bb) (h35 : t.1 0 35 = gI 100) (hro : RO s t) :
    ∃ z s' r t', fC_Paths_aim N (nI v) (nI bb') (nI 0) (nI 1) s = some z ∧ fC_Paths_traceFrom N (nI u) (nI k) z = some (r, s') ∧ fM_EachAddsALineModel_tellBest N (nI u) (nI v) (nI k) (nI 2) t = some (r, t') ∧ Fr [3, 4, 41, 43] [] s s' ∧ Fm [7, 11, 12, 13] [] [10, 30] t t' ∧ RO s' t' := by
  have hN6 : 60 ≤ N := by omega
  have hbd := h1.bd
  have hE := EOK_P (v := v) (bb := bb) (bb' := bb') (br := 0) h1.ok h1.or hb
  rcases bst_ok w (TB w v 2 bb 0 100) u k (2 * w 5 1) (by omega) with ⟨b1, b2⟩ | ⟨b1, b2, b3, b4⟩
  · obtain ⟨z, x1, x2, x3⟩ := W_no (N := N) h1 hN6 (by decide) hu hv (show k < 1000 by omega) hbb' shuts0 hE (fun _ _ _ => trivial) b2
    obtain ⟨t', y1, y2⟩ := M_tellBest_f (N := N) (what := 2) (br := 0) h2 hN6 hu hv (show k < 1000 by omega) (by decide) hbb (by decide) h33 h34 h35 b1
    exact ⟨z, z, mI 2, t', x1, x2, y1, x3.mono (by decide) (by decide), y2.mono (by decide) (by decide) (by decide), hro.fr x3 y2 (by decide) (by decide)⟩
  · have hm : ∀ s, s < 2 * w 5 1 → (TB w v 2 bb 0 100 s).1 < 1000000 → (TB w v 2 bb 0 100 s).1 ≤ 2000 ∧ 1 ≤ (TB w v 2 bb 0 100 s).2 ∧ (TB w v 2 bb 0 100 s).2 ≤ 20 := fun s hs hf => by
      have l := TB_lt (v := v) (what := 2) (bb := bb) (br := 0) (go := 100) h1.ok hs
      have m := TB_M (v := v) (what := 2) (bb := bb) (br := 0) (go := 100) h1.ok h1.or hs hf
      have := l.2.2.2 hf
      omega
    obtain ⟨z, s', r, x1, x2, x3, x4, x5⟩ := W_yes (N := N) h1 hN6 (by decide) hu hv (show k < 1000 by omega) hbb' shuts0 hE (fun _ _ _ => trivial)
      (fun s hs hf => by
        have := hm s hs hf
        unfold eP
        rw [if_pos hf]
        omega)
      (fun s hs hf => by
        have := hm s hs hf
        unfold eP
        rw [if_pos hf]
        omega)
      (fun s s' hs hs' he hne => by
        have t1 := hm s hs
        have t2 := hm s' hs'
        unfold eP fC at he hne
        refine Prod.ext ?_ ?_
        · split at he <;> split at he <;> omega
        · split at he <;> split at he <;> omega) b1 b2 b3 b4 (by
        have := hm _ b1 b3
        unfold eP fC
        rw [if_pos b3]
        omega)
    obtain ⟨t', y1, y2, y3, y4⟩ := M_tellBest_t (N := N) (what := 2) (br := 0) h2 hN hu hv (show k < 1000 by omega) (by decide) hbb (by decide) h33 h34 h35 rfl b1 b2 b3
    have em2 : r = nI (TB w v 2 bb 0 100 (bst w (TB w v 2 bb 0 100) u k (2 * w 5 1))).1 := by
      have x6 := x3 (s1 s 41 7 (nI 1)) (q_s1 _ _ _ _)
      have l := hm _ b1 b3
      have e : iZ (eP (TB w v 2 bb 0 100 (bst w (TB w v 2 bb 0 100) u k (2 * w 5 1)))) = nI (32 * (TB w v 2 bb 0 100 (bst w (TB w v 2 bb 0 100) u k (2 * w 5 1))).1 + (TB w v 2 bb 0 100 (bst w (TB w v 2 bb 0 100) u k (2 * w 5 1))).2) := by
        rw [z_n]
        refine congrArg iZ ?_
        unfold eP
        rw [if_pos b3]
        omega
      generalize TB w v 2 bb 0 100 (bst w (TB w v 2 bb 0 100) u k (2 * w 5 1)) = T at x6 l e ⊢
      have e32 : (32 * T.1 + T.2) / 32 = T.1 := by omega
      have x7 : fC_Paths_measured N (iZ (eP T)) (s1 s 41 7 (nI 1)) = some (nI T.1, s1 s 41 7 (nI 1)) := by
        rw [e]
        simp (disch := omega) only [Option.bind_some, ↓reduceIte, ↓M_1, ↓M_2, L_0, L_1, L_2, L_3, L_4, L_5, L_6, L_7, L_8, L_9, L_10, L_11, L_12, L_13, L_20, L_24, L_26, L_30, L_31, L_32, L_39, L_40, L_48, L_57, L_76, L_80, L_90, L_91, L_97, L_99, L_100, L_255, L_273, L_1000, L_2000, q_ld, q_ldL, q_sto, q_stoL, q_add, q_sub, q_mul, q_dec, q_rem, q_div, q_lt_t, q_lt_f, q_le_t, q_le_f, q_eq_t, q_eq_f, q_em, q_me, q_ml, q_lm, q_mle, q_lem, q_s1, q_s1o, q_s1k, q_s12, q_s2, q_s2o, q_s2k, q_s21, Nat.add_sub_cancel, q_or, q_and, q_shl, true_or, or_true, false_or, or_false, true_and, and_true, false_and, and_false, not_true_eq_false, not_false_eq_true, ne_eq, fC_Paths_measured, gC_Paths_measured_0, e32]
      rw [x7] at x6
      exact (congrArg Prod.fst (Option.some.inj x6)).symm
    refine ⟨z, s', r, t', x1, x2, by rw [em2]; exact y1, (x4.mono (by decide) (by decide)).tr (x5.1.mono (by decide) (by decide)), y2, RO.of x5 ⟨Fm.rf, y3, y4⟩⟩
theorem k_bargain (hU : okU U) (hN : 200 ≤ N) : keeps4 N (RR U) fC_EachAddsALine_bargain fM_EachAddsALineModel_bargain := fun s t hr a b c d => by
  obtain ⟨w, h1, h2, _⟩ := id hr
  have h2' := M_rd0 h2 (nI 0)
  have hmc := hr.mc.r
  by_cases q : trip w a b c
  · obtain ⟨⟨u, hu, rfl⟩, ⟨v, hv, rfl⟩, ⟨k, hk, rfl⟩⟩ := q
    have ec := C_isTrip_t (N := N) h1 hu hv hk
    have em := M_isTrip_t (N := N) h2' hu hv hk
    by_cases q2 : isP 100 d
    · obtain ⟨e, he, rfl⟩ := q2
      have g0 : Fm [] [] [11, 33, 34] t (s1 (s1 (s1 t 0 11 (nI 0)) 0 33 (nI 0)) 0 34 (nI e)) := ((Fm.w10 (by decide)).tr (Fm.w10 (by decide))).tr (Fm.w10 (by decide))
      have h3 : MW w (s1 (s1 (s1 t 0 11 (nI 0)) 0 33 (nI 0)) 0 34 (nI e)) := h2.fm g0 (by decide) (by decide)
      obtain ⟨z, s', r, t', x1, x2, x3, x4, x5, x6⟩ := price_ok h1 h3 hN hu hv hk (show e < 2 ^ 31 by omega) (show e < 2 ^ 31 by omega) (fun _ _ => Iff.rfl) (by simp (disch := omega) only [Option.bind_some, ↓reduceIte, ↓M_1, ↓M_2, L_0, L_1, L_2, L_3, L_4, L_5, L_6, L_7, L_8, L_9, L_10, L_11, L_12, L_13, L_20, L_24, L_26, L_30, L_31, L_32, L_39, L_40, L_48, L_57, L_76, L_80, L_90, L_91, L_97, L_99, L_100, L_255, L_273, L_1000, L_2000, q_ld, q_ldL, q_sto, q_stoL, q_add, q_sub, q_mul, q_dec, q_rem, q_div, q_lt_t, q_lt_f, q_le_t, q_le_f, q_eq_t, q_eq_f, q_em, q_me, q_ml, q_lm, q_mle, q_lem, q_s1, q_s1o, q_s1k, q_s12, q_s2, q_s2o, q_s2k, q_s21, Nat.add_sub_cancel, q_or, q_and, q_shl, true_or, or_true, false_or, or_false, true_and, and_true, false_and, and_false, not_true_eq_false, not_false_eq_true, ne_eq]) (by simp (disch := omega) only [Option.bind_some, ↓reduceIte, ↓M_1, ↓M_2, L_0, L_1, L_2, L_3, L_4, L_5, L_6, L_7, L_8, L_9, L_10, L_11, L_12, L_13, L_20, L_24, L_26, L_30, L_31, L_32, L_39, L_40, L_48, L_57, L_76, L_80, L_90, L_91, L_97, L_99, L_100, L_255, L_273, L_1000, L_2000, q_ld, q_ldL, q_sto, q_stoL, q_add, q_sub, q_mul, q_dec, q_rem, q_div, q_lt_t, q_lt_f, q_le_t, q_le_f, q_eq_t, q_eq_f, q_em, q_me, q_ml, q_lm, q_mle, q_lem, q_s1, q_s1o, q_s1k, q_s12, q_s2, q_s2o, q_s2k, q_s21, Nat.add_sub_cancel, q_or, q_and, q_shl, true_or, or_true, false_or, or_false, true_and, and_true, false_and, and_false, not_true_eq_false, not_false_eq_true, ne_eq]) (by simp (disch := omega) only [Option.bind_some, ↓reduceIte, ↓M_1, ↓M_2, L_0, L_1, L_2, L_3, L_4, L_5, L_6, L_7, L_8, L_9, L_10, L_11, L_12, L_13, L_20, L_24, L_26, L_30, L_31, L_32, L_39, L_40, L_48, L_57, L_76, L_80, L_90, L_91, L_97, L_99, L_100, L_255, L_273, L_1000, L_2000, q_ld, q_ldL, q_sto, q_stoL, q_add, q_sub, q_mul, q_dec, q_rem, q_div, q_lt_t, q_lt_f, q_le_t, q_le_f, q_eq_t, q_eq_f, q_em, q_me, q_ml, q_lm, q_mle, q_lem, q_s1, q_s1o, q_s1k, q_s12, q_s2, q_s2o, q_s2k, q_s21, Nat.add_sub_cancel, q_or, q_and, q_shl, true_or, or_true, false_or, or_false, true_and, and_true, false_and, and_false, not_true_eq_false, not_false_eq_true, ne_eq]; exact hmc.2.1) (hr.ron.fr (Fr.rf (L := []) (K := [])) g0 (by decide) (by decide))
      refine ⟨r, s', s1 t' 0 34 (nI 1000000), ?_, ?_, hr.roM hU (x6.fr (Fr.rf (L := []) (K := [])) (Fm.w10 (L := []) (K := []) (F := [34]) (by decide)) (by decide) (by decide)) ⟨q_s1 _ _ _ _, ?_, ?_, ?_⟩ x4 (((g0.mono (by decide) (by decide) (by decide)).tr (x5.mono (by decide) (by decide) (by decide))).tr (Fm.w10 (by decide)) : Fm [7, 11, 12, 13] [] [10, 11, 30, 33, 34] t (s1 t' 0 34 (nI 1000000))) (by decide) (by decide) (by decide)⟩
      · simp (disch := omega) only [Option.bind_some, ↓reduceIte, ↓M_1, ↓M_2, L_0, L_1, L_2, L_3, L_4, L_5, L_6, L_7, L_8, L_9, L_10, L_11, L_12, L_13, L_20, L_24, L_26, L_30, L_31, L_32, L_39, L_40, L_48, L_57, L_76, L_80, L_90, L_91, L_97, L_99, L_100, L_255, L_273, L_1000, L_2000, q_ld, q_ldL, q_sto, q_stoL, q_add, q_sub, q_mul, q_dec, q_rem, q_div, q_lt_t, q_lt_f, q_le_t, q_le_f, q_eq_t, q_eq_f, q_em, q_me, q_ml, q_lm, q_mle, q_lem, q_s1, q_s1o, q_s1k, q_s12, q_s2, q_s2o, q_s2k, q_s21, Nat.add_sub_cancel, q_or, q_and, q_shl, true_or, or_true, false_or, or_false, true_and, and_true, false_and, and_false, not_true_eq_false, not_false_eq_true, ne_eq, fC_EachAddsALine_bargain, gC_EachAddsALine_bargain_0, ec, C_isHour_t he, x1, x2]
      · simp (disch := omega) only [Option.bind_some, ↓reduceIte, ↓M_1, ↓M_2, L_0, L_1, L_2, L_3, L_4, L_5, L_6, L_7, L_8, L_9, L_10, L_11, L_12, L_13, L_20, L_24, L_26, L_30, L_31, L_32, L_39, L_40, L_48, L_57, L_76, L_80, L_90, L_91, L_97, L_99, L_100, L_255, L_273, L_1000, L_2000, q_ld, q_ldL, q_sto, q_stoL, q_add, q_sub, q_mul, q_dec, q_rem, q_div, q_lt_t, q_lt_f, q_le_t, q_le_f, q_eq_t, q_eq_f, q_em, q_me, q_ml, q_lm, q_mle, q_lem, q_s1, q_s1o, q_s1k, q_s12, q_s2, q_s2o, q_s2k, q_s21, Nat.add_sub_cancel, q_or, q_and, q_shl, true_or, or_true, false_or, or_false, true_and, and_true, false_and, and_false, not_true_eq_false, not_false_eq_true, ne_eq, fM_EachAddsALineModel_bargain, gM_EachAddsALineModel_bargain_0, em, M_isHour_t he, x3, L_1000000]
      · simp (disch := omega) only [Option.bind_some, ↓reduceIte, ↓M_1, ↓M_2, L_0, L_1, L_2, L_3, L_4, L_5, L_6, L_7, L_8, L_9, L_10, L_11, L_12, L_13, L_20, L_24, L_26, L_30, L_31, L_32, L_39, L_40, L_48, L_57, L_76, L_80, L_90, L_91, L_97, L_99, L_100, L_255, L_273, L_1000, L_2000, q_ld, q_ldL, q_sto, q_stoL, q_add, q_sub, q_mul, q_dec, q_rem, q_div, q_lt_t, q_lt_f, q_le_t, q_le_f, q_eq_t, q_eq_f, q_em, q_me, q_ml, q_lm, q_mle, q_lem, q_s1, q_s1o, q_s1k, q_s12, q_s2, q_s2o, q_s2k, q_s21, Nat.add_sub_cancel, q_or, q_and, q_shl, true_or, or_true, false_or, or_false, true_and, and_true, false_and, and_false, not_true_eq_false, not_false_eq_true, ne_eq, x5.2.2 35 (by decide)]; exact hmc.2.1
      · simp (disch := omega) only [Option.bind_some, ↓reduceIte, ↓M_1, ↓M_2, L_0, L_1, L_2, L_3, L_4, L_5, L_6, L_7, L_8, L_9, L_10, L_11, L_12, L_13, L_20, L_24, L_26, L_30, L_31, L_32, L_39, L_40, L_48, L_57, L_76, L_80, L_90, L_91, L_97, L_99, L_100, L_255, L_273, L_1000, L_2000, q_ld, q_ldL, q_sto, q_stoL, q_add, q_sub, q_mul, q_dec, q_rem, q_div, q_lt_t, q_lt_f, q_le_t, q_le_f, q_eq_t, q_eq_f, q_em, q_me, q_ml, q_lm, q_mle, q_lem, q_s1, q_s1o, q_s1k, q_s12, q_s2, q_s2o, q_s2k, q_s21, Nat.add_sub_cancel, q_or, q_and, q_shl, true_or, or_true, false_or, or_false, true_and, and_true, false_and, and_false, not_true_eq_false, not_false_eq_true, ne_eq, x5.2.2 37 (by decide)]; exact hmc.2.2.1
      · simp (disch := omega) only [Option.bind_some, ↓reduceIte, ↓M_1, ↓M_2, L_0, L_1, L_2, L_3, L_4, L_5, L_6, L_7, L_8, L_9, L_10, L_11, L_12, L_13, L_20, L_24, L_26, L_30, L_31, L_32, L_39, L_40, L_48, L_57, L_76, L_80, L_90, L_91, L_97, L_99, L_100, L_255, L_273, L_1000, L_2000, q_ld, q_ldL, q_sto, q_stoL, q_add, q_sub, q_mul, q_dec, q_rem, q_div, q_lt_t, q_lt_f, q_le_t, q_le_f, q_eq_t, q_eq_f, q_em, q_me, q_ml, q_lm, q_mle, q_lem, q_s1, q_s1o, q_s1k, q_s12, q_s2, q_s2o, q_s2k, q_s21, Nat.add_sub_cancel, q_or, q_and, q_shl, true_or, or_true, false_or, or_false, true_and, and_true, false_and, and_false, not_true_eq_false, not_false_eq_true, ne_eq, x5.2.2 44 (by decide)]; exact hmc.2.2.2
    · exact ⟨mI 1, s, _, by simp (disch := omega) only [Option.bind_some, ↓reduceIte, ↓M_1, ↓M_2, L_0, L_1, L_2, L_3, L_4, L_5, L_6, L_7, L_8, L_9, L_10, L_11, L_12, L_13, L_20, L_24, L_26, L_30, L_31, L_32, L_39, L_40, L_48, L_57, L_76, L_80, L_90, L_91, L_97, L_99, L_100, L_255, L_273, L_1000, L_2000, q_ld, q_ldL, q_sto, q_stoL, q_add, q_sub, q_mul, q_dec, q_rem, q_div, q_lt_t, q_lt_f, q_le_t, q_le_f, q_eq_t, q_eq_f, q_em, q_me, q_ml, q_lm, q_mle, q_lem, q_s1, q_s1o, q_s1k, q_s12, q_s2, q_s2o, q_s2k, q_s21, Nat.add_sub_cancel, q_or, q_and, q_shl, true_or, or_true, false_or, or_false, true_and, and_true, false_and, and_false, not_true_eq_false, not_false_eq_true, ne_eq, fC_EachAddsALine_bargain, gC_EachAddsALine_bargain_0, ec, C_isHour_f q2], by simp (disch := omega) only [Option.bind_some, ↓reduceIte, ↓M_1, ↓M_2, L_0, L_1, L_2, L_3, L_4, L_5, L_6, L_7, L_8, L_9, L_10, L_11, L_12, L_13, L_20, L_24, L_26, L_30, L_31, L_32, L_39, L_40, L_48, L_57, L_76, L_80, L_90, L_91, L_97, L_99, L_100, L_255, L_273, L_1000, L_2000, q_ld, q_ldL, q_sto, q_stoL, q_add, q_sub, q_mul, q_dec, q_rem, q_div, q_lt_t, q_lt_f, q_le_t, q_le_f, q_eq_t, q_eq_f, q_em, q_me, q_ml, q_lm, q_mle, q_lem, q_s1, q_s1o, q_s1k, q_s12, q_s2, q_s2o, q_s2k, q_s21, Nat.add_sub_cancel, q_or, q_and, q_shl, true_or, or_true, false_or, or_false, true_and, and_true, false_and, and_false, not_true_eq_false, not_false_eq_true, ne_eq, fM_EachAddsALineModel_bargain, gM_EachAddsALineModel_bargain_0, em, M_isHour_f q2], hr.k0 hU⟩
  · have ec := C_isTrip_f (N := N) h1 q
    have em := M_isTrip_f (N := N) h2' q
    exact ⟨mI 1, s, _, by simp (disch := omega) only [Option.bind_some, ↓reduceIte, ↓M_1, ↓M_2, L_0, L_1, L_2, L_3, L_4, L_5, L_6, L_7, L_8, L_9, L_10, L_11, L_12, L_13, L_20, L_24, L_26, L_30, L_31, L_32, L_39, L_40, L_48, L_57, L_76, L_80, L_90, L_91, L_97, L_99, L_100, L_255, L_273, L_1000, L_2000, q_ld, q_ldL, q_sto, q_stoL, q_add, q_sub, q_mul, q_dec, q_rem, q_div, q_lt_t, q_lt_f, q_le_t, q_le_f, q_eq_t, q_eq_f, q_em, q_me, q_ml, q_lm, q_mle, q_lem, q_s1, q_s1o, q_s1k, q_s12, q_s2, q_s2o, q_s2k, q_s21, Nat.add_sub_cancel, q_or, q_and, q_shl, true_or, or_true, false_or, or_false, true_and, and_true, false_and, and_false, not_true_eq_false, not_false_eq_true, ne_eq, fC_EachAddsALine_bargain, gC_EachAddsALine_bargain_0, ec], by simp (disch := omega) only [Option.bind_some, ↓reduceIte, ↓M_1, ↓M_2, L_0, L_1, L_2, L_3, L_4, L_5, L_6, L_7, L_8, L_9, L_10, L_11, L_12, L_13, L_20, L_24, L_26, L_30, L_31, L_32, L_39, L_40, L_48, L_57, L_76, L_80, L_90, L_91, L_97, L_99, L_100, L_255, L_273, L_1000, L_2000, q_ld, q_ldL, q_sto, q_stoL, q_add, q_sub, q_mul, q_dec, q_rem, q_div, q_lt_t, q_lt_f, q_le_t, q_le_f, q_eq_t, q_eq_f, q_em, q_me, q_ml, q_lm, q_mle, q_lem, q_s1, q_s1o, q_s1k, q_s12, q_s2, q_s2o, q_s2k, q_s21, Nat.add_sub_cancel, q_or, q_and, q_shl, true_or, or_true, false_or, or_false, true_and, and_true, false_and, and_false, not_true_eq_false, not_false_eq_true, ne_eq, fM_EachAddsALineModel_bargain, gM_EachAddsALineModel_bargain_0, em], hr.k0 hU⟩
theorem k_cheapest (hU : okU U) (hN : 200 ≤ N) : keeps3 N (RR U) fC_EachAddsALine_cheapest fM_EachAddsALineModel_cheapest := by
  refine keeps3_trip hU (fun w s a b c hw e => by simp (disch := omega) only [Option.bind_some, ↓reduceIte, ↓M_1, ↓M_2, L_0, L_1, L_2, L_3, L_4, L_5, L_6, L_7, L_8, L_9, L_10, L_11, L_12, L_13, L_20, L_24, L_26, L_30, L_31, L_32, L_39, L_40, L_48, L_57, L_76, L_80, L_90, L_91, L_97, L_99, L_100, L_255, L_273, L_1000, L_2000, q_ld, q_ldL, q_sto, q_stoL, q_add, q_sub, q_mul, q_dec, q_rem, q_div, q_lt_t, q_lt_f, q_le_t, q_le_f, q_eq_t, q_eq_f, q_em, q_me, q_ml, q_lm, q_mle, q_lem, q_s1, q_s1o, q_s1k, q_s12, q_s2, q_s2o, q_s2k, q_s21, Nat.add_sub_cancel, q_or, q_and, q_shl, true_or, or_true, false_or, or_false, true_and, and_true, false_and, and_false, not_true_eq_false, not_false_eq_true, ne_eq, fC_EachAddsALine_cheapest, gC_EachAddsALine_cheapest_0, fC_EachAddsALine_bargain, gC_EachAddsALine_bargain_0, e]) (fun w t a b c hw e => by simp (disch := omega) only [Option.bind_some, ↓reduceIte, ↓M_1, ↓M_2, L_0, L_1, L_2, L_3, L_4, L_5, L_6, L_7, L_8, L_9, L_10, L_11, L_12, L_13, L_20, L_24, L_26, L_30, L_31, L_32, L_39, L_40, L_48, L_57, L_76, L_80, L_90, L_91, L_97, L_99, L_100, L_255, L_273, L_1000, L_2000, q_ld, q_ldL, q_sto, q_stoL, q_add, q_sub, q_mul, q_dec, q_rem, q_div, q_lt_t, q_lt_f, q_le_t, q_le_f, q_eq_t, q_eq_f, q_em, q_me, q_ml, q_lm, q_mle, q_lem, q_s1, q_s1o, q_s1k, q_s12, q_s2, q_s2o, q_s2k, q_s21, Nat.add_sub_cancel, q_or, q_and, q_shl, true_or, or_true, false_or, or_false, true_and, and_true, false_and, and_false, not_true_eq_false, not_false_eq_true, ne_eq, fM_EachAddsALineModel_cheapest, gM_EachAddsALineModel_cheapest_0, e]) (fun s t w u v k hr h1 h2 hu hv hk ec em => ?_)
  have hmc := hr.mc.r
  have g0 : Fm [] [] [11, 33] t (s1 (s1 t 0 11 (nI 0)) 0 33 (nI 0)) := (Fm.w10 (by decide)).tr (Fm.w10 (by decide))
  have h3 : MW w (s1 (s1 t 0 11 (nI 0)) 0 33 (nI 0)) := h2.fm g0 (by decide) (by decide)
  have eh := C_isHour_t (N := N) (s := s) (u := 99) (by decide)
  obtain ⟨z, s', r, t', x1, x2, x3, x4, x5, x6⟩ := price_ok (bb := 1000000) (bb' := 99) h1 h3 hN hu hv hk (by decide) (by decide) (fun s hs => by have := hr_le h1.ok hs; omega) (by simp (disch := omega) only [Option.bind_some, ↓reduceIte, ↓M_1, ↓M_2, L_0, L_1, L_2, L_3, L_4, L_5, L_6, L_7, L_8, L_9, L_10, L_11, L_12, L_13, L_20, L_24, L_26, L_30, L_31, L_32, L_39, L_40, L_48, L_57, L_76, L_80, L_90, L_91, L_97, L_99, L_100, L_255, L_273, L_1000, L_2000, q_ld, q_ldL, q_sto, q_stoL, q_add, q_sub, q_mul, q_dec, q_rem, q_div, q_lt_t, q_lt_f, q_le_t, q_le_f, q_eq_t, q_eq_f, q_em, q_me, q_ml, q_lm, q_mle, q_lem, q_s1, q_s1o, q_s1k, q_s12, q_s2, q_s2o, q_s2k, q_s21, Nat.add_sub_cancel, q_or, q_and, q_shl, true_or, or_true, false_or, or_false, true_and, and_true, false_and, and_false, not_true_eq_false, not_false_eq_true, ne_eq]) (by simp (disch := omega) only [Option.bind_some, ↓reduceIte, ↓M_1, ↓M_2, L_0, L_1, L_2, L_3, L_4, L_5, L_6, L_7, L_8, L_9, L_10, L_11, L_12, L_13, L_20, L_24, L_26, L_30, L_31, L_32, L_39, L_40, L_48, L_57, L_76, L_80, L_90, L_91, L_97, L_99, L_100, L_255, L_273, L_1000, L_2000, q_ld, q_ldL, q_sto, q_stoL, q_add, q_sub, q_mul, q_dec, q_rem, q_div, q_lt_t, q_lt_f, q_le_t, q_le_f, q_eq_t, q_eq_f, q_em, q_me, q_ml, q_lm, q_mle, q_lem, q_s1, q_s1o, q_s1k, q_s12, q_s2, q_s2o, q_s2k, q_s21, Nat.add_sub_cancel, q_or, q_and, q_shl, true_or, or_true, false_or, or_false, true_and, and_true, false_and, and_false, not_true_eq_false, not_false_eq_true, ne_eq]; exact hmc.1) (by simp (disch := omega) only [Option.bind_some, ↓reduceIte, ↓M_1, ↓M_2, L_0, L_1, L_2, L_3, L_4, L_5, L_6, L_7, L_8, L_9, L_10, L_11, L_12, L_13, L_20, L_24, L_26, L_30, L_31, L_32, L_39, L_40, L_48, L_57, L_76, L_80, L_90, L_91, L_97, L_99, L_100, L_255, L_273, L_1000, L_2000, q_ld, q_ldL, q_sto, q_stoL, q_add, q_sub, q_mul, q_dec, q_rem, q_div, q_lt_t, q_lt_f, q_le_t, q_le_f, q_eq_t, q_eq_f, q_em, q_me, q_ml, q_lm, q_mle, q_lem, q_s1, q_s1o, q_s1k, q_s12, q_s2, q_s2o, q_s2k, q_s21, Nat.add_sub_cancel, q_or, q_and, q_shl, true_or, or_true, false_or, or_false, true_and, and_true, false_and, and_false, not_true_eq_false, not_false_eq_true, ne_eq]; exact hmc.2.1) (hr.ron.fr (Fr.rf (L := []) (K := [])) g0 (by decide) (by decide))
  refine ⟨r, s', t', ?_, ?_, hr.ro hU x6 x4 ((g0.mono (by decide) (by decide) (by decide)).tr (x5.mono (by decide) (by decide) (by decide)) : Fm [7, 11, 12, 13] [] [10, 11, 30, 33] t t') (by decide) (by decide) (by decide)⟩
  · simp (disch := omega) only [Option.bind_some, ↓reduceIte, ↓M_1, ↓M_2, L_0, L_1, L_2, L_3, L_4, L_5, L_6, L_7, L_8, L_9, L_10, L_11, L_12, L_13, L_20, L_24, L_26, L_30, L_31, L_32, L_39, L_40, L_48, L_57, L_76, L_80, L_90, L_91, L_97, L_99, L_100, L_255, L_273, L_1000, L_2000, q_ld, q_ldL, q_sto, q_stoL, q_add, q_sub, q_mul, q_dec, q_rem, q_div, q_lt_t, q_lt_f, q_le_t, q_le_f, q_eq_t, q_eq_f, q_em, q_me, q_ml, q_lm, q_mle, q_lem, q_s1, q_s1o, q_s1k, q_s12, q_s2, q_s2o, q_s2k, q_s21, Nat.add_sub_cancel, q_or, q_and, q_shl, true_or, or_true, false_or, or_false, true_and, and_true, false_and, and_false, not_true_eq_false, not_false_eq_true, ne_eq, fC_EachAddsALine_cheapest, gC_EachAddsALine_cheapest_0, fC_EachAddsALine_bargain, gC_EachAddsALine_bargain_0, ec, eh, x1, x2]
  · simp (disch := omega) only [Option.bind_some, ↓reduceIte, ↓M_1, ↓M_2, L_0, L_1, L_2, L_3, L_4, L_5, L_6, L_7, L_8, L_9, L_10, L_11, L_12, L_13, L_20, L_24, L_26, L_30, L_31, L_32, L_39, L_40, L_48, L_57, L_76, L_80, L_90, L_91, L_97, L_99, L_100, L_255, L_273, L_1000, L_2000, q_ld, q_ldL, q_sto, q_stoL, q_add, q_sub, q_mul, q_dec, q_rem, q_div, q_lt_t, q_lt_f, q_le_t, q_le_f, q_eq_t, q_eq_f, q_em, q_me, q_ml, q_lm, q_mle, q_lem, q_s1, q_s1o, q_s1k, q_s12, q_s2, q_s2o, q_s2k, q_s21, Nat.add_sub_cancel, q_or, q_and, q_shl, true_or, or_true, false_or, or_false, true_and, and_true, false_and, and_false, not_true_eq_false, not_false_eq_true, ne_eq, fM_EachAddsALineModel_cheapest, gM_EachAddsALineModel_cheapest_0, em, x3]
/-- the soonest of all is that of the best step -/
theorem sbm_no {T : Nat → Nat × Nat} {M : Nat} (hM : M = 2 * w 5 1) (h : ∀ s, s < M → beg w u k s → 1000000 ≤ (T s).1) : sbm w T u k = 1000000 := by
  refine fz_ind (f := fun s x => if beg w u k s then min x (T s).1 else x) (z := 1000000) (n := 2 * w 5 1) (fun i a => a = 1000000) rfl (fun i a hi ha => ?_) _ (Nat.le_refl _)
  try simp only
  by_cases c : beg w u k i
  · rw [if_pos c, ha]
    have := h i (by omega) c
    omega
  · rw [if_neg c, ha]
theorem sbm_yes {T : Nat → Nat × Nat} {b : Nat} (hb : b < 2 * w 5 1) (h1 : beg w u k b) (h2 : (T b).1 < 1000000) (h3 : ∀ s, s < 2 * w 5 1 → beg w u k s → ¬ lessP (T s) (T b)) : sbm w T u k = (T b).1 := by
  have := fz_ind (f := fun s x => if beg w u k s then min x (T s).1 else x) (z := 1000000) (n := 2 * w 5 1) (fun i a => (T b).1 ≤ a ∧ (b < i → a ≤ (T b).1)) ⟨by omega, fun z => by omega⟩ (fun i a hi ha => by
    try simp only
    by_cases c : beg w u k i
    · rw [if_pos c]
      have := h3 i hi c
      unfold lessP at this
      refine ⟨by omega, fun z => ?_⟩
      by_cases d : b = i
      · subst d; omega
      · have := ha.2 (by omega); omega
    · rw [if_neg c]
      refine ⟨ha.1, fun z => ?_⟩
      by_cases d : b = i
      · subst d; exact absurd h1 c
      · exact ha.2 (by omega)) (2 * w 5 1) (Nat.le_refl _)
  exact Nat.le_antisymm (this.2 hb) this.1
/-- soonest, also by none of some -/
theorem soon_ok (h1 : CW w s) (h2 : MW w t) (hN : 200 ≤ N) (hu : u < w 5 0) (hv : v < w 5 0) (hk : k < 100) (hsh : shuts w sh br) (hbr : br < 512) (h33 : t.1 0 33 = nI br) (h34 : t.1 0 34 = nI 1000000) (h35 : t.1 0 35 = gI 100) (hro : RO s t) :
    ∃ s' r t', fC_EachAddsALine_soonestPast N (nI u) (nI v) (nI k) sh s = some (r, s') ∧ fM_EachAddsALineModel_tellBest N (nI u) (nI v) (nI k) (nI 0) t = some (r, t') ∧ Fr [3, 4, 41, 42, 43] [] s s' ∧ Fm [7, 11, 12, 13] [] [10, 30] t t' ∧ RO s' t' := by
  have hN6 : 60 ≤ N := by omega
  have hbd := h1.bd
  obtain ⟨z0, i1, i2, i3, _⟩ := C_spread (N := N) (go := 100) h1 hN6 hu (show k < 1000 by omega) hsh (Or.inr rfl)
  have i4 := i3 v hv
  have hz0 : CW w z0 := h1.fr i2 (by decide)
  rw [gI_no (g := 100) (by decide)] at i1
  rcases bst_ok w (TB w v 0 1000000 br 100) u k (2 * w 5 1) (by omega) with ⟨b1, b2⟩ | ⟨b1, b2, b3, b4⟩
  · obtain ⟨t', y1, y2⟩ := M_tellBest_f (N := N) (what := 0) h2 hN6 hu hv (show k < 1000 by omega) (by decide) (by decide) hbr h33 h34 h35 b1
    rw [sbm_no rfl b2, show ea 1000000 = mI 1 from rfl] at i4
    refine ⟨z0, mI 2, t', ?_, y1, i2.mono (by decide) (by decide), y2.mono (by decide) (by decide) (by decide), hro.fr i2 y2 (by decide) (by decide)⟩
    simp (disch := omega) only [Option.bind_some, ↓reduceIte, ↓M_1, ↓M_2, L_0, L_1, L_2, L_3, L_4, L_5, L_6, L_7, L_8, L_9, L_10, L_11, L_12, L_13, L_20, L_24, L_26, L_30, L_31, L_32, L_39, L_40, L_48, L_57, L_76, L_80, L_90, L_91, L_97, L_99, L_100, L_255, L_273, L_1000, L_2000, q_ld, q_ldL, q_sto, q_stoL, q_add, q_sub, q_mul, q_dec, q_rem, q_div, q_lt_t, q_lt_f, q_le_t, q_le_f, q_eq_t, q_eq_f, q_em, q_me, q_ml, q_lm, q_mle, q_lem, q_s1, q_s1o, q_s1k, q_s12, q_s2, q_s2o, q_s2k, q_s21, Nat.add_sub_cancel, q_or, q_and, q_shl, true_or, or_true, false_or, or_false, true_and, and_true, false_and, and_false, not_true_eq_false, not_false_eq_true, ne_eq, fC_EachAddsALine_soonestPast, gC_EachAddsALine_soonestPast_0, i1, i4]
  · have es := sbm_yes b1 b2 b3 b4
    have hl := TB_lt (v := v) (what := 0) (bb := 1000000) (br := br) (go := 100) h1.ok b1
    rw [es, show ea (TB w v 0 1000000 br 100 (bst w (TB w v 0 1000000 br 100) u k (2 * w 5 1))).1 = nI _ from if_pos (by
      rw [← es]
      have h99 : sbm w (TB w v 0 1000000 br 100) u k < 1000 := by
        rw [es]
        have : ∀ s, s < 2 * w 5 1 → (TB w v 0 1000000 br 100 s).1 < 1000000 → (TB w v 0 1000000 br 100 s).1 ≤ 99 := by
          refine downI (fun s hs => hr_le h1.ok hs) _ (fun s hs ih hf => ?_)
          have w00 : wo w 0 s = 0 := (if_neg (by decide)).trans (if_neg (by decide))
          rcases TB_att (v := v) (what := 0) (bb := 1000000) (br := br) (go := 100) h1.ok hs with z | ⟨z1, z2, z3, z4⟩ | ⟨o, z1, z2, z3, z4, z5, z6⟩
          · rw [z] at hf; exact absurd hf (by decide)
          · rw [z4, if_pos rfl]; exact hr_le h1.ok hs
          · rw [z6]
            unfold prP
            rw [w00]
            exact ih o z1 (fol_lt h1.ok hs z2) z3
        have := this _ b1 b3
        omega
      exact h99)] at i4
    have h99 : ∀ s, s < 2 * w 5 1 → (TB w v 0 1000000 br 100 s).1 < 1000000 → (TB w v 0 1000000 br 100 s).1 ≤ 99 := by
      refine downI (fun s hs => hr_le h1.ok hs) _ (fun s hs ih hf => ?_)
      have w00 : wo w 0 s = 0 := (if_neg (by decide)).trans (if_neg (by decide))
      rcases TB_att (v := v) (what := 0) (bb := 1000000) (br := br) (go := 100) h1.ok hs with z | ⟨z1, z2, z3, z4⟩ | ⟨o, z1, z2, z3, z4, z5, z6⟩
      · rw [z] at hf; exact absurd hf (by decide)
      · rw [z4, if_pos rfl]; exact hr_le h1.ok hs
      · rw [z6]
        unfold prP
        rw [w00]
        exact ih o z1 (fol_lt h1.ok hs z2) z3
    have hc := h99 _ b1 b3
    obtain ⟨t', y1, y2, y3, y4⟩ := M_tellBest_t (N := N) (what := 0) h2 hN hu hv (show k < 1000 by omega) (by decide) (by decide) hbr h33 h34 h35 rfl b1 b2 b3
    generalize hbq : bst w (TB w v 0 1000000 br 100) u k (2 * w 5 1) = b at *
    generalize hcq : (TB w v 0 1000000 br 100 b).1 = c at *
    have hG0 : ∀ s, s < 2 * w 5 1 → beg w u k s → c ≤ (TB w v 0 1000000 br 100 s).1 := fun s hs hbg => by
      have := b4 s hs hbg
      unfold lessP at this
      omega
    obtain ⟨z, s', r, x1, x2, x3, x4, x5⟩ := W_yes (N := N) hz0 hN6 (by decide) hu hv (show k < 1000 by omega) (show c < 2 ^ 31 by omega) hsh (EOK_S (v := v) (br := br) (c := c) h1.ok hc) hG0
      (fun s hs hf => by
        have := TB_lt (v := v) (what := 0) (bb := 1000000) (br := br) (go := 100) h1.ok hs
        unfold eS fC
        split <;> omega)
      (fun s hs hf => by
        have := TB_lt (v := v) (what := 0) (bb := 1000000) (br := br) (go := 100) h1.ok hs
        unfold eS
        split
        · have := this.2.2.2 hf
          exact Or.inr (by omega)
        · exact Or.inl rfl)
      (fun s s' hs hs' he hne => by
        unfold eS at he hne
        by_cases d1 : (TB w v 0 1000000 br 100 s).1 = c
        · rw [if_pos d1] at he hne
          by_cases d2 : (TB w v 0 1000000 br 100 s').1 = c
          · rw [if_pos d2] at he
            exact Prod.ext (by omega) (by omega)
          · rw [if_neg d2] at he
            exact absurd he hne
        · rw [if_neg d1] at hne
          exact absurd rfl hne) b1 b2 (by omega) b4 (by
        have := hl.2.1
        have h7 := (hl.2.2.2 (by omega)).2
        unfold eS fC
        rw [if_pos hcq]
        omega)
    rw [hcq] at x5
    refine ⟨s', nI c, t', ?_, y1, ((i2.mono (by decide) (by decide)).tr (x4.mono (by decide) (by decide))).tr (x5.1.mono (by decide) (by decide)), y2, RO.of x5 ⟨Fm.rf, y3, y4⟩⟩
    simp (disch := omega) only [Option.bind_some, ↓reduceIte, ↓M_1, ↓M_2, L_0, L_1, L_2, L_3, L_4, L_5, L_6, L_7, L_8, L_9, L_10, L_11, L_12, L_13, L_20, L_24, L_26, L_30, L_31, L_32, L_39, L_40, L_48, L_57, L_76, L_80, L_90, L_91, L_97, L_99, L_100, L_255, L_273, L_1000, L_2000, q_ld, q_ldL, q_sto, q_stoL, q_add, q_sub, q_mul, q_dec, q_rem, q_div, q_lt_t, q_lt_f, q_le_t, q_le_f, q_eq_t, q_eq_f, q_em, q_me, q_ml, q_lm, q_mle, q_lem, q_s1, q_s1o, q_s1k, q_s12, q_s2, q_s2o, q_s2k, q_s21, Nat.add_sub_cancel, q_or, q_and, q_shl, true_or, or_true, false_or, or_false, true_and, and_true, false_and, and_false, not_true_eq_false, not_false_eq_true, ne_eq, fC_EachAddsALine_soonestPast, gC_EachAddsALine_soonestPast_0, i1, i4, x1, x2]
theorem k_soonest (hU : okU U) (hN : 200 ≤ N) : keeps3 N (RR U) fC_EachAddsALine_soonest fM_EachAddsALineModel_soonest := by
  refine keeps3_trip hU (fun w s a b c hw e => by simp (disch := omega) only [Option.bind_some, ↓reduceIte, ↓M_1, ↓M_2, L_0, L_1, L_2, L_3, L_4, L_5, L_6, L_7, L_8, L_9, L_10, L_11, L_12, L_13, L_20, L_24, L_26, L_30, L_31, L_32, L_39, L_40, L_48, L_57, L_76, L_80, L_90, L_91, L_97, L_99, L_100, L_255, L_273, L_1000, L_2000, q_ld, q_ldL, q_sto, q_stoL, q_add, q_sub, q_mul, q_dec, q_rem, q_div, q_lt_t, q_lt_f, q_le_t, q_le_f, q_eq_t, q_eq_f, q_em, q_me, q_ml, q_lm, q_mle, q_lem, q_s1, q_s1o, q_s1k, q_s12, q_s2, q_s2o, q_s2k, q_s21, Nat.add_sub_cancel, q_or, q_and, q_shl, true_or, or_true, false_or, or_false, true_and, and_true, false_and, and_false, not_true_eq_false, not_false_eq_true, ne_eq, fC_EachAddsALine_soonest, gC_EachAddsALine_soonest_0, e]) (fun w t a b c hw e => by simp (disch := omega) only [Option.bind_some, ↓reduceIte, ↓M_1, ↓M_2, L_0, L_1, L_2, L_3, L_4, L_5, L_6, L_7, L_8, L_9, L_10, L_11, L_12, L_13, L_20, L_24, L_26, L_30, L_31, L_32, L_39, L_40, L_48, L_57, L_76, L_80, L_90, L_91, L_97, L_99, L_100, L_255, L_273, L_1000, L_2000, q_ld, q_ldL, q_sto, q_stoL, q_add, q_sub, q_mul, q_dec, q_rem, q_div, q_lt_t, q_lt_f, q_le_t, q_le_f, q_eq_t, q_eq_f, q_em, q_me, q_ml, q_lm, q_mle, q_lem, q_s1, q_s1o, q_s1k, q_s12, q_s2, q_s2o, q_s2k, q_s21, Nat.add_sub_cancel, q_or, q_and, q_shl, true_or, or_true, false_or, or_false, true_and, and_true, false_and, and_false, not_true_eq_false, not_false_eq_true, ne_eq, fM_EachAddsALineModel_soonest, gM_EachAddsALineModel_soonest_0, e]) (fun s t w u v k hr h1 h2 hu hv hk ec em => ?_)
  have hmc := hr.mc.r
  have g0 : Fm [] [] [11, 33] t (s1 (s1 t 0 11 (nI 0)) 0 33 (nI 0)) := (Fm.w10 (by decide)).tr (Fm.w10 (by decide))
  have h3 : MW w (s1 (s1 t 0 11 (nI 0)) 0 33 (nI 0)) := h2.fm g0 (by decide) (by decide)
  obtain ⟨s', r, t', x1, x2, x4, x5, x6⟩ := soon_ok h1 h3 hN hu hv hk shuts0 (by decide) (by simp (disch := omega) only [Option.bind_some, ↓reduceIte, ↓M_1, ↓M_2, L_0, L_1, L_2, L_3, L_4, L_5, L_6, L_7, L_8, L_9, L_10, L_11, L_12, L_13, L_20, L_24, L_26, L_30, L_31, L_32, L_39, L_40, L_48, L_57, L_76, L_80, L_90, L_91, L_97, L_99, L_100, L_255, L_273, L_1000, L_2000, q_ld, q_ldL, q_sto, q_stoL, q_add, q_sub, q_mul, q_dec, q_rem, q_div, q_lt_t, q_lt_f, q_le_t, q_le_f, q_eq_t, q_eq_f, q_em, q_me, q_ml, q_lm, q_mle, q_lem, q_s1, q_s1o, q_s1k, q_s12, q_s2, q_s2o, q_s2k, q_s21, Nat.add_sub_cancel, q_or, q_and, q_shl, true_or, or_true, false_or, or_false, true_and, and_true, false_and, and_false, not_true_eq_false, not_false_eq_true, ne_eq]) (by simp (disch := omega) only [Option.bind_some, ↓reduceIte, ↓M_1, ↓M_2, L_0, L_1, L_2, L_3, L_4, L_5, L_6, L_7, L_8, L_9, L_10, L_11, L_12, L_13, L_20, L_24, L_26, L_30, L_31, L_32, L_39, L_40, L_48, L_57, L_76, L_80, L_90, L_91, L_97, L_99, L_100, L_255, L_273, L_1000, L_2000, q_ld, q_ldL, q_sto, q_stoL, q_add, q_sub, q_mul, q_dec, q_rem, q_div, q_lt_t, q_lt_f, q_le_t, q_le_f, q_eq_t, q_eq_f, q_em, q_me, q_ml, q_lm, q_mle, q_lem, q_s1, q_s1o, q_s1k, q_s12, q_s2, q_s2o, q_s2k, q_s21, Nat.add_sub_cancel, q_or, q_and, q_shl, true_or, or_true, false_or, or_false, true_and, and_true, false_and, and_false, not_true_eq_false, not_false_eq_true, ne_eq]; exact hmc.1) (by simp (disch := omega) only [Option.bind_some, ↓reduceIte, ↓M_1, ↓M_2, L_0, L_1, L_2, L_3, L_4, L_5, L_6, L_7, L_8, L_9, L_10, L_11, L_12, L_13, L_20, L_24, L_26, L_30, L_31, L_32, L_39, L_40, L_48, L_57, L_76, L_80, L_90, L_91, L_97, L_99, L_100, L_255, L_273, L_1000, L_2000, q_ld, q_ldL, q_sto, q_stoL, q_add, q_sub, q_mul, q_dec, q_rem, q_div, q_lt_t, q_lt_f, q_le_t, q_le_f, q_eq_t, q_eq_f, q_em, q_me, q_ml, q_lm, q_mle, q_lem, q_s1, q_s1o, q_s1k, q_s12, q_s2, q_s2o, q_s2k, q_s21, Nat.add_sub_cancel, q_or, q_and, q_shl, true_or, or_true, false_or, or_false, true_and, and_true, false_and, and_false, not_true_eq_false, not_false_eq_true, ne_eq]; exact hmc.2.1) (hr.ron.fr (Fr.rf (L := []) (K := [])) g0 (by decide) (by decide))
  refine ⟨r, s', t', ?_, ?_, hr.ro hU x6 x4 ((g0.mono (by decide) (by decide) (by decide)).tr (x5.mono (by decide) (by decide) (by decide)) : Fm [7, 11, 12, 13] [] [10, 11, 30, 33] t t') (by decide) (by decide) (by decide)⟩
  · simp (disch := omega) only [Option.bind_some, ↓reduceIte, ↓M_1, ↓M_2, L_0, L_1, L_2, L_3, L_4, L_5, L_6, L_7, L_8, L_9, L_10, L_11, L_12, L_13, L_20, L_24, L_26, L_30, L_31, L_32, L_39, L_40, L_48, L_57, L_76, L_80, L_90, L_91, L_97, L_99, L_100, L_255, L_273, L_1000, L_2000, q_ld, q_ldL, q_sto, q_stoL, q_add, q_sub, q_mul, q_dec, q_rem, q_div, q_lt_t, q_lt_f, q_le_t, q_le_f, q_eq_t, q_eq_f, q_em, q_me, q_ml, q_lm, q_mle, q_lem, q_s1, q_s1o, q_s1k, q_s12, q_s2, q_s2o, q_s2k, q_s21, Nat.add_sub_cancel, q_or, q_and, q_shl, true_or, or_true, false_or, or_false, true_and, and_true, false_and, and_false, not_true_eq_false, not_false_eq_true, ne_eq, fC_EachAddsALine_soonest, gC_EachAddsALine_soonest_0, ec, x1]
  · simp (disch := omega) only [Option.bind_some, ↓reduceIte, ↓M_1, ↓M_2, L_0, L_1, L_2, L_3, L_4, L_5, L_6, L_7, L_8, L_9, L_10, L_11, L_12, L_13, L_20, L_24, L_26, L_30, L_31, L_32, L_39, L_40, L_48, L_57, L_76, L_80, L_90, L_91, L_97, L_99, L_100, L_255, L_273, L_1000, L_2000, q_ld, q_ldL, q_sto, q_stoL, q_add, q_sub, q_mul, q_dec, q_rem, q_div, q_lt_t, q_lt_f, q_le_t, q_le_f, q_eq_t, q_eq_f, q_em, q_me, q_ml, q_lm, q_mle, q_lem, q_s1, q_s1o, q_s1k, q_s12, q_s2, q_s2o, q_s2k, q_s21, Nat.add_sub_cancel, q_or, q_and, q_shl, true_or, or_true, false_or, or_false, true_and, and_true, false_and, and_false, not_true_eq_false, not_false_eq_true, ne_eq, fM_EachAddsALineModel_soonest, gM_EachAddsALineModel_soonest_0, em, x2]
end PR
