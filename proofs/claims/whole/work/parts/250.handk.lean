/-! hand, check: the calls -/
section HK
variable {N l n m : Nat} {w : Nat → Nat → Nat} {wh si li : Nat → Nat} {s t : vSt}
theorem C_handOn_no (h1 : CW w s) (hl : l < 3) (ho : okL (w 5 0) (n + 1) wh si li) (hC : CL l (n + 1) wh si li s) (hm : m < w 5 1) (hr : rfs w wh si (n + 1) m ≠ 0) : fC_Post_handOn N (nI l) (nI m) s = some (mI (rfs w wh si (n + 1) m), s) := by
  have h := ho.2 n (Nat.lt_succ_self n)
  have hn := ho.1
  have hq := h1.ok.2.1
  have hw := h1.ok.2.2.2 m hm
  have hrd := rdh_le ho h1.ok
  have e2 := C_holderAt (N := N) hl ho hC (Nat.lt_succ_self n)
  have e0 := hC.1
  have ep : nI (n + 1) - nI 1 = nI n := nI_pred n
  have ea := C_isAt (N := N) h1 hm h.1
  have er := C_readyHour (N := N) h1 hl ho hC
  have m4 : (-4 : Int32) = mI 4 := by decide
  have m3 : (-3 : Int32) = mI 3 := by decide
  rcases rfs_cases w wh si n m with ⟨c1, e⟩ | ⟨c1, c2, e⟩ | ⟨c1, c2, c3, e⟩ | ⟨c1, c2, c3, e⟩
  · rw [if_neg c1] at ea
    rw [e]
    simp (disch := omega) only [Option.bind_some, ↓reduceIte, ↓M_1, ↓M_2, L_0, L_1, L_2, L_3, L_4, L_5, L_6, L_7, L_8, L_9, L_10, L_11, L_12, L_13, L_20, L_24, L_26, L_30, L_31, L_32, L_39, L_40, L_48, L_57, L_76, L_80, L_90, L_91, L_97, L_99, L_100, L_255, L_273, L_1000, L_2000, q_ld, q_ldL, q_sto, q_stoL, q_add, q_sub, q_mul, q_dec, q_rem, q_div, q_lt_t, q_lt_f, q_le_t, q_le_f, q_eq_t, q_eq_f, q_em, q_me, q_ml, q_lm, q_mle, q_lem, q_s1, q_s1o, q_s1k, q_s12, q_s2, q_s2o, q_s2k, q_s21, Nat.add_sub_cancel, q_or, q_and, q_shl, true_or, or_true, false_or, or_false, true_and, and_true, false_and, and_false, not_true_eq_false, not_false_eq_true, ne_eq, fC_Post_handOn, gC_Post_handOn_0, e0, ep, e2, ea]
  · rw [if_pos c1] at ea
    rw [e, ← m3]
    simp (disch := omega) only [Option.bind_some, ↓reduceIte, ↓M_1, ↓M_2, L_0, L_1, L_2, L_3, L_4, L_5, L_6, L_7, L_8, L_9, L_10, L_11, L_12, L_13, L_20, L_24, L_26, L_30, L_31, L_32, L_39, L_40, L_48, L_57, L_76, L_80, L_90, L_91, L_97, L_99, L_100, L_255, L_273, L_1000, L_2000, q_ld, q_ldL, q_sto, q_stoL, q_add, q_sub, q_mul, q_dec, q_rem, q_div, q_lt_t, q_lt_f, q_le_t, q_le_f, q_eq_t, q_eq_f, q_em, q_me, q_ml, q_lm, q_mle, q_lem, q_s1, q_s1o, q_s1k, q_s12, q_s2, q_s2o, q_s2k, q_s21, Nat.add_sub_cancel, q_or, q_and, q_shl, true_or, or_true, false_or, or_false, true_and, and_true, false_and, and_false, not_true_eq_false, not_false_eq_true, ne_eq, fC_Post_handOn, gC_Post_handOn_0, e0, ep, e2, ea, h1.h hm, er]
  · rw [if_pos c1] at ea
    rw [e, ← m4]
    simp (disch := omega) only [Option.bind_some, ↓reduceIte, ↓M_1, ↓M_2, L_0, L_1, L_2, L_3, L_4, L_5, L_6, L_7, L_8, L_9, L_10, L_11, L_12, L_13, L_20, L_24, L_26, L_30, L_31, L_32, L_39, L_40, L_48, L_57, L_76, L_80, L_90, L_91, L_97, L_99, L_100, L_255, L_273, L_1000, L_2000, q_ld, q_ldL, q_sto, q_stoL, q_add, q_sub, q_mul, q_dec, q_rem, q_div, q_lt_t, q_lt_f, q_le_t, q_le_f, q_eq_t, q_eq_f, q_em, q_me, q_ml, q_lm, q_mle, q_lem, q_s1, q_s1o, q_s1k, q_s12, q_s2, q_s2o, q_s2k, q_s21, Nat.add_sub_cancel, q_or, q_and, q_shl, true_or, or_true, false_or, or_false, true_and, and_true, false_and, and_false, not_true_eq_false, not_false_eq_true, ne_eq, fC_Post_handOn, gC_Post_handOn_0, e0, ep, e2, ea, h1.h hm, er]
  · exact absurd e hr
theorem okL.up {p j g h : Nat} (ho : okL p (n + 1) wh si li) (hn : n + 1 < 30) (hj : j ≤ 9) (hg : g < p) (hh : h ≤ 99) : okL p (n + 2) (up wh (n + 1) g) (up si (n + 1) h) (up li (n + 1) j) := by
  refine ⟨by omega, fun k hk => ?_⟩
  by_cases d : k = n + 1
  · subst d; rw [up_eq, up_eq, up_eq]; exact ⟨hg, hh, hj⟩
  · rw [up_ne d, up_ne d, up_ne d]; exact ho.2 k (by omega)
theorem k_hand (hN : 100 ≤ N) : keeps2 N (RR (UR N)) fC_EachAddsALine_hand fM_EachAddsALineModel_hand := fun s t h v a => by
  obtain ⟨w, h1, h2, h3, h4, h5, h6, h7, h8, h9⟩ := id h
  have h2' := M_rd0 h2 (nI 0)
  have hq := h1.ok.2.1
  have kept : RR (UR N) s (s1 t 0 11 (nI 0)) := h.fr (okUR N) (Fr.rf (L := []) (K := [])) (Fm.w10 (L := []) (K := []) (F := [11]) (by decide)) (by decide) (by decide) (by decide)
  have f11 : Fm [] [] [11] t (s1 t 0 11 (nI 0)) := Fm.w10 (by decide)
  by_cases c : isP 3 v
  · obtain ⟨l, hl, rfl⟩ := c
    obtain ⟨n, wh, si, li, ho, hC, hM⟩ := h7.1.get hl
    have hn := ho.1
    have hM' : ML l n wh si li (s1 t 0 11 (nI 0)) := hM.fm f11 (by decide)
    have a1 := C_isThere (N := N) hl hn hC
    have b1 := M_isLetter (N := N) hl hn hM'
    by_cases c0 : n = 0
    · rw [if_pos c0] at a1 b1
      refine ⟨mI 1, s, s1 t 0 11 (nI 0), ?_, ?_, kept⟩
      · simp (disch := omega) only [Option.bind_some, ↓reduceIte, ↓M_1, ↓M_2, L_0, L_1, L_2, L_3, L_4, L_5, L_6, L_7, L_8, L_9, L_10, L_11, L_12, L_13, L_20, L_24, L_26, L_30, L_31, L_32, L_39, L_40, L_48, L_57, L_76, L_80, L_90, L_91, L_97, L_99, L_100, L_255, L_273, L_1000, L_2000, q_ld, q_ldL, q_sto, q_stoL, q_add, q_sub, q_mul, q_dec, q_rem, q_div, q_lt_t, q_lt_f, q_le_t, q_le_f, q_eq_t, q_eq_f, q_em, q_me, q_ml, q_lm, q_mle, q_lem, q_s1, q_s1o, q_s1k, q_s12, q_s2, q_s2o, q_s2k, q_s21, Nat.add_sub_cancel, q_or, q_and, q_shl, true_or, or_true, false_or, or_false, true_and, and_true, false_and, and_false, not_true_eq_false, not_false_eq_true, ne_eq, fC_EachAddsALine_hand, gC_EachAddsALine_hand_0, a1]
      · simp (disch := omega) only [Option.bind_some, ↓reduceIte, ↓M_1, ↓M_2, L_0, L_1, L_2, L_3, L_4, L_5, L_6, L_7, L_8, L_9, L_10, L_11, L_12, L_13, L_20, L_24, L_26, L_30, L_31, L_32, L_39, L_40, L_48, L_57, L_76, L_80, L_90, L_91, L_97, L_99, L_100, L_255, L_273, L_1000, L_2000, q_ld, q_ldL, q_sto, q_stoL, q_add, q_sub, q_mul, q_dec, q_rem, q_div, q_lt_t, q_lt_f, q_le_t, q_le_f, q_eq_t, q_eq_f, q_em, q_me, q_ml, q_lm, q_mle, q_lem, q_s1, q_s1o, q_s1k, q_s12, q_s2, q_s2o, q_s2k, q_s21, Nat.add_sub_cancel, q_or, q_and, q_shl, true_or, or_true, false_or, or_false, true_and, and_true, false_and, and_false, not_true_eq_false, not_false_eq_true, ne_eq, fM_EachAddsALineModel_hand, gM_EachAddsALineModel_hand_0, b1]
    · rw [if_neg c0] at a1 b1
      obtain ⟨n, rfl⟩ : ∃ k, n = k + 1 := ⟨n - 1, by omega⟩
      by_cases cm : isP (w 5 1) a
      · obtain ⟨m, hm, rfl⟩ := cm
        have a2 := C_hasMeeting_t (N := N) h1 hm
        have b2 := M_isMeeting_t (N := N) h2' hm
        have b3 := M_refusal (N := N) h2' hl ho hM' hm
        have r4 := rfs_le w wh si n m
        by_cases hr : rfs w wh si (n + 1) m = 0
        · rw [if_pos hr] at b3
          obtain ⟨q, x, C, u1, u2⟩ := h8.get
          have hn30 : n + 1 < 30 := by
            rcases rfs_cases w wh si n m with ⟨_, e⟩ | ⟨_, _, e⟩ | ⟨_, _, _, e⟩ | ⟨_, _, c3, e⟩
            · rw [hr] at e; cases e
            · rw [hr] at e; cases e
            · rw [hr] at e; cases e
            · omega
          obtain ⟨j, hj, hj2⟩ := lm_ix (rv C (eHd w wh li n m))
          obtain ⟨hd, mk⟩ := M_make (N := N) hN h2' hl ho hM' hm hn30 (u1.fm f11 (by decide) (by decide))
          obtain ⟨t', d1, d2, d3, d4⟩ := mk j hj2
          obtain ⟨s', g1, g2, g3, g4, g5, g6⟩ := C_make (N := N) hN h1 hl ho hC hm hr u2 hd hj2
          have ho' := okL.up (j := j) (g := oth w m (wh n)) (h := w 3 m) ho hn30 (by omega) (oth_lt h1.ok hm) (h1.ok.2.2.2 m hm).2.2.2.1
          have gm := (f11.mono (L' := [9, 10]) (K' := []) (F' := [11, 12, 13, 14, 15, 16, 19, 20, 21, 22, 23, 24, 25, 26]) (by decide) (by decide) (by decide)).tr (d2.mono (by decide) (by decide) (by decide))
          refine ⟨nI j, s', t', ?_, ?_, RR.lu h h1 h2 h7 (UR.put (u1.fm gm (by decide) (by decide)) (u2.fr g2 g3 (by decide))) (h7.1.set hl ho' g4 d3 g5 g6 (fun k hk => by rw [d4 k hk, q_s1o (by decide)])) h3 h4 h5 h6 h9 g2 gm (by decide) (by decide) (by decide)⟩
          · simp (disch := omega) only [Option.bind_some, ↓reduceIte, ↓M_1, ↓M_2, L_0, L_1, L_2, L_3, L_4, L_5, L_6, L_7, L_8, L_9, L_10, L_11, L_12, L_13, L_20, L_24, L_26, L_30, L_31, L_32, L_39, L_40, L_48, L_57, L_76, L_80, L_90, L_91, L_97, L_99, L_100, L_255, L_273, L_1000, L_2000, q_ld, q_ldL, q_sto, q_stoL, q_add, q_sub, q_mul, q_dec, q_rem, q_div, q_lt_t, q_lt_f, q_le_t, q_le_f, q_eq_t, q_eq_f, q_em, q_me, q_ml, q_lm, q_mle, q_lem, q_s1, q_s1o, q_s1k, q_s12, q_s2, q_s2o, q_s2k, q_s21, Nat.add_sub_cancel, q_or, q_and, q_shl, true_or, or_true, false_or, or_false, true_and, and_true, false_and, and_false, not_true_eq_false, not_false_eq_true, ne_eq, fC_EachAddsALine_hand, gC_EachAddsALine_hand_0, a1, a2, g1]
          · simp (disch := omega) only [Option.bind_some, ↓reduceIte, ↓M_1, ↓M_2, L_0, L_1, L_2, L_3, L_4, L_5, L_6, L_7, L_8, L_9, L_10, L_11, L_12, L_13, L_20, L_24, L_26, L_30, L_31, L_32, L_39, L_40, L_48, L_57, L_76, L_80, L_90, L_91, L_97, L_99, L_100, L_255, L_273, L_1000, L_2000, q_ld, q_ldL, q_sto, q_stoL, q_add, q_sub, q_mul, q_dec, q_rem, q_div, q_lt_t, q_lt_f, q_le_t, q_le_f, q_eq_t, q_eq_f, q_em, q_me, q_ml, q_lm, q_mle, q_lem, q_s1, q_s1o, q_s1k, q_s12, q_s2, q_s2o, q_s2k, q_s21, Nat.add_sub_cancel, q_or, q_and, q_shl, true_or, or_true, false_or, or_false, true_and, and_true, false_and, and_false, not_true_eq_false, not_false_eq_true, ne_eq, fM_EachAddsALineModel_hand, gM_EachAddsALineModel_hand_0, b1, b2, b3, d1]
        · rw [if_neg hr] at b3
          refine ⟨mI (rfs w wh si (n + 1) m), s, s1 t 0 11 (nI 0), ?_, ?_, kept⟩
          · simp (disch := omega) only [Option.bind_some, ↓reduceIte, ↓M_1, ↓M_2, L_0, L_1, L_2, L_3, L_4, L_5, L_6, L_7, L_8, L_9, L_10, L_11, L_12, L_13, L_20, L_24, L_26, L_30, L_31, L_32, L_39, L_40, L_48, L_57, L_76, L_80, L_90, L_91, L_97, L_99, L_100, L_255, L_273, L_1000, L_2000, q_ld, q_ldL, q_sto, q_stoL, q_add, q_sub, q_mul, q_dec, q_rem, q_div, q_lt_t, q_lt_f, q_le_t, q_le_f, q_eq_t, q_eq_f, q_em, q_me, q_ml, q_lm, q_mle, q_lem, q_s1, q_s1o, q_s1k, q_s12, q_s2, q_s2o, q_s2k, q_s21, Nat.add_sub_cancel, q_or, q_and, q_shl, true_or, or_true, false_or, or_false, true_and, and_true, false_and, and_false, not_true_eq_false, not_false_eq_true, ne_eq, fC_EachAddsALine_hand, gC_EachAddsALine_hand_0, a1, a2, C_handOn_no h1 hl ho hC hm hr]
          · have hne : ¬ (nI 0 ≤ mI (rfs w wh si (n + 1) m)) := by rw [q_lem (by omega) (by omega) (by omega)]; exact id
            simp (disch := omega) only [Option.bind_some, ↓reduceIte, ↓M_1, ↓M_2, L_0, L_1, L_2, L_3, L_4, L_5, L_6, L_7, L_8, L_9, L_10, L_11, L_12, L_13, L_20, L_24, L_26, L_30, L_31, L_32, L_39, L_40, L_48, L_57, L_76, L_80, L_90, L_91, L_97, L_99, L_100, L_255, L_273, L_1000, L_2000, q_ld, q_ldL, q_sto, q_stoL, q_add, q_sub, q_mul, q_dec, q_rem, q_div, q_lt_t, q_lt_f, q_le_t, q_le_f, q_eq_t, q_eq_f, q_em, q_me, q_ml, q_lm, q_mle, q_lem, q_s1, q_s1o, q_s1k, q_s12, q_s2, q_s2o, q_s2k, q_s21, Nat.add_sub_cancel, q_or, q_and, q_shl, true_or, or_true, false_or, or_false, true_and, and_true, false_and, and_false, not_true_eq_false, not_false_eq_true, ne_eq, fM_EachAddsALineModel_hand, gM_EachAddsALineModel_hand_0, b1, b2, b3, hne]
      · refine ⟨mI 1, s, s1 t 0 11 (nI 0), ?_, ?_, kept⟩
        · simp (disch := omega) only [Option.bind_some, ↓reduceIte, ↓M_1, ↓M_2, L_0, L_1, L_2, L_3, L_4, L_5, L_6, L_7, L_8, L_9, L_10, L_11, L_12, L_13, L_20, L_24, L_26, L_30, L_31, L_32, L_39, L_40, L_48, L_57, L_76, L_80, L_90, L_91, L_97, L_99, L_100, L_255, L_273, L_1000, L_2000, q_ld, q_ldL, q_sto, q_stoL, q_add, q_sub, q_mul, q_dec, q_rem, q_div, q_lt_t, q_lt_f, q_le_t, q_le_f, q_eq_t, q_eq_f, q_em, q_me, q_ml, q_lm, q_mle, q_lem, q_s1, q_s1o, q_s1k, q_s12, q_s2, q_s2o, q_s2k, q_s21, Nat.add_sub_cancel, q_or, q_and, q_shl, true_or, or_true, false_or, or_false, true_and, and_true, false_and, and_false, not_true_eq_false, not_false_eq_true, ne_eq, fC_EachAddsALine_hand, gC_EachAddsALine_hand_0, a1, C_hasMeeting_f h1 cm]
        · simp (disch := omega) only [Option.bind_some, ↓reduceIte, ↓M_1, ↓M_2, L_0, L_1, L_2, L_3, L_4, L_5, L_6, L_7, L_8, L_9, L_10, L_11, L_12, L_13, L_20, L_24, L_26, L_30, L_31, L_32, L_39, L_40, L_48, L_57, L_76, L_80, L_90, L_91, L_97, L_99, L_100, L_255, L_273, L_1000, L_2000, q_ld, q_ldL, q_sto, q_stoL, q_add, q_sub, q_mul, q_dec, q_rem, q_div, q_lt_t, q_lt_f, q_le_t, q_le_f, q_eq_t, q_eq_f, q_em, q_me, q_ml, q_lm, q_mle, q_lem, q_s1, q_s1o, q_s1k, q_s12, q_s2, q_s2o, q_s2k, q_s21, Nat.add_sub_cancel, q_or, q_and, q_shl, true_or, or_true, false_or, or_false, true_and, and_true, false_and, and_false, not_true_eq_false, not_false_eq_true, ne_eq, fM_EachAddsALineModel_hand, gM_EachAddsALineModel_hand_0, b1, M_isMeeting_f h2' cm]
  · refine ⟨mI 1, s, s1 t 0 11 (nI 0), ?_, ?_, kept⟩
    · simp (disch := omega) only [Option.bind_some, ↓reduceIte, ↓M_1, ↓M_2, L_0, L_1, L_2, L_3, L_4, L_5, L_6, L_7, L_8, L_9, L_10, L_11, L_12, L_13, L_20, L_24, L_26, L_30, L_31, L_32, L_39, L_40, L_48, L_57, L_76, L_80, L_90, L_91, L_97, L_99, L_100, L_255, L_273, L_1000, L_2000, q_ld, q_ldL, q_sto, q_stoL, q_add, q_sub, q_mul, q_dec, q_rem, q_div, q_lt_t, q_lt_f, q_le_t, q_le_f, q_eq_t, q_eq_f, q_em, q_me, q_ml, q_lm, q_mle, q_lem, q_s1, q_s1o, q_s1k, q_s12, q_s2, q_s2o, q_s2k, q_s21, Nat.add_sub_cancel, q_or, q_and, q_shl, true_or, or_true, false_or, or_false, true_and, and_true, false_and, and_false, not_true_eq_false, not_false_eq_true, ne_eq, fC_EachAddsALine_hand, gC_EachAddsALine_hand_0, C_isThere_f c]
    · simp (disch := omega) only [Option.bind_some, ↓reduceIte, ↓M_1, ↓M_2, L_0, L_1, L_2, L_3, L_4, L_5, L_6, L_7, L_8, L_9, L_10, L_11, L_12, L_13, L_20, L_24, L_26, L_30, L_31, L_32, L_39, L_40, L_48, L_57, L_76, L_80, L_90, L_91, L_97, L_99, L_100, L_255, L_273, L_1000, L_2000, q_ld, q_ldL, q_sto, q_stoL, q_add, q_sub, q_mul, q_dec, q_rem, q_div, q_lt_t, q_lt_f, q_le_t, q_le_f, q_eq_t, q_eq_f, q_em, q_me, q_ml, q_lm, q_mle, q_lem, q_s1, q_s1o, q_s1k, q_s12, q_s2, q_s2o, q_s2k, q_s21, Nat.add_sub_cancel, q_or, q_and, q_shl, true_or, or_true, false_or, or_false, true_and, and_true, false_and, and_false, not_true_eq_false, not_false_eq_true, ne_eq, fM_EachAddsALineModel_hand, gM_EachAddsALineModel_hand_0, M_isLetter_f c]
/-- what is asked of line k -/
def eCk (wh si li : Nat → Nat) (k : Nat) : Nat → Int32 := fE (nI (wh k)) (nI (wh (k - 1))) (nI (si k)) (nI k) (nI (li 0)) (nI (li (k - 1))) (nI (sl li k))
theorem check_run {q p : Nat} {x : Nat → Nat} {C : List Nat} (hN : 100 ≤ N) (hl : l < 3) (ho : okL p n wh si li) : ∀ d k f g s t, k + d = n → 1 ≤ k → d < f → d < g → CL l n wh si li s → ML l n wh si li t → (∀ i, i < n → t.1 10 i = nI (li i)) → UC C s → UM N q x C t → ∃ r s' t', gC_Post_firstFalse_2 N f (nI l) (nI k) s = some (r, s') ∧ gM_EachAddsALineModel_check_50 N g (nI l) (nI k) t = some (r, t') ∧ Fr [17, 19, 20] [] s s' ∧ s'.1 17 1 = s.1 17 1 ∧ Fm [] [] [12, 13, 14, 15, 16, 19, 20, 21, 22, 23, 24, 25, 26] t t' := by
  intro d
  have hn := ho.1
  induction d with
  | zero =>
    intro k f g s t hk h1 hf hg hC hM h10 hU hV
    obtain ⟨f, rfl⟩ : ∃ a, f = a + 1 := ⟨f - 1, by omega⟩
    obtain ⟨g, rfl⟩ : ∃ a, g = a + 1 := ⟨g - 1, by omega⟩
    obtain rfl : k = n := by omega
    refine ⟨mI 2, s, t, ?_, ?_, Fr.rf, rfl, Fm.rf⟩
    · rw [gC_Post_firstFalse_2]
      simp (disch := omega) only [Option.bind_some, ↓reduceIte, ↓M_1, ↓M_2, L_0, L_1, L_2, L_3, L_4, L_5, L_6, L_7, L_8, L_9, L_10, L_11, L_12, L_13, L_20, L_24, L_26, L_30, L_31, L_32, L_39, L_40, L_48, L_57, L_76, L_80, L_90, L_91, L_97, L_99, L_100, L_255, L_273, L_1000, L_2000, q_ld, q_ldL, q_sto, q_stoL, q_add, q_sub, q_mul, q_dec, q_rem, q_div, q_lt_t, q_lt_f, q_le_t, q_le_f, q_eq_t, q_eq_f, q_em, q_me, q_ml, q_lm, q_mle, q_lem, q_s1, q_s1o, q_s1k, q_s12, q_s2, q_s2o, q_s2k, q_s21, Nat.add_sub_cancel, q_or, q_and, q_shl, true_or, or_true, false_or, or_false, true_and, and_true, false_and, and_false, not_true_eq_false, not_false_eq_true, ne_eq, hC.1]
    · rw [gM_EachAddsALineModel_check_50]
      simp (disch := omega) only [Option.bind_some, ↓reduceIte, ↓M_1, ↓M_2, L_0, L_1, L_2, L_3, L_4, L_5, L_6, L_7, L_8, L_9, L_10, L_11, L_12, L_13, L_20, L_24, L_26, L_30, L_31, L_32, L_39, L_40, L_48, L_57, L_76, L_80, L_90, L_91, L_97, L_99, L_100, L_255, L_273, L_1000, L_2000, q_ld, q_ldL, q_sto, q_stoL, q_add, q_sub, q_mul, q_dec, q_rem, q_div, q_lt_t, q_lt_f, q_le_t, q_le_f, q_eq_t, q_eq_f, q_em, q_me, q_ml, q_lm, q_mle, q_lem, q_s1, q_s1o, q_s1k, q_s12, q_s2, q_s2o, q_s2k, q_s21, Nat.add_sub_cancel, q_or, q_and, q_shl, true_or, or_true, false_or, or_false, true_and, and_true, false_and, and_false, not_true_eq_false, not_false_eq_true, ne_eq, M_linesOf hl hM]
  | succ d ih =>
    intro k f g s t hk h1 hf hg hC hM h10 hU hV
    obtain ⟨f, rfl⟩ : ∃ a, f = a + 1 := ⟨f - 1, by omega⟩
    obtain ⟨g, rfl⟩ : ∃ a, g = a + 1 := ⟨g - 1, by omega⟩
    have hk2 : k < n := by omega
    obtain ⟨t3, m1, m2, m3⟩ := M_lineBy (N := N) hN hV (m := k) (li := li) (by omega) (by omega) (fun i hi => h10 i (by omega)) (fun i hi => (ho.2 i (by omega)).2.2) (nI (wh k)) (nI (wh (k - 1))) (nI (si k))
    obtain ⟨z, y1, y2, y3, y4, y5, y6⟩ := C_ahead (N := N) (m := k) hN hl ho hC (by omega) (by omega)
    have hCz := hC.fr y2 (by decide)
    obtain ⟨s3, c1, c2, c3⟩ := C_line (N := N) (s := z) (a := nI (wh k)) (b := nI (wh (k - 1))) (c := nI (si k)) hN (hU.fr y2 (by rw [y2.1 17 (by decide)]) (by decide)) m3 y3 y4 y5 y6
    have hC3 := hCz.fr c2 (by decide)
    have f3 : Fr [17, 19, 20] [] s s3 := (y2.mono (by decide) (by decide)).tr c2
    have g17 : s3.1 17 1 = s.1 17 1 := by rw [c3, y2.1 17 (by decide)]
    have cs : gC_Post_firstFalse_2 N (f + 1) (nI l) (nI k) s = if lm (rv C (eCk wh si li k)) = nI (li k) then gC_Post_firstFalse_2 N f (nI l) (nI (k + 1)) s3 else some (nI k, s3) := by
      have w1 := C_holderAt (N := N) hl ho hCz (k := k - 1) (by omega)
      have w2 := C_holderAt (N := N) hl ho hCz (k := k) hk2
      have w3 := C_sinceAt (N := N) hl ho hCz (k := k) hk2
      have w4 := C_lineAt (N := N) hl ho hC3 (k := k) hk2
      rw [gC_Post_firstFalse_2]
      simp (disch := omega) only [Option.bind_some, ↓reduceIte, ↓M_1, ↓M_2, L_0, L_1, L_2, L_3, L_4, L_5, L_6, L_7, L_8, L_9, L_10, L_11, L_12, L_13, L_20, L_24, L_26, L_30, L_31, L_32, L_39, L_40, L_48, L_57, L_76, L_80, L_90, L_91, L_97, L_99, L_100, L_255, L_273, L_1000, L_2000, q_ld, q_ldL, q_sto, q_stoL, q_add, q_sub, q_mul, q_dec, q_rem, q_div, q_lt_t, q_lt_f, q_le_t, q_le_f, q_eq_t, q_eq_f, q_em, q_me, q_ml, q_lm, q_mle, q_lem, q_s1, q_s1o, q_s1k, q_s12, q_s2, q_s2o, q_s2k, q_s21, Nat.add_sub_cancel, q_or, q_and, q_shl, true_or, or_true, false_or, or_false, true_and, and_true, false_and, and_false, not_true_eq_false, not_false_eq_true, ne_eq, hC.1, y1, w1, w2, w3, c1, w4]
      rfl
    have t10 : t3.1 10 k = nI (li k) := by rw [m2.1 10 (by decide) (by decide)]; exact h10 k hk2
    have ms : gM_EachAddsALineModel_check_50 N (g + 1) (nI l) (nI k) t = if lm (rv C (eCk wh si li k)) = nI (li k) then gM_EachAddsALineModel_check_50 N g (nI l) (nI (k + 1)) t3 else some (nI k, t3) := by
      have w1 := (hM.2 (k - 1) (by omega)).2.1
      have w2 := (hM.2 k hk2).2.1
      have w3 := (hM.2 k hk2).2.2
      rw [show 91 * l + 2 + 3 * (k - 1) = 91 * l + 1 + 3 * (k - 1) + 1 by omega] at w1
      rw [show 91 * l + 2 + 3 * k = 91 * l + 1 + 3 * k + 1 by omega] at w2
      rw [show 91 * l + 3 + 3 * k = 91 * l + 1 + 3 * k + 2 by omega] at w3
      rw [gM_EachAddsALineModel_check_50]
      simp (disch := omega) only [Option.bind_some, ↓reduceIte, ↓M_1, ↓M_2, L_0, L_1, L_2, L_3, L_4, L_5, L_6, L_7, L_8, L_9, L_10, L_11, L_12, L_13, L_20, L_24, L_26, L_30, L_31, L_32, L_39, L_40, L_48, L_57, L_76, L_80, L_90, L_91, L_97, L_99, L_100, L_255, L_273, L_1000, L_2000, q_ld, q_ldL, q_sto, q_stoL, q_add, q_sub, q_mul, q_dec, q_rem, q_div, q_lt_t, q_lt_f, q_le_t, q_le_f, q_eq_t, q_eq_f, q_em, q_me, q_ml, q_lm, q_mle, q_lem, q_s1, q_s1o, q_s1k, q_s12, q_s2, q_s2o, q_s2k, q_s21, Nat.add_sub_cancel, q_or, q_and, q_shl, true_or, or_true, false_or, or_false, true_and, and_true, false_and, and_false, not_true_eq_false, not_false_eq_true, ne_eq, M_linesOf hl hM, M_at, w1, w2, w3, m1, t10]
      rfl
    by_cases e : lm (rv C (eCk wh si li k)) = nI (li k)
    · rw [if_pos e] at cs ms
      obtain ⟨r, s', t', a1, a2, a3, a4, a5⟩ := ih (k + 1) f g s3 t3 (by omega) (by omega) (by omega) (by omega) hC3 (hM.fm m2 (by decide)) (fun i hi => by rw [m2.1 10 (by decide) (by decide)]; exact h10 i hi) (hU.fr f3 g17 (by decide)) (hV.fm m2 (by decide) (by decide))
      exact ⟨r, s', t', cs.trans a1, ms.trans a2, f3.tr a3, a4.trans g17, m2.tr a5⟩
    · rw [if_neg e] at cs ms
      exact ⟨nI k, s3, t3, cs, ms, f3, g17, m2⟩
theorem k_check (hN : 100 ≤ N) : keeps1 N (RR (UR N)) fC_EachAddsALine_check fM_EachAddsALineModel_check := fun s t h v => by
  obtain ⟨w, h1, h2, h3, h4, h5, h6, h7, h8, h9⟩ := id h
  have kept : RR (UR N) s (s1 t 0 11 (nI 0)) := h.fr (okUR N) (Fr.rf (L := []) (K := [])) (Fm.w10 (L := []) (K := []) (F := [11]) (by decide)) (by decide) (by decide) (by decide)
  have f11 : Fm [] [] [11] t (s1 t 0 11 (nI 0)) := Fm.w10 (by decide)
  by_cases c : isP 3 v
  · obtain ⟨l, hl, rfl⟩ := c
    obtain ⟨n, wh, si, li, ho, hC, hM⟩ := h7.1.get hl
    have hn := ho.1
    have hM' : ML l n wh si li (s1 t 0 11 (nI 0)) := hM.fm f11 (by decide)
    have a1 := C_isThere (N := N) hl hn hC
    have b1 := M_isLetter (N := N) hl hn hM'
    by_cases c0 : n = 0
    · rw [if_pos c0] at a1 b1
      refine ⟨mI 1, s, s1 t 0 11 (nI 0), ?_, ?_, kept⟩
      · simp (disch := omega) only [Option.bind_some, ↓reduceIte, ↓M_1, ↓M_2, L_0, L_1, L_2, L_3, L_4, L_5, L_6, L_7, L_8, L_9, L_10, L_11, L_12, L_13, L_20, L_24, L_26, L_30, L_31, L_32, L_39, L_40, L_48, L_57, L_76, L_80, L_90, L_91, L_97, L_99, L_100, L_255, L_273, L_1000, L_2000, q_ld, q_ldL, q_sto, q_stoL, q_add, q_sub, q_mul, q_dec, q_rem, q_div, q_lt_t, q_lt_f, q_le_t, q_le_f, q_eq_t, q_eq_f, q_em, q_me, q_ml, q_lm, q_mle, q_lem, q_s1, q_s1o, q_s1k, q_s12, q_s2, q_s2o, q_s2k, q_s21, Nat.add_sub_cancel, q_or, q_and, q_shl, true_or, or_true, false_or, or_false, true_and, and_true, false_and, and_false, not_true_eq_false, not_false_eq_true, ne_eq, fC_EachAddsALine_check, gC_EachAddsALine_check_0, a1]
      · simp (disch := omega) only [Option.bind_some, ↓reduceIte, ↓M_1, ↓M_2, L_0, L_1, L_2, L_3, L_4, L_5, L_6, L_7, L_8, L_9, L_10, L_11, L_12, L_13, L_20, L_24, L_26, L_30, L_31, L_32, L_39, L_40, L_48, L_57, L_76, L_80, L_90, L_91, L_97, L_99, L_100, L_255, L_273, L_1000, L_2000, q_ld, q_ldL, q_sto, q_stoL, q_add, q_sub, q_mul, q_dec, q_rem, q_div, q_lt_t, q_lt_f, q_le_t, q_le_f, q_eq_t, q_eq_f, q_em, q_me, q_ml, q_lm, q_mle, q_lem, q_s1, q_s1o, q_s1k, q_s12, q_s2, q_s2o, q_s2k, q_s21, Nat.add_sub_cancel, q_or, q_and, q_shl, true_or, or_true, false_or, or_false, true_and, and_true, false_and, and_false, not_true_eq_false, not_false_eq_true, ne_eq, fM_EachAddsALineModel_check, gM_EachAddsALineModel_check_0, b1]
    · rw [if_neg c0] at a1 b1
      obtain ⟨q, x, C, u1, u2⟩ := h8.get
      have lp : ∃ u, gM_EachAddsALineModel_check_17 N N (nI l) (nI 0) (s1 t 0 11 (nI 0)) = gM_EachAddsALineModel_check_50 N N (nI l) (nI 1) u ∧ Fm [10] [] [11] t u ∧ ∀ k, k < n → u.1 10 k = nI (li k) := by
        refine loopU (fun f i u => gM_EachAddsALineModel_check_17 N f (nI l) (nI i) u) n (fun i u => i ≤ n ∧ Fm [10] [] [11] t u ∧ ∀ k, k < i → u.1 10 k = nI (li k)) (fun o => ∃ u, o = gM_EachAddsALineModel_check_50 N N (nI l) (nI 1) u ∧ Fm [10] [] [11] t u ∧ ∀ k, k < n → u.1 10 k = nI (li k)) ?_ ?_ n N 0 _ (by omega) (by omega) ⟨by omega, Fm.w10 (by decide), fun k hk => by omega⟩
        · rintro f i u hi ⟨_, g2, g3⟩
          have hMu := hM.fm g2 (by decide)
          have e9 := (hMu.2 i hi).1
          refine Or.inl ⟨s1 u 10 i (nI (li i)), ?_, by omega, g2.tr (Fm.w1 (by decide) (by decide)), fun k hk => ?_⟩
          · show gM_EachAddsALineModel_check_17 N (f + 1) (nI l) (nI i) u = _
            rw [gM_EachAddsALineModel_check_17]
            simp (disch := omega) only [Option.bind_some, ↓reduceIte, ↓M_1, ↓M_2, L_0, L_1, L_2, L_3, L_4, L_5, L_6, L_7, L_8, L_9, L_10, L_11, L_12, L_13, L_20, L_24, L_26, L_30, L_31, L_32, L_39, L_40, L_48, L_57, L_76, L_80, L_90, L_91, L_97, L_99, L_100, L_255, L_273, L_1000, L_2000, q_ld, q_ldL, q_sto, q_stoL, q_add, q_sub, q_mul, q_dec, q_rem, q_div, q_lt_t, q_lt_f, q_le_t, q_le_f, q_eq_t, q_eq_f, q_em, q_me, q_ml, q_lm, q_mle, q_lem, q_s1, q_s1o, q_s1k, q_s12, q_s2, q_s2o, q_s2k, q_s21, Nat.add_sub_cancel, q_or, q_and, q_shl, true_or, or_true, false_or, or_false, true_and, and_true, false_and, and_false, not_true_eq_false, not_false_eq_true, ne_eq, M_linesOf hl hMu, M_at, e9]
          · by_cases d : k = i
            · subst d; rw [q_s1]
            · rw [q_s1k d]; exact g3 k (by omega)
        · rintro f u ⟨_, g2, g3⟩
          have hMu := hM.fm g2 (by decide)
          refine ⟨u, ?_, g2, g3⟩
          show gM_EachAddsALineModel_check_17 N (f + 1) (nI l) (nI n) u = _
          rw [gM_EachAddsALineModel_check_17]
          simp (disch := omega) only [Option.bind_some, ↓reduceIte, ↓M_1, ↓M_2, L_0, L_1, L_2, L_3, L_4, L_5, L_6, L_7, L_8, L_9, L_10, L_11, L_12, L_13, L_20, L_24, L_26, L_30, L_31, L_32, L_39, L_40, L_48, L_57, L_76, L_80, L_90, L_91, L_97, L_99, L_100, L_255, L_273, L_1000, L_2000, q_ld, q_ldL, q_sto, q_stoL, q_add, q_sub, q_mul, q_dec, q_rem, q_div, q_lt_t, q_lt_f, q_le_t, q_le_f, q_eq_t, q_eq_f, q_em, q_me, q_ml, q_lm, q_mle, q_lem, q_s1, q_s1o, q_s1k, q_s12, q_s2, q_s2o, q_s2k, q_s21, Nat.add_sub_cancel, q_or, q_and, q_shl, true_or, or_true, false_or, or_false, true_and, and_true, false_and, and_false, not_true_eq_false, not_false_eq_true, ne_eq, M_linesOf hl hMu]
      obtain ⟨u, e1, e2, e3⟩ := lp
      obtain ⟨r, s', t', a2, a3, a4, a5, a6⟩ := check_run (N := N) hN hl ho (n - 1) 1 N N s u (by omega) (Nat.le_refl _) (by omega) (by omega) hC (hM.fm e2 (by decide)) e3 u2 (u1.fm e2 (by decide) (by decide))
      have gm := (e2.mono (L' := [10]) (K' := []) (F' := [11, 12, 13, 14, 15, 16, 19, 20, 21, 22, 23, 24, 25, 26]) (by decide) (by decide) (by decide)).tr (a6.mono (by decide) (by decide) (by decide))
      refine ⟨r, s', t', ?_, ?_, h.u (okUR N _ _ _ _ h8 a5 (a4.1 18 (by decide)) (gm.2.2 18 (by decide)) (gm.1 8 (by decide) (by decide))) (h3.fr a4 gm (by decide) (by decide)) a4 gm (by decide) (by decide) (by decide)⟩
      · simp (disch := omega) only [Option.bind_some, ↓reduceIte, ↓M_1, ↓M_2, L_0, L_1, L_2, L_3, L_4, L_5, L_6, L_7, L_8, L_9, L_10, L_11, L_12, L_13, L_20, L_24, L_26, L_30, L_31, L_32, L_39, L_40, L_48, L_57, L_76, L_80, L_90, L_91, L_97, L_99, L_100, L_255, L_273, L_1000, L_2000, q_ld, q_ldL, q_sto, q_stoL, q_add, q_sub, q_mul, q_dec, q_rem, q_div, q_lt_t, q_lt_f, q_le_t, q_le_f, q_eq_t, q_eq_f, q_em, q_me, q_ml, q_lm, q_mle, q_lem, q_s1, q_s1o, q_s1k, q_s12, q_s2, q_s2o, q_s2k, q_s21, Nat.add_sub_cancel, q_or, q_and, q_shl, true_or, or_true, false_or, or_false, true_and, and_true, false_and, and_false, not_true_eq_false, not_false_eq_true, ne_eq, fC_EachAddsALine_check, gC_EachAddsALine_check_0, a1, fC_Post_firstFalse, gC_Post_firstFalse_0, a2]
      · simp (disch := omega) only [Option.bind_some, ↓reduceIte, ↓M_1, ↓M_2, L_0, L_1, L_2, L_3, L_4, L_5, L_6, L_7, L_8, L_9, L_10, L_11, L_12, L_13, L_20, L_24, L_26, L_30, L_31, L_32, L_39, L_40, L_48, L_57, L_76, L_80, L_90, L_91, L_97, L_99, L_100, L_255, L_273, L_1000, L_2000, q_ld, q_ldL, q_sto, q_stoL, q_add, q_sub, q_mul, q_dec, q_rem, q_div, q_lt_t, q_lt_f, q_le_t, q_le_f, q_eq_t, q_eq_f, q_em, q_me, q_ml, q_lm, q_mle, q_lem, q_s1, q_s1o, q_s1k, q_s12, q_s2, q_s2o, q_s2k, q_s21, Nat.add_sub_cancel, q_or, q_and, q_shl, true_or, or_true, false_or, or_false, true_and, and_true, false_and, and_false, not_true_eq_false, not_false_eq_true, ne_eq, fM_EachAddsALineModel_check, gM_EachAddsALineModel_check_0, b1, e1, a3]
  · refine ⟨mI 1, s, s1 t 0 11 (nI 0), ?_, ?_, kept⟩
    · simp (disch := omega) only [Option.bind_some, ↓reduceIte, ↓M_1, ↓M_2, L_0, L_1, L_2, L_3, L_4, L_5, L_6, L_7, L_8, L_9, L_10, L_11, L_12, L_13, L_20, L_24, L_26, L_30, L_31, L_32, L_39, L_40, L_48, L_57, L_76, L_80, L_90, L_91, L_97, L_99, L_100, L_255, L_273, L_1000, L_2000, q_ld, q_ldL, q_sto, q_stoL, q_add, q_sub, q_mul, q_dec, q_rem, q_div, q_lt_t, q_lt_f, q_le_t, q_le_f, q_eq_t, q_eq_f, q_em, q_me, q_ml, q_lm, q_mle, q_lem, q_s1, q_s1o, q_s1k, q_s12, q_s2, q_s2o, q_s2k, q_s21, Nat.add_sub_cancel, q_or, q_and, q_shl, true_or, or_true, false_or, or_false, true_and, and_true, false_and, and_false, not_true_eq_false, not_false_eq_true, ne_eq, fC_EachAddsALine_check, gC_EachAddsALine_check_0, C_isThere_f c]
    · simp (disch := omega) only [Option.bind_some, ↓reduceIte, ↓M_1, ↓M_2, L_0, L_1, L_2, L_3, L_4, L_5, L_6, L_7, L_8, L_9, L_10, L_11, L_12, L_13, L_20, L_24, L_26, L_30, L_31, L_32, L_39, L_40, L_48, L_57, L_76, L_80, L_90, L_91, L_97, L_99, L_100, L_255, L_273, L_1000, L_2000, q_ld, q_ldL, q_sto, q_stoL, q_add, q_sub, q_mul, q_dec, q_rem, q_div, q_lt_t, q_lt_f, q_le_t, q_le_f, q_eq_t, q_eq_f, q_em, q_me, q_ml, q_lm, q_mle, q_lem, q_s1, q_s1o, q_s1k, q_s12, q_s2, q_s2o, q_s2k, q_s21, Nat.add_sub_cancel, q_or, q_and, q_shl, true_or, or_true, false_or, or_false, true_and, and_true, false_and, and_false, not_true_eq_false, not_false_eq_true, ne_eq, fM_EachAddsALineModel_check, gM_EachAddsALineModel_check_0, M_isLetter_f c]
end HK
