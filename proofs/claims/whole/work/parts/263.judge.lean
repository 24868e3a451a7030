/-! tales: what the rule has for line k at a step -/
abbrev SOE (w : Nat → Nat → Nat) (ta : Nat → Nat) (a k : Nat) : Nat → Int32 := fE (nI (gt w a)) (nI (gv w a)) (nI (hr w a)) (nI k) (nI (ta 0)) (nI (ta (k - 1))) (nI (sl ta k))
abbrev SO (w : Nat → Nat → Nat) (C : List Nat) (ta : Nat → Nat) (k a : Nat) : Prop := lm (rv C (SOE w ta a k)) = nI (ta k)
def CT (r n : Nat) (ta : Nat → Nat) (s : vSt) : Prop := n ≤ 12 ∧ ∀ k, k < n → ta k ≤ 9 ∧ s.1 r k = nI (ta k)
def MT (off n : Nat) (ta : Nat → Nat) (t : vSt) : Prop := n ≤ 12 ∧ ∀ k, k < n → ta k ≤ 9 ∧ t.1 16 (off + k) = nI (ta k)
theorem CT.fr {r n : Nat} {ta : Nat → Nat} {s s' : vSt} {L K : List Nat} (h : CT r n ta s) (f : Fr L K s s') (hr : r ∉ L) : CT r n ta s' := ⟨h.1, fun k hk => ⟨(h.2 k hk).1, by rw [f.1 r hr]; exact (h.2 k hk).2⟩⟩
theorem MT.fm {off n : Nat} {ta : Nat → Nat} {t t' : vSt} {L K F : List Nat} (h : MT off n ta t) (f : Fm L K F t t') (hr : 16 ∉ L) : MT off n ta t' := ⟨h.1, fun k hk => ⟨(h.2 k hk).1, by rw [f.1 16 (by decide) hr]; exact (h.2 k hk).2⟩⟩
theorem TLr.get {c cr fi mo : Nat} {s t : vSt} (h : TLr c cr fi mo s t) : ∃ n ta, s.1 c 1 = nI n ∧ t.1 0 fi = nI n ∧ CT cr n ta s ∧ MT mo n ta t := by
  obtain ⟨n, h1, h2, h3, h4⟩ := h
  have g : ∀ k, k < n → (s.1 cr k).toInt.toNat ≤ 9 ∧ s.1 cr k = nI (s.1 cr k).toInt.toNat ∧ t.1 16 (mo + k) = nI (s.1 cr k).toInt.toNat := fun k hk => by
    obtain ⟨x, x1, x2, x3⟩ := h4 k hk
    rw [wn x2 (by omega)]
    exact ⟨x1, x2, x3⟩
  exact ⟨n, fun k => (s.1 cr k).toInt.toNat, h2, h3, ⟨h1, fun k hk => ⟨(g k hk).1, (g k hk).2.1⟩⟩, h1, fun k hk => ⟨(g k hk).1, (g k hk).2.2⟩⟩
theorem nar_b1' : vp_nar .boolean (nI 1) = nI 1 := by decide
theorem nar_b0' : vp_nar .boolean (nI 0) = nI 0 := by decide
section TA
variable {N q m off n k v : Nat} {w : Nat → Nat → Nat} {x li ta : Nat → Nat} {C : List Nat} {s t : vSt}
theorem lm_119t (v : Int32) : gM_EachAddsALineModel_lineBy_m_tales_119 N v t = some (lm v, t) := rfl
theorem M_lineT (hN : 100 ≤ N) (hU : UM N q x C t) (hm : 0 < m) (hm2 : off + m ≤ 24) (h16 : ∀ k, k < m → t.1 16 (off + k) = nI (li k)) (a b c : Int32) : ∃ t', fM_EachAddsALineModel_lineBy_m_tales N a b c (nI off) (nI m) t = some (lm (rv C (fE a b c (nI m) (nI (li 0)) (nI (li (m - 1))) (nI (sl li m)))), t') ∧ Fm [] [] [12, 13, 14, 15, 16, 19, 20, 21, 22, 23, 24, 25, 26] t t' ∧ (C.length = 0 ∨ ∃ v, Den (fE a b c (nI m) (nI (li 0)) (nI (li (m - 1))) (nI (sl li m))) C v) := by
  obtain ⟨hq, h18, h8, hU⟩ := hU
  obtain ⟨E, hE⟩ : ∃ E, E = fE a b c (nI m) (nI (li 0)) (nI (li (m - 1))) (nI (sl li m)) := ⟨_, rfl⟩
  rw [← hE]
  rcases hU with ⟨rfl, rfl⟩ | ⟨h0, hU⟩
  · refine ⟨t, ?_, Fm.rf, Or.inl rfl⟩
    rw [fM_EachAddsALineModel_lineBy_m_tales, gM_EachAddsALineModel_lineBy_m_tales_0, h18, if_pos (show nI 0 ≤ (0 : Int32) from Int32.le_refl _), lm_119t, hE]
    rfl
  · obtain ⟨t9, ht9⟩ : ∃ t9, t9 = s1 (s1 (s1 (s1 (s1 (s1 (s1 t 0 20 a) 0 21 b) 0 22 c) 0 23 (nI m)) 0 24 (nI (li 0))) 0 25 (nI (li (m - 1)))) 0 26 (nI 0) := ⟨_, rfl⟩
    have f9 : Fm [] [] [20, 21, 22, 23, 24, 25, 26] t t9 := by
      rw [ht9]
      exact (Fm.w10 (by decide)).tr ((Fm.w10 (by decide)).tr ((Fm.w10 (by decide)).tr ((Fm.w10 (by decide)).tr ((Fm.w10 (by decide)).tr ((Fm.w10 (by decide)).tr (Fm.w10 (by decide)))))))
    have e0 : fM_EachAddsALineModel_lineBy_m_tales N a b c (nI off) (nI m) t = gM_EachAddsALineModel_lineBy_m_tales_63 N N (nI off) (nI m) (nI 0) t9 := by
      have k0 := h16 0 hm
      rw [Nat.add_zero] at k0
      have k1 := h16 (m - 1) (by omega)
      have e9 : off + m - 1 = off + (m - 1) := by omega
      rw [ht9]
      simp (disch := omega) only [Option.bind_some, ↓reduceIte, ↓M_1, ↓M_2, L_0, L_1, L_2, L_3, L_4, L_5, L_6, L_7, L_8, L_9, L_10, L_11, L_12, L_13, L_20, L_24, L_26, L_30, L_31, L_32, L_39, L_40, L_48, L_57, L_76, L_80, L_90, L_91, L_97, L_99, L_100, L_255, L_273, L_1000, L_2000, q_ld, q_ldL, q_sto, q_stoL, q_add, q_sub, q_mul, q_dec, q_rem, q_div, q_lt_t, q_lt_f, q_le_t, q_le_f, q_eq_t, q_eq_f, q_em, q_me, q_ml, q_lm, q_mle, q_lem, q_s1, q_s1o, q_s1k, q_s12, q_s2, q_s2o, q_s2k, q_s21, Nat.add_sub_cancel, q_or, q_and, q_shl, true_or, or_true, false_or, or_false, true_and, and_true, false_and, and_false, not_true_eq_false, not_false_eq_true, ne_eq, fM_EachAddsALineModel_lineBy_m_tales, gM_EachAddsALineModel_lineBy_m_tales_0, h18, k0, e9, k1]
    rw [e0]
    have E20 : t9.1 0 20 = a := by rw [ht9]; simp (disch := omega) only [Option.bind_some, ↓reduceIte, ↓M_1, ↓M_2, L_0, L_1, L_2, L_3, L_4, L_5, L_6, L_7, L_8, L_9, L_10, L_11, L_12, L_13, L_20, L_24, L_26, L_30, L_31, L_32, L_39, L_40, L_48, L_57, L_76, L_80, L_90, L_91, L_97, L_99, L_100, L_255, L_273, L_1000, L_2000, q_ld, q_ldL, q_sto, q_stoL, q_add, q_sub, q_mul, q_dec, q_rem, q_div, q_lt_t, q_lt_f, q_le_t, q_le_f, q_eq_t, q_eq_f, q_em, q_me, q_ml, q_lm, q_mle, q_lem, q_s1, q_s1o, q_s1k, q_s12, q_s2, q_s2o, q_s2k, q_s21, Nat.add_sub_cancel, q_or, q_and, q_shl, true_or, or_true, false_or, or_false, true_and, and_true, false_and, and_false, not_true_eq_false, not_false_eq_true, ne_eq]
    have E21 : t9.1 0 21 = b := by rw [ht9]; simp (disch := omega) only [Option.bind_some, ↓reduceIte, ↓M_1, ↓M_2, L_0, L_1, L_2, L_3, L_4, L_5, L_6, L_7, L_8, L_9, L_10, L_11, L_12, L_13, L_20, L_24, L_26, L_30, L_31, L_32, L_39, L_40, L_48, L_57, L_76, L_80, L_90, L_91, L_97, L_99, L_100, L_255, L_273, L_1000, L_2000, q_ld, q_ldL, q_sto, q_stoL, q_add, q_sub, q_mul, q_dec, q_rem, q_div, q_lt_t, q_lt_f, q_le_t, q_le_f, q_eq_t, q_eq_f, q_em, q_me, q_ml, q_lm, q_mle, q_lem, q_s1, q_s1o, q_s1k, q_s12, q_s2, q_s2o, q_s2k, q_s21, Nat.add_sub_cancel, q_or, q_and, q_shl, true_or, or_true, false_or, or_false, true_and, and_true, false_and, and_false, not_true_eq_false, not_false_eq_true, ne_eq]
    have E22 : t9.1 0 22 = c := by rw [ht9]; simp (disch := omega) only [Option.bind_some, ↓reduceIte, ↓M_1, ↓M_2, L_0, L_1, L_2, L_3, L_4, L_5, L_6, L_7, L_8, L_9, L_10, L_11, L_12, L_13, L_20, L_24, L_26, L_30, L_31, L_32, L_39, L_40, L_48, L_57, L_76, L_80, L_90, L_91, L_97, L_99, L_100, L_255, L_273, L_1000, L_2000, q_ld, q_ldL, q_sto, q_stoL, q_add, q_sub, q_mul, q_dec, q_rem, q_div, q_lt_t, q_lt_f, q_le_t, q_le_f, q_eq_t, q_eq_f, q_em, q_me, q_ml, q_lm, q_mle, q_lem, q_s1, q_s1o, q_s1k, q_s12, q_s2, q_s2o, q_s2k, q_s21, Nat.add_sub_cancel, q_or, q_and, q_shl, true_or, or_true, false_or, or_false, true_and, and_true, false_and, and_false, not_true_eq_false, not_false_eq_true, ne_eq]
    have E23 : t9.1 0 23 = nI m := by rw [ht9]; simp (disch := omega) only [Option.bind_some, ↓reduceIte, ↓M_1, ↓M_2, L_0, L_1, L_2, L_3, L_4, L_5, L_6, L_7, L_8, L_9, L_10, L_11, L_12, L_13, L_20, L_24, L_26, L_30, L_31, L_32, L_39, L_40, L_48, L_57, L_76, L_80, L_90, L_91, L_97, L_99, L_100, L_255, L_273, L_1000, L_2000, q_ld, q_ldL, q_sto, q_stoL, q_add, q_sub, q_mul, q_dec, q_rem, q_div, q_lt_t, q_lt_f, q_le_t, q_le_f, q_eq_t, q_eq_f, q_em, q_me, q_ml, q_lm, q_mle, q_lem, q_s1, q_s1o, q_s1k, q_s12, q_s2, q_s2o, q_s2k, q_s21, Nat.add_sub_cancel, q_or, q_and, q_shl, true_or, or_true, false_or, or_false, true_and, and_true, false_and, and_false, not_true_eq_false, not_false_eq_true, ne_eq]
    have E24 : t9.1 0 24 = nI (li 0) := by rw [ht9]; simp (disch := omega) only [Option.bind_some, ↓reduceIte, ↓M_1, ↓M_2, L_0, L_1, L_2, L_3, L_4, L_5, L_6, L_7, L_8, L_9, L_10, L_11, L_12, L_13, L_20, L_24, L_26, L_30, L_31, L_32, L_39, L_40, L_48, L_57, L_76, L_80, L_90, L_91, L_97, L_99, L_100, L_255, L_273, L_1000, L_2000, q_ld, q_ldL, q_sto, q_stoL, q_add, q_sub, q_mul, q_dec, q_rem, q_div, q_lt_t, q_lt_f, q_le_t, q_le_f, q_eq_t, q_eq_f, q_em, q_me, q_ml, q_lm, q_mle, q_lem, q_s1, q_s1o, q_s1k, q_s12, q_s2, q_s2o, q_s2k, q_s21, Nat.add_sub_cancel, q_or, q_and, q_shl, true_or, or_true, false_or, or_false, true_and, and_true, false_and, and_false, not_true_eq_false, not_false_eq_true, ne_eq]
    have E25 : t9.1 0 25 = nI (li (m - 1)) := by rw [ht9]; simp (disch := omega) only [Option.bind_some, ↓reduceIte, ↓M_1, ↓M_2, L_0, L_1, L_2, L_3, L_4, L_5, L_6, L_7, L_8, L_9, L_10, L_11, L_12, L_13, L_20, L_24, L_26, L_30, L_31, L_32, L_39, L_40, L_48, L_57, L_76, L_80, L_90, L_91, L_97, L_99, L_100, L_255, L_273, L_1000, L_2000, q_ld, q_ldL, q_sto, q_stoL, q_add, q_sub, q_mul, q_dec, q_rem, q_div, q_lt_t, q_lt_f, q_le_t, q_le_f, q_eq_t, q_eq_f, q_em, q_me, q_ml, q_lm, q_mle, q_lem, q_s1, q_s1o, q_s1k, q_s12, q_s2, q_s2o, q_s2k, q_s21, Nat.add_sub_cancel, q_or, q_and, q_shl, true_or, or_true, false_or, or_false, true_and, and_true, false_and, and_false, not_true_eq_false, not_false_eq_true, ne_eq]
    have E26 : t9.1 0 26 = nI 0 := by rw [ht9]; simp (disch := omega) only [Option.bind_some, ↓reduceIte, ↓M_1, ↓M_2, L_0, L_1, L_2, L_3, L_4, L_5, L_6, L_7, L_8, L_9, L_10, L_11, L_12, L_13, L_20, L_24, L_26, L_30, L_31, L_32, L_39, L_40, L_48, L_57, L_76, L_80, L_90, L_91, L_97, L_99, L_100, L_255, L_273, L_1000, L_2000, q_ld, q_ldL, q_sto, q_stoL, q_add, q_sub, q_mul, q_dec, q_rem, q_div, q_lt_t, q_lt_f, q_le_t, q_le_f, q_eq_t, q_eq_f, q_em, q_me, q_ml, q_lm, q_mle, q_lem, q_s1, q_s1o, q_s1k, q_s12, q_s2, q_s2o, q_s2k, q_s21, Nat.add_sub_cancel, q_or, q_and, q_shl, true_or, or_true, false_or, or_false, true_and, and_true, false_and, and_false, not_true_eq_false, not_false_eq_true, ne_eq]
    refine loopU (fun f i u => gM_EachAddsALineModel_lineBy_m_tales_63 N f (nI off) (nI m) (nI i) u) m (fun i u => i ≤ m ∧ Fm [] [] [26] t9 u ∧ u.1 0 26 = nI (sl li i)) (fun o => ∃ t', o = some (lm (rv C E), t') ∧ Fm [] [] [12, 13, 14, 15, 16, 19, 20, 21, 22, 23, 24, 25, 26] t t' ∧ (C.length = 0 ∨ ∃ v, Den E C v)) ?_ ?_ m N 0 t9 (by omega) (by omega) ⟨by omega, Fm.rf, E26⟩
    · rintro f i u hi ⟨_, g2, g3⟩
      have k1 : u.1 16 (off + i) = nI (li i) := by rw [g2.1 16 (by decide) (by decide), f9.1 16 (by decide) (by decide)]; exact h16 i hi
      refine Or.inl ⟨s1 u 0 26 (nI (sl li (i + 1))), ?_, by omega, g2.tr (Fm.w10 (by decide)), q_s1 _ _ _ _⟩
      show gM_EachAddsALineModel_lineBy_m_tales_63 N (f + 1) (nI off) (nI m) (nI i) u = _
      rw [gM_EachAddsALineModel_lineBy_m_tales_63, sl]
      simp (disch := omega) only [Option.bind_some, ↓reduceIte, ↓M_1, ↓M_2, L_0, L_1, L_2, L_3, L_4, L_5, L_6, L_7, L_8, L_9, L_10, L_11, L_12, L_13, L_20, L_24, L_26, L_30, L_31, L_32, L_39, L_40, L_48, L_57, L_76, L_80, L_90, L_91, L_97, L_99, L_100, L_255, L_273, L_1000, L_2000, q_ld, q_ldL, q_sto, q_stoL, q_add, q_sub, q_mul, q_dec, q_rem, q_div, q_lt_t, q_lt_f, q_le_t, q_le_f, q_eq_t, q_eq_f, q_em, q_me, q_ml, q_lm, q_mle, q_lem, q_s1, q_s1o, q_s1k, q_s12, q_s2, q_s2o, q_s2k, q_s21, Nat.add_sub_cancel, q_or, q_and, q_shl, true_or, or_true, false_or, or_false, true_and, and_true, false_and, and_false, not_true_eq_false, not_false_eq_true, ne_eq, k1, g3]
    · rintro f u ⟨_, g2, g3⟩
      obtain ⟨z, hz⟩ : ∃ z, z = s1 (s1 (s1 (s1 (s1 (s1 u 0 19 (nI 1)) 0 12 (nI 8)) 0 13 (nI q)) 0 14 (nI 40)) 0 15 (nI 0)) 0 16 (mI 1) := ⟨_, rfl⟩
      have fz : Fm [] [] [12, 13, 14, 15, 16, 19] u z := by
        rw [hz]
        exact (Fm.w10 (by decide)).tr ((Fm.w10 (by decide)).tr ((Fm.w10 (by decide)).tr ((Fm.w10 (by decide)).tr ((Fm.w10 (by decide)).tr (Fm.w10 (by decide))))))
      have u18 : u.1 0 18 = nI q := by rw [g2.2.2 18 (by decide), f9.2.2 18 (by decide)]; exact h18
      have st : gM_EachAddsALineModel_lineBy_m_tales_63 N (f + 1) (nI off) (nI m) (nI m) u = (fM_EachAddsALineModel_held N (fM_EachAddsALineModel_thing N 48) (nI 0) z).bind fun p3 => gM_EachAddsALineModel_lineBy_m_tales_119 N p3.1 p3.2 := by
        rw [hz, gM_EachAddsALineModel_lineBy_m_tales_63]
        simp (disch := omega) only [Option.bind_some, ↓reduceIte, ↓M_1, ↓M_2, L_0, L_1, L_2, L_3, L_4, L_5, L_6, L_7, L_8, L_9, L_10, L_11, L_12, L_13, L_20, L_24, L_26, L_30, L_31, L_32, L_39, L_40, L_48, L_57, L_76, L_80, L_90, L_91, L_97, L_99, L_100, L_255, L_273, L_1000, L_2000, q_ld, q_ldL, q_sto, q_stoL, q_add, q_sub, q_mul, q_dec, q_rem, q_div, q_lt_t, q_lt_f, q_le_t, q_le_f, q_eq_t, q_eq_f, q_em, q_me, q_ml, q_lm, q_mle, q_lem, q_s1, q_s1o, q_s1k, q_s12, q_s2, q_s2o, q_s2k, q_s21, Nat.add_sub_cancel, q_or, q_and, q_shl, true_or, or_true, false_or, or_false, true_and, and_true, false_and, and_false, not_true_eq_false, not_false_eq_true, ne_eq, u18, fM_EachAddsALineModel_begin_m_rule, gM_EachAddsALineModel_begin_m_rule_0]
      have z8 : z.1 8 = t.1 8 := by rw [fz.1 8 (by decide) (by decide), g2.1 8 (by decide) (by decide), f9.1 8 (by decide) (by decide)]
      have hMS : MSt q x z := ⟨by omega, by rw [hz]; simp (disch := omega) only [Option.bind_some, ↓reduceIte, ↓M_1, ↓M_2, L_0, L_1, L_2, L_3, L_4, L_5, L_6, L_7, L_8, L_9, L_10, L_11, L_12, L_13, L_20, L_24, L_26, L_30, L_31, L_32, L_39, L_40, L_48, L_57, L_76, L_80, L_90, L_91, L_97, L_99, L_100, L_255, L_273, L_1000, L_2000, q_ld, q_ldL, q_sto, q_stoL, q_add, q_sub, q_mul, q_dec, q_rem, q_div, q_lt_t, q_lt_f, q_le_t, q_le_f, q_eq_t, q_eq_f, q_em, q_me, q_ml, q_lm, q_mle, q_lem, q_s1, q_s1o, q_s1k, q_s12, q_s2, q_s2o, q_s2k, q_s21, Nat.add_sub_cancel, q_or, q_and, q_shl, true_or, or_true, false_or, or_false, true_and, and_true, false_and, and_false, not_true_eq_false, not_false_eq_true, ne_eq], by rw [hz]; simp (disch := omega) only [Option.bind_some, ↓reduceIte, ↓M_1, ↓M_2, L_0, L_1, L_2, L_3, L_4, L_5, L_6, L_7, L_8, L_9, L_10, L_11, L_12, L_13, L_20, L_24, L_26, L_30, L_31, L_32, L_39, L_40, L_48, L_57, L_76, L_80, L_90, L_91, L_97, L_99, L_100, L_255, L_273, L_1000, L_2000, q_ld, q_ldL, q_sto, q_stoL, q_add, q_sub, q_mul, q_dec, q_rem, q_div, q_lt_t, q_lt_f, q_le_t, q_le_f, q_eq_t, q_eq_f, q_em, q_me, q_ml, q_lm, q_mle, q_lem, q_s1, q_s1o, q_s1k, q_s12, q_s2, q_s2o, q_s2k, q_s21, Nat.add_sub_cancel, q_or, q_and, q_shl, true_or, or_true, false_or, or_false, true_and, and_true, false_and, and_false, not_true_eq_false, not_false_eq_true, ne_eq], Or.inr ⟨by rw [hz]; simp (disch := omega) only [Option.bind_some, ↓reduceIte, ↓M_1, ↓M_2, L_0, L_1, L_2, L_3, L_4, L_5, L_6, L_7, L_8, L_9, L_10, L_11, L_12, L_13, L_20, L_24, L_26, L_30, L_31, L_32, L_39, L_40, L_48, L_57, L_76, L_80, L_90, L_91, L_97, L_99, L_100, L_255, L_273, L_1000, L_2000, q_ld, q_ldL, q_sto, q_stoL, q_add, q_sub, q_mul, q_dec, q_rem, q_div, q_lt_t, q_lt_f, q_le_t, q_le_f, q_eq_t, q_eq_f, q_em, q_me, q_ml, q_lm, q_mle, q_lem, q_s1, q_s1o, q_s1k, q_s12, q_s2, q_s2o, q_s2k, q_s21, Nat.add_sub_cancel, q_or, q_and, q_shl, true_or, or_true, false_or, or_false, true_and, and_true, false_and, and_false, not_true_eq_false, not_false_eq_true, ne_eq], fun k hk => ⟨(h8 k hk).1, by rw [z8]; exact (h8 k hk).2⟩⟩⟩
      have z19 : z.1 0 19 = nI 1 := by rw [hz]; simp (disch := omega) only [Option.bind_some, ↓reduceIte, ↓M_1, ↓M_2, L_0, L_1, L_2, L_3, L_4, L_5, L_6, L_7, L_8, L_9, L_10, L_11, L_12, L_13, L_20, L_24, L_26, L_30, L_31, L_32, L_39, L_40, L_48, L_57, L_76, L_80, L_90, L_91, L_97, L_99, L_100, L_255, L_273, L_1000, L_2000, q_ld, q_ldL, q_sto, q_stoL, q_add, q_sub, q_mul, q_dec, q_rem, q_div, q_lt_t, q_lt_f, q_le_t, q_le_f, q_eq_t, q_eq_f, q_em, q_me, q_ml, q_lm, q_mle, q_lem, q_s1, q_s1o, q_s1k, q_s12, q_s2, q_s2o, q_s2k, q_s21, Nat.add_sub_cancel, q_or, q_and, q_shl, true_or, or_true, false_or, or_false, true_and, and_true, false_and, and_false, not_true_eq_false, not_false_eq_true, ne_eq]
      have zk : ∀ k, k ≠ 26 → 20 ≤ k → z.1 0 k = t9.1 0 k := fun k h1 h2 => by
        rw [fz.2.2 k (fun hz => by revert hz; simp only [List.mem_cons, List.not_mem_nil, or_false]; omega), g2.2.2 k (fun hz => by revert hz; simp only [List.mem_cons, List.not_mem_nil, or_false]; omega)]
      have hEE : EE z E := fun k hk => by
        have n19 : ¬ z.1 0 19 = nI 0 := by rw [z19]; decide
        unfold EM
        rw [if_neg n19, hE]
        have hc : k = 0 ∨ k = 1 ∨ k = 2 ∨ k = 3 ∨ k = 4 ∨ k = 5 ∨ k = 6 := by omega
        rcases hc with rfl | rfl | rfl | rfl | rfl | rfl | rfl
        · exact (zk 20 (by decide) (by decide)).trans E20
        · exact (zk 21 (by decide) (by decide)).trans E21
        · exact (zk 22 (by decide) (by decide)).trans E22
        · exact (zk 23 (by decide) (by decide)).trans E23
        · exact (zk 24 (by decide) (by decide)).trans E24
        · exact (zk 25 (by decide) (by decide)).trans E25
        · exact (fz.2.2 26 (by decide)).trans g3
      obtain ⟨v, t', b1, b2, b3, b4, b5⟩ := hU z E hMS hEE (by rw [hz]; simp (disch := omega) only [Option.bind_some, ↓reduceIte, ↓M_1, ↓M_2, L_0, L_1, L_2, L_3, L_4, L_5, L_6, L_7, L_8, L_9, L_10, L_11, L_12, L_13, L_20, L_24, L_26, L_30, L_31, L_32, L_39, L_40, L_48, L_57, L_76, L_80, L_90, L_91, L_97, L_99, L_100, L_255, L_273, L_1000, L_2000, q_ld, q_ldL, q_sto, q_stoL, q_add, q_sub, q_mul, q_dec, q_rem, q_div, q_lt_t, q_lt_f, q_le_t, q_le_f, q_eq_t, q_eq_f, q_em, q_me, q_ml, q_lm, q_mle, q_lem, q_s1, q_s1o, q_s1k, q_s12, q_s2, q_s2o, q_s2k, q_s21, Nat.add_sub_cancel, q_or, q_and, q_shl, true_or, or_true, false_or, or_false, true_and, and_true, false_and, and_false, not_true_eq_false, not_false_eq_true, ne_eq]) (by rw [hz]; simp (disch := omega) only [Option.bind_some, ↓reduceIte, ↓M_1, ↓M_2, L_0, L_1, L_2, L_3, L_4, L_5, L_6, L_7, L_8, L_9, L_10, L_11, L_12, L_13, L_20, L_24, L_26, L_30, L_31, L_32, L_39, L_40, L_48, L_57, L_76, L_80, L_90, L_91, L_97, L_99, L_100, L_255, L_273, L_1000, L_2000, q_ld, q_ldL, q_sto, q_stoL, q_add, q_sub, q_mul, q_dec, q_rem, q_div, q_lt_t, q_lt_f, q_le_t, q_le_f, q_eq_t, q_eq_f, q_em, q_me, q_ml, q_lm, q_mle, q_lem, q_s1, q_s1o, q_s1k, q_s12, q_s2, q_s2o, q_s2k, q_s21, Nat.add_sub_cancel, q_or, q_and, q_shl, true_or, or_true, false_or, or_false, true_and, and_true, false_and, and_false, not_true_eq_false, not_false_eq_true, ne_eq])
      refine ⟨t', ?_, (f9.mono (by decide) (by decide) (by decide)).tr ((g2.mono (by decide) (by decide) (by decide)).tr ((fz.mono (by decide) (by decide) (by decide)).tr (b2.mono (by decide) (by decide) (by decide)))), Or.inr ⟨v, b5⟩⟩
      show gM_EachAddsALineModel_lineBy_m_tales_63 N (f + 1) (nI off) (nI m) (nI m) u = _
      rw [st, b1, Option.bind_some, lm_119t, rv_den b5]

theorem M_isSo (hN : 100 ≤ N) (h : MW w t) (hU : UM N q x C t) (hT : MT off n ta t) (ho : off ≤ 12) {a : Nat} (ha : a < 2 * w 5 1) (hk : 0 < k ∧ k < n) : ∃ t', fM_EachAddsALineModel_isSo N (nI a) (nI off) (nI k) t = some (if SO w C ta k a then nI 1 else nI 0, t') ∧ Fm [] [] [12, 13, 14, 15, 16, 19, 20, 21, 22, 23, 24, 25, 26] t t' ∧ (C.length = 0 ∨ ∃ v, Den (SOE w ta a k) C v) := by
  have hb := h.bd
  have hn := hT.1
  have hk2 := hk.2
  have h4 : t.1 4 (a / 2) = nI (hr w a) := h.h (m := a / 2) (by omega)
  obtain ⟨t', e1, e2, e3⟩ := M_lineT (N := N) (off := off) (m := k) (li := ta) hN hU hk.1 (by omega) (fun j hj => (hT.2 j (by omega)).2) (nI (gt w a)) (nI (gv w a)) (nI (hr w a))
  have et : t'.1 16 (off + k) = nI (ta k) := by rw [e2.1 16 (by decide) (by decide)]; exact (hT.2 k hk.2).2
  refine ⟨t', ?_, e2, e3⟩
  by_cases c : SO w C ta k a
  · have c' : lm (rv C (SOE w ta a k)) = nI (ta k) := c
    rw [if_pos c]
    simp (disch := omega) only [Option.bind_some, ↓reduceIte, ↓M_1, ↓M_2, L_0, L_1, L_2, L_3, L_4, L_5, L_6, L_7, L_8, L_9, L_10, L_11, L_12, L_13, L_20, L_24, L_26, L_30, L_31, L_32, L_39, L_40, L_48, L_57, L_76, L_80, L_90, L_91, L_97, L_99, L_100, L_255, L_273, L_1000, L_2000, q_ld, q_ldL, q_sto, q_stoL, q_add, q_sub, q_mul, q_dec, q_rem, q_div, q_lt_t, q_lt_f, q_le_t, q_le_f, q_eq_t, q_eq_f, q_em, q_me, q_ml, q_lm, q_mle, q_lem, q_s1, q_s1o, q_s1k, q_s12, q_s2, q_s2o, q_s2k, q_s21, Nat.add_sub_cancel, q_or, q_and, q_shl, true_or, or_true, false_or, or_false, true_and, and_true, false_and, and_false, not_true_eq_false, not_false_eq_true, ne_eq, fM_EachAddsALineModel_isSo, gM_EachAddsALineModel_isSo_0, M_getter h ha, M_giver h ha, h4, e1, et, c']
  · have c' : ¬ lm (rv C (SOE w ta a k)) = nI (ta k) := c
    rw [if_neg c]
    simp (disch := omega) only [Option.bind_some, ↓reduceIte, ↓M_1, ↓M_2, L_0, L_1, L_2, L_3, L_4, L_5, L_6, L_7, L_8, L_9, L_10, L_11, L_12, L_13, L_20, L_24, L_26, L_30, L_31, L_32, L_39, L_40, L_48, L_57, L_76, L_80, L_90, L_91, L_97, L_99, L_100, L_255, L_273, L_1000, L_2000, q_ld, q_ldL, q_sto, q_stoL, q_add, q_sub, q_mul, q_dec, q_rem, q_div, q_lt_t, q_lt_f, q_le_t, q_le_f, q_eq_t, q_eq_f, q_em, q_me, q_ml, q_lm, q_mle, q_lem, q_s1, q_s1o, q_s1k, q_s12, q_s2, q_s2o, q_s2k, q_s21, Nat.add_sub_cancel, q_or, q_and, q_shl, true_or, or_true, false_or, or_false, true_and, and_true, false_and, and_false, not_true_eq_false, not_false_eq_true, ne_eq, fM_EachAddsALineModel_isSo, gM_EachAddsALineModel_isSo_0, M_getter h ha, M_giver h ha, h4, e1, et, c']

theorem C_judge67_told (R : Int32 → Int32 → vSt → Option vSt) {sm : Int32} (hN : 100 ≤ N) (h : CW w s) (hU : UC C s) (hT : CT 6 n ta s) (hk : 0 < k ∧ k < n) (hd : ∀ a, a < 2 * w 5 1 → C.length = 0 ∨ ∃ v, Den (SOE w ta a k) C v) (h3 : s.1 19 3 = nI k) (h4 : s.1 19 4 = nI (ta 0)) (h5 : s.1 19 5 = nI (ta (k - 1))) (h6 : s.1 19 6 = nI (sl ta k)) :
    ∃ z, gC_Tales_judge_told_67 N R N sm (nI k) (nI 0) s = R sm (nI (k + 1)) z ∧ Fr [17, 19, 20, 47] [] s z ∧ z.1 17 1 = s.1 17 1 ∧ (∀ a, a < 2 * w 5 1 → z.1 47 (k * 40 + sw a) = if SO w C ta k a then nI 1 else nI 0) ∧ ∀ j, ¬ (k * 40 ≤ j ∧ j < k * 40 + 40) → z.1 47 j = s.1 47 j := by
  have hb := h.bd
  have hn := hT.1
  refine loopU (fun f i z => gC_Tales_judge_told_67 N R f sm (nI k) (nI i) z) (2 * w 5 1) (fun i z => i ≤ 2 * w 5 1 ∧ Fr [17, 19, 20, 47] [] s z ∧ z.1 17 1 = s.1 17 1 ∧ (∀ j, 3 ≤ j → z.1 19 j = s.1 19 j) ∧ (∀ a, a < 2 * w 5 1 → sw a < i → z.1 47 (k * 40 + sw a) = if SO w C ta k a then nI 1 else nI 0) ∧ ∀ j, ¬ (k * 40 ≤ j ∧ j < k * 40 + 40) → z.1 47 j = s.1 47 j)
    (fun o => ∃ z, o = R sm (nI (k + 1)) z ∧ Fr [17, 19, 20, 47] [] s z ∧ z.1 17 1 = s.1 17 1 ∧ (∀ a, a < 2 * w 5 1 → z.1 47 (k * 40 + sw a) = if SO w C ta k a then nI 1 else nI 0) ∧ ∀ j, ¬ (k * 40 ≤ j ∧ j < k * 40 + 40) → z.1 47 j = s.1 47 j) ?_ ?_ (2 * w 5 1) N 0 s (by omega) (by omega) ⟨by omega, Fr.rf, rfl, fun _ _ => rfl, fun a _ h => by omega, fun _ _ => rfl⟩
  · rintro f i z hi ⟨g1, g2, g3, g4, g5, g6⟩
    have hz : CW w z := h.fr g2 (by decide)
    have hUz : UC C z := hU.fr g2 g3 (by decide)
    have e1 : i / 2 ^ 1 = i / 2 := rfl
    have eg := C_getterAt (N := N) hz hi
    have h9 := gv_lt h.ok hi
    have eo := C_otherAt (N := N) hz (m := i / 2) (u := gv w i) (by omega) h9
    rw [oth_ix h.ok hi] at eo
    have eh := hz.h (m := i / 2) (by omega)
    have hsi := sw_lt hi
    have eE : SOE w ta (sw i) k = fE (nI (gv w i)) (nI (gt w i)) (nI (w 3 (i / 2))) (nI k) (nI (ta 0)) (nI (ta (k - 1))) (nI (sl ta k)) := by
      unfold SOE
      rw [gt_sw, gv_sw, hr_sw]; rfl
    have hdi := hd (sw i) hsi
    rw [eE] at hdi
    obtain ⟨y, y1, y2, y3, y4⟩ := C_lineBy (N := N) (s := z) (E := fE (nI (gv w i)) (nI (gt w i)) (nI (w 3 (i / 2))) (nI k) (nI (ta 0)) (nI (ta (k - 1))) (nI (sl ta k))) hN hUz.2.1 hUz.1 hUz.2.2 hdi (fun j j1 j2 => by
      have hj : j = 3 ∨ j = 4 ∨ j = 5 ∨ j = 6 := by omega
      rcases hj with rfl | rfl | rfl | rfl
      · rw [g4 3 (by omega)]; exact h3
      · rw [g4 4 (by omega)]; exact h4
      · rw [g4 5 (by omega)]; exact h5
      · rw [g4 6 (by omega)]; exact h6)
    have y1' : fC_Rule_lineBy N (nI (gv w i)) (nI (gt w i)) (nI (w 3 (i / 2))) z = some (lm (rv C (SOE w ta (sw i) k)), y) := by rw [eE]; exact y1
    have yr : y.1 6 k = nI (ta k) := by rw [y2.1 6 (by decide), g2.1 6 (by decide)]; exact (hT.2 k hk.2).2
    have ym : y.1 9 = z.1 9 := y2.1 9 (by decide)
    obtain ⟨b, hb1⟩ : ∃ b, b = if SO w C ta k (sw i) then nI 1 else nI 0 := ⟨_, rfl⟩
    refine Or.inl ⟨s1 y 47 (k * 40 + i) b, ?_, by omega, g2.tr ((y2.mono (by decide) (by decide)).tr (Fr.s1 (by decide))), ?_, fun j hj => ?_, fun a ha hai => ?_, fun j hj => ?_⟩
    · show gC_Tales_judge_told_67 N R (f + 1) sm (nI k) (nI i) z = _
      rw [gC_Tales_judge_told_67, hb1]
      have hk1 := hk.2
      by_cases c : SO w C ta k (sw i)
      · have c' : lm (rv C (SOE w ta (sw i) k)) = nI (ta k) := c
        rw [if_pos c]
        simp (disch := omega) only [Option.bind_some, ↓reduceIte, ↓M_1, ↓M_2, L_0, L_1, L_2, L_3, L_4, L_5, L_6, L_7, L_8, L_9, L_10, L_11, L_12, L_13, L_20, L_24, L_26, L_30, L_31, L_32, L_39, L_40, L_48, L_57, L_76, L_80, L_90, L_91, L_97, L_99, L_100, L_255, L_273, L_1000, L_2000, q_ld, q_ldL, q_sto, q_stoL, q_add, q_sub, q_mul, q_dec, q_rem, q_div, q_lt_t, q_lt_f, q_le_t, q_le_f, q_eq_t, q_eq_f, q_em, q_me, q_ml, q_lm, q_mle, q_lem, q_s1, q_s1o, q_s1k, q_s12, q_s2, q_s2o, q_s2k, q_s21, Nat.add_sub_cancel, q_or, q_and, q_shl, true_or, or_true, false_or, or_false, true_and, and_true, false_and, and_false, not_true_eq_false, not_false_eq_true, ne_eq, hz.m, q_shr, e1, eg, eo, eh, y1', yr, c', gC_Tales_judge_told_159, nar_b1', q_mul]
      · have c' : ¬ lm (rv C (SOE w ta (sw i) k)) = nI (ta k) := c
        rw [if_neg c]
        simp (disch := omega) only [Option.bind_some, ↓reduceIte, ↓M_1, ↓M_2, L_0, L_1, L_2, L_3, L_4, L_5, L_6, L_7, L_8, L_9, L_10, L_11, L_12, L_13, L_20, L_24, L_26, L_30, L_31, L_32, L_39, L_40, L_48, L_57, L_76, L_80, L_90, L_91, L_97, L_99, L_100, L_255, L_273, L_1000, L_2000, q_ld, q_ldL, q_sto, q_stoL, q_add, q_sub, q_mul, q_dec, q_rem, q_div, q_lt_t, q_lt_f, q_le_t, q_le_f, q_eq_t, q_eq_f, q_em, q_me, q_ml, q_lm, q_mle, q_lem, q_s1, q_s1o, q_s1k, q_s12, q_s2, q_s2o, q_s2k, q_s21, Nat.add_sub_cancel, q_or, q_and, q_shl, true_or, or_true, false_or, or_false, true_and, and_true, false_and, and_false, not_true_eq_false, not_false_eq_true, ne_eq, hz.m, q_shr, e1, eg, eo, eh, y1', yr, c', gC_Tales_judge_told_159, nar_b0', q_mul]
    · rw [q_s1o (by decide), y3]; exact g3
    · rw [q_s1o (by decide), y4 j hj]; exact g4 j hj
    · by_cases c : sw a = i
      · have ea : a = sw i := by rw [← c, sw_sw]
        rw [c, q_s1, hb1, ea]
      · rw [q_s1k (by omega), y2.1 47 (by decide)]
        exact g5 a ha (by omega)
    · rw [q_s1k (by omega), y2.1 47 (by decide)]
      exact g6 j hj
  · rintro f z ⟨g1, g2, g3, g4, g5, g6⟩
    have hz : CW w z := h.fr g2 (by decide)
    refine ⟨z, ?_, g2, g3, fun a ha => g5 a ha (sw_lt ha), g6⟩
    show gC_Tales_judge_told_67 N R (f + 1) sm (nI k) (nI (2 * w 5 1)) z = _
    rw [gC_Tales_judge_told_67]
    simp (disch := omega) only [Option.bind_some, ↓reduceIte, ↓M_1, ↓M_2, L_0, L_1, L_2, L_3, L_4, L_5, L_6, L_7, L_8, L_9, L_10, L_11, L_12, L_13, L_20, L_24, L_26, L_30, L_31, L_32, L_39, L_40, L_48, L_57, L_76, L_80, L_90, L_91, L_97, L_99, L_100, L_255, L_273, L_1000, L_2000, q_ld, q_ldL, q_sto, q_stoL, q_add, q_sub, q_mul, q_dec, q_rem, q_div, q_lt_t, q_lt_f, q_le_t, q_le_f, q_eq_t, q_eq_f, q_em, q_me, q_ml, q_lm, q_mle, q_lem, q_s1, q_s1o, q_s1k, q_s12, q_s2, q_s2o, q_s2k, q_s21, Nat.add_sub_cancel, q_or, q_and, q_shl, true_or, or_true, false_or, or_false, true_and, and_true, false_and, and_false, not_true_eq_false, not_false_eq_true, ne_eq, hz.m]
theorem C_judge_told (hN : 100 ≤ N) (h : CW w s) (hU : UC C s) (hn : s.1 5 1 = nI n) (hn0 : 0 < n) (hT : CT 6 n ta s) (hd : ∀ k a, 0 < k → k < n → a < 2 * w 5 1 → C.length = 0 ∨ ∃ v, Den (SOE w ta a k) C v) :
    ∃ z, fC_Tales_judge_told N (nI v) s = some z ∧ Fr [17, 19, 20, 46, 47] [] s z ∧ z.1 17 1 = s.1 17 1 ∧ z.1 46 9 = nI n ∧ z.1 46 10 = nI v ∧ ∀ k a, 0 < k → k < n → a < 2 * w 5 1 → z.1 47 (k * 40 + sw a) = if SO w C ta k a then nI 1 else nI 0 := by
  have hb := h.bd
  have hn12 := hT.1
  obtain ⟨s0, hs0⟩ : ∃ s0, s0 = s1 (s1 s 46 9 (nI n)) 46 10 (nI v) := ⟨_, rfl⟩
  have f0 : Fr [46] [] s s0 := by rw [hs0]; exact (Fr.s1 (by decide)).tr (Fr.s1 (by decide))
  have st : fC_Tales_judge_told N (nI v) s = gC_Tales_judge_told_18 N N (nI (sl ta 0)) (nI (0 + 1)) s0 := by
    rw [hs0]
    simp (disch := omega) only [Option.bind_some, ↓reduceIte, ↓M_1, ↓M_2, L_0, L_1, L_2, L_3, L_4, L_5, L_6, L_7, L_8, L_9, L_10, L_11, L_12, L_13, L_20, L_24, L_26, L_30, L_31, L_32, L_39, L_40, L_48, L_57, L_76, L_80, L_90, L_91, L_97, L_99, L_100, L_255, L_273, L_1000, L_2000, q_ld, q_ldL, q_sto, q_stoL, q_add, q_sub, q_mul, q_dec, q_rem, q_div, q_lt_t, q_lt_f, q_le_t, q_le_f, q_eq_t, q_eq_f, q_em, q_me, q_ml, q_lm, q_mle, q_lem, q_s1, q_s1o, q_s1k, q_s12, q_s2, q_s2o, q_s2k, q_s21, Nat.add_sub_cancel, q_or, q_and, q_shl, true_or, or_true, false_or, or_false, true_and, and_true, false_and, and_false, not_true_eq_false, not_false_eq_true, ne_eq, fC_Tales_judge_told, gC_Tales_judge_told_0, hn]
    rfl
  rw [st]
  refine loopU (fun f i z => gC_Tales_judge_told_18 N f (nI (sl ta i)) (nI (i + 1)) z) (n - 1) (fun i z => i ≤ n - 1 ∧ Fr [17, 19, 20, 47] [] s0 z ∧ z.1 17 1 = s0.1 17 1 ∧ ∀ k a, 0 < k → k < i + 1 → a < 2 * w 5 1 → z.1 47 (k * 40 + sw a) = if SO w C ta k a then nI 1 else nI 0)
    (fun o => ∃ z, o = some z ∧ Fr [17, 19, 20, 46, 47] [] s z ∧ z.1 17 1 = s.1 17 1 ∧ z.1 46 9 = nI n ∧ z.1 46 10 = nI v ∧ ∀ k a, 0 < k → k < n → a < 2 * w 5 1 → z.1 47 (k * 40 + sw a) = if SO w C ta k a then nI 1 else nI 0) ?_ ?_ (n - 1) N 0 s0 (by omega) (by omega) ⟨by omega, Fr.rf, rfl, fun k a h1 h2 => by omega⟩
  · rintro f i z hi ⟨g1, g2, g3, g4⟩
    have fz : Fr [17, 19, 20, 46, 47] [] s z := (f0.mono (by decide) (by decide)).tr (g2.mono (by decide) (by decide))
    have z17 : z.1 17 1 = s.1 17 1 := by rw [g3, f0.1 17 (by decide)]
    have z9 : z.1 46 9 = nI n := by rw [g2.1 46 (by decide), hs0]; simp (disch := omega) only [Option.bind_some, ↓reduceIte, ↓M_1, ↓M_2, L_0, L_1, L_2, L_3, L_4, L_5, L_6, L_7, L_8, L_9, L_10, L_11, L_12, L_13, L_20, L_24, L_26, L_30, L_31, L_32, L_39, L_40, L_48, L_57, L_76, L_80, L_90, L_91, L_97, L_99, L_100, L_255, L_273, L_1000, L_2000, q_ld, q_ldL, q_sto, q_stoL, q_add, q_sub, q_mul, q_dec, q_rem, q_div, q_lt_t, q_lt_f, q_le_t, q_le_f, q_eq_t, q_eq_f, q_em, q_me, q_ml, q_lm, q_mle, q_lem, q_s1, q_s1o, q_s1k, q_s12, q_s2, q_s2o, q_s2k, q_s21, Nat.add_sub_cancel, q_or, q_and, q_shl, true_or, or_true, false_or, or_false, true_and, and_true, false_and, and_false, not_true_eq_false, not_false_eq_true, ne_eq]
    have r0 : z.1 6 0 = nI (ta 0) := by rw [fz.1 6 (by decide)]; exact (hT.2 0 hn0).2
    have ri : z.1 6 i = nI (ta i) := by rw [fz.1 6 (by decide)]; exact (hT.2 i (by omega)).2
    obtain ⟨z5, hz5⟩ : ∃ z5, z5 = s1 (s1 (s1 (s1 z 19 3 (nI (i + 1))) 19 4 (nI (ta 0))) 19 5 (nI (ta i))) 19 6 (nI (sl ta (i + 1))) := ⟨_, rfl⟩
    have f5 : Fr [19] [] z z5 := by rw [hz5]; exact (Fr.s1 (by decide)).tr ((Fr.s1 (by decide)).tr ((Fr.s1 (by decide)).tr (Fr.s1 (by decide))))
    have hz : CW w z5 := (h.fr fz (by decide)).fr f5 (by decide)
    have hUz : UC C z5 := (hU.fr fz z17 (by decide)).fr f5 (by rw [f5.1 17 (by decide)]) (by decide)
    have hT5 : CT 6 n ta z5 := ⟨hn12, fun k hk => ⟨(hT.2 k hk).1, by rw [f5.1 6 (by decide), fz.1 6 (by decide)]; exact (hT.2 k hk).2⟩⟩
    obtain ⟨y, y1, y2, y3, y4, y5⟩ := C_judge67_told (N := N) (gC_Tales_judge_told_18 N f) (sm := nI (sl ta (i + 1))) hN hz hUz hT5 (k := i + 1) ⟨by omega, by omega⟩ (fun a ha => hd (i + 1) a (by omega) (by omega) ha) (by rw [hz5]; simp (disch := omega) only [Option.bind_some, ↓reduceIte, ↓M_1, ↓M_2, L_0, L_1, L_2, L_3, L_4, L_5, L_6, L_7, L_8, L_9, L_10, L_11, L_12, L_13, L_20, L_24, L_26, L_30, L_31, L_32, L_39, L_40, L_48, L_57, L_76, L_80, L_90, L_91, L_97, L_99, L_100, L_255, L_273, L_1000, L_2000, q_ld, q_ldL, q_sto, q_stoL, q_add, q_sub, q_mul, q_dec, q_rem, q_div, q_lt_t, q_lt_f, q_le_t, q_le_f, q_eq_t, q_eq_f, q_em, q_me, q_ml, q_lm, q_mle, q_lem, q_s1, q_s1o, q_s1k, q_s12, q_s2, q_s2o, q_s2k, q_s21, Nat.add_sub_cancel, q_or, q_and, q_shl, true_or, or_true, false_or, or_false, true_and, and_true, false_and, and_false, not_true_eq_false, not_false_eq_true, ne_eq]) (by rw [hz5]; simp (disch := omega) only [Option.bind_some, ↓reduceIte, ↓M_1, ↓M_2, L_0, L_1, L_2, L_3, L_4, L_5, L_6, L_7, L_8, L_9, L_10, L_11, L_12, L_13, L_20, L_24, L_26, L_30, L_31, L_32, L_39, L_40, L_48, L_57, L_76, L_80, L_90, L_91, L_97, L_99, L_100, L_255, L_273, L_1000, L_2000, q_ld, q_ldL, q_sto, q_stoL, q_add, q_sub, q_mul, q_dec, q_rem, q_div, q_lt_t, q_lt_f, q_le_t, q_le_f, q_eq_t, q_eq_f, q_em, q_me, q_ml, q_lm, q_mle, q_lem, q_s1, q_s1o, q_s1k, q_s12, q_s2, q_s2o, q_s2k, q_s21, Nat.add_sub_cancel, q_or, q_and, q_shl, true_or, or_true, false_or, or_false, true_and, and_true, false_and, and_false, not_true_eq_false, not_false_eq_true, ne_eq]) (by rw [hz5, Nat.add_sub_cancel]; simp (disch := omega) only [Option.bind_some, ↓reduceIte, ↓M_1, ↓M_2, L_0, L_1, L_2, L_3, L_4, L_5, L_6, L_7, L_8, L_9, L_10, L_11, L_12, L_13, L_20, L_24, L_26, L_30, L_31, L_32, L_39, L_40, L_48, L_57, L_76, L_80, L_90, L_91, L_97, L_99, L_100, L_255, L_273, L_1000, L_2000, q_ld, q_ldL, q_sto, q_stoL, q_add, q_sub, q_mul, q_dec, q_rem, q_div, q_lt_t, q_lt_f, q_le_t, q_le_f, q_eq_t, q_eq_f, q_em, q_me, q_ml, q_lm, q_mle, q_lem, q_s1, q_s1o, q_s1k, q_s12, q_s2, q_s2o, q_s2k, q_s21, Nat.add_sub_cancel, q_or, q_and, q_shl, true_or, or_true, false_or, or_false, true_and, and_true, false_and, and_false, not_true_eq_false, not_false_eq_true, ne_eq]) (by rw [hz5]; simp (disch := omega) only [Option.bind_some, ↓reduceIte, ↓M_1, ↓M_2, L_0, L_1, L_2, L_3, L_4, L_5, L_6, L_7, L_8, L_9, L_10, L_11, L_12, L_13, L_20, L_24, L_26, L_30, L_31, L_32, L_39, L_40, L_48, L_57, L_76, L_80, L_90, L_91, L_97, L_99, L_100, L_255, L_273, L_1000, L_2000, q_ld, q_ldL, q_sto, q_stoL, q_add, q_sub, q_mul, q_dec, q_rem, q_div, q_lt_t, q_lt_f, q_le_t, q_le_f, q_eq_t, q_eq_f, q_em, q_me, q_ml, q_lm, q_mle, q_lem, q_s1, q_s1o, q_s1k, q_s12, q_s2, q_s2o, q_s2k, q_s21, Nat.add_sub_cancel, q_or, q_and, q_shl, true_or, or_true, false_or, or_false, true_and, and_true, false_and, and_false, not_true_eq_false, not_false_eq_true, ne_eq])
    refine Or.inl ⟨y, ?_, by omega, g2.tr ((f5.mono (by decide) (by decide)).tr y2), ?_, fun k a k1 k2 ha => ?_⟩
    · show gC_Tales_judge_told_18 N (f + 1) (nI (sl ta i)) (nI (i + 1)) z = _
      rw [← y1, hz5, gC_Tales_judge_told_18, sl]
      simp (disch := omega) only [Option.bind_some, ↓reduceIte, ↓M_1, ↓M_2, L_0, L_1, L_2, L_3, L_4, L_5, L_6, L_7, L_8, L_9, L_10, L_11, L_12, L_13, L_20, L_24, L_26, L_30, L_31, L_32, L_39, L_40, L_48, L_57, L_76, L_80, L_90, L_91, L_97, L_99, L_100, L_255, L_273, L_1000, L_2000, q_ld, q_ldL, q_sto, q_stoL, q_add, q_sub, q_mul, q_dec, q_rem, q_div, q_lt_t, q_lt_f, q_le_t, q_le_f, q_eq_t, q_eq_f, q_em, q_me, q_ml, q_lm, q_mle, q_lem, q_s1, q_s1o, q_s1k, q_s12, q_s2, q_s2o, q_s2k, q_s21, Nat.add_sub_cancel, q_or, q_and, q_shl, true_or, or_true, false_or, or_false, true_and, and_true, false_and, and_false, not_true_eq_false, not_false_eq_true, ne_eq, z9, r0, ri, fC_Rule_putAhead, gC_Rule_putAhead_0]
    · rw [y3, f5.1 17 (by decide)]; exact g3
    · by_cases c : k = i + 1
      · subst c; exact y4 a ha
      · have hs40 := sw_lt ha
        rw [y5 _ (by omega), f5.1 47 (by decide)]
        exact g4 k a k1 (by omega) ha
  · rintro f z ⟨g1, g2, g3, g4⟩
    have fz : Fr [17, 19, 20, 46, 47] [] s z := (f0.mono (by decide) (by decide)).tr (g2.mono (by decide) (by decide))
    have z9 : z.1 46 9 = nI n := by rw [g2.1 46 (by decide), hs0]; simp (disch := omega) only [Option.bind_some, ↓reduceIte, ↓M_1, ↓M_2, L_0, L_1, L_2, L_3, L_4, L_5, L_6, L_7, L_8, L_9, L_10, L_11, L_12, L_13, L_20, L_24, L_26, L_30, L_31, L_32, L_39, L_40, L_48, L_57, L_76, L_80, L_90, L_91, L_97, L_99, L_100, L_255, L_273, L_1000, L_2000, q_ld, q_ldL, q_sto, q_stoL, q_add, q_sub, q_mul, q_dec, q_rem, q_div, q_lt_t, q_lt_f, q_le_t, q_le_f, q_eq_t, q_eq_f, q_em, q_me, q_ml, q_lm, q_mle, q_lem, q_s1, q_s1o, q_s1k, q_s12, q_s2, q_s2o, q_s2k, q_s21, Nat.add_sub_cancel, q_or, q_and, q_shl, true_or, or_true, false_or, or_false, true_and, and_true, false_and, and_false, not_true_eq_false, not_false_eq_true, ne_eq]
    refine ⟨z, ?_, fz, by rw [g3, f0.1 17 (by decide)], z9, ?_, fun k a k1 k2 ha => g4 k a k1 (by omega) ha⟩
    · show gC_Tales_judge_told_18 N (f + 1) (nI (sl ta (n - 1))) (nI (n - 1 + 1)) z = _
      rw [gC_Tales_judge_told_18, z9, show n - 1 + 1 = n by omega, if_pos (Int32.le_refl _)]
    · rw [g2.1 46 (by decide), hs0]; simp (disch := omega) only [Option.bind_some, ↓reduceIte, ↓M_1, ↓M_2, L_0, L_1, L_2, L_3, L_4, L_5, L_6, L_7, L_8, L_9, L_10, L_11, L_12, L_13, L_20, L_24, L_26, L_30, L_31, L_32, L_39, L_40, L_48, L_57, L_76, L_80, L_90, L_91, L_97, L_99, L_100, L_255, L_273, L_1000, L_2000, q_ld, q_ldL, q_sto, q_stoL, q_add, q_sub, q_mul, q_dec, q_rem, q_div, q_lt_t, q_lt_f, q_le_t, q_le_f, q_eq_t, q_eq_f, q_em, q_me, q_ml, q_lm, q_mle, q_lem, q_s1, q_s1o, q_s1k, q_s12, q_s2, q_s2o, q_s2k, q_s21, Nat.add_sub_cancel, q_or, q_and, q_shl, true_or, or_true, false_or, or_false, true_and, and_true, false_and, and_false, not_true_eq_false, not_false_eq_true, ne_eq]

theorem C_judge67_laid (R : Int32 → Int32 → vSt → Option vSt) {sm : Int32} (hN : 100 ≤ N) (h : CW w s) (hU : UC C s) (hT : CT 8 n ta s) (hk : 0 < k ∧ k < n) (hd : ∀ a, a < 2 * w 5 1 → C.length = 0 ∨ ∃ v, Den (SOE w ta a k) C v) (h3 : s.1 19 3 = nI k) (h4 : s.1 19 4 = nI (ta 0)) (h5 : s.1 19 5 = nI (ta (k - 1))) (h6 : s.1 19 6 = nI (sl ta k)) :
    ∃ z, gC_Tales_judge_laid_67 N R N sm (nI k) (nI 0) s = R sm (nI (k + 1)) z ∧ Fr [17, 19, 20, 47] [] s z ∧ z.1 17 1 = s.1 17 1 ∧ (∀ a, a < 2 * w 5 1 → z.1 47 (k * 40 + sw a) = if SO w C ta k a then nI 1 else nI 0) ∧ ∀ j, ¬ (k * 40 ≤ j ∧ j < k * 40 + 40) → z.1 47 j = s.1 47 j := by
  have hb := h.bd
  have hn := hT.1
  refine loopU (fun f i z => gC_Tales_judge_laid_67 N R f sm (nI k) (nI i) z) (2 * w 5 1) (fun i z => i ≤ 2 * w 5 1 ∧ Fr [17, 19, 20, 47] [] s z ∧ z.1 17 1 = s.1 17 1 ∧ (∀ j, 3 ≤ j → z.1 19 j = s.1 19 j) ∧ (∀ a, a < 2 * w 5 1 → sw a < i → z.1 47 (k * 40 + sw a) = if SO w C ta k a then nI 1 else nI 0) ∧ ∀ j, ¬ (k * 40 ≤ j ∧ j < k * 40 + 40) → z.1 47 j = s.1 47 j)
    (fun o => ∃ z, o = R sm (nI (k + 1)) z ∧ Fr [17, 19, 20, 47] [] s z ∧ z.1 17 1 = s.1 17 1 ∧ (∀ a, a < 2 * w 5 1 → z.1 47 (k * 40 + sw a) = if SO w C ta k a then nI 1 else nI 0) ∧ ∀ j, ¬ (k * 40 ≤ j ∧ j < k * 40 + 40) → z.1 47 j = s.1 47 j) ?_ ?_ (2 * w 5 1) N 0 s (by omega) (by omega) ⟨by omega, Fr.rf, rfl, fun _ _ => rfl, fun a _ h => by omega, fun _ _ => rfl⟩
  · rintro f i z hi ⟨g1, g2, g3, g4, g5, g6⟩
    have hz : CW w z := h.fr g2 (by decide)
    have hUz : UC C z := hU.fr g2 g3 (by decide)
    have e1 : i / 2 ^ 1 = i / 2 := rfl
    have eg := C_getterAt (N := N) hz hi
    have h9 := gv_lt h.ok hi
    have eo := C_otherAt (N := N) hz (m := i / 2) (u := gv w i) (by omega) h9
    rw [oth_ix h.ok hi] at eo
    have eh := hz.h (m := i / 2) (by omega)
    have hsi := sw_lt hi
    have eE : SOE w ta (sw i) k = fE (nI (gv w i)) (nI (gt w i)) (nI (w 3 (i / 2))) (nI k) (nI (ta 0)) (nI (ta (k - 1))) (nI (sl ta k)) := by
      unfold SOE
      rw [gt_sw, gv_sw, hr_sw]; rfl
    have hdi := hd (sw i) hsi
    rw [eE] at hdi
    obtain ⟨y, y1, y2, y3, y4⟩ := C_lineBy (N := N) (s := z) (E := fE (nI (gv w i)) (nI (gt w i)) (nI (w 3 (i / 2))) (nI k) (nI (ta 0)) (nI (ta (k - 1))) (nI (sl ta k))) hN hUz.2.1 hUz.1 hUz.2.2 hdi (fun j j1 j2 => by
      have hj : j = 3 ∨ j = 4 ∨ j = 5 ∨ j = 6 := by omega
      rcases hj with rfl | rfl | rfl | rfl
      · rw [g4 3 (by omega)]; exact h3
      · rw [g4 4 (by omega)]; exact h4
      · rw [g4 5 (by omega)]; exact h5
      · rw [g4 6 (by omega)]; exact h6)
    have y1' : fC_Rule_lineBy N (nI (gv w i)) (nI (gt w i)) (nI (w 3 (i / 2))) z = some (lm (rv C (SOE w ta (sw i) k)), y) := by rw [eE]; exact y1
    have yr : y.1 8 k = nI (ta k) := by rw [y2.1 8 (by decide), g2.1 8 (by decide)]; exact (hT.2 k hk.2).2
    have ym : y.1 9 = z.1 9 := y2.1 9 (by decide)
    obtain ⟨b, hb1⟩ : ∃ b, b = if SO w C ta k (sw i) then nI 1 else nI 0 := ⟨_, rfl⟩
    refine Or.inl ⟨s1 y 47 (k * 40 + i) b, ?_, by omega, g2.tr ((y2.mono (by decide) (by decide)).tr (Fr.s1 (by decide))), ?_, fun j hj => ?_, fun a ha hai => ?_, fun j hj => ?_⟩
    · show gC_Tales_judge_laid_67 N R (f + 1) sm (nI k) (nI i) z = _
      rw [gC_Tales_judge_laid_67, hb1]
      have hk1 := hk.2
      by_cases c : SO w C ta k (sw i)
      · have c' : lm (rv C (SOE w ta (sw i) k)) = nI (ta k) := c
        rw [if_pos c]
        simp (disch := omega) only [Option.bind_some, ↓reduceIte, ↓M_1, ↓M_2, L_0, L_1, L_2, L_3, L_4, L_5, L_6, L_7, L_8, L_9, L_10, L_11, L_12, L_13, L_20, L_24, L_26, L_30, L_31, L_32, L_39, L_40, L_48, L_57, L_76, L_80, L_90, L_91, L_97, L_99, L_100, L_255, L_273, L_1000, L_2000, q_ld, q_ldL, q_sto, q_stoL, q_add, q_sub, q_mul, q_dec, q_rem, q_div, q_lt_t, q_lt_f, q_le_t, q_le_f, q_eq_t, q_eq_f, q_em, q_me, q_ml, q_lm, q_mle, q_lem, q_s1, q_s1o, q_s1k, q_s12, q_s2, q_s2o, q_s2k, q_s21, Nat.add_sub_cancel, q_or, q_and, q_shl, true_or, or_true, false_or, or_false, true_and, and_true, false_and, and_false, not_true_eq_false, not_false_eq_true, ne_eq, hz.m, q_shr, e1, eg, eo, eh, y1', yr, c', gC_Tales_judge_laid_159, nar_b1', q_mul]
      · have c' : ¬ lm (rv C (SOE w ta (sw i) k)) = nI (ta k) := c
        rw [if_neg c]
        simp (disch := omega) only [Option.bind_some, ↓reduceIte, ↓M_1, ↓M_2, L_0, L_1, L_2, L_3, L_4, L_5, L_6, L_7, L_8, L_9, L_10, L_11, L_12, L_13, L_20, L_24, L_26, L_30, L_31, L_32, L_39, L_40, L_48, L_57, L_76, L_80, L_90, L_91, L_97, L_99, L_100, L_255, L_273, L_1000, L_2000, q_ld, q_ldL, q_sto, q_stoL, q_add, q_sub, q_mul, q_dec, q_rem, q_div, q_lt_t, q_lt_f, q_le_t, q_le_f, q_eq_t, q_eq_f, q_em, q_me, q_ml, q_lm, q_mle, q_lem, q_s1, q_s1o, q_s1k, q_s12, q_s2, q_s2o, q_s2k, q_s21, Nat.add_sub_cancel, q_or, q_and, q_shl, true_or, or_true, false_or, or_false, true_and, and_true, false_and, and_false, not_true_eq_false, not_false_eq_true, ne_eq, hz.m, q_shr, e1, eg, eo, eh, y1', yr, c', gC_Tales_judge_laid_159, nar_b0', q_mul]
    · rw [q_s1o (by decide), y3]; exact g3
    · rw [q_s1o (by decide), y4 j hj]; exact g4 j hj
    · by_cases c : sw a = i
      · have ea : a = sw i := by rw [← c, sw_sw]
        rw [c, q_s1, hb1, ea]
      · rw [q_s1k (by omega), y2.1 47 (by decide)]
        exact g5 a ha (by omega)
    · rw [q_s1k (by omega), y2.1 47 (by decide)]
      exact g6 j hj
  · rintro f z ⟨g1, g2, g3, g4, g5, g6⟩
    have hz : CW w z := h.fr g2 (by decide)
    refine ⟨z, ?_, g2, g3, fun a ha => g5 a ha (sw_lt ha), g6⟩
    show gC_Tales_judge_laid_67 N R (f + 1) sm (nI k) (nI (2 * w 5 1)) z = _
    rw [gC_Tales_judge_laid_67]
    simp (disch := omega) only [Option.bind_some, ↓reduceIte, ↓M_1, ↓M_2, L_0, L_1, L_2, L_3, L_4, L_5, L_6, L_7, L_8, L_9, L_10, L_11, L_12, L_13, L_20, L_24, L_26, L_30, L_31, L_32, L_39, L_40, L_48, L_57, L_76, L_80, L_90, L_91, L_97, L_99, L_100, L_255, L_273, L_1000, L_2000, q_ld, q_ldL, q_sto, q_stoL, q_add, q_sub, q_mul, q_dec, q_rem, q_div, q_lt_t, q_lt_f, q_le_t, q_le_f, q_eq_t, q_eq_f, q_em, q_me, q_ml, q_lm, q_mle, q_lem, q_s1, q_s1o, q_s1k, q_s12, q_s2, q_s2o, q_s2k, q_s21, Nat.add_sub_cancel, q_or, q_and, q_shl, true_or, or_true, false_or, or_false, true_and, and_true, false_and, and_false, not_true_eq_false, not_false_eq_true, ne_eq, hz.m]
theorem C_judge_laid (hN : 100 ≤ N) (h : CW w s) (hU : UC C s) (hn : s.1 7 1 = nI n) (hn0 : 0 < n) (hT : CT 8 n ta s) (hd : ∀ k a, 0 < k → k < n → a < 2 * w 5 1 → C.length = 0 ∨ ∃ v, Den (SOE w ta a k) C v) :
    ∃ z, fC_Tales_judge_laid N (nI v) s = some z ∧ Fr [17, 19, 20, 46, 47] [] s z ∧ z.1 17 1 = s.1 17 1 ∧ z.1 46 9 = nI n ∧ z.1 46 10 = nI v ∧ ∀ k a, 0 < k → k < n → a < 2 * w 5 1 → z.1 47 (k * 40 + sw a) = if SO w C ta k a then nI 1 else nI 0 := by
  have hb := h.bd
  have hn12 := hT.1
  obtain ⟨s0, hs0⟩ : ∃ s0, s0 = s1 (s1 s 46 9 (nI n)) 46 10 (nI v) := ⟨_, rfl⟩
  have f0 : Fr [46] [] s s0 := by rw [hs0]; exact (Fr.s1 (by decide)).tr (Fr.s1 (by decide))
  have st : fC_Tales_judge_laid N (nI v) s = gC_Tales_judge_laid_18 N N (nI (sl ta 0)) (nI (0 + 1)) s0 := by
    rw [hs0]
    simp (disch := omega) only [Option.bind_some, ↓reduceIte, ↓M_1, ↓M_2, L_0, L_1, L_2, L_3, L_4, L_5, L_6, L_7, L_8, L_9, L_10, L_11, L_12, L_13, L_20, L_24, L_26, L_30, L_31, L_32, L_39, L_40, L_48, L_57, L_76, L_80, L_90, L_91, L_97, L_99, L_100, L_255, L_273, L_1000, L_2000, q_ld, q_ldL, q_sto, q_stoL, q_add, q_sub, q_mul, q_dec, q_rem, q_div, q_lt_t, q_lt_f, q_le_t, q_le_f, q_eq_t, q_eq_f, q_em, q_me, q_ml, q_lm, q_mle, q_lem, q_s1, q_s1o, q_s1k, q_s12, q_s2, q_s2o, q_s2k, q_s21, Nat.add_sub_cancel, q_or, q_and, q_shl, true_or, or_true, false_or, or_false, true_and, and_true, false_and, and_false, not_true_eq_false, not_false_eq_true, ne_eq, fC_Tales_judge_laid, gC_Tales_judge_laid_0, hn]
    rfl
  rw [st]
  refine loopU (fun f i z => gC_Tales_judge_laid_18 N f (nI (sl ta i)) (nI (i + 1)) z) (n - 1) (fun i z => i ≤ n - 1 ∧ Fr [17, 19, 20, 47] [] s0 z ∧ z.1 17 1 = s0.1 17 1 ∧ ∀ k a, 0 < k → k < i + 1 → a < 2 * w 5 1 → z.1 47 (k * 40 + sw a) = if SO w C ta k a then nI 1 else nI 0)
    (fun o => ∃ z, o = some z ∧ Fr [17, 19, 20, 46, 47] [] s z ∧ z.1 17 1 = s.1 17 1 ∧ z.1 46 9 = nI n ∧ z.1 46 10 = nI v ∧ ∀ k a, 0 < k → k < n → a < 2 * w 5 1 → z.1 47 (k * 40 + sw a) = if SO w C ta k a then nI 1 else nI 0) ?_ ?_ (n - 1) N 0 s0 (by omega) (by omega) ⟨by omega, Fr.rf, rfl, fun k a h1 h2 => by omega⟩
  · rintro f i z hi ⟨g1, g2, g3, g4⟩
    have fz : Fr [17, 19, 20, 46, 47] [] s z := (f0.mono (by decide) (by decide)).tr (g2.mono (by decide) (by decide))
    have z17 : z.1 17 1 = s.1 17 1 := by rw [g3, f0.1 17 (by decide)]
    have z9 : z.1 46 9 = nI n := by rw [g2.1 46 (by decide), hs0]; simp (disch := omega) only [Option.bind_some, ↓reduceIte, ↓M_1, ↓M_2, L_0, L_1, L_2, L_3, L_4, L_5, L_6, L_7, L_8, L_9, L_10, L_11, L_12, L_13, L_20, L_24, L_26, L_30, L_31, L_32, L_39, L_40, L_48, L_57, L_76, L_80, L_90, L_91, L_97, L_99, L_100, L_255, L_273, L_1000, L_2000, q_ld, q_ldL, q_sto, q_stoL, q_add, q_sub, q_mul, q_dec, q_rem, q_div, q_lt_t, q_lt_f, q_le_t, q_le_f, q_eq_t, q_eq_f, q_em, q_me, q_ml, q_lm, q_mle, q_lem, q_s1, q_s1o, q_s1k, q_s12, q_s2, q_s2o, q_s2k, q_s21, Nat.add_sub_cancel, q_or, q_and, q_shl, true_or, or_true, false_or, or_false, true_and, and_true, false_and, and_false, not_true_eq_false, not_false_eq_true, ne_eq]
    have r0 : z.1 8 0 = nI (ta 0) := by rw [fz.1 8 (by decide)]; exact (hT.2 0 hn0).2
    have ri : z.1 8 i = nI (ta i) := by rw [fz.1 8 (by decide)]; exact (hT.2 i (by omega)).2
    obtain ⟨z5, hz5⟩ : ∃ z5, z5 = s1 (s1 (s1 (s1 z 19 3 (nI (i + 1))) 19 4 (nI (ta 0))) 19 5 (nI (ta i))) 19 6 (nI (sl ta (i + 1))) := ⟨_, rfl⟩
    have f5 : Fr [19] [] z z5 := by rw [hz5]; exact (Fr.s1 (by decide)).tr ((Fr.s1 (by decide)).tr ((Fr.s1 (by decide)).tr (Fr.s1 (by decide))))
    have hz : CW w z5 := (h.fr fz (by decide)).fr f5 (by decide)
    have hUz : UC C z5 := (hU.fr fz z17 (by decide)).fr f5 (by rw [f5.1 17 (by decide)]) (by decide)
    have hT5 : CT 8 n ta z5 := ⟨hn12, fun k hk => ⟨(hT.2 k hk).1, by rw [f5.1 8 (by decide), fz.1 8 (by decide)]; exact (hT.2 k hk).2⟩⟩
    obtain ⟨y, y1, y2, y3, y4, y5⟩ := C_judge67_laid (N := N) (gC_Tales_judge_laid_18 N f) (sm := nI (sl ta (i + 1))) hN hz hUz hT5 (k := i + 1) ⟨by omega, by omega⟩ (fun a ha => hd (i + 1) a (by omega) (by omega) ha) (by rw [hz5]; simp (disch := omega) only [Option.bind_some, ↓reduceIte, ↓M_1, ↓M_2, L_0, L_1, L_2, L_3, L_4, L_5, L_6, L_7, L_8, L_9, L_10, L_11, L_12, L_13, L_20, L_24, L_26, L_30, L_31, L_32, L_39, L_40, L_48, L_57, L_76, L_80, L_90, L_91, L_97, L_99, L_100, L_255, L_273, L_1000, L_2000, q_ld, q_ldL, q_sto, q_stoL, q_add, q_sub, q_mul, q_dec, q_rem, q_div, q_lt_t, q_lt_f, q_le_t, q_le_f, q_eq_t, q_eq_f, q_em, q_me, q_ml, q_lm, q_mle, q_lem, q_s1, q_s1o, q_s1k, q_s12, q_s2, q_s2o, q_s2k, q_s21, Nat.add_sub_cancel, q_or, q_and, q_shl, true_or, or_true, false_or, or_false, true_and, and_true, false_and, and_false, not_true_eq_false, not_false_eq_true, ne_eq]) (by rw [hz5]; simp (disch := omega) only [Option.bind_some, ↓reduceIte, ↓M_1, ↓M_2, L_0, L_1, L_2, L_3, L_4, L_5, L_6, L_7, L_8, L_9, L_10, L_11, L_12, L_13, L_20, L_24, L_26, L_30, L_31, L_32, L_39, L_40, L_48, L_57, L_76, L_80, L_90, L_91, L_97, L_99, L_100, L_255, L_273, L_1000, L_2000, q_ld, q_ldL, q_sto, q_stoL, q_add, q_sub, q_mul, q_dec, q_rem, q_div, q_lt_t, q_lt_f, q_le_t, q_le_f, q_eq_t, q_eq_f, q_em, q_me, q_ml, q_lm, q_mle, q_lem, q_s1, q_s1o, q_s1k, q_s12, q_s2, q_s2o, q_s2k, q_s21, Nat.add_sub_cancel, q_or, q_and, q_shl, true_or, or_true, false_or, or_false, true_and, and_true, false_and, and_false, not_true_eq_false, not_false_eq_true, ne_eq]) (by rw [hz5, Nat.add_sub_cancel]; simp (disch := omega) only [Option.bind_some, ↓reduceIte, ↓M_1, ↓M_2, L_0, L_1, L_2, L_3, L_4, L_5, L_6, L_7, L_8, L_9, L_10, L_11, L_12, L_13, L_20, L_24, L_26, L_30, L_31, L_32, L_39, L_40, L_48, L_57, L_76, L_80, L_90, L_91, L_97, L_99, L_100, L_255, L_273, L_1000, L_2000, q_ld, q_ldL, q_sto, q_stoL, q_add, q_sub, q_mul, q_dec, q_rem, q_div, q_lt_t, q_lt_f, q_le_t, q_le_f, q_eq_t, q_eq_f, q_em, q_me, q_ml, q_lm, q_mle, q_lem, q_s1, q_s1o, q_s1k, q_s12, q_s2, q_s2o, q_s2k, q_s21, Nat.add_sub_cancel, q_or, q_and, q_shl, true_or, or_true, false_or, or_false, true_and, and_true, false_and, and_false, not_true_eq_false, not_false_eq_true, ne_eq]) (by rw [hz5]; simp (disch := omega) only [Option.bind_some, ↓reduceIte, ↓M_1, ↓M_2, L_0, L_1, L_2, L_3, L_4, L_5, L_6, L_7, L_8, L_9, L_10, L_11, L_12, L_13, L_20, L_24, L_26, L_30, L_31, L_32, L_39, L_40, L_48, L_57, L_76, L_80, L_90, L_91, L_97, L_99, L_100, L_255, L_273, L_1000, L_2000, q_ld, q_ldL, q_sto, q_stoL, q_add, q_sub, q_mul, q_dec, q_rem, q_div, q_lt_t, q_lt_f, q_le_t, q_le_f, q_eq_t, q_eq_f, q_em, q_me, q_ml, q_lm, q_mle, q_lem, q_s1, q_s1o, q_s1k, q_s12, q_s2, q_s2o, q_s2k, q_s21, Nat.add_sub_cancel, q_or, q_and, q_shl, true_or, or_true, false_or, or_false, true_and, and_true, false_and, and_false, not_true_eq_false, not_false_eq_true, ne_eq])
    refine Or.inl ⟨y, ?_, by omega, g2.tr ((f5.mono (by decide) (by decide)).tr y2), ?_, fun k a k1 k2 ha => ?_⟩
    · show gC_Tales_judge_laid_18 N (f + 1) (nI (sl ta i)) (nI (i + 1)) z = _
      rw [← y1, hz5, gC_Tales_judge_laid_18, sl]
      simp (disch := omega) only [Option.bind_some, ↓reduceIte, ↓M_1, ↓M_2, L_0, L_1, L_2, L_3, L_4, L_5, L_6, L_7, L_8, L_9, L_10, L_11, L_12, L_13, L_20, L_24, L_26, L_30, L_31, L_32, L_39, L_40, L_48, L_57, L_76, L_80, L_90, L_91, L_97, L_99, L_100, L_255, L_273, L_1000, L_2000, q_ld, q_ldL, q_sto, q_stoL, q_add, q_sub, q_mul, q_dec, q_rem, q_div, q_lt_t, q_lt_f, q_le_t, q_le_f, q_eq_t, q_eq_f, q_em, q_me, q_ml, q_lm, q_mle, q_lem, q_s1, q_s1o, q_s1k, q_s12, q_s2, q_s2o, q_s2k, q_s21, Nat.add_sub_cancel, q_or, q_and, q_shl, true_or, or_true, false_or, or_false, true_and, and_true, false_and, and_false, not_true_eq_false, not_false_eq_true, ne_eq, z9, r0, ri, fC_Rule_putAhead, gC_Rule_putAhead_0]
    · rw [y3, f5.1 17 (by decide)]; exact g3
    · by_cases c : k = i + 1
      · subst c; exact y4 a ha
      · have hs40 := sw_lt ha
        rw [y5 _ (by omega), f5.1 47 (by decide)]
        exact g4 k a k1 (by omega) ha
  · rintro f z ⟨g1, g2, g3, g4⟩
    have fz : Fr [17, 19, 20, 46, 47] [] s z := (f0.mono (by decide) (by decide)).tr (g2.mono (by decide) (by decide))
    have z9 : z.1 46 9 = nI n := by rw [g2.1 46 (by decide), hs0]; simp (disch := omega) only [Option.bind_some, ↓reduceIte, ↓M_1, ↓M_2, L_0, L_1, L_2, L_3, L_4, L_5, L_6, L_7, L_8, L_9, L_10, L_11, L_12, L_13, L_20, L_24, L_26, L_30, L_31, L_32, L_39, L_40, L_48, L_57, L_76, L_80, L_90, L_91, L_97, L_99, L_100, L_255, L_273, L_1000, L_2000, q_ld, q_ldL, q_sto, q_stoL, q_add, q_sub, q_mul, q_dec, q_rem, q_div, q_lt_t, q_lt_f, q_le_t, q_le_f, q_eq_t, q_eq_f, q_em, q_me, q_ml, q_lm, q_mle, q_lem, q_s1, q_s1o, q_s1k, q_s12, q_s2, q_s2o, q_s2k, q_s21, Nat.add_sub_cancel, q_or, q_and, q_shl, true_or, or_true, false_or, or_false, true_and, and_true, false_and, and_false, not_true_eq_false, not_false_eq_true, ne_eq]
    refine ⟨z, ?_, fz, by rw [g3, f0.1 17 (by decide)], z9, ?_, fun k a k1 k2 ha => g4 k a k1 (by omega) ha⟩
    · show gC_Tales_judge_laid_18 N (f + 1) (nI (sl ta (n - 1))) (nI (n - 1 + 1)) z = _
      rw [gC_Tales_judge_laid_18, z9, show n - 1 + 1 = n by omega, if_pos (Int32.le_refl _)]
    · rw [g2.1 46 (by decide), hs0]; simp (disch := omega) only [Option.bind_some, ↓reduceIte, ↓M_1, ↓M_2, L_0, L_1, L_2, L_3, L_4, L_5, L_6, L_7, L_8, L_9, L_10, L_11, L_12, L_13, L_20, L_24, L_26, L_30, L_31, L_32, L_39, L_40, L_48, L_57, L_76, L_80, L_90, L_91, L_97, L_99, L_100, L_255, L_273, L_1000, L_2000, q_ld, q_ldL, q_sto, q_stoL, q_add, q_sub, q_mul, q_dec, q_rem, q_div, q_lt_t, q_lt_f, q_le_t, q_le_f, q_eq_t, q_eq_f, q_em, q_me, q_ml, q_lm, q_mle, q_lem, q_s1, q_s1o, q_s1k, q_s12, q_s2, q_s2o, q_s2k, q_s21, Nat.add_sub_cancel, q_or, q_and, q_shl, true_or, or_true, false_or, or_false, true_and, and_true, false_and, and_false, not_true_eq_false, not_false_eq_true, ne_eq]
end TA
