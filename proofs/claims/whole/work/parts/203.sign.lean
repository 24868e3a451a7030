/-! sign, end: class and reference -/
theorem ch_eq (v : Int32) {j : Nat} (hj : j < 4) : ∃ x, x < 256 ∧ chC v j = nI x ∧ chM v j = byteI x := by
  refine ⟨(((v : Int32).toUInt32 >>> ((nI (8 * (3 - j)) : Int32).toUInt32 &&& Int32.toUInt32 31)).toInt32).toBitVec.toNat % 2 ^ 8, Nat.mod_lt _ (by decide), ?_, ?_⟩
  · unfold chC
    rw [pk_vc, pk_and _ 8 (by decide), pk_char, pk_tn (Nat.lt_trans (Nat.mod_lt _ (by decide)) (by decide)), Nat.mod_eq_of_lt (Nat.lt_trans (Nat.mod_lt _ (by decide)) (by decide))]
  · unfold chM byteI
    rw [pk_vb]
    refine congrArg Int8.toInt32 (Int8.toBitVec_inj.mp ?_)
    have h8 : (8 : Int32) * nI (3 - j) = nI (8 * (3 - j)) := pk_mul 8 (3 - j)
    rw [h8]
    refine BitVec.eq_of_getLsbD_eq (fun i hi => ?_)
    have e1 : bt (v >>> (nI (8 * (3 - j)) &&& 31)) i = bt v (8 * (3 - j) + i) := by rw [b_sshr _ (by omega) _ (by omega), if_pos (by omega)]
    have e2 : bt ((v.toUInt32 >>> ((nI (8 * (3 - j)) : Int32).toUInt32 &&& Int32.toUInt32 31)).toInt32 &&& 255) i = bt v (8 * (3 - j) + i) := by rw [b_and, b_ushr _ (by omega), b_255, decide_eq_true hi, Bool.and_true]
    rw [pk_and _ 8 (by decide)] at e2
    have e3 : ∀ x : Int32, x.toInt8.toBitVec.getLsbD i = bt x i := fun x => by
      rw [Int32.toBitVec_toInt8, BitVec.getLsbD_signExtend, decide_eq_true hi, Bool.true_and, if_pos (by omega)]
      rfl
    rw [e3, e3, e1, e2]
section SN
variable {N : Nat} {s t : vSt}
theorem C_sign_t (hN : 5 ≤ N) {n : Nat} {v : Int32} (hn : s.1 1 1 = nI n) (h : n + 4 ≤ 80) : ∃ s', fC_EachAddsALine_sign N v s = some (nI (n + 4), s') ∧ Fr [1, 2] [] s s' ∧ s'.1 1 1 = nI (n + 4) ∧ (∀ k, k < n → s'.1 2 k = s.1 2 k) ∧ ∀ j, j < 4 → s'.1 2 (n + j) = chC v j := by
  obtain ⟨s', h1, h2, h3, h4, h5⟩ := C_addFour (v := v) hN hn h
  refine ⟨s', ?_, h2, h3, h4, h5⟩
  simp only [fC_EachAddsALine_sign, gC_EachAddsALine_sign_0, h1]
  simp (disch := omega) only [Option.bind_some, ↓reduceIte, ↓M_1, ↓M_2, L_0, L_1, L_2, L_3, L_4, L_5, L_6, L_7, L_8, L_9, L_10, L_11, L_12, L_13, L_20, L_24, L_26, L_30, L_31, L_32, L_39, L_40, L_48, L_57, L_76, L_80, L_90, L_91, L_97, L_99, L_100, L_255, L_273, L_1000, L_2000, q_ld, q_ldL, q_sto, q_stoL, q_add, q_sub, q_mul, q_dec, q_rem, q_div, q_lt_t, q_lt_f, q_le_t, q_le_f, q_eq_t, q_eq_f, q_em, q_me, q_ml, q_lm, q_mle, q_lem, q_s1, q_s1o, q_s1k, q_s12, q_s2, q_s2o, q_s2k, q_s21, Nat.add_sub_cancel, q_or, q_and, q_shl, true_or, or_true, false_or, or_false, true_and, and_true, false_and, and_false, not_true_eq_false, not_false_eq_true, ne_eq, h3]
theorem C_sign_f {n : Nat} {v : Int32} (hn : s.1 1 1 = nI n) (h : 80 < n + 4) (h8 : n ≤ 80) : fC_EachAddsALine_sign N v s = some (mI 1, s) := by
  simp only [fC_EachAddsALine_sign, gC_EachAddsALine_sign_0, fC_Text_addFour, gC_Text_addFour_0, hn]
  simp (disch := omega) only [Option.bind_some, ↓reduceIte, ↓M_1, ↓M_2, L_0, L_1, L_2, L_3, L_4, L_5, L_6, L_7, L_8, L_9, L_10, L_11, L_12, L_13, L_20, L_24, L_26, L_30, L_31, L_32, L_39, L_40, L_48, L_57, L_76, L_80, L_90, L_91, L_97, L_99, L_100, L_255, L_273, L_1000, L_2000, q_ld, q_ldL, q_sto, q_stoL, q_add, q_sub, q_mul, q_dec, q_rem, q_div, q_lt_t, q_lt_f, q_le_t, q_le_f, q_eq_t, q_eq_f, q_em, q_me, q_ml, q_lm, q_mle, q_lem, q_s1, q_s1o, q_s1k, q_s12, q_s2, q_s2o, q_s2k, q_s21, Nat.add_sub_cancel, q_or, q_and, q_shl, true_or, or_true, false_or, or_false, true_and, and_true, false_and, and_false, not_true_eq_false, not_false_eq_true, ne_eq]
theorem M_sign_f {n : Nat} {v : Int32} (hn : s.1 0 8 = nI n) (h : 80 < n + 4) (h8 : n ≤ 80) : fM_EachAddsALineModel_sign N v s = some (mI 1, s1 s 0 11 0) := by
  simp only [fM_EachAddsALineModel_sign, gM_EachAddsALineModel_sign_0]
  simp (disch := omega) only [Option.bind_some, ↓reduceIte, ↓M_1, ↓M_2, L_0, L_1, L_2, L_3, L_4, L_5, L_6, L_7, L_8, L_9, L_10, L_11, L_12, L_13, L_20, L_24, L_26, L_30, L_31, L_32, L_39, L_40, L_48, L_57, L_76, L_80, L_90, L_91, L_97, L_99, L_100, L_255, L_273, L_1000, L_2000, q_ld, q_ldL, q_sto, q_stoL, q_add, q_sub, q_mul, q_dec, q_rem, q_div, q_lt_t, q_lt_f, q_le_t, q_le_f, q_eq_t, q_eq_f, q_em, q_me, q_ml, q_lm, q_mle, q_lem, q_s1, q_s1o, q_s1k, q_s12, q_s2, q_s2o, q_s2k, q_s21, Nat.add_sub_cancel, q_or, q_and, q_shl, true_or, or_true, false_or, or_false, true_and, and_true, false_and, and_false, not_true_eq_false, not_false_eq_true, ne_eq, hn]
theorem M_sign_t (hN : 5 ≤ N) {n : Nat} {v : Int32} (hn : s.1 0 8 = nI n) (h : n + 4 ≤ 80) : ∃ s', fM_EachAddsALineModel_sign N v s = some (nI (n + 4), s') ∧ Fm [6] [] [8, 11] s s' ∧ s'.1 0 8 = nI (n + 4) ∧ (∀ k, k < n → s'.1 6 k = s.1 6 k) ∧ ∀ j, j < 4 → s'.1 6 (n + j) = chM v j := by
  simp only [fM_EachAddsALineModel_sign, gM_EachAddsALineModel_sign_0]
  simp (disch := omega) only [Option.bind_some, ↓reduceIte, ↓M_1, ↓M_2, L_0, L_1, L_2, L_3, L_4, L_5, L_6, L_7, L_8, L_9, L_10, L_11, L_12, L_13, L_20, L_24, L_26, L_30, L_31, L_32, L_39, L_40, L_48, L_57, L_76, L_80, L_90, L_91, L_97, L_99, L_100, L_255, L_273, L_1000, L_2000, q_ld, q_ldL, q_sto, q_stoL, q_add, q_sub, q_mul, q_dec, q_rem, q_div, q_lt_t, q_lt_f, q_le_t, q_le_f, q_eq_t, q_eq_f, q_em, q_me, q_ml, q_lm, q_mle, q_lem, q_s1, q_s1o, q_s1k, q_s12, q_s2, q_s2o, q_s2k, q_s21, Nat.add_sub_cancel, q_or, q_and, q_shl, true_or, or_true, false_or, or_false, true_and, and_true, false_and, and_false, not_true_eq_false, not_false_eq_true, ne_eq, hn]
  refine loopD (fun f i u => gM_EachAddsALineModel_sign_20 N f v (nI i + mI 1) u) 4 (fun i u => i ≤ 4 ∧ Fm [6] [] [8, 11] s u ∧ u.1 0 8 = nI (n + (4 - i)) ∧ (∀ k, k < n → u.1 6 k = s.1 6 k) ∧ ∀ j, j < 4 - i → u.1 6 (n + j) = chM v j) (fun o => ∃ s', o = some (nI (n + 4), s') ∧ Fm [6] [] [8, 11] s s' ∧ s'.1 0 8 = nI (n + 4) ∧ (∀ k, k < n → s'.1 6 k = s.1 6 k) ∧ ∀ j, j < 4 → s'.1 6 (n + j) = chM v j) ?_ ?_ 4 N (s1 s 0 11 (nI 0)) (Nat.le_refl _) (by omega) ⟨Nat.le_refl _, Fm.w10 (by decide), by simp (disch := omega) only [Option.bind_some, ↓reduceIte, ↓M_1, ↓M_2, L_0, L_1, L_2, L_3, L_4, L_5, L_6, L_7, L_8, L_9, L_10, L_11, L_12, L_13, L_20, L_24, L_26, L_30, L_31, L_32, L_39, L_40, L_48, L_57, L_76, L_80, L_90, L_91, L_97, L_99, L_100, L_255, L_273, L_1000, L_2000, q_ld, q_ldL, q_sto, q_stoL, q_add, q_sub, q_mul, q_dec, q_rem, q_div, q_lt_t, q_lt_f, q_le_t, q_le_f, q_eq_t, q_eq_f, q_em, q_me, q_ml, q_lm, q_mle, q_lem, q_s1, q_s1o, q_s1k, q_s12, q_s2, q_s2o, q_s2k, q_s21, Nat.add_sub_cancel, q_or, q_and, q_shl, true_or, or_true, false_or, or_false, true_and, and_true, false_and, and_false, not_true_eq_false, not_false_eq_true, ne_eq, hn], fun _ _ => rfl, fun j hj => by omega⟩
  · rintro f i u hi ⟨h1, h2, h3, h4, h5⟩
    have e1 : nI (i + 1) + mI 1 = nI i := q_dec (by omega)
    refine Or.inl ⟨s1 (s1 u 0 8 (nI (n + (4 - i)))) 6 (n + (3 - i)) (chM v (3 - i)), ?_, by omega, (h2.tr (Fm.w10 (by decide))).tr (Fm.w1 (by decide) (by decide)), ?_, fun k hk => ?_, fun j hj => ?_⟩
    · have e2 : n + (4 - (i + 1)) = n + (3 - i) := by omega
      have e3 : n + (3 - i) + 1 = n + (4 - i) := by omega
      have e4 : 3 - (3 - i) = i := by omega
      simp only [e1]
      rw [gM_EachAddsALineModel_sign_20, if_neg (nI_pos (by omega)), h3]
      simp (disch := omega) only [Option.bind_some, ↓reduceIte, ↓M_1, ↓M_2, L_0, L_1, L_2, L_3, L_4, L_5, L_6, L_7, L_9, L_10, L_11, L_12, L_13, L_20, L_24, L_26, L_30, L_32, L_39, L_40, L_48, L_57, L_76, L_80, L_90, L_91, L_97, L_99, L_100, L_255, L_273, L_1000, L_2000, q_ld, q_ldL, q_sto, q_stoL, q_add, q_sub, q_mul, q_dec, q_rem, q_div, q_lt_t, q_lt_f, q_le_t, q_le_f, q_eq_t, q_eq_f, q_em, q_me, q_ml, q_lm, q_mle, q_lem, q_s1, q_s1o, q_s1k, q_s12, q_s2, q_s2o, q_s2k, q_s21, Nat.add_sub_cancel, q_or, q_and, q_shl, true_or, or_true, false_or, or_false, true_and, and_true, false_and, and_false, not_true_eq_false, not_false_eq_true, ne_eq, e2, e3, chM, e4]
    · simp (disch := omega) only [Option.bind_some, ↓reduceIte, ↓M_1, ↓M_2, L_0, L_1, L_2, L_3, L_4, L_5, L_6, L_7, L_8, L_9, L_10, L_11, L_12, L_13, L_20, L_24, L_26, L_30, L_31, L_32, L_39, L_40, L_48, L_57, L_76, L_80, L_90, L_91, L_97, L_99, L_100, L_255, L_273, L_1000, L_2000, q_ld, q_ldL, q_sto, q_stoL, q_add, q_sub, q_mul, q_dec, q_rem, q_div, q_lt_t, q_lt_f, q_le_t, q_le_f, q_eq_t, q_eq_f, q_em, q_me, q_ml, q_lm, q_mle, q_lem, q_s1, q_s1o, q_s1k, q_s12, q_s2, q_s2o, q_s2k, q_s21, Nat.add_sub_cancel, q_or, q_and, q_shl, true_or, or_true, false_or, or_false, true_and, and_true, false_and, and_false, not_true_eq_false, not_false_eq_true, ne_eq]
    · simp (disch := omega) only [Option.bind_some, ↓reduceIte, ↓M_1, ↓M_2, L_0, L_1, L_2, L_3, L_4, L_5, L_6, L_7, L_8, L_9, L_10, L_11, L_12, L_13, L_20, L_24, L_26, L_30, L_31, L_32, L_39, L_40, L_48, L_57, L_76, L_80, L_90, L_91, L_97, L_99, L_100, L_255, L_273, L_1000, L_2000, q_ld, q_ldL, q_sto, q_stoL, q_add, q_sub, q_mul, q_dec, q_rem, q_div, q_lt_t, q_lt_f, q_le_t, q_le_f, q_eq_t, q_eq_f, q_em, q_me, q_ml, q_lm, q_mle, q_lem, q_s1, q_s1o, q_s1k, q_s12, q_s2, q_s2o, q_s2k, q_s21, Nat.add_sub_cancel, q_or, q_and, q_shl, true_or, or_true, false_or, or_false, true_and, and_true, false_and, and_false, not_true_eq_false, not_false_eq_true, ne_eq, h4 k hk]
    · by_cases c : n + j = n + (3 - i)
      · rw [c, q_s1, show j = 3 - i by omega]
      · rw [q_s1k c, q_s1o (by decide), h5 j (by omega)]
  · rintro f u ⟨h1, h2, h3, h4, h5⟩
    refine ⟨u, ?_, h2, h3, h4, fun j hj => h5 j hj⟩
    show gM_EachAddsALineModel_sign_20 N (f + 1) v (nI 0 + mI 1) u = _
    rw [gM_EachAddsALineModel_sign_20, if_pos (by decide), h3]
theorem sign_ok (hN : 5 ≤ N) (h : TX s t) (v : Int32) : ∃ r s' t', fC_EachAddsALine_sign N v s = some (r, s') ∧ fM_EachAddsALineModel_sign N v t = some (r, t') ∧ TX s' t' ∧ Fr [1, 2] [] s s' ∧ Fm [6] [] [8, 11] t t' := by
  obtain ⟨n, h8, e1, e2, e3⟩ := h
  by_cases c : n + 4 ≤ 80
  · obtain ⟨s', a1, a2, a3, a4, a5⟩ := C_sign_t (v := v) hN e1 c
    obtain ⟨t', b1, b2, b3, b4, b5⟩ := M_sign_t (v := v) hN e2 c
    refine ⟨_, s', t', a1, b1, ⟨n + 4, c, a3, b3, fun k hk => ?_⟩, a2, b2⟩
    by_cases ck : k < n
    · rw [a4 k ck, b4 k ck]
      exact e3 k ck
    · obtain ⟨x, x1, x2, x3⟩ := ch_eq v (j := k - n) (by omega)
      refine ⟨x, x1, ?_, ?_⟩
      · rw [← x2, ← a5 _ (by omega), show n + (k - n) = k by omega]
      · rw [← x3, ← b5 _ (by omega), show n + (k - n) = k by omega]
  · exact ⟨_, _, _, C_sign_f e1 (by omega) h8, M_sign_f e2 (by omega) h8, ⟨n, h8, e1, by simp (disch := omega) only [Option.bind_some, ↓reduceIte, ↓M_1, ↓M_2, L_0, L_1, L_2, L_3, L_4, L_5, L_6, L_7, L_8, L_9, L_10, L_11, L_12, L_13, L_20, L_24, L_26, L_30, L_31, L_32, L_39, L_40, L_48, L_57, L_76, L_80, L_90, L_91, L_97, L_99, L_100, L_255, L_273, L_1000, L_2000, q_ld, q_ldL, q_sto, q_stoL, q_add, q_sub, q_mul, q_dec, q_rem, q_div, q_lt_t, q_lt_f, q_le_t, q_le_f, q_eq_t, q_eq_f, q_em, q_me, q_ml, q_lm, q_mle, q_lem, q_s1, q_s1o, q_s1k, q_s12, q_s2, q_s2o, q_s2k, q_s21, Nat.add_sub_cancel, q_or, q_and, q_shl, true_or, or_true, false_or, or_false, true_and, and_true, false_and, and_false, not_true_eq_false, not_false_eq_true, ne_eq, e2], by simp (disch := omega) only [Option.bind_some, ↓reduceIte, ↓M_1, ↓M_2, L_0, L_1, L_2, L_3, L_4, L_5, L_6, L_7, L_8, L_9, L_10, L_11, L_12, L_13, L_20, L_24, L_26, L_30, L_31, L_32, L_39, L_40, L_48, L_57, L_76, L_80, L_90, L_91, L_97, L_99, L_100, L_255, L_273, L_1000, L_2000, q_ld, q_ldL, q_sto, q_stoL, q_add, q_sub, q_mul, q_dec, q_rem, q_div, q_lt_t, q_lt_f, q_le_t, q_le_f, q_eq_t, q_eq_f, q_em, q_me, q_ml, q_lm, q_mle, q_lem, q_s1, q_s1o, q_s1k, q_s12, q_s2, q_s2o, q_s2k, q_s21, Nat.add_sub_cancel, q_or, q_and, q_shl, true_or, or_true, false_or, or_false, true_and, and_true, false_and, and_false, not_true_eq_false, not_false_eq_true, ne_eq]; exact e3⟩, Fr.rf, Fm.w10 (by decide)⟩
end SN
