/-! the rule's part of the relation; rule -/
def UR (N : Nat) (s t : vSt) : Prop := ∃ (n : Nat) (x : Nat → Nat) (C : List Nat), n ≤ 40 ∧ t.1 0 18 = nI n ∧ (∀ k, k < n → x k < 256 ∧ t.1 8 k = byteI (x k)) ∧ C.length ≤ 40 ∧ s.1 17 1 = nI C.length ∧ (∀ k j, C[k]? = some j → s.1 18 k = nI j) ∧ ((n = 0 ∧ C = []) ∨ (0 < n ∧ Mok n x (fM_EachAddsALineModel_held N (fM_EachAddsALineModel_thing N 48) (nI 0)) 0 n C))
theorem okUR (N : Nat) : okU (UR N) := fun s s' t t' h e1 e2 e3 e4 => by
  obtain ⟨n, x, C, h1, h2, h3, h4, h5, h6, h7⟩ := h
  exact ⟨n, x, C, h1, e3.trans h2, fun k hk => ⟨(h3 k hk).1, by rw [e4]; exact (h3 k hk).2⟩, h4, e1.trans h5, fun k j hk => by rw [e2]; exact h6 k j hk, h7⟩
/-- the text and the rule are new -/
theorem RR.u {U : vSt → vSt → Prop} {L K L' K' F : List Nat} {s s' t t' : vSt} (h : RR U s t) (h8 : U s' t') (h3 : TX s' t') (f : Fr L K s s') (g : Fm L' K' F t t') (hL : ∀ o, o ∈ L → o = 1 ∨ o = 2 ∨ (16 ≤ o ∧ o ≤ 24) ∨ 41 ≤ o)
    (hM : ∀ o, o ∈ L' → o = 6 ∨ o = 8 ∨ (10 ≤ o ∧ o ≤ 15) ∨ (17 ≤ o ∧ o ≤ 21)) (hF : ∀ o, o ∈ F → o = 8 ∨ (11 ≤ o ∧ o ≤ 33) ∨ (45 ≤ o)) : RR U s' t' := by
  obtain ⟨w, h1, h2, _, h4, h5, h6, h7, _, h9⟩ := h
  have a : ∀ o, ((2 < o ∧ o < 16) ∨ (24 < o ∧ o < 41)) → o ∉ L := fun o ho z => by have := hL o z; omega
  have b : ∀ o, (o < 6 ∨ o = 7 ∨ o = 9 ∨ o = 16 ∨ 21 < o) → o ∉ L' := fun o ho z => by have := hM o z; omega
  have c : ∀ o, (o < 8 ∨ (8 < o ∧ o < 11) ∨ (33 < o ∧ o < 45)) → o ∉ F := fun o ho z => by have := hF o z; omega
  exact ⟨w, h1.fr f ⟨a _ (by decide), a _ (by decide), a _ (by decide), a _ (by decide), a _ (by decide), a _ (by decide), a _ (by decide)⟩,
    h2.fm g ⟨c _ (by decide), c _ (by decide)⟩ ⟨b _ (by decide), b _ (by decide), b _ (by decide), b _ (by decide), b _ (by decide)⟩, h3,
    h4.fr f g ⟨a _ (by decide), a _ (by decide)⟩ ⟨b _ (by decide), c _ (by decide)⟩,
    h5.fr f g ⟨a _ (by decide), a _ (by decide)⟩ ⟨b _ (by decide), c _ (by decide)⟩, h6.fr f g ⟨a _ (by decide), a _ (by decide)⟩ ⟨b _ (by decide), c _ (by decide)⟩,
    h7.fr f g (fun o ho z => a o (by omega) ho) ⟨b _ (by decide), b _ (by decide), b _ (by decide)⟩, h8,
    h9.fr g ⟨c _ (by decide), c _ (by decide), c _ (by decide), c _ (by decide)⟩⟩
theorem nar_by : ∀ y, y < 256 → vp_nar .byte (byteI y) = byteI y := by decide +kernel
section KR
variable {N n q : Nat} {x : Nat → Nat} {s t : vSt}
theorem C_take {z : Nat} {C : List Nat} (h : s.1 21 3 = nI C.length) (hC : C.length ≤ 40) (h2 : ∀ k j, C[k]? = some j → s.1 22 k = nI j) : ∃ s', gC_RuleReader_readText_49 N s = some (nI 0, s') ∧ Fr [17, 18] [] s s' ∧ s'.1 17 1 = nI C.length ∧ ∀ k j, C[k]? = some j → s'.1 18 k = nI j := by
  obtain ⟨u, q1, f1, k1⟩ : ∃ u, scpy s 22 18 40 40 (nI C.length) = some u ∧ Fr [18] [] s u ∧ ∀ k, k < C.length → u.1 18 k = s.1 22 k := ⟨_, scpy_n (by omega) (by omega) (by omega), cp_fr (List.mem_singleton.mpr rfl), fun k hk => cp_eq (s := s) (o := 22) (o2 := 18) hk⟩
  have e21 : u.1 21 3 = nI C.length := by rw [f1.1 21 (by decide)]; exact h
  refine ⟨s1 u 17 1 (nI C.length), ?_, (f1.mono (by decide) (by decide)).tr (Fr.s1 (by decide)), q_s1 _ _ _ _, fun k j hk => ?_⟩
  · rw [gC_RuleReader_readText_49, h, q1, Option.bind_some, e21, Option.bind_some, L_0]
  · obtain ⟨hk1, _⟩ := List.getElem?_eq_some_iff.mp hk
    rw [q_s1o (by decide), k1 k hk1]; exact h2 k j hk
theorem M_take (hN : 100 ≤ N) (hn : n ≤ 40) (h : ∀ k, k < n → x k < 256 ∧ t.1 6 k = byteI (x k)) : ∃ t', gM_EachAddsALineModel_rule_71 N (nI n) t = some (nI 0, t') ∧ Fm [8] [] [18] t t' ∧ t'.1 0 18 = nI n ∧ ∀ k, k < n → t'.1 8 k = byteI (x k) := by
  rw [gM_EachAddsALineModel_rule_71]
  refine loopU (fun f i u => gM_EachAddsALineModel_rule_73 N f (nI n) (nI i) u) n (fun i u => i ≤ n ∧ Fm [8] [] [18] t u ∧ ∀ k, k < i → u.1 8 k = byteI (x k)) (fun o => ∃ t', o = some (nI 0, t') ∧ Fm [8] [] [18] t t' ∧ t'.1 0 18 = nI n ∧ ∀ k, k < n → t'.1 8 k = byteI (x k)) ?_ ?_ n N 0 t (by omega) (by omega) ⟨by omega, Fm.rf, fun k hk => by omega⟩
  · rintro f i u hi ⟨_, g2, g3⟩
    have e6 : u.1 6 i = byteI (x i) := by rw [g2.1 6 (by decide) (by decide)]; exact (h i hi).2
    have eb := nar_by (x i) (h i hi).1
    refine Or.inl ⟨s1 u 8 i (byteI (x i)), ?_, by omega, g2.tr (Fm.w1 (by decide) (by decide)), fun k hk => ?_⟩
    · show gM_EachAddsALineModel_rule_73 N (f + 1) (nI n) (nI i) u = _
      rw [gM_EachAddsALineModel_rule_73]
      simp (disch := omega) only [Option.bind_some, ↓reduceIte, ↓M_1, ↓M_2, L_0, L_1, L_2, L_3, L_4, L_5, L_6, L_7, L_8, L_9, L_10, L_11, L_12, L_13, L_20, L_24, L_26, L_30, L_31, L_32, L_39, L_40, L_48, L_57, L_76, L_80, L_90, L_91, L_97, L_99, L_100, L_255, L_273, L_1000, L_2000, q_ld, q_ldL, q_sto, q_stoL, q_add, q_sub, q_mul, q_dec, q_rem, q_div, q_lt_t, q_lt_f, q_le_t, q_le_f, q_eq_t, q_eq_f, q_em, q_me, q_ml, q_lm, q_mle, q_lem, q_s1, q_s1o, q_s1k, q_s12, q_s2, q_s2o, q_s2k, q_s21, Nat.add_sub_cancel, q_or, q_and, q_shl, true_or, or_true, false_or, or_false, true_and, and_true, false_and, and_false, not_true_eq_false, not_false_eq_true, ne_eq, e6, eb]
    · by_cases d : k = i
      · subst d; rw [q_s1]
      · rw [q_s1k d]; exact g3 k (by omega)
  · rintro f u ⟨_, g2, g3⟩
    refine ⟨s1 u 0 18 (nI n), ?_, g2.tr (Fm.w10 (by decide)), q_s1 _ _ _ _, fun k hk => by rw [q_s1o (by decide)]; exact g3 k hk⟩
    show gM_EachAddsALineModel_rule_73 N (f + 1) (nI n) (nI n) u = _
    rw [gM_EachAddsALineModel_rule_73, if_pos (Int32.le_refl _), Option.bind_some, L_0]
theorem k_rule (hN : 100 ≤ N) : keeps0 N (RR (UR N)) fC_EachAddsALine_rule fM_EachAddsALineModel_rule := fun s t h => by
  obtain ⟨w, _, _, h3, _, _, _, _, h8, _⟩ := id h
  obtain ⟨n, x, hn, d1, d2, d3⟩ := h3.d
  obtain ⟨s0, hs0⟩ : ∃ s0, s0 = s1 (s1 s 21 4 (nI 0)) 21 3 (nI 0) := ⟨_, rfl⟩
  have f0 : Fr [21] [] s s0 := by rw [hs0]; exact (Fr.s1 (by decide)).tr (Fr.s1 (by decide))
  have s4 : s0.1 21 4 = nI 0 := by rw [hs0, q_s1k (by decide), q_s1]
  have s3 : s0.1 21 3 = nI 0 := by rw [hs0, q_s1]
  have s11 : s0.1 1 1 = nI n := by rw [f0.1 1 (by decide)]; exact d1
  have hCS : CSt n x s0 := ⟨hn, s11, fun k hk => ⟨(d3 k hk).1, by rw [f0.1 2 (by decide)]; exact (d3 k hk).2.1⟩⟩
  obtain ⟨t0, ht0⟩ : ∃ t0, t0 = s1 (s1 (s1 (s1 (s1 (s1 (s1 (s1 t 0 11 (nI 0)) 0 12 (nI 6)) 0 13 (nI n)) 0 14 (nI 40)) 0 15 (nI 0)) 0 16 (mI 1)) 0 8 (nI 0)) 0 19 (nI 0) := ⟨_, rfl⟩
  have g0 : Fm [] [] [8, 11, 12, 13, 14, 15, 16, 19] t t0 := by
    rw [ht0]
    exact (Fm.w10 (by decide)).tr ((Fm.w10 (by decide)).tr ((Fm.w10 (by decide)).tr ((Fm.w10 (by decide)).tr ((Fm.w10 (by decide)).tr ((Fm.w10 (by decide)).tr ((Fm.w10 (by decide)).tr (Fm.w10 (by decide))))))))
  have t15 : t0.1 0 15 = nI 0 := by rw [ht0]; simp (disch := omega) only [Option.bind_some, ↓reduceIte, ↓M_1, ↓M_2, L_0, L_1, L_2, L_3, L_4, L_5, L_6, L_7, L_8, L_9, L_10, L_11, L_12, L_13, L_20, L_24, L_26, L_30, L_31, L_32, L_39, L_40, L_48, L_57, L_76, L_80, L_90, L_91, L_97, L_99, L_100, L_255, L_273, L_1000, L_2000, q_ld, q_ldL, q_sto, q_stoL, q_add, q_sub, q_mul, q_dec, q_rem, q_div, q_lt_t, q_lt_f, q_le_t, q_le_f, q_eq_t, q_eq_f, q_em, q_me, q_ml, q_lm, q_mle, q_lem, q_s1, q_s1o, q_s1k, q_s12, q_s2, q_s2o, q_s2k, q_s21, Nat.add_sub_cancel, q_or, q_and, q_shl, true_or, or_true, false_or, or_false, true_and, and_true, false_and, and_false, not_true_eq_false, not_false_eq_true, ne_eq]
  have t16 : t0.1 0 16 = mI 1 := by rw [ht0]; simp (disch := omega) only [Option.bind_some, ↓reduceIte, ↓M_1, ↓M_2, L_0, L_1, L_2, L_3, L_4, L_5, L_6, L_7, L_8, L_9, L_10, L_11, L_12, L_13, L_20, L_24, L_26, L_30, L_31, L_32, L_39, L_40, L_48, L_57, L_76, L_80, L_90, L_91, L_97, L_99, L_100, L_255, L_273, L_1000, L_2000, q_ld, q_ldL, q_sto, q_stoL, q_add, q_sub, q_mul, q_dec, q_rem, q_div, q_lt_t, q_lt_f, q_le_t, q_le_f, q_eq_t, q_eq_f, q_em, q_me, q_ml, q_lm, q_mle, q_lem, q_s1, q_s1o, q_s1k, q_s12, q_s2, q_s2o, q_s2k, q_s21, Nat.add_sub_cancel, q_or, q_and, q_shl, true_or, or_true, false_or, or_false, true_and, and_true, false_and, and_false, not_true_eq_false, not_false_eq_true, ne_eq]
  have t8 : t0.1 0 8 = nI 0 := by rw [ht0]; simp (disch := omega) only [Option.bind_some, ↓reduceIte, ↓M_1, ↓M_2, L_0, L_1, L_2, L_3, L_4, L_5, L_6, L_7, L_8, L_9, L_10, L_11, L_12, L_13, L_20, L_24, L_26, L_30, L_31, L_32, L_39, L_40, L_48, L_57, L_76, L_80, L_90, L_91, L_97, L_99, L_100, L_255, L_273, L_1000, L_2000, q_ld, q_ldL, q_sto, q_stoL, q_add, q_sub, q_mul, q_dec, q_rem, q_div, q_lt_t, q_lt_f, q_le_t, q_le_f, q_eq_t, q_eq_f, q_em, q_me, q_ml, q_lm, q_mle, q_lem, q_s1, q_s1o, q_s1k, q_s12, q_s2, q_s2o, q_s2k, q_s21, Nat.add_sub_cancel, q_or, q_and, q_shl, true_or, or_true, false_or, or_false, true_and, and_true, false_and, and_false, not_true_eq_false, not_false_eq_true, ne_eq]
  have t6 : ∀ k, k < n → x k < 256 ∧ t0.1 6 k = byteI (x k) := fun k hk => ⟨(d3 k hk).1, by rw [g0.1 6 (by decide) (by decide)]; exact (d3 k hk).2.2⟩
  have hMS : MSt n x t0 := ⟨hn, by rw [ht0]; simp (disch := omega) only [Option.bind_some, ↓reduceIte, ↓M_1, ↓M_2, L_0, L_1, L_2, L_3, L_4, L_5, L_6, L_7, L_8, L_9, L_10, L_11, L_12, L_13, L_20, L_24, L_26, L_30, L_31, L_32, L_39, L_40, L_48, L_57, L_76, L_80, L_90, L_91, L_97, L_99, L_100, L_255, L_273, L_1000, L_2000, q_ld, q_ldL, q_sto, q_stoL, q_add, q_sub, q_mul, q_dec, q_rem, q_div, q_lt_t, q_lt_f, q_le_t, q_le_f, q_eq_t, q_eq_f, q_em, q_me, q_ml, q_lm, q_mle, q_lem, q_s1, q_s1o, q_s1k, q_s12, q_s2, q_s2o, q_s2k, q_s21, Nat.add_sub_cancel, q_or, q_and, q_shl, true_or, or_true, false_or, or_false, true_and, and_true, false_and, and_false, not_true_eq_false, not_false_eq_true, ne_eq], by rw [ht0]; simp (disch := omega) only [Option.bind_some, ↓reduceIte, ↓M_1, ↓M_2, L_0, L_1, L_2, L_3, L_4, L_5, L_6, L_7, L_8, L_9, L_10, L_11, L_12, L_13, L_20, L_24, L_26, L_30, L_31, L_32, L_39, L_40, L_48, L_57, L_76, L_80, L_90, L_91, L_97, L_99, L_100, L_255, L_273, L_1000, L_2000, q_ld, q_ldL, q_sto, q_stoL, q_add, q_sub, q_mul, q_dec, q_rem, q_div, q_lt_t, q_lt_f, q_le_t, q_le_f, q_eq_t, q_eq_f, q_em, q_me, q_ml, q_lm, q_mle, q_lem, q_s1, q_s1o, q_s1k, q_s12, q_s2, q_s2o, q_s2k, q_s21, Nat.add_sub_cancel, q_or, q_and, q_shl, true_or, or_true, false_or, or_false, true_and, and_true, false_and, and_false, not_true_eq_false, not_false_eq_true, ne_eq], Or.inl ⟨by rw [ht0]; simp (disch := omega) only [Option.bind_some, ↓reduceIte, ↓M_1, ↓M_2, L_0, L_1, L_2, L_3, L_4, L_5, L_6, L_7, L_8, L_9, L_10, L_11, L_12, L_13, L_20, L_24, L_26, L_30, L_31, L_32, L_39, L_40, L_48, L_57, L_76, L_80, L_90, L_91, L_97, L_99, L_100, L_255, L_273, L_1000, L_2000, q_ld, q_ldL, q_sto, q_stoL, q_add, q_sub, q_mul, q_dec, q_rem, q_div, q_lt_t, q_lt_f, q_le_t, q_le_f, q_eq_t, q_eq_f, q_em, q_me, q_ml, q_lm, q_mle, q_lem, q_s1, q_s1o, q_s1k, q_s12, q_s2, q_s2o, q_s2k, q_s21, Nat.add_sub_cancel, q_or, q_and, q_shl, true_or, or_true, false_or, or_false, true_and, and_true, false_and, and_false, not_true_eq_false, not_false_eq_true, ne_eq], t6⟩⟩
  have mst : fM_EachAddsALineModel_rule N t = if nI n ≤ nI 0 then gM_EachAddsALineModel_rule_71 N (nI n) t0 else (fM_EachAddsALineModel_held N (fM_EachAddsALineModel_thing N 48) (nI 0) t0).bind fun p6 => if nI n ≤ (p6.2.1 0 15) then gM_EachAddsALineModel_rule_57 N (nI n) p6.2 else (fM_EachAddsALineModel_fault N (p6.2.1 0 15) p6.2).bind fun z7 => gM_EachAddsALineModel_rule_57 N (nI n) z7 := by
    rw [ht0]
    simp (disch := omega) only [Option.bind_some, ↓reduceIte, ↓M_1, ↓M_2, L_0, L_1, L_2, L_3, L_4, L_5, L_6, L_7, L_8, L_9, L_10, L_11, L_12, L_13, L_20, L_24, L_26, L_30, L_31, L_32, L_39, L_40, L_48, L_57, L_76, L_80, L_90, L_91, L_97, L_99, L_100, L_255, L_273, L_1000, L_2000, q_ld, q_ldL, q_sto, q_stoL, q_add, q_sub, q_mul, q_dec, q_rem, q_div, q_lt_t, q_lt_f, q_eq_t, q_eq_f, q_em, q_me, q_ml, q_lm, q_mle, q_lem, q_s1, q_s1o, q_s1k, q_s12, q_s2, q_s2o, q_s2k, q_s21, Nat.add_sub_cancel, q_or, q_and, q_shl, true_or, or_true, false_or, or_false, true_and, and_true, false_and, and_false, not_true_eq_false, not_false_eq_true, ne_eq, fM_EachAddsALineModel_rule, gM_EachAddsALineModel_rule_0, d2, fM_EachAddsALineModel_begin_m_text, gM_EachAddsALineModel_begin_m_text_0]
  have cst : fC_EachAddsALine_rule N s = (if nI n ≤ nI 0 then gC_RuleReader_readText_49 N s0 else (fC_RuleReader_readExpression N 48 (nI 0) s0).bind fun p3 => if p3.1 = nI 0 then gC_RuleReader_readText_42 N p3.2 else if (p3.2.1 1 1) ≤ (p3.2.1 21 4) then gC_RuleReader_readText_49 N p3.2 else gC_RuleReader_readText_42 N p3.2).bind fun p1 => some (p1.1, s1 p1.2 1 1 (nI 0)) := by
    rw [← s11, hs0]
    simp (disch := omega) only [Option.bind_some, ↓reduceIte, ↓M_1, ↓M_2, L_0, L_1, L_2, L_3, L_4, L_5, L_6, L_7, L_8, L_9, L_10, L_11, L_12, L_13, L_20, L_24, L_26, L_30, L_31, L_32, L_39, L_40, L_48, L_57, L_76, L_80, L_90, L_91, L_97, L_99, L_100, L_255, L_273, L_1000, L_2000, q_ld, q_ldL, q_sto, q_stoL, q_add, q_sub, q_mul, q_dec, q_rem, q_div, q_lt_t, q_lt_f, q_eq_t, q_eq_f, q_em, q_me, q_ml, q_lm, q_mle, q_lem, q_s1, q_s1o, q_s1k, q_s12, q_s2, q_s2o, q_s2k, q_s21, Nat.add_sub_cancel, q_or, q_and, q_shl, true_or, or_true, false_or, or_false, true_and, and_true, false_and, and_false, not_true_eq_false, not_false_eq_true, ne_eq, fC_EachAddsALine_rule, gC_EachAddsALine_rule_0, fC_RuleReader_readText, gC_RuleReader_readText_0, fC_Text_clear, gC_Text_clear_0]
  -- an answer that leaves the rule
  have bad : ∀ q s' t', q ≤ 40 → Fr [21, 22] [] s0 s' → Fm [] [] [15, 16] t0 t' → fC_EachAddsALine_rule N s = some (mI (q + 1), s1 s' 1 1 (nI 0)) → fM_EachAddsALineModel_rule N t = some (mI (q + 1), t') → ∃ r s' t', fC_EachAddsALine_rule N s = some (r, s') ∧ fM_EachAddsALineModel_rule N t = some (r, t') ∧ RR (UR N) s' t' := by
    intro q s' t' hq f g e1 e2
    have f' : Fr [1, 21, 22] [] s (s1 s' 1 1 (nI 0)) := (f0.mono (by decide) (by decide)).tr ((f.mono (by decide) (by decide)).tr (Fr.s1 (by decide)))
    have g' : Fm [] [] [8, 11, 12, 13, 14, 15, 16, 19] t t' := g0.tr (g.mono (by decide) (by decide) (by decide))
    refine ⟨_, _, _, e1, e2, h.u ((okUR N) _ _ _ _ h8 ?_ ?_ ?_ ?_) ⟨0, by omega, q_s1 _ _ _ _, ?_, fun k hk => by omega⟩ f' g' (by decide) (by decide) (by decide)⟩
    · rw [f'.1 17 (by decide)]
    · exact f'.1 18 (by decide)
    · exact g'.2.2 18 (by decide)
    · exact g'.1 8 (by decide) (by decide)
    · rw [g.2.2 8 (by decide)]; exact t8
  -- the text becomes the rule
  have good : ∀ s' t' C, C.length ≤ 40 → n ≤ 40 → Fr [21, 22] [] s0 s' → s'.1 21 3 = nI C.length → (∀ k j, C[k]? = some j → s'.1 22 k = nI j) → Fm [] [] [15, 16] t0 t' → ((n = 0 ∧ C = []) ∨ (0 < n ∧ Mok n x (fM_EachAddsALineModel_held N (fM_EachAddsALineModel_thing N 48) (nI 0)) 0 n C)) → fC_EachAddsALine_rule N s = ((gC_RuleReader_readText_49 N s').bind fun p1 => some (p1.1, s1 p1.2 1 1 (nI 0))) → fM_EachAddsALineModel_rule N t = gM_EachAddsALineModel_rule_71 N (nI n) t' → ∃ r s' t', fC_EachAddsALine_rule N s = some (r, s') ∧ fM_EachAddsALineModel_rule N t = some (r, t') ∧ RR (UR N) s' t' := by
    intro s' t' C hC hn4 f e3 eC g hU e1 e2
    obtain ⟨u, a1, a2, a3, a4⟩ := C_take (N := N) (z := 0) e3 hC eC
    obtain ⟨v, b1, b2, b3, b4⟩ := M_take (N := N) (x := x) (t := t') hN hn4 (fun k hk => ⟨(t6 k hk).1, by rw [g.1 6 (by decide) (by decide)]; exact (t6 k hk).2⟩)
    have f' : Fr [1, 17, 18, 21, 22] [] s (s1 u 1 1 (nI 0)) := (f0.mono (by decide) (by decide)).tr ((f.mono (by decide) (by decide)).tr ((a2.mono (by decide) (by decide)).tr (Fr.s1 (by decide))))
    have g' : Fm [8] [] [8, 11, 12, 13, 14, 15, 16, 18, 19] t v := (g0.mono (by decide) (by decide) (by decide)).tr ((g.mono (by decide) (by decide) (by decide)).tr (b2.mono (by decide) (by decide) (by decide)))
    refine ⟨nI 0, s1 u 1 1 (nI 0), v, ?_, by rw [e2, b1], h.u ⟨n, x, C, hn4, b3, fun k hk => ⟨(t6 k hk).1, b4 k hk⟩, hC, ?_, fun k j hk => ?_, hU⟩ ⟨0, by omega, q_s1 _ _ _ _, ?_, fun k hk => by omega⟩ f' g' (by decide) (by decide) (by decide)⟩
    · rw [e1, a1, Option.bind_some]
    · rw [q_s1o (by decide)]; exact a3
    · rw [q_s1o (by decide)]; exact a4 k j hk
    · rw [b2.2.2 8 (by decide), g.2.2 8 (by decide)]; exact t8
  by_cases c0 : n = 0
  · subst c0
    rw [if_pos (Int32.le_refl _)] at mst cst
    exact good s0 t0 [] (by decide) (by omega) Fr.rf s3 (fun k j hk => by cases hk) Fm.rf (Or.inl ⟨rfl, rfl⟩) cst mst
  · have h0 : ¬ nI n ≤ nI 0 := nI_ge (by omega) (by omega)
    rw [if_neg h0] at mst cst
    have hEE : EE t0 (EM t0) := fun _ _ => rfl
    rcases rule_J (N := N) (n := n) (x := x) hN with ⟨q, C, a1, a2, a3, a4, a5⟩ | ⟨q, a1, a2, a3⟩
    · obtain ⟨s', b1, b2⟩ := a4 s0 0 hCS s4 s3 (by omega)
      obtain ⟨v, t', e1, e2, e3, e4, e5⟩ := a5 t0 _ hMS hEE t15 t16
      have s11' : s'.1 1 1 = nI n := by rw [b2.1.1 1 (by decide)]; exact s11
      have hC3 : s'.1 21 3 = nI C.length := by rw [b2.2.2.1, Nat.zero_add]
      rw [b1, Option.bind_some, if_neg (show ¬ ((nI 1, s') : Int32 × vSt).1 = nI 0 from (by decide : ¬ nI 1 = nI 0))] at cst
      rw [e1, Option.bind_some] at mst
      by_cases cq : q = n
      · subst cq
        rw [if_pos (show s'.1 1 1 ≤ s'.1 21 4 by rw [s11', b2.2.1]; exact Int32.le_refl _)] at cst
        rw [if_pos (show nI q ≤ t'.1 0 15 by rw [e3]; exact Int32.le_refl _), gM_EachAddsALineModel_rule_57, M_fine_t e4, Option.bind_some, if_neg (one_ne _)] at mst
        exact good s' t' C (by omega) a3 b2.1 hC3 (fun k j hk => by have := b2.2.2.2.1 k j hk; rwa [Nat.zero_add] at this) e2 (Or.inr ⟨by omega, a5⟩) cst mst
      · rw [if_neg (show ¬ s'.1 1 1 ≤ s'.1 21 4 by rw [s11', b2.2.1]; exact nI_ge (by omega) (by omega)), gC_RuleReader_readText_42, Option.bind_some, b2.2.1, M_1, q_ms] at cst
        rw [if_neg (show ¬ nI n ≤ t'.1 0 15 by rw [e3]; exact nI_ge (by omega) (by omega)), M_fault_t e4, Option.bind_some, gM_EachAddsALineModel_rule_57, e3, M_fine_f (q_s1 _ _ _ _) (show q < 1000 by omega), Option.bind_some, if_pos (zer_eq _), M_1] at mst
        refine bad q s' (s1 t' 0 16 (nI q)) a3 b2.1 (e2.tr Fm.r16) ?_ ?_
        · rw [cst, Nat.add_comm 1 q]
        · rw [mst]
          show some (mI 1 - (s1 t' 0 16 (nI q)).1 0 16, s1 t' 0 16 (nI q)) = _
          rw [q_s1, q_ms, Nat.add_comm 1 q]
    · obtain ⟨s', b1, b2, b3⟩ := a2 s0 0 hCS s4 s3 (by omega)
      obtain ⟨v, t', e1, e2, e3⟩ := a3 t0 _ hMS hEE t15 t16
      rw [b1, Option.bind_some, if_pos (show ((nI 0, s') : Int32 × vSt).1 = nI 0 from rfl), gC_RuleReader_readText_42, Option.bind_some, b3, M_1, q_ms] at cst
      have mst2 : fM_EachAddsALineModel_rule N t = gM_EachAddsALineModel_rule_57 N (nI n) t' := by
        rw [mst, e1, Option.bind_some]
        by_cases d : nI n ≤ t'.1 0 15
        · rw [if_pos d]
        · rw [if_neg d, M_fault_f e3 (show q < 1000 by omega), Option.bind_some]
      rw [gM_EachAddsALineModel_rule_57, M_fine_f e3 (show q < 1000 by omega), Option.bind_some, if_pos (zer_eq _), M_1] at mst2
      refine bad q s' t' a1 b2 e2 ?_ ?_
      · rw [cst, Nat.add_comm 1 q]
      · rw [mst2]
        show some (mI 1 - t'.1 0 16, t') = _
        rw [e3, q_ms, Nat.add_comm 1 q]
end KR
