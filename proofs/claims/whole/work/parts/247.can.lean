/-! what hinders a letter: can -/
def rdh (w : Nat → Nat → Nat) (wh si : Nat → Nat) (m : Nat) : Nat := if m = 0 then si m else si m + w 0 (wh m)
/-- 0: it can; else what hinders -/
def rfs (w : Nat → Nat → Nat) (wh si : Nat → Nat) (n m : Nat) : Nat := if ¬ (w 1 m = wh (n - 1) ∨ w 2 m = wh (n - 1)) then 2 else if w 3 m < rdh w wh si (n - 1) then 3 else if n = 30 then 4 else 0
theorem rfs_cases (w : Nat → Nat → Nat) (wh si : Nat → Nat) (n m : Nat) : (¬ (w 1 m = wh n ∨ w 2 m = wh n) ∧ rfs w wh si (n + 1) m = 2) ∨ ((w 1 m = wh n ∨ w 2 m = wh n) ∧ w 3 m < rdh w wh si n ∧ rfs w wh si (n + 1) m = 3) ∨ ((w 1 m = wh n ∨ w 2 m = wh n) ∧ ¬ w 3 m < rdh w wh si n ∧ n + 1 = 30 ∧ rfs w wh si (n + 1) m = 4) ∨ ((w 1 m = wh n ∨ w 2 m = wh n) ∧ ¬ w 3 m < rdh w wh si n ∧ n + 1 ≠ 30 ∧ rfs w wh si (n + 1) m = 0) := by
  unfold rfs
  rw [Nat.add_sub_cancel]
  by_cases c1 : w 1 m = wh n ∨ w 2 m = wh n
  · by_cases c2 : w 3 m < rdh w wh si n
    · exact Or.inr (Or.inl ⟨c1, c2, by rw [if_neg (fun q => q c1), if_pos c2]⟩)
    · by_cases c3 : n + 1 = 30
      · exact Or.inr (Or.inr (Or.inl ⟨c1, c2, c3, by rw [if_neg (fun q => q c1), if_neg c2, if_pos c3]⟩))
      · exact Or.inr (Or.inr (Or.inr ⟨c1, c2, c3, by rw [if_neg (fun q => q c1), if_neg c2, if_neg c3]⟩))
  · exact Or.inl ⟨c1, by rw [if_pos c1]⟩
theorem rfs_le (w : Nat → Nat → Nat) (wh si : Nat → Nat) (n m : Nat) : rfs w wh si (n + 1) m ≤ 4 := by
  rcases rfs_cases w wh si n m with ⟨_, e⟩ | ⟨_, _, e⟩ | ⟨_, _, _, e⟩ | ⟨_, _, _, e⟩ <;> rw [e] <;> decide
section CN
variable {N l n m : Nat} {w : Nat → Nat → Nat} {wh si li : Nat → Nat} {s t : vSt}
theorem rdh_le (ho : okL (w 5 0) (n + 1) wh si li) (hw : okW w) : rdh w wh si n ≤ 108 := by
  have h := ho.2 n (Nat.lt_succ_self n)
  have h2 := hw.2.2.1 (wh n) h.1
  unfold rdh
  by_cases c : n = 0
  · rw [if_pos c]; omega
  · rw [if_neg c]; omega
theorem C_readyHour (h1 : CW w s) (hl : l < 3) (ho : okL (w 5 0) (n + 1) wh si li) (hC : CL l (n + 1) wh si li s) : fC_Post_readyHour N (nI l) s = some (nI (rdh w wh si n), s) := by
  have h := ho.2 n (Nat.lt_succ_self n)
  have hn := ho.1
  have hp := h1.ok.1
  have e1 := C_sinceAt (N := N) hl ho hC (Nat.lt_succ_self n)
  have e2 := C_holderAt (N := N) hl ho hC (Nat.lt_succ_self n)
  have e0 := hC.1
  have ep : nI (n + 1) - nI 1 = nI n := nI_pred n
  have er := h1.2.2.2.2.1 (wh n) h.1
  unfold rdh
  by_cases c : n = 0
  · subst c
    rw [if_pos rfl]
    simp (disch := omega) only [Option.bind_some, ↓reduceIte, ↓M_1, ↓M_2, L_0, L_1, L_2, L_3, L_4, L_5, L_6, L_7, L_8, L_9, L_10, L_11, L_12, L_13, L_20, L_24, L_26, L_30, L_31, L_32, L_39, L_40, L_48, L_57, L_76, L_80, L_90, L_91, L_97, L_99, L_100, L_255, L_273, L_1000, L_2000, q_ld, q_ldL, q_sto, q_stoL, q_add, q_sub, q_mul, q_dec, q_rem, q_div, q_lt_t, q_lt_f, q_le_t, q_le_f, q_eq_t, q_eq_f, q_em, q_me, q_ml, q_lm, q_mle, q_lem, q_s1, q_s1o, q_s1k, q_s12, q_s2, q_s2o, q_s2k, q_s21, Nat.add_sub_cancel, q_or, q_and, q_shl, true_or, or_true, false_or, or_false, true_and, and_true, false_and, and_false, not_true_eq_false, not_false_eq_true, ne_eq, fC_Post_readyHour, gC_Post_readyHour_0, e0, ep, e1]
  · rw [if_neg c]
    simp (disch := omega) only [Option.bind_some, ↓reduceIte, ↓M_1, ↓M_2, L_0, L_1, L_2, L_3, L_4, L_5, L_6, L_7, L_8, L_9, L_10, L_11, L_12, L_13, L_20, L_24, L_26, L_30, L_31, L_32, L_39, L_40, L_48, L_57, L_76, L_80, L_90, L_91, L_97, L_99, L_100, L_255, L_273, L_1000, L_2000, q_ld, q_ldL, q_sto, q_stoL, q_add, q_sub, q_mul, q_dec, q_rem, q_div, q_lt_t, q_lt_f, q_le_t, q_le_f, q_eq_t, q_eq_f, q_em, q_me, q_ml, q_lm, q_mle, q_lem, q_s1, q_s1o, q_s1k, q_s12, q_s2, q_s2o, q_s2k, q_s21, Nat.add_sub_cancel, q_or, q_and, q_shl, true_or, or_true, false_or, or_false, true_and, and_true, false_and, and_false, not_true_eq_false, not_false_eq_true, ne_eq, fC_Post_readyHour, gC_Post_readyHour_0, e0, ep, e1, e2, er]
theorem C_canHand (h1 : CW w s) (hl : l < 3) (ho : okL (w 5 0) (n + 1) wh si li) (hC : CL l (n + 1) wh si li s) (hm : m < w 5 1) : fC_Post_canHand N (nI l) (nI m) s = some (if rfs w wh si (n + 1) m = 0 then nI 1 else nI 0, s) := by
  have h := ho.2 n (Nat.lt_succ_self n)
  have hn := ho.1
  have hq := h1.ok.2.1
  have hw := h1.ok.2.2.2 m hm
  have hr := rdh_le ho h1.ok
  have e2 := C_holderAt (N := N) hl ho hC (Nat.lt_succ_self n)
  have e0 := hC.1
  have ep : nI (n + 1) - nI 1 = nI n := nI_pred n
  have ea := C_isAt (N := N) h1 hm h.1
  have er := C_readyHour (N := N) h1 hl ho hC
  rcases rfs_cases w wh si n m with ⟨c1, e⟩ | ⟨c1, c2, e⟩ | ⟨c1, c2, c3, e⟩ | ⟨c1, c2, c3, e⟩
  · rw [if_neg c1] at ea
    rw [e, if_neg (by decide)]
    by_cases c3 : n + 1 = 30
    · simp (disch := omega) only [Option.bind_some, ↓reduceIte, ↓M_1, ↓M_2, L_0, L_1, L_2, L_3, L_4, L_5, L_6, L_7, L_8, L_9, L_10, L_11, L_12, L_13, L_20, L_24, L_26, L_30, L_31, L_32, L_39, L_40, L_48, L_57, L_76, L_80, L_90, L_91, L_97, L_99, L_100, L_255, L_273, L_1000, L_2000, q_ld, q_ldL, q_sto, q_stoL, q_add, q_sub, q_mul, q_dec, q_rem, q_div, q_lt_t, q_lt_f, q_le_t, q_le_f, q_eq_t, q_eq_f, q_em, q_me, q_ml, q_lm, q_mle, q_lem, q_s1, q_s1o, q_s1k, q_s12, q_s2, q_s2o, q_s2k, q_s21, Nat.add_sub_cancel, q_or, q_and, q_shl, true_or, or_true, false_or, or_false, true_and, and_true, false_and, and_false, not_true_eq_false, not_false_eq_true, ne_eq, fC_Post_canHand, gC_Post_canHand_0, gC_Post_canHand_67, e0, ep, e2]
    · simp (disch := omega) only [Option.bind_some, ↓reduceIte, ↓M_1, ↓M_2, L_0, L_1, L_2, L_3, L_4, L_5, L_6, L_7, L_8, L_9, L_10, L_11, L_12, L_13, L_20, L_24, L_26, L_30, L_31, L_32, L_39, L_40, L_48, L_57, L_76, L_80, L_90, L_91, L_97, L_99, L_100, L_255, L_273, L_1000, L_2000, q_ld, q_ldL, q_sto, q_stoL, q_add, q_sub, q_mul, q_dec, q_rem, q_div, q_lt_t, q_lt_f, q_le_t, q_le_f, q_eq_t, q_eq_f, q_em, q_me, q_ml, q_lm, q_mle, q_lem, q_s1, q_s1o, q_s1k, q_s12, q_s2, q_s2o, q_s2k, q_s21, Nat.add_sub_cancel, q_or, q_and, q_shl, true_or, or_true, false_or, or_false, true_and, and_true, false_and, and_false, not_true_eq_false, not_false_eq_true, ne_eq, fC_Post_canHand, gC_Post_canHand_0, gC_Post_canHand_67, e0, ep, e2, ea]
  · rw [if_pos c1] at ea
    rw [e, if_neg (by decide)]
    by_cases c3 : n + 1 = 30
    · simp (disch := omega) only [Option.bind_some, ↓reduceIte, ↓M_1, ↓M_2, L_0, L_1, L_2, L_3, L_4, L_5, L_6, L_7, L_8, L_9, L_10, L_11, L_12, L_13, L_20, L_24, L_26, L_30, L_31, L_32, L_39, L_40, L_48, L_57, L_76, L_80, L_90, L_91, L_97, L_99, L_100, L_255, L_273, L_1000, L_2000, q_ld, q_ldL, q_sto, q_stoL, q_add, q_sub, q_mul, q_dec, q_rem, q_div, q_lt_t, q_lt_f, q_le_t, q_le_f, q_eq_t, q_eq_f, q_em, q_me, q_ml, q_lm, q_mle, q_lem, q_s1, q_s1o, q_s1k, q_s12, q_s2, q_s2o, q_s2k, q_s21, Nat.add_sub_cancel, q_or, q_and, q_shl, true_or, or_true, false_or, or_false, true_and, and_true, false_and, and_false, not_true_eq_false, not_false_eq_true, ne_eq, fC_Post_canHand, gC_Post_canHand_0, gC_Post_canHand_67, e0, ep, e2]
    · simp (disch := omega) only [Option.bind_some, ↓reduceIte, ↓M_1, ↓M_2, L_0, L_1, L_2, L_3, L_4, L_5, L_6, L_7, L_8, L_9, L_10, L_11, L_12, L_13, L_20, L_24, L_26, L_30, L_31, L_32, L_39, L_40, L_48, L_57, L_76, L_80, L_90, L_91, L_97, L_99, L_100, L_255, L_273, L_1000, L_2000, q_ld, q_ldL, q_sto, q_stoL, q_add, q_sub, q_mul, q_dec, q_rem, q_div, q_lt_t, q_lt_f, q_le_t, q_le_f, q_eq_t, q_eq_f, q_em, q_me, q_ml, q_lm, q_mle, q_lem, q_s1, q_s1o, q_s1k, q_s12, q_s2, q_s2o, q_s2k, q_s21, Nat.add_sub_cancel, q_or, q_and, q_shl, true_or, or_true, false_or, or_false, true_and, and_true, false_and, and_false, not_true_eq_false, not_false_eq_true, ne_eq, fC_Post_canHand, gC_Post_canHand_0, gC_Post_canHand_67, e0, ep, e2, ea, h1.h hm, er]
  · rw [e, if_neg (by decide)]
    simp (disch := omega) only [Option.bind_some, ↓reduceIte, ↓M_1, ↓M_2, L_0, L_1, L_2, L_3, L_4, L_5, L_6, L_7, L_8, L_9, L_10, L_11, L_12, L_13, L_20, L_24, L_26, L_30, L_31, L_32, L_39, L_40, L_48, L_57, L_76, L_80, L_90, L_91, L_97, L_99, L_100, L_255, L_273, L_1000, L_2000, q_ld, q_ldL, q_sto, q_stoL, q_add, q_sub, q_mul, q_dec, q_rem, q_div, q_lt_t, q_lt_f, q_le_t, q_le_f, q_eq_t, q_eq_f, q_em, q_me, q_ml, q_lm, q_mle, q_lem, q_s1, q_s1o, q_s1k, q_s12, q_s2, q_s2o, q_s2k, q_s21, Nat.add_sub_cancel, q_or, q_and, q_shl, true_or, or_true, false_or, or_false, true_and, and_true, false_and, and_false, not_true_eq_false, not_false_eq_true, ne_eq, fC_Post_canHand, gC_Post_canHand_0, gC_Post_canHand_67, e0, ep, e2]
  · rw [if_pos c1] at ea
    rw [e, if_pos rfl]
    simp (disch := omega) only [Option.bind_some, ↓reduceIte, ↓M_1, ↓M_2, L_0, L_1, L_2, L_3, L_4, L_5, L_6, L_7, L_8, L_9, L_10, L_11, L_12, L_13, L_20, L_24, L_26, L_30, L_31, L_32, L_39, L_40, L_48, L_57, L_76, L_80, L_90, L_91, L_97, L_99, L_100, L_255, L_273, L_1000, L_2000, q_ld, q_ldL, q_sto, q_stoL, q_add, q_sub, q_mul, q_dec, q_rem, q_div, q_lt_t, q_lt_f, q_le_t, q_le_f, q_eq_t, q_eq_f, q_em, q_me, q_ml, q_lm, q_mle, q_lem, q_s1, q_s1o, q_s1k, q_s12, q_s2, q_s2o, q_s2k, q_s21, Nat.add_sub_cancel, q_or, q_and, q_shl, true_or, or_true, false_or, or_false, true_and, and_true, false_and, and_false, not_true_eq_false, not_false_eq_true, ne_eq, fC_Post_canHand, gC_Post_canHand_0, gC_Post_canHand_67, e0, ep, e2, ea, h1.h hm, er]
theorem M_refusal (h2 : MW w t) (hl : l < 3) (ho : okL (w 5 0) (n + 1) wh si li) (hM : ML l (n + 1) wh si li t) (hm : m < w 5 1) : fM_EachAddsALineModel_refusal N (nI l) (nI m) t = some (if rfs w wh si (n + 1) m = 0 then nI 0 else mI (rfs w wh si (n + 1) m), t) := by
  have h := ho.2 n (Nat.lt_succ_self n)
  have hn := ho.1
  have hp := h2.ok.1
  have hq := h2.ok.2.1
  have hw := h2.ok.2.2.2 m hm
  have hr := rdh_le ho h2.ok
  have e2 := M_holder (N := N) hl ho hM
  have e3 := M_since (N := N) hl ho hM
  have e4 := M_linesOf (N := N) hl hM
  have ea := M_isThere (N := N) h2 hm h.1
  have ew := h2.2.2.2.1 (wh n) h.1
  have m4 : (-4 : Int32) = mI 4 := by decide
  have m3 : (-3 : Int32) = mI 3 := by decide
  have tl : ∀ k2, rdh w wh si n = si n + k2 → (w 1 m = wh n ∨ w 2 m = wh n) → gM_EachAddsALineModel_refusal_48 N (nI l) (nI (w 3 m)) (nI (si n)) (nI k2) t = some (if rfs w wh si (n + 1) m = 0 then nI 0 else mI (rfs w wh si (n + 1) m), t) := by
    intro k2 hr2 hc
    rw [gM_EachAddsALineModel_refusal_48, q_add, ← hr2]
    rcases rfs_cases w wh si n m with ⟨c1, e⟩ | ⟨c1, c2, e⟩ | ⟨c1, c2, c3, e⟩ | ⟨c1, c2, c3, e⟩
    · exact absurd hc c1
    · rw [e, if_neg (nI_ge c2 (by omega)), if_neg (by decide), m3]
    · rw [e, if_pos (nI_le (by omega) (by omega)), e4, Option.bind_some, if_neg (show ¬ 4 = 0 by decide), if_pos (show (nI (n + 1), t).1 = 30 from by rw [c3]; rfl), m4]
    · rw [e, if_pos (nI_le (by omega) (by omega)), e4, Option.bind_some, if_pos (show 0 = 0 from rfl), if_neg (show ¬ (nI (n + 1), t).1 = 30 from fun z => c3 ((nI_eq (b := 30) (by omega) (by omega)).mp z)), L_0]
  by_cases c1 : w 1 m = wh n ∨ w 2 m = wh n
  · rw [if_pos c1] at ea
    by_cases c : n = 0
    · have t0 := tl 0 (by unfold rdh; rw [if_pos c, Nat.add_zero]) c1
      rw [← t0]
      subst c
      simp (disch := omega) only [Option.bind_some, ↓reduceIte, ↓M_1, ↓M_2, L_0, L_1, L_2, L_3, L_4, L_5, L_6, L_7, L_8, L_9, L_10, L_11, L_12, L_13, L_20, L_24, L_26, L_30, L_31, L_32, L_39, L_40, L_48, L_57, L_76, L_80, L_90, L_91, L_97, L_99, L_100, L_255, L_273, L_1000, L_2000, q_ld, q_ldL, q_sto, q_stoL, q_add, q_sub, q_mul, q_dec, q_rem, q_div, q_lt_t, q_lt_f, q_le_t, q_le_f, q_eq_t, q_eq_f, q_em, q_me, q_ml, q_lm, q_mle, q_lem, q_s1, q_s1o, q_s1k, q_s12, q_s2, q_s2o, q_s2k, q_s21, Nat.add_sub_cancel, q_or, q_and, q_shl, true_or, or_true, false_or, or_false, true_and, and_true, false_and, and_false, not_true_eq_false, not_false_eq_true, ne_eq, fM_EachAddsALineModel_refusal, gM_EachAddsALineModel_refusal_0, e2, ea, h2.h hm, e3, e4]
    · have t0 := tl (w 0 (wh n)) (by unfold rdh; rw [if_neg c]) c1
      rw [← t0]
      simp (disch := omega) only [Option.bind_some, ↓reduceIte, ↓M_1, ↓M_2, L_0, L_1, L_2, L_3, L_4, L_5, L_6, L_7, L_8, L_9, L_10, L_11, L_12, L_13, L_20, L_24, L_26, L_30, L_31, L_32, L_39, L_40, L_48, L_57, L_76, L_80, L_90, L_91, L_97, L_99, L_100, L_255, L_273, L_1000, L_2000, q_ld, q_ldL, q_sto, q_stoL, q_add, q_sub, q_mul, q_dec, q_rem, q_div, q_lt_t, q_lt_f, q_le_t, q_le_f, q_eq_t, q_eq_f, q_em, q_me, q_ml, q_lm, q_mle, q_lem, q_s1, q_s1o, q_s1k, q_s12, q_s2, q_s2o, q_s2k, q_s21, Nat.add_sub_cancel, q_or, q_and, q_shl, true_or, or_true, false_or, or_false, true_and, and_true, false_and, and_false, not_true_eq_false, not_false_eq_true, ne_eq, fM_EachAddsALineModel_refusal, gM_EachAddsALineModel_refusal_0, e2, ea, h2.h hm, e3, e4, ew]
  · rw [if_neg c1] at ea
    rcases rfs_cases w wh si n m with ⟨_, e⟩ | ⟨c2, _⟩ | ⟨c2, _⟩ | ⟨c2, _⟩
    · rw [e, if_neg (by decide)]
      simp (disch := omega) only [Option.bind_some, ↓reduceIte, ↓M_1, ↓M_2, L_0, L_1, L_2, L_3, L_4, L_5, L_6, L_7, L_8, L_9, L_10, L_11, L_12, L_13, L_20, L_24, L_26, L_30, L_31, L_32, L_39, L_40, L_48, L_57, L_76, L_80, L_90, L_91, L_97, L_99, L_100, L_255, L_273, L_1000, L_2000, q_ld, q_ldL, q_sto, q_stoL, q_add, q_sub, q_mul, q_dec, q_rem, q_div, q_lt_t, q_lt_f, q_le_t, q_le_f, q_eq_t, q_eq_f, q_em, q_me, q_ml, q_lm, q_mle, q_lem, q_s1, q_s1o, q_s1k, q_s12, q_s2, q_s2o, q_s2k, q_s21, Nat.add_sub_cancel, q_or, q_and, q_shl, true_or, or_true, false_or, or_false, true_and, and_true, false_and, and_false, not_true_eq_false, not_false_eq_true, ne_eq, fM_EachAddsALineModel_refusal, gM_EachAddsALineModel_refusal_0, e2, ea]
    · exact absurd c2 c1
    · exact absurd c2 c1
    · exact absurd c2 c1
end CN
section CK
variable {N : Nat} {U : vSt → vSt → Prop}
theorem k_can (hU : okU U) (hN : 100 ≤ N) : keeps1 N (RR U) fC_EachAddsALine_can fM_EachAddsALineModel_can := fun s t h v => by
  obtain ⟨w, h1, h2, _, _, _, _, h7, _⟩ := id h
  have h2' := M_rd0 h2 (nI 0)
  have hq := h1.ok.2.1
  have kept : RR U s (s1 t 0 11 (nI 0)) := h.fr hU (Fr.rf (L := []) (K := [])) (Fm.w10 (L := []) (K := []) (F := [11]) (by decide)) (by decide) (by decide) (by decide)
  by_cases c : isP 3 v
  · obtain ⟨l, hl, rfl⟩ := c
    obtain ⟨n, wh, si, li, ho, hC, hM⟩ := h7.1.get hl
    have hn := ho.1
    have hM' : ML l n wh si li (s1 t 0 11 (nI 0)) := hM.fm (Fm.w10 (L := []) (K := []) (F := [11]) (by decide)) (by decide)
    have a1 := C_isThere (N := N) hl hn hC
    have b1 := M_isLetter (N := N) hl hn hM'
    by_cases c0 : n = 0
    · rw [if_pos c0] at a1 b1
      refine ⟨mI 1, s, s1 t 0 11 (nI 0), ?_, ?_, kept⟩
      · simp (disch := omega) only [Option.bind_some, ↓reduceIte, ↓M_1, ↓M_2, L_0, L_1, L_2, L_3, L_4, L_5, L_6, L_7, L_8, L_9, L_10, L_11, L_12, L_13, L_20, L_24, L_26, L_30, L_31, L_32, L_39, L_40, L_48, L_57, L_76, L_80, L_90, L_91, L_97, L_99, L_100, L_255, L_273, L_1000, L_2000, q_ld, q_ldL, q_sto, q_stoL, q_add, q_sub, q_mul, q_dec, q_rem, q_div, q_lt_t, q_lt_f, q_le_t, q_le_f, q_eq_t, q_eq_f, q_em, q_me, q_ml, q_lm, q_mle, q_lem, q_s1, q_s1o, q_s1k, q_s12, q_s2, q_s2o, q_s2k, q_s21, Nat.add_sub_cancel, q_or, q_and, q_shl, true_or, or_true, false_or, or_false, true_and, and_true, false_and, and_false, not_true_eq_false, not_false_eq_true, ne_eq, fC_EachAddsALine_can, gC_EachAddsALine_can_0, a1]
      · simp (disch := omega) only [Option.bind_some, ↓reduceIte, ↓M_1, ↓M_2, L_0, L_1, L_2, L_3, L_4, L_5, L_6, L_7, L_8, L_9, L_10, L_11, L_12, L_13, L_20, L_24, L_26, L_30, L_31, L_32, L_39, L_40, L_48, L_57, L_76, L_80, L_90, L_91, L_97, L_99, L_100, L_255, L_273, L_1000, L_2000, q_ld, q_ldL, q_sto, q_stoL, q_add, q_sub, q_mul, q_dec, q_rem, q_div, q_lt_t, q_lt_f, q_le_t, q_le_f, q_eq_t, q_eq_f, q_em, q_me, q_ml, q_lm, q_mle, q_lem, q_s1, q_s1o, q_s1k, q_s12, q_s2, q_s2o, q_s2k, q_s21, Nat.add_sub_cancel, q_or, q_and, q_shl, true_or, or_true, false_or, or_false, true_and, and_true, false_and, and_false, not_true_eq_false, not_false_eq_true, ne_eq, fM_EachAddsALineModel_can, gM_EachAddsALineModel_can_0, b1]
    · rw [if_neg c0] at a1 b1
      obtain ⟨n, rfl⟩ : ∃ k, n = k + 1 := ⟨n - 1, by omega⟩
      obtain ⟨f, hf⟩ : ∃ f : Nat → Bool, f = fun m => decide (rfs w wh si (n + 1) m = 0) := ⟨_, rfl⟩
      have hb : ∀ k, k ≤ 20 → bset f k < 2 ^ 20 := fun k z => Nat.lt_of_lt_of_le (bset_lt _ k) (Nat.pow_le_pow_right (by decide) z)
      have ft : ∀ m, rfs w wh si (n + 1) m = 0 → f m = true := fun m z => by rw [hf]; exact decide_eq_true z
      have ff : ∀ m, ¬ rfs w wh si (n + 1) m = 0 → f m = false := fun m z => by rw [hf]; exact decide_eq_false z
      refine ⟨nI (bset f (w 5 1)), s, s1 t 0 11 (nI 0), ?_, ?_, kept⟩
      · simp (disch := omega) only [Option.bind_some, ↓reduceIte, ↓M_1, ↓M_2, L_0, L_1, L_2, L_3, L_4, L_5, L_6, L_7, L_8, L_9, L_10, L_11, L_12, L_13, L_20, L_24, L_26, L_30, L_31, L_32, L_39, L_40, L_48, L_57, L_76, L_80, L_90, L_91, L_97, L_99, L_100, L_255, L_273, L_1000, L_2000, q_ld, q_ldL, q_sto, q_stoL, q_add, q_sub, q_mul, q_dec, q_rem, q_div, q_lt_t, q_lt_f, q_le_t, q_le_f, q_eq_t, q_eq_f, q_em, q_me, q_ml, q_lm, q_mle, q_lem, q_s1, q_s1o, q_s1k, q_s12, q_s2, q_s2o, q_s2k, q_s21, Nat.add_sub_cancel, q_or, q_and, q_shl, true_or, or_true, false_or, or_false, true_and, and_true, false_and, and_false, not_true_eq_false, not_false_eq_true, ne_eq, fC_EachAddsALine_can, gC_EachAddsALine_can_0, a1, fC_Post_openMeetings, gC_Post_openMeetings_0]
        have lp : gC_Post_openMeetings_4 N N (nI l) (nI 0) (nI 0) s = some (nI (bset f (w 5 1)), s) := by
          refine loopU (fun g m (a : Nat) => gC_Post_openMeetings_4 N g (nI l) (nI a) (nI m) s) (w 5 1) (fun m a => m ≤ w 5 1 ∧ a = bset f m) (fun o => o = some (nI (bset f (w 5 1)), s)) ?_ ?_ (w 5 1) N 0 0 (by omega) (by omega) ⟨by omega, rfl⟩
          · rintro g m a hm ⟨_, rfl⟩
            have e := C_canHand (N := N) h1 hl ho hC hm
            have b0 := hb m (by omega)
            have b2 : 2 ^ m < 2 ^ 21 := Nat.pow_lt_pow_right (by decide) (by omega)
            refine Or.inl ⟨_, ?_, by omega, rfl⟩
            rw [gC_Post_openMeetings_4]
            by_cases d : rfs w wh si (n + 1) m = 0
            · rw [if_pos d] at e
              rw [bset_t (ft m d)]
              simp (disch := omega) only [Option.bind_some, ↓reduceIte, ↓M_1, ↓M_2, L_0, L_1, L_2, L_3, L_4, L_5, L_6, L_7, L_8, L_9, L_10, L_11, L_12, L_13, L_20, L_24, L_26, L_30, L_31, L_32, L_39, L_40, L_48, L_57, L_76, L_80, L_90, L_91, L_97, L_99, L_100, L_255, L_273, L_1000, L_2000, q_ld, q_ldL, q_sto, q_stoL, q_add, q_sub, q_mul, q_dec, q_rem, q_div, q_lt_t, q_lt_f, q_le_t, q_le_f, q_eq_t, q_eq_f, q_em, q_me, q_ml, q_lm, q_mle, q_lem, q_s1, q_s1o, q_s1k, q_s12, q_s2, q_s2o, q_s2k, q_s21, Nat.add_sub_cancel, q_or, q_and, q_shl, true_or, or_true, false_or, or_false, true_and, and_true, false_and, and_false, not_true_eq_false, not_false_eq_true, ne_eq, e, h1.m, gC_Post_openMeetings_30]
            · rw [if_neg d] at e
              rw [bset_f (ff m d)]
              simp (disch := omega) only [Option.bind_some, ↓reduceIte, ↓M_1, ↓M_2, L_0, L_1, L_2, L_3, L_4, L_5, L_6, L_7, L_8, L_9, L_10, L_11, L_12, L_13, L_20, L_24, L_26, L_30, L_31, L_32, L_39, L_40, L_48, L_57, L_76, L_80, L_90, L_91, L_97, L_99, L_100, L_255, L_273, L_1000, L_2000, q_ld, q_ldL, q_sto, q_stoL, q_add, q_sub, q_mul, q_dec, q_rem, q_div, q_lt_t, q_lt_f, q_le_t, q_le_f, q_eq_t, q_eq_f, q_em, q_me, q_ml, q_lm, q_mle, q_lem, q_s1, q_s1o, q_s1k, q_s12, q_s2, q_s2o, q_s2k, q_s21, Nat.add_sub_cancel, q_or, q_and, q_shl, true_or, or_true, false_or, or_false, true_and, and_true, false_and, and_false, not_true_eq_false, not_false_eq_true, ne_eq, e, h1.m, gC_Post_openMeetings_30]
          · rintro g a ⟨_, rfl⟩
            show gC_Post_openMeetings_4 N (g + 1) (nI l) (nI _) (nI (w 5 1)) s = _
            rw [gC_Post_openMeetings_4]
            simp (disch := omega) only [Option.bind_some, ↓reduceIte, ↓M_1, ↓M_2, L_0, L_1, L_2, L_3, L_4, L_5, L_6, L_7, L_8, L_9, L_10, L_11, L_12, L_13, L_20, L_24, L_26, L_30, L_31, L_32, L_39, L_40, L_48, L_57, L_76, L_80, L_90, L_91, L_97, L_99, L_100, L_255, L_273, L_1000, L_2000, q_ld, q_ldL, q_sto, q_stoL, q_add, q_sub, q_mul, q_dec, q_rem, q_div, q_lt_t, q_lt_f, q_le_t, q_le_f, q_eq_t, q_eq_f, q_em, q_me, q_ml, q_lm, q_mle, q_lem, q_s1, q_s1o, q_s1k, q_s12, q_s2, q_s2o, q_s2k, q_s21, Nat.add_sub_cancel, q_or, q_and, q_shl, true_or, or_true, false_or, or_false, true_and, and_true, false_and, and_false, not_true_eq_false, not_false_eq_true, ne_eq, h1.m]
        rw [lp, Option.bind_some]
      · simp (disch := omega) only [Option.bind_some, ↓reduceIte, ↓M_1, ↓M_2, L_0, L_1, L_2, L_3, L_4, L_5, L_6, L_7, L_8, L_9, L_10, L_11, L_12, L_13, L_20, L_24, L_26, L_30, L_31, L_32, L_39, L_40, L_48, L_57, L_76, L_80, L_90, L_91, L_97, L_99, L_100, L_255, L_273, L_1000, L_2000, q_ld, q_ldL, q_sto, q_stoL, q_add, q_sub, q_mul, q_dec, q_rem, q_div, q_lt_t, q_lt_f, q_le_t, q_le_f, q_eq_t, q_eq_f, q_em, q_me, q_ml, q_lm, q_mle, q_lem, q_s1, q_s1o, q_s1k, q_s12, q_s2, q_s2o, q_s2k, q_s21, Nat.add_sub_cancel, q_or, q_and, q_shl, true_or, or_true, false_or, or_false, true_and, and_true, false_and, and_false, not_true_eq_false, not_false_eq_true, ne_eq, fM_EachAddsALineModel_can, gM_EachAddsALineModel_can_0, b1]
        refine loopU (fun g m (a : Nat) => gM_EachAddsALineModel_can_19 N g (nI l) (nI a) (nI m) (s1 t 0 11 (nI 0))) (w 5 1) (fun m a => m ≤ w 5 1 ∧ a = bset f m) (fun o => o = some (nI (bset f (w 5 1)), s1 t 0 11 (nI 0))) ?_ ?_ (w 5 1) N 0 0 (by omega) (by omega) ⟨by omega, rfl⟩
        · rintro g m a hm ⟨_, rfl⟩
          have e := M_refusal (N := N) h2' hl ho hM' hm
          have b0 := hb m (by omega)
          have b2 : 2 ^ m < 2 ^ 21 := Nat.pow_lt_pow_right (by decide) (by omega)
          refine Or.inl ⟨_, ?_, by omega, rfl⟩
          rw [gM_EachAddsALineModel_can_19]
          by_cases d : rfs w wh si (n + 1) m = 0
          · rw [if_pos d] at e
            rw [bset_t (ft m d)]
            simp (disch := omega) only [Option.bind_some, ↓reduceIte, ↓M_1, ↓M_2, L_0, L_1, L_2, L_3, L_4, L_5, L_6, L_7, L_8, L_9, L_10, L_11, L_12, L_13, L_20, L_24, L_26, L_30, L_31, L_32, L_39, L_40, L_48, L_57, L_76, L_80, L_90, L_91, L_97, L_99, L_100, L_255, L_273, L_1000, L_2000, q_ld, q_ldL, q_sto, q_stoL, q_add, q_sub, q_mul, q_dec, q_rem, q_div, q_lt_t, q_lt_f, q_le_t, q_le_f, q_eq_t, q_eq_f, q_em, q_me, q_ml, q_lm, q_mle, q_lem, q_s1, q_s1o, q_s1k, q_s12, q_s2, q_s2o, q_s2k, q_s21, Nat.add_sub_cancel, q_or, q_and, q_shl, true_or, or_true, false_or, or_false, true_and, and_true, false_and, and_false, not_true_eq_false, not_false_eq_true, ne_eq, e, h2.m, gM_EachAddsALineModel_can_44]
          · rw [if_neg d] at e
            have d4 := rfs_le w wh si n m
            rw [bset_f (ff m d)]
            simp (disch := omega) only [Option.bind_some, ↓reduceIte, ↓M_1, ↓M_2, L_0, L_1, L_2, L_3, L_4, L_5, L_6, L_7, L_8, L_9, L_10, L_11, L_12, L_13, L_20, L_24, L_26, L_30, L_31, L_32, L_39, L_40, L_48, L_57, L_76, L_80, L_90, L_91, L_97, L_99, L_100, L_255, L_273, L_1000, L_2000, q_ld, q_ldL, q_sto, q_stoL, q_add, q_sub, q_mul, q_dec, q_rem, q_div, q_lt_t, q_lt_f, q_le_t, q_le_f, q_eq_t, q_eq_f, q_em, q_me, q_ml, q_lm, q_mle, q_lem, q_s1, q_s1o, q_s1k, q_s12, q_s2, q_s2o, q_s2k, q_s21, Nat.add_sub_cancel, q_or, q_and, q_shl, true_or, or_true, false_or, or_false, true_and, and_true, false_and, and_false, not_true_eq_false, not_false_eq_true, ne_eq, e, h2.m, gM_EachAddsALineModel_can_44, Nat.or_zero]
        · rintro g a ⟨_, rfl⟩
          show gM_EachAddsALineModel_can_19 N (g + 1) (nI l) (nI _) (nI (w 5 1)) (s1 t 0 11 (nI 0)) = _
          rw [gM_EachAddsALineModel_can_19]
          simp (disch := omega) only [Option.bind_some, ↓reduceIte, ↓M_1, ↓M_2, L_0, L_1, L_2, L_3, L_4, L_5, L_6, L_7, L_8, L_9, L_10, L_11, L_12, L_13, L_20, L_24, L_26, L_30, L_31, L_32, L_39, L_40, L_48, L_57, L_76, L_80, L_90, L_91, L_97, L_99, L_100, L_255, L_273, L_1000, L_2000, q_ld, q_ldL, q_sto, q_stoL, q_add, q_sub, q_mul, q_dec, q_rem, q_div, q_lt_t, q_lt_f, q_le_t, q_le_f, q_eq_t, q_eq_f, q_em, q_me, q_ml, q_lm, q_mle, q_lem, q_s1, q_s1o, q_s1k, q_s12, q_s2, q_s2o, q_s2k, q_s21, Nat.add_sub_cancel, q_or, q_and, q_shl, true_or, or_true, false_or, or_false, true_and, and_true, false_and, and_false, not_true_eq_false, not_false_eq_true, ne_eq, h2.m]
  · refine ⟨mI 1, s, s1 t 0 11 (nI 0), ?_, ?_, kept⟩
    · simp (disch := omega) only [Option.bind_some, ↓reduceIte, ↓M_1, ↓M_2, L_0, L_1, L_2, L_3, L_4, L_5, L_6, L_7, L_8, L_9, L_10, L_11, L_12, L_13, L_20, L_24, L_26, L_30, L_31, L_32, L_39, L_40, L_48, L_57, L_76, L_80, L_90, L_91, L_97, L_99, L_100, L_255, L_273, L_1000, L_2000, q_ld, q_ldL, q_sto, q_stoL, q_add, q_sub, q_mul, q_dec, q_rem, q_div, q_lt_t, q_lt_f, q_le_t, q_le_f, q_eq_t, q_eq_f, q_em, q_me, q_ml, q_lm, q_mle, q_lem, q_s1, q_s1o, q_s1k, q_s12, q_s2, q_s2o, q_s2k, q_s21, Nat.add_sub_cancel, q_or, q_and, q_shl, true_or, or_true, false_or, or_false, true_and, and_true, false_and, and_false, not_true_eq_false, not_false_eq_true, ne_eq, fC_EachAddsALine_can, gC_EachAddsALine_can_0, C_isThere_f c]
    · simp (disch := omega) only [Option.bind_some, ↓reduceIte, ↓M_1, ↓M_2, L_0, L_1, L_2, L_3, L_4, L_5, L_6, L_7, L_8, L_9, L_10, L_11, L_12, L_13, L_20, L_24, L_26, L_30, L_31, L_32, L_39, L_40, L_48, L_57, L_76, L_80, L_90, L_91, L_97, L_99, L_100, L_255, L_273, L_1000, L_2000, q_ld, q_ldL, q_sto, q_stoL, q_add, q_sub, q_mul, q_dec, q_rem, q_div, q_lt_t, q_lt_f, q_le_t, q_le_f, q_eq_t, q_eq_f, q_em, q_me, q_ml, q_lm, q_mle, q_lem, q_s1, q_s1o, q_s1k, q_s12, q_s2, q_s2o, q_s2k, q_s21, Nat.add_sub_cancel, q_or, q_and, q_shl, true_or, or_true, false_or, or_false, true_and, and_true, false_and, and_false, not_true_eq_false, not_false_eq_true, ne_eq, fM_EachAddsALineModel_can, gM_EachAddsALineModel_can_0, M_isLetter_f c]
end CK
