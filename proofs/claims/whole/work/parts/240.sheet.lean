/-! sheet: the prices -/
theorem clm_ix (v : Int32) : ∃ j, j < 10 ∧ clm v = nI j := by
  rcases pk_ix v (n := 10) (by omega) with hv | hv | ⟨j, hj, rfl⟩
  · exact ⟨0, by omega, by simp (disch := omega) only [Option.bind_some, ↓reduceIte, ↓M_1, ↓M_2, L_0, L_1, L_2, L_3, L_4, L_5, L_6, L_7, L_8, L_9, L_10, L_11, L_12, L_13, L_20, L_24, L_26, L_30, L_31, L_32, L_39, L_40, L_48, L_57, L_76, L_80, L_90, L_91, L_97, L_99, L_100, L_255, L_273, L_1000, L_2000, q_ld, q_ldL, q_sto, q_stoL, q_add, q_sub, q_mul, q_dec, q_rem, q_div, q_lt_t, q_lt_f, q_le_t, q_le_f, q_eq_t, q_eq_f, q_em, q_me, q_ml, q_lm, q_mle, q_lem, q_s1, q_s1o, q_s1k, q_s12, q_s2, q_s2o, q_s2k, q_s21, Nat.add_sub_cancel, q_or, q_and, q_shl, true_or, or_true, false_or, or_false, true_and, and_true, false_and, and_false, not_true_eq_false, not_false_eq_true, ne_eq, clm, neg_lt hv, neg_nle hv, neg_ne hv, neg_le hv]; exact if_neg (show ¬ (0 : Int32) < v from fun z => Int32.lt_irrefl (Int32.lt_trans z hv))⟩
  · exact ⟨9, by omega, by simp (disch := omega) only [Option.bind_some, ↓reduceIte, ↓M_1, ↓M_2, L_0, L_1, L_2, L_3, L_4, L_5, L_6, L_7, L_8, L_9, L_10, L_11, L_12, L_13, L_20, L_24, L_26, L_30, L_31, L_32, L_39, L_40, L_48, L_57, L_76, L_80, L_90, L_91, L_97, L_99, L_100, L_255, L_273, L_1000, L_2000, q_ld, q_ldL, q_sto, q_stoL, q_add, q_sub, q_mul, q_dec, q_rem, q_div, q_lt_t, q_lt_f, q_le_t, q_le_f, q_eq_t, q_eq_f, q_em, q_me, q_ml, q_lm, q_mle, q_lem, q_s1, q_s1o, q_s1k, q_s12, q_s2, q_s2o, q_s2k, q_s21, Nat.add_sub_cancel, q_or, q_and, q_shl, true_or, or_true, false_or, or_false, true_and, and_true, false_and, and_false, not_true_eq_false, not_false_eq_true, ne_eq, clm, big_nlt hv, big_lt hv, big_nle hv, big_ne hv, big_le hv]⟩
  · refine ⟨j, hj, ?_⟩
    rcases Nat.lt_or_ge j 9 with c | c
    · rcases Nat.eq_zero_or_pos j with d | d
      · subst d; simp (disch := omega) only [Option.bind_some, ↓reduceIte, ↓M_1, ↓M_2, L_0, L_1, L_2, L_3, L_4, L_5, L_6, L_7, L_8, L_9, L_10, L_11, L_12, L_13, L_20, L_24, L_26, L_30, L_31, L_32, L_39, L_40, L_48, L_57, L_76, L_80, L_90, L_91, L_97, L_99, L_100, L_255, L_273, L_1000, L_2000, q_ld, q_ldL, q_sto, q_stoL, q_add, q_sub, q_mul, q_dec, q_rem, q_div, q_lt_t, q_lt_f, q_le_t, q_le_f, q_eq_t, q_eq_f, q_em, q_me, q_ml, q_lm, q_mle, q_lem, q_s1, q_s1o, q_s1k, q_s12, q_s2, q_s2o, q_s2k, q_s21, Nat.add_sub_cancel, q_or, q_and, q_shl, true_or, or_true, false_or, or_false, true_and, and_true, false_and, and_false, not_true_eq_false, not_false_eq_true, ne_eq, clm]
      · simp (disch := omega) only [Option.bind_some, ↓reduceIte, ↓M_1, ↓M_2, L_0, L_1, L_2, L_3, L_4, L_5, L_6, L_7, L_8, L_9, L_10, L_11, L_12, L_13, L_20, L_24, L_26, L_30, L_31, L_32, L_39, L_40, L_48, L_57, L_76, L_80, L_90, L_91, L_97, L_99, L_100, L_255, L_273, L_1000, L_2000, q_ld, q_ldL, q_sto, q_stoL, q_add, q_sub, q_mul, q_dec, q_rem, q_div, q_lt_t, q_lt_f, q_le_t, q_le_f, q_eq_t, q_eq_f, q_em, q_me, q_ml, q_lm, q_mle, q_lem, q_s1, q_s1o, q_s1k, q_s12, q_s2, q_s2o, q_s2k, q_s21, Nat.add_sub_cancel, q_or, q_and, q_shl, true_or, or_true, false_or, or_false, true_and, and_true, false_and, and_false, not_true_eq_false, not_false_eq_true, ne_eq, clm]
    · obtain rfl : j = 9 := by omega
      simp (disch := omega) only [Option.bind_some, ↓reduceIte, ↓M_1, ↓M_2, L_0, L_1, L_2, L_3, L_4, L_5, L_6, L_7, L_8, L_9, L_10, L_11, L_12, L_13, L_20, L_24, L_26, L_30, L_31, L_32, L_39, L_40, L_48, L_57, L_76, L_80, L_90, L_91, L_97, L_99, L_100, L_255, L_273, L_1000, L_2000, q_ld, q_ldL, q_sto, q_stoL, q_add, q_sub, q_mul, q_dec, q_rem, q_div, q_lt_t, q_lt_f, q_le_t, q_le_f, q_eq_t, q_eq_f, q_em, q_me, q_ml, q_lm, q_mle, q_lem, q_s1, q_s1o, q_s1k, q_s12, q_s2, q_s2o, q_s2k, q_s21, Nat.add_sub_cancel, q_or, q_and, q_shl, true_or, or_true, false_or, or_false, true_and, and_true, false_and, and_false, not_true_eq_false, not_false_eq_true, ne_eq, clm]
noncomputable def prN (k n : Nat) (f st : Int32) (m : Nat) : Nat := if k < 3 ∧ m < n then Classical.choose (clm_ix (nar k (f + nI m * st))) else 0
theorem prN_lt (k n : Nat) (f st : Int32) (m : Nat) : prN k n f st m < 10 := by
  unfold prN
  by_cases c : k < 3 ∧ m < n
  · rw [if_pos c]; exact (Classical.choose_spec (clm_ix (nar k (f + nI m * st)))).1
  · rw [if_neg c]; omega
theorem prN_t {k n m : Nat} (f st : Int32) (hk : k < 3) (hm : m < n) : clm (nar k (f + nI m * st)) = nI (prN k n f st m) := by
  unfold prN
  rw [if_pos ⟨hk, hm⟩]; exact (Classical.choose_spec (clm_ix (nar k (f + nI m * st)))).2
theorem prN_f {k n m : Nat} (f st : Int32) (h : ¬ (k < 3 ∧ m < n)) : prN k n f st m = 0 := if_neg h
theorem prN_3 (n : Nat) (f st : Int32) : prN 3 n f st = fun _ => 0 := funext fun m => prN_f f st (by omega)
def smI (p : Nat → Nat) : Nat → Int32
  | 0 => nI 0
  | i + 1 => smI p i + nI (p i)
theorem ev_0 (f st : Int32) : f + nI 0 * st = f := by
  show f + 0 * st = f
  rw [Int32.zero_mul, Int32.add_zero]
theorem ev_s (f st : Int32) (i : Nat) : f + nI i * st + st = f + nI (i + 1) * st := by
  rw [← nI_add, Int32.add_mul, Int32.add_assoc]
  show _ = f + (nI i * st + 1 * st)
  rw [Int32.one_mul]
section SH
variable {N : Nat} {s : vSt}
theorem C_priceFrom {k : Nat} (hk : k < 3) (v : Int32) : fC_Roads_priceFrom N (nI k) v s = some (clm (nar k v), s) := by
  have ek : k = 0 ∨ k = 1 ∨ k = 2 := by omega
  rw [fC_Roads_priceFrom, gC_Roads_priceFrom_0]
  rcases ek with rfl | rfl | rfl
  · rw [if_pos (by decide : nI 0 = 0), nar_0]; rfl
  · rw [if_neg (by decide : ¬ nI 1 = 0), if_pos (by decide : nI 1 = 1), nar_1]; rfl
  · rw [if_neg (by decide : ¬ nI 2 = 0), if_neg (by decide : ¬ nI 2 = 1), nar_2]; rfl
theorem C_42 {r : Int32 → Int32 → Int32 → Int32 → Int32 → Int32 → vSt → Option (Int32 × vSt)} {i : Nat} (hi : i < 20) (k n f st sm x : Int32) : gC_Roads_putPrices_42 N r k n f st sm (nI i) (nI i) x s = r k n f st (sm + x) (nI (i + 1)) (s1 s 14 i x) := by
  simp (disch := omega) only [Option.bind_some, ↓reduceIte, ↓M_1, ↓M_2, L_0, L_1, L_2, L_3, L_4, L_5, L_6, L_7, L_8, L_9, L_10, L_11, L_12, L_13, L_20, L_24, L_26, L_30, L_31, L_32, L_39, L_40, L_48, L_57, L_76, L_80, L_90, L_91, L_97, L_99, L_100, L_255, L_273, L_1000, L_2000, q_ld, q_ldL, q_sto, q_stoL, q_add, q_sub, q_mul, q_dec, q_rem, q_div, q_lt_t, q_lt_f, q_le_t, q_le_f, q_eq_t, q_eq_f, q_em, q_me, q_ml, q_lm, q_mle, q_lem, q_s1, q_s1o, q_s1k, q_s12, q_s2, q_s2o, q_s2k, q_s21, Nat.add_sub_cancel, q_or, q_and, q_shl, true_or, or_true, false_or, or_false, true_and, and_true, false_and, and_false, not_true_eq_false, not_false_eq_true, ne_eq, gC_Roads_putPrices_42]
theorem C_putPrices {k n M : Nat} (f st : Int32) (hk : k < 4) (hn : n ≤ 20) (h3 : k = 3 → n = 0) (hM : M ≤ 20) (h : s.1 9 7 = nI M) (hN : 30 ≤ N) : ∃ u, fC_Roads_putPrices N (nI k) (nI n) f st s = some (smI (prN k n f st) M, u) ∧ Fr [14] [] s u ∧ ∀ m, m < M → u.1 14 m = nI (prN k n f st m) := by
  rw [fC_Roads_putPrices, gC_Roads_putPrices_0]
  refine loopU (fun g i (a : vSt) => gC_Roads_putPrices_6 N g (nI k) (nI n) f st (smI (prN k n f st) i) (nI i) a) M (fun i a => i ≤ M ∧ Fr [14] [] s a ∧ ∀ m, m < i → a.1 14 m = nI (prN k n f st m)) (fun o => ∃ u, o = some (smI (prN k n f st) M, u) ∧ Fr [14] [] s u ∧ ∀ m, m < M → u.1 14 m = nI (prN k n f st m)) ?_ ?_ M N 0 s (by omega) (by omega) ⟨by omega, Fr.rf, fun m hm => by omega⟩
  · rintro g i a hi ⟨_, ha, hp⟩
    have e : a.1 9 7 = nI M := by rw [ha.1 9 (by decide)]; exact h
    refine Or.inl ⟨s1 a 14 i (nI (prN k n f st i)), ?_, by omega, ha.tr (Fr.s1 (by decide)), fun m hm => ?_⟩
    · show gC_Roads_putPrices_6 N (g + 1) (nI k) (nI n) f st (smI (prN k n f st) i) (nI i) a = gC_Roads_putPrices_6 N g (nI k) (nI n) f st (smI (prN k n f st) i + nI (prN k n f st i)) (nI (i + 1)) (s1 a 14 i (nI (prN k n f st i)))
      rw [gC_Roads_putPrices_6, e, if_neg (nI_ge hi (by omega))]
      by_cases c : n ≤ i
      · rw [if_pos (show nI n ≤ nI i from nI_le c (by omega)), prN_f f st (by omega)]
        exact C_42 (i := i) (by omega) _ _ _ _ _ _
      · rw [if_neg (show ¬ nI n ≤ nI i from nI_ge (by omega) (by omega)), C_priceFrom (by omega), Option.bind_some, prN_t (k := k) (n := n) (m := i) f st (by omega) (by omega)]
        exact C_42 (i := i) (by omega) _ _ _ _ _ _
    · by_cases d : m = i
      · subst d; rw [q_s1]
      · rw [q_s1k d]; exact hp m (by omega)
  · rintro g a ⟨_, ha, hp⟩
    have e : a.1 9 7 = nI M := by rw [ha.1 9 (by decide)]; exact h
    refine ⟨a, ?_, ha, hp⟩
    show gC_Roads_putPrices_6 N (g + 1) (nI k) (nI n) f st (smI (prN k n f st) M) (nI M) a = _
    rw [gC_Roads_putPrices_6, e, if_pos (Int32.le_refl _)]
theorem M_109 {r : Int32 → Int32 → Int32 → Int32 → Int32 → Int32 → vSt → Option (Int32 × vSt)} {i : Nat} (hi : i < 20) (k n st sm v x : Int32) : gM_EachAddsALineModel_sheet_109 N r k n st sm v (nI i) (nI i) x s = r k n st (sm + x) (v + st) (nI (i + 1)) (s1 s 5 i x) := by
  simp (disch := omega) only [Option.bind_some, ↓reduceIte, ↓M_1, ↓M_2, L_0, L_1, L_2, L_3, L_4, L_5, L_6, L_7, L_8, L_9, L_10, L_11, L_12, L_13, L_20, L_24, L_26, L_30, L_31, L_32, L_39, L_40, L_48, L_57, L_76, L_80, L_90, L_91, L_97, L_99, L_100, L_255, L_273, L_1000, L_2000, q_ld, q_ldL, q_sto, q_stoL, q_add, q_sub, q_mul, q_dec, q_rem, q_div, q_lt_t, q_lt_f, q_le_t, q_le_f, q_eq_t, q_eq_f, q_em, q_me, q_ml, q_lm, q_mle, q_lem, q_s1, q_s1o, q_s1k, q_s12, q_s2, q_s2o, q_s2k, q_s21, Nat.add_sub_cancel, q_or, q_and, q_shl, true_or, or_true, false_or, or_false, true_and, and_true, false_and, and_false, not_true_eq_false, not_false_eq_true, ne_eq, gM_EachAddsALineModel_sheet_109]
theorem M_step {k i g : Nat} {a2 st sm v x : Int32} (hc : ¬ s.1 0 2 ≤ nI i) (hx : (k = 3 ∧ x = 0) ∨ (k < 3 ∧ ((nI i < a2 ∧ x = clm (nar k v)) ∨ (¬ nI i < a2 ∧ x = 0)))) : gM_EachAddsALineModel_sheet_43 N (g + 1) (nI k) a2 st sm v (nI i) s = gM_EachAddsALineModel_sheet_109 N (gM_EachAddsALineModel_sheet_43 N g) (nI k) a2 st sm v (nI i) (nI i) x s := by
  rw [gM_EachAddsALineModel_sheet_43, if_neg hc]
  rcases hx with ⟨rfl, rfl⟩ | ⟨h3, hx⟩
  · rw [if_neg (by decide : ¬ nI 3 = 0), if_neg (by decide : ¬ nI 3 = 1), gM_EachAddsALineModel_sheet_75, if_pos (by decide : nI 3 = 3)]; rfl
  · have ek : k = 0 ∨ k = 1 ∨ k = 2 := by omega
    rcases ek with rfl | rfl | rfl
    · rw [if_pos (by decide : nI 0 = 0), gM_EachAddsALineModel_sheet_75, if_neg (by decide : ¬ nI 0 = 3)]
      rw [nar_0] at hx
      rcases hx with ⟨hx, rfl⟩ | ⟨hx, rfl⟩
      · rw [if_pos hx]; rfl
      · rw [if_neg hx]; rfl
    · rw [if_neg (by decide : ¬ nI 1 = 0), if_pos (by decide : nI 1 = 1), gM_EachAddsALineModel_sheet_75, if_neg (by decide : ¬ nI 1 = 3)]
      rw [nar_1] at hx
      rcases hx with ⟨hx, rfl⟩ | ⟨hx, rfl⟩
      · rw [if_pos hx]; rfl
      · rw [if_neg hx]; rfl
    · rw [if_neg (by decide : ¬ nI 2 = 0), if_neg (by decide : ¬ nI 2 = 1), gM_EachAddsALineModel_sheet_75, if_neg (by decide : ¬ nI 2 = 3)]
      rw [nar_2] at hx
      rcases hx with ⟨hx, rfl⟩ | ⟨hx, rfl⟩
      · rw [if_pos hx]; rfl
      · rw [if_neg hx]; rfl
theorem M_putPrices {k n M : Nat} (a2 f st : Int32) (hn : n ≤ 20) (h3 : k = 3 ∨ (k < 3 ∧ a2 = nI n)) (hM : M ≤ 20) (h : s.1 0 2 = nI M) (hN : 30 ≤ N) : ∃ u, gM_EachAddsALineModel_sheet_34 N (nI k) a2 f st s = some (if k = 3 then mI 3 else smI (prN k n f st) M, u) ∧ Fm [5] [] [] s u ∧ ∀ m, m < M → u.1 5 m = nI (prN k n f st m) := by
  rw [gM_EachAddsALineModel_sheet_34]
  have hG : gM_EachAddsALineModel_sheet_43 N N (nI k) a2 st 0 f 0 s = gM_EachAddsALineModel_sheet_43 N N (nI k) a2 st (smI (prN k n f st) 0) (f + nI 0 * st) (nI 0) s := by rw [ev_0]; rfl
  rw [hG]
  refine loopU (fun g i (a : vSt) => gM_EachAddsALineModel_sheet_43 N g (nI k) a2 st (smI (prN k n f st) i) (f + nI i * st) (nI i) a) M (fun i a => i ≤ M ∧ Fm [5] [] [] s a ∧ ∀ m, m < i → a.1 5 m = nI (prN k n f st m)) (fun o => ∃ u, o = some (if k = 3 then mI 3 else smI (prN k n f st) M, u) ∧ Fm [5] [] [] s u ∧ ∀ m, m < M → u.1 5 m = nI (prN k n f st m)) ?_ ?_ M N 0 s (by omega) (by omega) ⟨by omega, Fm.rf, fun m hm => by omega⟩
  · rintro g i a hi ⟨_, ha, hp⟩
    have e : a.1 0 2 = nI M := by rw [ha.2.2 2 (by decide)]; exact h
    refine Or.inl ⟨s1 a 5 i (nI (prN k n f st i)), ?_, by omega, ha.tr (Fm.w1 (by decide) (by decide)), fun m hm => ?_⟩
    · show gM_EachAddsALineModel_sheet_43 N (g + 1) (nI k) a2 st (smI (prN k n f st) i) (f + nI i * st) (nI i) a = gM_EachAddsALineModel_sheet_43 N g (nI k) a2 st (smI (prN k n f st) i + nI (prN k n f st i)) (f + nI (i + 1) * st) (nI (i + 1)) (s1 a 5 i (nI (prN k n f st i)))
      refine (M_step (x := nI (prN k n f st i)) (by rw [e]; exact nI_ge hi (by omega)) ?_).trans ((M_109 (N := N) (s := a) (i := i) (by omega) _ _ _ _ _ _).trans (by rw [ev_s]))
      rcases h3 with rfl | ⟨h3, rfl⟩
      · exact Or.inl ⟨rfl, by rw [prN_f f st (by omega)]; rfl⟩
      · refine Or.inr ⟨h3, ?_⟩
        by_cases c : i < n
        · exact Or.inl ⟨nI_lt c (by omega), (prN_t f st h3 c).symm⟩
        · exact Or.inr ⟨nI_nlt (show n ≤ i by omega) (by omega), by rw [prN_f f st (by omega)]; rfl⟩
    · by_cases d : m = i
      · subst d; rw [q_s1]
      · rw [q_s1k d]; exact hp m (by omega)
  · rintro g a ⟨_, ha, hp⟩
    have e : a.1 0 2 = nI M := by rw [ha.2.2 2 (by decide)]; exact h
    refine ⟨a, ?_, ha, hp⟩
    show gM_EachAddsALineModel_sheet_43 N (g + 1) (nI k) a2 st (smI (prN k n f st) M) (f + nI M * st) (nI M) a = _
    rw [gM_EachAddsALineModel_sheet_43, e, if_pos (Int32.le_refl _)]
    rcases h3 with rfl | ⟨h3, rfl⟩
    · rw [if_pos (by decide : nI 3 = 3), if_pos rfl]; rfl
    · rw [if_neg (show ¬ nI k = 3 from fun z => absurd ((nI_eq (b := 3) (by omega) (by omega)).mp z) (by omega)), if_neg (by omega)]
end SH
section SK
variable {N : Nat} {U : vSt → vSt → Prop}
def wp (w : Nat → Nat → Nat) (p : Nat → Nat) : Nat → Nat → Nat := fun i m => if i = 4 then p m else w i m
theorem wp_i {w : Nat → Nat → Nat} {p : Nat → Nat} {i m : Nat} (h : i ≠ 4) : wp w p i m = w i m := if_neg h
theorem wp_4 (w : Nat → Nat → Nat) (p : Nat → Nat) (m : Nat) : wp w p 4 m = p m := if_pos rfl
theorem RR.pr (hU : okU U) {w : Nat → Nat → Nat} {p : Nat → Nat} {s t u v : vSt} (hp : ∀ m, p m < 10) (h1 : CW w s) (h2 : MW w t) (h3 : TX s t) (h4 : RO s t) (h5 : TLr 5 6 40 0 s t) (h6 : TLr 7 8 41 12 s t) (h7 : KP (w 5 0) s t) (h8 : U s t) (h9 : MC t)
    (f : Fr [14] [] s u) (g : Fm [5] [] [11] t v) (a : ∀ m, m < w 5 1 → u.1 14 m = nI (p m)) (b : ∀ m, m < w 5 1 → v.1 5 m = nI (p m)) : RR U u v := by
  have hw : okW (wp w p) := by
    obtain ⟨k1, k2, k3, k4⟩ := h1.ok
    refine ⟨k1, k2, k3, fun k hk => ?_⟩
    obtain ⟨q1, q2, q3, q4, q5⟩ := k4 k hk
    have := hp k
    exact ⟨q1, q2, q3, q4, by rw [wp_4]; omega⟩
  refine RR.w hU (w := w) (w' := wp w p) ?_ ?_ (Nat.le_refl _) h3 h4 h5 h6 h7 h8 h9 f g (by decide) (by decide) (by decide)
  · refine ⟨hw, h1.or, ?_, ?_, ?_, fun k hk => ⟨?_, ?_, ?_, ?_⟩, ?_⟩
    · rw [f.1 9 (by decide)]; exact h1.p
    · rw [f.1 9 (by decide)]; exact h1.m
    · rw [f.1 10 (by decide)]; exact h1.2.2.2.2.1
    · rw [f.1 11 (by decide)]; exact h1.a hk
    · rw [f.1 12 (by decide)]; exact h1.b hk
    · rw [f.1 13 (by decide)]; exact h1.h hk
    · rw [wp_4]; exact a k hk
    · rw [f.1 15 (by decide)]; exact h1.2.2.2.2.2.2
  · refine ⟨hw, ?_, ?_, ?_, fun k hk => ⟨?_, ?_, ?_, ?_⟩⟩
    · rw [g.2.2 0 (by decide)]; exact h2.p
    · rw [g.2.2 2 (by decide)]; exact h2.m
    · rw [g.1 1 (by decide) (by decide)]; exact h2.2.2.2.1
    · rw [g.1 2 (by decide) (by decide)]; exact h2.a hk
    · rw [g.1 3 (by decide) (by decide)]; exact h2.b hk
    · rw [g.1 4 (by decide) (by decide)]; exact h2.h hk
    · rw [wp_4]; exact b k hk
theorem k_sheet (hU : okU U) (hN : 30 ≤ N) : keeps4 N (RR U) fC_EachAddsALine_sheet fM_EachAddsALineModel_sheet := fun s t h a b f st => by
  obtain ⟨w, h1, h2, h3, h4, h5, h6, h7, h8, h9⟩ := id h
  have h2' := M_rd0 h2 (nI 0)
  have hq := h1.ok.2.1
  have kept : RR U s (s1 t 0 11 (nI 0)) := h.fr hU (Fr.rf (L := []) (K := [])) (Fm.w10 (L := []) (K := []) (F := [11]) (by decide)) (by decide) (by decide) (by decide)
  rcases pk_ix a (n := 4) (by omega) with ha | ha | ⟨k, hk, rfl⟩
  · refine ⟨mI 1, s, _, ?_, ?_, kept⟩
    · simp (disch := omega) only [Option.bind_some, ↓reduceIte, ↓M_1, ↓M_2, L_0, L_1, L_2, L_3, L_4, L_5, L_6, L_7, L_8, L_9, L_10, L_11, L_12, L_13, L_20, L_24, L_26, L_30, L_31, L_32, L_39, L_40, L_48, L_57, L_76, L_80, L_90, L_91, L_97, L_99, L_100, L_255, L_273, L_1000, L_2000, q_ld, q_ldL, q_sto, q_stoL, q_add, q_sub, q_mul, q_dec, q_rem, q_div, q_lt_t, q_lt_f, q_le_t, q_le_f, q_eq_t, q_eq_f, q_em, q_me, q_ml, q_lm, q_mle, q_lem, q_s1, q_s1o, q_s1k, q_s12, q_s2, q_s2o, q_s2k, q_s21, Nat.add_sub_cancel, q_or, q_and, q_shl, true_or, or_true, false_or, or_false, true_and, and_true, false_and, and_false, not_true_eq_false, not_false_eq_true, ne_eq, fC_EachAddsALine_sheet, gC_EachAddsALine_sheet_0, neg_lt ha, neg_nle ha, neg_ne ha, neg_le ha]
    · simp (disch := omega) only [Option.bind_some, ↓reduceIte, ↓M_1, ↓M_2, L_0, L_1, L_2, L_3, L_4, L_5, L_6, L_7, L_8, L_9, L_10, L_11, L_12, L_13, L_20, L_24, L_26, L_30, L_31, L_32, L_39, L_40, L_48, L_57, L_76, L_80, L_90, L_91, L_97, L_99, L_100, L_255, L_273, L_1000, L_2000, q_ld, q_ldL, q_sto, q_stoL, q_add, q_sub, q_mul, q_dec, q_rem, q_div, q_lt_t, q_lt_f, q_le_t, q_le_f, q_eq_t, q_eq_f, q_em, q_me, q_ml, q_lm, q_mle, q_lem, q_s1, q_s1o, q_s1k, q_s12, q_s2, q_s2o, q_s2k, q_s21, Nat.add_sub_cancel, q_or, q_and, q_shl, true_or, or_true, false_or, or_false, true_and, and_true, false_and, and_false, not_true_eq_false, not_false_eq_true, ne_eq, fM_EachAddsALineModel_sheet, gM_EachAddsALineModel_sheet_0, M_in_any, neg_lt ha, neg_nle ha, neg_ne ha, neg_le ha]
  · refine ⟨mI 1, s, _, ?_, ?_, kept⟩
    · simp (disch := omega) only [Option.bind_some, ↓reduceIte, ↓M_1, ↓M_2, L_0, L_1, L_2, L_3, L_4, L_5, L_6, L_7, L_8, L_9, L_10, L_11, L_12, L_13, L_20, L_24, L_26, L_30, L_31, L_32, L_39, L_40, L_48, L_57, L_76, L_80, L_90, L_91, L_97, L_99, L_100, L_255, L_273, L_1000, L_2000, q_ld, q_ldL, q_sto, q_stoL, q_add, q_sub, q_mul, q_dec, q_rem, q_div, q_lt_t, q_lt_f, q_le_t, q_le_f, q_eq_t, q_eq_f, q_em, q_me, q_ml, q_lm, q_mle, q_lem, q_s1, q_s1o, q_s1k, q_s12, q_s2, q_s2o, q_s2k, q_s21, Nat.add_sub_cancel, q_or, q_and, q_shl, true_or, or_true, false_or, or_false, true_and, and_true, false_and, and_false, not_true_eq_false, not_false_eq_true, ne_eq, fC_EachAddsALine_sheet, gC_EachAddsALine_sheet_0, big_nlt ha, big_lt ha, big_nle ha, big_ne ha, big_le ha]
    · simp (disch := omega) only [Option.bind_some, ↓reduceIte, ↓M_1, ↓M_2, L_0, L_1, L_2, L_3, L_4, L_5, L_6, L_7, L_8, L_9, L_10, L_11, L_12, L_13, L_20, L_24, L_26, L_30, L_31, L_32, L_39, L_40, L_48, L_57, L_76, L_80, L_90, L_91, L_97, L_99, L_100, L_255, L_273, L_1000, L_2000, q_ld, q_ldL, q_sto, q_stoL, q_add, q_sub, q_mul, q_dec, q_rem, q_div, q_lt_t, q_lt_f, q_le_t, q_le_f, q_eq_t, q_eq_f, q_em, q_me, q_ml, q_lm, q_mle, q_lem, q_s1, q_s1o, q_s1k, q_s12, q_s2, q_s2o, q_s2k, q_s21, Nat.add_sub_cancel, q_or, q_and, q_shl, true_or, or_true, false_or, or_false, true_and, and_true, false_and, and_false, not_true_eq_false, not_false_eq_true, ne_eq, fM_EachAddsALineModel_sheet, gM_EachAddsALineModel_sheet_0, M_in_any, big_nlt ha, big_lt ha, big_nle ha, big_ne ha, big_le ha]
  · have mc : (s1 t 0 11 (nI 0)).1 0 2 = nI (w 5 1) := h2'.m
    have fin : ∀ n, n ≤ 20 → (k = 3 → n = 0) → (k < 3 → b = nI n) → b ≤ nI 20 → ∀ f' st', (k < 3 → f' = f ∧ st' = st) → (k = 3 → f' = 0 ∧ st' = 0) → fC_EachAddsALine_sheet N (nI k) b f st s = (if k = 3 then (fC_Roads_putPrices N (nI k) (nI n) f' st' s).bind fun p => some (mI 3, p.2) else fC_Roads_putPrices N (nI k) (nI n) f' st' s) → ∃ r s' t', fC_EachAddsALine_sheet N (nI k) b f st s = some (r, s') ∧ fM_EachAddsALineModel_sheet N (nI k) b f st t = some (r, t') ∧ RR U s' t' := by
      intro n hn h3n hb hb20 f' st' e1 e2 hC
      obtain ⟨u, q1, q2, q3⟩ := C_putPrices (N := N) (s := s) (k := k) (n := n) f' st' hk hn h3n hq h1.m hN
      obtain ⟨v, p1, p2, p3⟩ := M_putPrices (N := N) (s := s1 t 0 11 (nI 0)) (k := k) (n := n) b f st hn (by rcases Nat.lt_or_ge k 3 with c | c; exact Or.inr ⟨c, hb c⟩; exact Or.inl (by omega)) hq mc hN
      have ep : prN k n f' st' = prN k n f st := by
        rcases Nat.lt_or_ge k 3 with c | c
        · rw [(e1 c).1, (e1 c).2]
        · obtain rfl : k = 3 := by omega
          rw [prN_3, prN_3]
      rw [ep] at q1 q3
      refine ⟨if k = 3 then mI 3 else smI (prN k n f st) (w 5 1), u, v, ?_, ?_, RR.pr hU (p := prN k n f st) (prN_lt k n f st) h1 h2 h3 h4 h5 h6 h7 h8 h9 q2 ((Fm.w10 (L := [5]) (K := []) (F := [11]) (by decide)).tr (p2.mono (by decide) (by decide) (by decide))) q3 p3⟩
      · rw [hC, q1]
        by_cases c : k = 3
        · rw [if_pos c, if_pos c]; rfl
        · rw [if_neg c, if_neg c]
      · rw [← p1]
        rw [fM_EachAddsALineModel_sheet, gM_EachAddsALineModel_sheet_0]
        have i1 : fM_EachAddsALineModel_in N (nI k) (nI 0) (nI 3) (s1 t 0 11 (nI 0)) = some (nI 1, s1 t 0 11 (nI 0)) := by simp (disch := omega) only [Option.bind_some, ↓reduceIte, ↓M_1, ↓M_2, L_0, L_1, L_2, L_3, L_4, L_5, L_6, L_7, L_8, L_9, L_10, L_11, L_12, L_13, L_20, L_24, L_26, L_30, L_31, L_32, L_39, L_40, L_48, L_57, L_76, L_80, L_90, L_91, L_97, L_99, L_100, L_255, L_273, L_1000, L_2000, q_ld, q_ldL, q_sto, q_stoL, q_add, q_sub, q_mul, q_dec, q_rem, q_div, q_lt_t, q_lt_f, q_le_t, q_le_f, q_eq_t, q_eq_f, q_em, q_me, q_ml, q_lm, q_mle, q_lem, q_s1, q_s1o, q_s1k, q_s12, q_s2, q_s2o, q_s2k, q_s21, Nat.add_sub_cancel, q_or, q_and, q_shl, true_or, or_true, false_or, or_false, true_and, and_true, false_and, and_false, not_true_eq_false, not_false_eq_true, ne_eq, M_in_any]
        have i2 : ¬ (nI 1 = 0) := by decide
        show ((fM_EachAddsALineModel_in N (nI k) (nI 0) (nI 3) (s1 t 0 11 (nI 0))).bind _) = _
        rw [i1, Option.bind_some]
        show (if nI 1 = 0 then _ else if b ≤ nI 20 then _ else _) = _
        rw [if_neg i2, if_pos hb20]
        rcases Nat.lt_or_ge k 3 with c | c
        · rw [if_neg (show ¬ 3 ≤ nI k from nI_ge (b := 3) c (by omega)), hb c, if_pos (show (0 : Int32) ≤ nI n from nI_pos' (by omega))]
        · rw [if_pos (show (3 : Int32) ≤ nI k from nI_le (a := 3) c (by omega))]
    rcases pk_ix b (n := 21) (by omega) with hb | hb | ⟨n, hn, rfl⟩
    · rcases Nat.lt_or_ge k 3 with c | c
      · refine ⟨mI 2, s, _, ?_, ?_, kept⟩
        · simp (disch := omega) only [Option.bind_some, ↓reduceIte, ↓M_1, ↓M_2, L_0, L_1, L_2, L_3, L_4, L_5, L_6, L_7, L_8, L_9, L_10, L_11, L_12, L_13, L_20, L_24, L_26, L_30, L_31, L_32, L_39, L_40, L_48, L_57, L_76, L_80, L_90, L_91, L_97, L_99, L_100, L_255, L_273, L_1000, L_2000, q_ld, q_ldL, q_sto, q_stoL, q_add, q_sub, q_mul, q_dec, q_rem, q_div, q_lt_t, q_lt_f, q_le_t, q_le_f, q_eq_t, q_eq_f, q_em, q_me, q_ml, q_lm, q_mle, q_lem, q_s1, q_s1o, q_s1k, q_s12, q_s2, q_s2o, q_s2k, q_s21, Nat.add_sub_cancel, q_or, q_and, q_shl, true_or, or_true, false_or, or_false, true_and, and_true, false_and, and_false, not_true_eq_false, not_false_eq_true, ne_eq, fC_EachAddsALine_sheet, gC_EachAddsALine_sheet_0, neg_lt hb, neg_nle hb, neg_ne hb, neg_le hb]
        · simp (disch := omega) only [Option.bind_some, ↓reduceIte, ↓M_1, ↓M_2, L_0, L_1, L_2, L_3, L_4, L_5, L_6, L_7, L_8, L_9, L_10, L_11, L_12, L_13, L_20, L_24, L_26, L_30, L_31, L_32, L_39, L_40, L_48, L_57, L_76, L_80, L_90, L_91, L_97, L_99, L_100, L_255, L_273, L_1000, L_2000, q_ld, q_ldL, q_sto, q_stoL, q_add, q_sub, q_mul, q_dec, q_rem, q_div, q_lt_t, q_lt_f, q_le_t, q_le_f, q_eq_t, q_eq_f, q_em, q_me, q_ml, q_lm, q_mle, q_lem, q_s1, q_s1o, q_s1k, q_s12, q_s2, q_s2o, q_s2k, q_s21, Nat.add_sub_cancel, q_or, q_and, q_shl, true_or, or_true, false_or, or_false, true_and, and_true, false_and, and_false, not_true_eq_false, not_false_eq_true, ne_eq, fM_EachAddsALineModel_sheet, gM_EachAddsALineModel_sheet_0, M_in_any, neg_lt hb, neg_nle hb, neg_ne hb, neg_le hb]
      · obtain rfl : k = 3 := by omega
        refine fin 0 (by omega) (fun _ => rfl) (fun z => by omega) (by simp (disch := omega) only [Option.bind_some, ↓reduceIte, ↓M_1, ↓M_2, L_0, L_1, L_2, L_3, L_4, L_5, L_6, L_7, L_8, L_9, L_10, L_11, L_12, L_13, L_20, L_24, L_26, L_30, L_31, L_32, L_39, L_40, L_48, L_57, L_76, L_80, L_90, L_91, L_97, L_99, L_100, L_255, L_273, L_1000, L_2000, q_ld, q_ldL, q_sto, q_stoL, q_add, q_sub, q_mul, q_dec, q_rem, q_div, q_lt_t, q_lt_f, q_le_t, q_le_f, q_eq_t, q_eq_f, q_em, q_me, q_ml, q_lm, q_mle, q_lem, q_s1, q_s1o, q_s1k, q_s12, q_s2, q_s2o, q_s2k, q_s21, Nat.add_sub_cancel, q_or, q_and, q_shl, true_or, or_true, false_or, or_false, true_and, and_true, false_and, and_false, not_true_eq_false, not_false_eq_true, ne_eq, neg_lt hb, neg_nle hb, neg_ne hb, neg_le hb]) 0 0 (fun z => by omega) (fun _ => ⟨rfl, rfl⟩) ?_
        simp (disch := omega) only [Option.bind_some, ↓reduceIte, ↓M_1, ↓M_2, L_0, L_1, L_2, L_3, L_4, L_5, L_6, L_7, L_8, L_9, L_10, L_11, L_12, L_13, L_20, L_24, L_26, L_30, L_31, L_32, L_39, L_40, L_48, L_57, L_76, L_80, L_90, L_91, L_97, L_99, L_100, L_255, L_273, L_1000, L_2000, q_ld, q_ldL, q_sto, q_stoL, q_add, q_sub, q_mul, q_dec, q_rem, q_div, q_lt_t, q_lt_f, q_le_t, q_le_f, q_eq_t, q_eq_f, q_em, q_me, q_ml, q_lm, q_mle, q_lem, q_s1, q_s1o, q_s1k, q_s12, q_s2, q_s2o, q_s2k, q_s21, Nat.add_sub_cancel, q_or, q_and, q_shl, true_or, or_true, false_or, or_false, true_and, and_true, false_and, and_false, not_true_eq_false, not_false_eq_true, ne_eq, fC_EachAddsALine_sheet, gC_EachAddsALine_sheet_0, neg_lt hb, neg_nle hb, neg_ne hb, neg_le hb]
        rfl
    · refine ⟨mI 1, s, _, ?_, ?_, kept⟩
      · simp (disch := omega) only [Option.bind_some, ↓reduceIte, ↓M_1, ↓M_2, L_0, L_1, L_2, L_3, L_4, L_5, L_6, L_7, L_8, L_9, L_10, L_11, L_12, L_13, L_20, L_24, L_26, L_30, L_31, L_32, L_39, L_40, L_48, L_57, L_76, L_80, L_90, L_91, L_97, L_99, L_100, L_255, L_273, L_1000, L_2000, q_ld, q_ldL, q_sto, q_stoL, q_add, q_sub, q_mul, q_dec, q_rem, q_div, q_lt_t, q_lt_f, q_le_t, q_le_f, q_eq_t, q_eq_f, q_em, q_me, q_ml, q_lm, q_mle, q_lem, q_s1, q_s1o, q_s1k, q_s12, q_s2, q_s2o, q_s2k, q_s21, Nat.add_sub_cancel, q_or, q_and, q_shl, true_or, or_true, false_or, or_false, true_and, and_true, false_and, and_false, not_true_eq_false, not_false_eq_true, ne_eq, fC_EachAddsALine_sheet, gC_EachAddsALine_sheet_0, big_nlt hb, big_lt hb, big_nle hb, big_ne hb, big_le hb]
      · simp (disch := omega) only [Option.bind_some, ↓reduceIte, ↓M_1, ↓M_2, L_0, L_1, L_2, L_3, L_4, L_5, L_6, L_7, L_8, L_9, L_10, L_11, L_12, L_13, L_20, L_24, L_26, L_30, L_31, L_32, L_39, L_40, L_48, L_57, L_76, L_80, L_90, L_91, L_97, L_99, L_100, L_255, L_273, L_1000, L_2000, q_ld, q_ldL, q_sto, q_stoL, q_add, q_sub, q_mul, q_dec, q_rem, q_div, q_lt_t, q_lt_f, q_le_t, q_le_f, q_eq_t, q_eq_f, q_em, q_me, q_ml, q_lm, q_mle, q_lem, q_s1, q_s1o, q_s1k, q_s12, q_s2, q_s2o, q_s2k, q_s21, Nat.add_sub_cancel, q_or, q_and, q_shl, true_or, or_true, false_or, or_false, true_and, and_true, false_and, and_false, not_true_eq_false, not_false_eq_true, ne_eq, fM_EachAddsALineModel_sheet, gM_EachAddsALineModel_sheet_0, M_in_any, big_nlt hb, big_lt hb, big_nle hb, big_ne hb, big_le hb]
    · rcases Nat.lt_or_ge k 3 with c | c
      · refine fin n (by omega) (fun z => by omega) (fun _ => rfl) (nI_le (by omega) (by omega)) f st (fun _ => ⟨rfl, rfl⟩) (fun z => by omega) ?_
        rw [if_neg (by omega)]
        simp (disch := omega) only [Option.bind_some, ↓reduceIte, ↓M_1, ↓M_2, L_0, L_1, L_2, L_3, L_4, L_5, L_6, L_7, L_8, L_9, L_10, L_11, L_12, L_13, L_20, L_24, L_26, L_30, L_31, L_32, L_39, L_40, L_48, L_57, L_76, L_80, L_90, L_91, L_97, L_99, L_100, L_255, L_273, L_1000, L_2000, q_ld, q_ldL, q_sto, q_stoL, q_add, q_sub, q_mul, q_dec, q_rem, q_div, q_lt_t, q_lt_f, q_le_t, q_le_f, q_eq_t, q_eq_f, q_em, q_me, q_ml, q_lm, q_mle, q_lem, q_s1, q_s1o, q_s1k, q_s12, q_s2, q_s2o, q_s2k, q_s21, Nat.add_sub_cancel, q_or, q_and, q_shl, true_or, or_true, false_or, or_false, true_and, and_true, false_and, and_false, not_true_eq_false, not_false_eq_true, ne_eq, fC_EachAddsALine_sheet, gC_EachAddsALine_sheet_0]
        cases fC_Roads_putPrices N (nI k) (nI n) f st s <;> rfl
      · obtain rfl : k = 3 := by omega
        refine fin 0 (by omega) (fun _ => rfl) (fun z => by omega) (nI_le (by omega) (by omega)) 0 0 (fun z => by omega) (fun _ => ⟨rfl, rfl⟩) ?_
        simp (disch := omega) only [Option.bind_some, ↓reduceIte, ↓M_1, ↓M_2, L_0, L_1, L_2, L_3, L_4, L_5, L_6, L_7, L_8, L_9, L_10, L_11, L_12, L_13, L_20, L_24, L_26, L_30, L_31, L_32, L_39, L_40, L_48, L_57, L_76, L_80, L_90, L_91, L_97, L_99, L_100, L_255, L_273, L_1000, L_2000, q_ld, q_ldL, q_sto, q_stoL, q_add, q_sub, q_mul, q_dec, q_rem, q_div, q_lt_t, q_lt_f, q_le_t, q_le_f, q_eq_t, q_eq_f, q_em, q_me, q_ml, q_lm, q_mle, q_lem, q_s1, q_s1o, q_s1k, q_s12, q_s2, q_s2o, q_s2k, q_s21, Nat.add_sub_cancel, q_or, q_and, q_shl, true_or, or_true, false_or, or_false, true_and, and_true, false_and, and_false, not_true_eq_false, not_false_eq_true, ne_eq, fC_EachAddsALine_sheet, gC_EachAddsALine_sheet_0]
        rfl
end SK
