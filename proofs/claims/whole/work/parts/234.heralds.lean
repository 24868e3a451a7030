/-! postman, heralds -/
noncomputable def bc (x : Int32) : Int32 := ((fC_Integer_bitCount 0 x (fun _ _ => 0, fun _ _ => 0)).getD (0, (fun _ _ => 0, fun _ _ => 0))).1
theorem C_bc (N : Nat) (x : Int32) (s : vSt) : fC_Integer_bitCount N x s = some (bc x, s) := rfl
theorem M_bc (N : Nat) (x : Int32) (s : vSt) : fM_Integer_bitCount N x s = some (bc x, s) := rfl
theorem bc_all : ∀ P, P < 10 → ∀ x, x < 2 ^ P - 1 → bc (nI x) < bc (nI (2 ^ P - 1)) := by decide +kernel
theorem bc_nn : ∀ x, x < 512 → nI 0 ≤ bc (nI x) := by decide +kernel
section PO
variable {N : Nat} {U : vSt → vSt → Prop} {w : Nat → Nat → Nat} {s t : vSt} {k e : Nat}
noncomputable def poF (w : Nat → Nat → Nat) (k e p : Nat) (x : Nat × Int32) : Nat × Int32 := if x.2 < bc (nI (kn w p k e)) then (p, bc (nI (kn w p k e))) else x
noncomputable def poS (w : Nat → Nat → Nat) (k e n : Nat) : Nat × Int32 := fz (poF w k e) (100, nI 0) n
theorem poS_ok (n : Nat) : (poS w k e n).1 = 100 ∨ (poS w k e n).1 < n := by
  refine fz_ind (f := poF w k e) (z := (100, nI 0)) (n := n) (fun i a => a.1 = 100 ∨ a.1 < i) (Or.inl rfl) (fun i a hi ha => ?_) n (Nat.le_refl _)
  unfold poF
  split
  · exact Or.inr (show i < i + 1 by omega)
  · exact ha.imp id (fun z => by omega)
theorem C_postman19 (h : CW w s) (hN : 60 ≤ N) (hk : k ≤ e) (he : e ≤ 99) :
    ∃ z, gC_EachAddsALine_postman_19 N N (nI k) (nI e) (mI 2) (nI 0) (nI 0) s = some (bI (poS w k e (w 5 0)).1, z) ∧ Fr [3, 4, 41, 42] [] s z ∧ ((poS w k e (w 5 0)).1 = 100 → Fr [41, 42] [] s z) ∧ (¬ (poS w k e (w 5 0)).1 = 100 → z.1 3 1 = nI 1 ∧ z.1 4 0 = (poS w k e (w 5 0)).2) := by
  have hb := h.bd
  refine loopU (fun f i z => gC_EachAddsALine_postman_19 N f (nI k) (nI e) (bI (poS w k e i).1) (poS w k e i).2 (nI i) z) (w 5 0) (fun i z => i ≤ w 5 0 ∧ Fr [41, 42] [] s z) (fun o => ∃ z, o = some (bI (poS w k e (w 5 0)).1, z) ∧ Fr [3, 4, 41, 42] [] s z ∧ ((poS w k e (w 5 0)).1 = 100 → Fr [41, 42] [] s z) ∧ (¬ (poS w k e (w 5 0)).1 = 100 → z.1 3 1 = nI 1 ∧ z.1 4 0 = (poS w k e (w 5 0)).2)) ?_ ?_ (w 5 0) N 0 s (by omega) (by omega) ⟨by omega, Fr.rf⟩
  · rintro f i z hi ⟨g1, g2⟩
    have hz : CW w z := h.fr g2 (by decide)
    obtain ⟨z', x1, x2, x3⟩ := C_knowers (N := N) hz hN hi hk he
    have es : poS w k e (i + 1) = poF w k e i (poS w k e i) := rfl
    refine Or.inl ⟨z', ?_, by omega, g2.tr x2⟩
    try simp only
    rw [es]
    generalize poS w k e i = x
    by_cases c : x.2 < bc (nI (kn w i k e))
    · rw [show poF w k e i x = (i, bc (nI (kn w i k e))) from if_pos c, gC_EachAddsALine_postman_19]
      show _ = gC_EachAddsALine_postman_19 N f (nI k) (nI e) (bI i) (bc (nI (kn w i k e))) (nI (i + 1)) z'
      rw [show bI i = nI i from if_neg (by omega)]
      have c' : ¬ bc (nI (kn w i k e)) ≤ x.2 := (fa_of_lt c).2.1
      simp (disch := omega) only [Option.bind_some, ↓reduceIte, ↓M_1, ↓M_2, L_0, L_1, L_2, L_3, L_4, L_5, L_6, L_7, L_8, L_9, L_10, L_11, L_12, L_13, L_20, L_24, L_26, L_30, L_31, L_32, L_39, L_40, L_48, L_57, L_76, L_80, L_90, L_91, L_97, L_99, L_100, L_255, L_273, L_1000, L_2000, q_ld, q_ldL, q_sto, q_stoL, q_add, q_sub, q_mul, q_dec, q_rem, q_div, q_lt_t, q_lt_f, q_le_t, q_le_f, q_eq_t, q_eq_f, q_em, q_me, q_ml, q_lm, q_mle, q_lem, q_s1, q_s1o, q_s1k, q_s12, q_s2, q_s2o, q_s2k, q_s21, Nat.add_sub_cancel, q_or, q_and, q_shl, true_or, or_true, false_or, or_false, true_and, and_true, false_and, and_false, not_true_eq_false, not_false_eq_true, ne_eq, hz.p, x1, C_bc, c', gC_EachAddsALine_postman_61]
    · rw [show poF w k e i x = x from if_neg c, gC_EachAddsALine_postman_19]
      have c' : bc (nI (kn w i k e)) ≤ x.2 := fa_of_nlt c
      simp (disch := omega) only [Option.bind_some, ↓reduceIte, ↓M_1, ↓M_2, L_0, L_1, L_2, L_3, L_4, L_5, L_6, L_7, L_8, L_9, L_10, L_11, L_12, L_13, L_20, L_24, L_26, L_30, L_31, L_32, L_39, L_40, L_48, L_57, L_76, L_80, L_90, L_91, L_97, L_99, L_100, L_255, L_273, L_1000, L_2000, q_ld, q_ldL, q_sto, q_stoL, q_add, q_sub, q_mul, q_dec, q_rem, q_div, q_lt_t, q_lt_f, q_le_t, q_le_f, q_eq_t, q_eq_f, q_em, q_me, q_ml, q_lm, q_mle, q_lem, q_s1, q_s1o, q_s1k, q_s12, q_s2, q_s2o, q_s2k, q_s21, Nat.add_sub_cancel, q_or, q_and, q_shl, true_or, or_true, false_or, or_false, true_and, and_true, false_and, and_false, not_true_eq_false, not_false_eq_true, ne_eq, hz.p, x1, C_bc, c', gC_EachAddsALine_postman_61]
  · rintro f z ⟨g1, g2⟩
    have hz : CW w z := h.fr g2 (by decide)
    have hx := poS_ok (w := w) (k := k) (e := e) (w 5 0)
    try simp only
    generalize poS w k e (w 5 0) = x at hx
    by_cases x0 : x.1 = 100
    · refine ⟨z, ?_, g2.mono (by decide) (by decide), fun _ => g2, fun y => absurd x0 y⟩
      rw [x0, show bI 100 = mI 2 from rfl, gC_EachAddsALine_postman_19]
      simp (disch := omega) only [Option.bind_some, ↓reduceIte, ↓M_1, ↓M_2, L_0, L_1, L_2, L_3, L_4, L_5, L_6, L_7, L_8, L_9, L_10, L_11, L_12, L_13, L_20, L_24, L_26, L_30, L_31, L_32, L_39, L_40, L_48, L_57, L_76, L_80, L_90, L_91, L_97, L_99, L_100, L_255, L_273, L_1000, L_2000, q_ld, q_ldL, q_sto, q_stoL, q_add, q_sub, q_mul, q_dec, q_rem, q_div, q_lt_t, q_lt_f, q_le_t, q_le_f, q_eq_t, q_eq_f, q_em, q_me, q_ml, q_lm, q_mle, q_lem, q_s1, q_s1o, q_s1k, q_s12, q_s2, q_s2o, q_s2k, q_s21, Nat.add_sub_cancel, q_or, q_and, q_shl, true_or, or_true, false_or, or_false, true_and, and_true, false_and, and_false, not_true_eq_false, not_false_eq_true, ne_eq, hz.p, M_2]
    · obtain ⟨z0, v1, v2⟩ := C_clear_row (N := N) (q := fun _ => x.2) (s := z)
      obtain ⟨z2, w1, w2⟩ := C_add_row (N := N) v2 (x := x.2) rfl
      refine ⟨z2, ?_, (g2.mono (by decide) (by decide)).tr (w2.1.mono (by decide) (by decide)), fun y => absurd y x0, fun _ => ⟨w2.2.1, w2.2.2 0 (by decide)⟩⟩
      rw [show bI x.1 = nI x.1 from if_neg x0, gC_EachAddsALine_postman_19]
      simp (disch := omega) only [Option.bind_some, ↓reduceIte, ↓M_1, ↓M_2, L_0, L_1, L_2, L_3, L_4, L_5, L_6, L_7, L_8, L_9, L_10, L_11, L_12, L_13, L_20, L_24, L_26, L_30, L_31, L_32, L_39, L_40, L_48, L_57, L_76, L_80, L_90, L_91, L_97, L_99, L_100, L_255, L_273, L_1000, L_2000, q_ld, q_ldL, q_sto, q_stoL, q_add, q_sub, q_mul, q_dec, q_rem, q_div, q_lt_t, q_lt_f, q_le_t, q_le_f, q_eq_t, q_eq_f, q_em, q_me, q_ml, q_lm, q_mle, q_lem, q_s1, q_s1o, q_s1k, q_s12, q_s2, q_s2o, q_s2k, q_s21, Nat.add_sub_cancel, q_or, q_and, q_shl, true_or, or_true, false_or, or_false, true_and, and_true, false_and, and_false, not_true_eq_false, not_false_eq_true, ne_eq, hz.p, M_2, v1, w1]
theorem M_postman25 (h : MW w t) (hp : ∀ u, u < w 5 0 → PI w u 0 (fun o => o < 2 * w 5 1 ∧ ¬ o / 2 = 100 ∧ k ≤ hr w o) (fun p => arr w 0 100 u k p)) (hN : 60 ≤ N) (hk : k ≤ e) (he : e ≤ 99) :
    ∃ z, gM_EachAddsALineModel_postman_25 N N (nI k) (nI e) (mI 2) (nI 0) (nI 0) t = some (bI (poS w k e (w 5 0)).1, z) ∧ Fm [7, 11, 20] [] [10, 30] t z ∧ ((poS w k e (w 5 0)).1 = 100 → Fm [11, 20] [] [30] t z) ∧ (¬ (poS w k e (w 5 0)).1 = 100 → z.1 0 10 = nI 1 ∧ z.1 7 0 = (poS w k e (w 5 0)).2) := by
  have hb := h.bd
  refine loopU (fun f i z => gM_EachAddsALineModel_postman_25 N f (nI k) (nI e) (bI (poS w k e i).1) (poS w k e i).2 (nI i) z) (w 5 0) (fun i z => i ≤ w 5 0 ∧ Fm [11, 20] [] [30] t z) (fun o => ∃ z, o = some (bI (poS w k e (w 5 0)).1, z) ∧ Fm [7, 11, 20] [] [10, 30] t z ∧ ((poS w k e (w 5 0)).1 = 100 → Fm [11, 20] [] [30] t z) ∧ (¬ (poS w k e (w 5 0)).1 = 100 → z.1 0 10 = nI 1 ∧ z.1 7 0 = (poS w k e (w 5 0)).2)) ?_ ?_ (w 5 0) N 0 t (by omega) (by omega) ⟨by omega, Fm.rf⟩
  · rintro f i z hi ⟨g1, g2⟩
    have hz : MW w z := h.fm g2 (by decide) (by decide)
    obtain ⟨z', x1, x2, x3⟩ := M_knowing (N := N) hz (hp i hi) hN hi hk he
    have es : poS w k e (i + 1) = poF w k e i (poS w k e i) := rfl
    refine Or.inl ⟨z', ?_, by omega, g2.tr x2⟩
    try simp only
    rw [es]
    generalize poS w k e i = x
    by_cases c : x.2 < bc (nI (kn w i k e))
    · rw [show poF w k e i x = (i, bc (nI (kn w i k e))) from if_pos c, gM_EachAddsALineModel_postman_25]
      show _ = gM_EachAddsALineModel_postman_25 N f (nI k) (nI e) (bI i) (bc (nI (kn w i k e))) (nI (i + 1)) z'
      rw [show bI i = nI i from if_neg (by omega)]
      simp (disch := omega) only [Option.bind_some, ↓reduceIte, ↓M_1, ↓M_2, L_0, L_1, L_2, L_3, L_4, L_5, L_6, L_7, L_8, L_9, L_10, L_11, L_12, L_13, L_20, L_24, L_26, L_30, L_31, L_32, L_39, L_40, L_48, L_57, L_76, L_80, L_90, L_91, L_97, L_99, L_100, L_255, L_273, L_1000, L_2000, q_ld, q_ldL, q_sto, q_stoL, q_add, q_sub, q_mul, q_dec, q_rem, q_div, q_lt_t, q_lt_f, q_le_t, q_le_f, q_eq_t, q_eq_f, q_em, q_me, q_ml, q_lm, q_mle, q_lem, q_s1, q_s1o, q_s1k, q_s12, q_s2, q_s2o, q_s2k, q_s21, Nat.add_sub_cancel, q_or, q_and, q_shl, true_or, or_true, false_or, or_false, true_and, and_true, false_and, and_false, not_true_eq_false, not_false_eq_true, ne_eq, hz.p, x1, M_bc, c, gM_EachAddsALineModel_postman_64]
    · rw [show poF w k e i x = x from if_neg c, gM_EachAddsALineModel_postman_25]
      simp (disch := omega) only [Option.bind_some, ↓reduceIte, ↓M_1, ↓M_2, L_0, L_1, L_2, L_3, L_4, L_5, L_6, L_7, L_8, L_9, L_10, L_11, L_12, L_13, L_20, L_24, L_26, L_30, L_31, L_32, L_39, L_40, L_48, L_57, L_76, L_80, L_90, L_91, L_97, L_99, L_100, L_255, L_273, L_1000, L_2000, q_ld, q_ldL, q_sto, q_stoL, q_add, q_sub, q_mul, q_dec, q_rem, q_div, q_lt_t, q_lt_f, q_le_t, q_le_f, q_eq_t, q_eq_f, q_em, q_me, q_ml, q_lm, q_mle, q_lem, q_s1, q_s1o, q_s1k, q_s12, q_s2, q_s2o, q_s2k, q_s21, Nat.add_sub_cancel, q_or, q_and, q_shl, true_or, or_true, false_or, or_false, true_and, and_true, false_and, and_false, not_true_eq_false, not_false_eq_true, ne_eq, hz.p, x1, M_bc, c, gM_EachAddsALineModel_postman_64]
  · rintro f z ⟨g1, g2⟩
    have hz : MW w z := h.fm g2 (by decide) (by decide)
    have hx := poS_ok (w := w) (k := k) (e := e) (w 5 0)
    try simp only
    generalize poS w k e (w 5 0) = x at hx
    by_cases x0 : x.1 = 100
    · refine ⟨z, ?_, g2.mono (by decide) (by decide) (by decide), fun _ => g2, fun y => absurd x0 y⟩
      rw [x0, show bI 100 = mI 2 from rfl, gM_EachAddsALineModel_postman_25]
      simp (disch := omega) only [Option.bind_some, ↓reduceIte, ↓M_1, ↓M_2, L_0, L_1, L_2, L_3, L_4, L_5, L_6, L_7, L_8, L_9, L_10, L_11, L_12, L_13, L_20, L_24, L_26, L_30, L_31, L_32, L_39, L_40, L_48, L_57, L_76, L_80, L_90, L_91, L_97, L_99, L_100, L_255, L_273, L_1000, L_2000, q_ld, q_ldL, q_sto, q_stoL, q_add, q_sub, q_mul, q_dec, q_rem, q_div, q_lt_t, q_lt_f, q_le_t, q_le_f, q_eq_t, q_eq_f, q_em, q_me, q_ml, q_lm, q_mle, q_lem, q_s1, q_s1o, q_s1k, q_s12, q_s2, q_s2o, q_s2k, q_s21, Nat.add_sub_cancel, q_or, q_and, q_shl, true_or, or_true, false_or, or_false, true_and, and_true, false_and, and_false, not_true_eq_false, not_false_eq_true, ne_eq, hz.p, M_2]
    · have hx1 : x.1 < w 5 0 := hx.resolve_left x0
      obtain ⟨z2, w1, w2⟩ := M_tell (N := N) (q := fun _ => x.2) (Rm.nil (t := z)) (by decide) (x := x.2) rfl
      have f2 : Fm [7, 11, 20] [] [10, 30] t z2 := (g2.mono (by decide) (by decide) (by decide)).tr (w2.1.mono (by decide) (by decide) (by decide))
      refine ⟨z2, ?_, f2, fun y => absurd y x0, fun _ => ⟨w2.2.1, w2.2.2 0 (by decide)⟩⟩
      rw [show bI x.1 = nI x.1 from if_neg x0, gM_EachAddsALineModel_postman_25]
      simp (disch := omega) only [Option.bind_some, ↓reduceIte, ↓M_1, ↓M_2, L_0, L_1, L_2, L_3, L_4, L_5, L_6, L_7, L_8, L_9, L_10, L_11, L_12, L_13, L_20, L_24, L_26, L_30, L_31, L_32, L_39, L_40, L_48, L_57, L_76, L_80, L_90, L_91, L_97, L_99, L_100, L_255, L_273, L_1000, L_2000, q_ld, q_ldL, q_sto, q_stoL, q_add, q_sub, q_mul, q_dec, q_rem, q_div, q_lt_t, q_lt_f, q_le_t, q_le_f, q_eq_t, q_eq_f, q_em, q_me, q_ml, q_lm, q_mle, q_lem, q_s1, q_s1o, q_s1k, q_s12, q_s2, q_s2o, q_s2k, q_s21, Nat.add_sub_cancel, q_or, q_and, q_shl, true_or, or_true, false_or, or_false, true_and, and_true, false_and, and_false, not_true_eq_false, not_false_eq_true, ne_eq, hz.p, w1]
theorem k_postman (hU : okU U) (hN : 200 ≤ N) : keeps2 N (RR U) fC_EachAddsALine_postman fM_EachAddsALineModel_postman := fun s t hr b c => by
  obtain ⟨w, h1, h2, _⟩ := id hr
  have h2' := M_rd0 h2 (nI 0)
  have hb := h1.bd
  by_cases q2 : spn b c
  · obtain ⟨k, e, hk, he, rfl, rfl⟩ := q2
    obtain ⟨z, x1, x2, x3, x4⟩ := C_postman19 (N := N) h1 (by omega) hk he
    obtain ⟨y, y1, y2, y3, y4⟩ := M_postman25 (N := N) h2' (fun u hu => arr_PI h1 hu (show k < 1000 by omega)) (by omega) hk he
    have ea1 : fC_EachAddsALine_postman N (nI k) (nI e) s = some (bI (poS w k e (w 5 0)).1, z) := by simp (disch := omega) only [Option.bind_some, ↓reduceIte, ↓M_1, ↓M_2, L_0, L_1, L_2, L_3, L_4, L_5, L_6, L_7, L_8, L_9, L_10, L_11, L_12, L_13, L_20, L_24, L_26, L_30, L_31, L_32, L_39, L_40, L_48, L_57, L_76, L_80, L_90, L_91, L_97, L_99, L_100, L_255, L_273, L_1000, L_2000, q_ld, q_ldL, q_sto, q_stoL, q_add, q_sub, q_mul, q_dec, q_rem, q_div, q_lt_t, q_lt_f, q_le_t, q_le_f, q_eq_t, q_eq_f, q_em, q_me, q_ml, q_lm, q_mle, q_lem, q_s1, q_s1o, q_s1k, q_s12, q_s2, q_s2o, q_s2k, q_s21, Nat.add_sub_cancel, q_or, q_and, q_shl, true_or, or_true, false_or, or_false, true_and, and_true, false_and, and_false, not_true_eq_false, not_false_eq_true, ne_eq, fC_EachAddsALine_postman, gC_EachAddsALine_postman_0, C_isSpan_t hk he, M_2, x1]
    have ea2 : fM_EachAddsALineModel_postman N (nI k) (nI e) t = some (bI (poS w k e (w 5 0)).1, y) := by simp (disch := omega) only [Option.bind_some, ↓reduceIte, ↓M_1, ↓M_2, L_0, L_1, L_2, L_3, L_4, L_5, L_6, L_7, L_8, L_9, L_10, L_11, L_12, L_13, L_20, L_24, L_26, L_30, L_31, L_32, L_39, L_40, L_48, L_57, L_76, L_80, L_90, L_91, L_97, L_99, L_100, L_255, L_273, L_1000, L_2000, q_ld, q_ldL, q_sto, q_stoL, q_add, q_sub, q_mul, q_dec, q_rem, q_div, q_lt_t, q_lt_f, q_le_t, q_le_f, q_eq_t, q_eq_f, q_em, q_me, q_ml, q_lm, q_mle, q_lem, q_s1, q_s1o, q_s1k, q_s12, q_s2, q_s2o, q_s2k, q_s21, Nat.add_sub_cancel, q_or, q_and, q_shl, true_or, or_true, false_or, or_false, true_and, and_true, false_and, and_false, not_true_eq_false, not_false_eq_true, ne_eq, fM_EachAddsALineModel_postman, gM_EachAddsALineModel_postman_0, M_areHours_t hk he, M_2, y1]
    refine ⟨_, z, y, ea1, ea2, ?_⟩
    by_cases x0 : (poS w k e (w 5 0)).1 = 100
    · exact hr.fr hU (x3 x0) ((Fm.w10 (by decide)).tr ((y3 x0).mono (by decide) (by decide) (by decide)) : Fm [11, 20] [] [11, 30] t y) (by decide) (by decide) (by decide)
    · have hro : RO z y := ⟨1, by decide, (x4 x0).1, (y4 x0).1, fun j hj => by
        obtain rfl : j = 0 := by omega
        rw [(x4 x0).2, (y4 x0).2]⟩
      exact hr.ro hU hro x2 ((Fm.w10 (by decide)).tr (y2.mono (by decide) (by decide) (by decide)) : Fm [7, 11, 20] [] [10, 11, 30] t y) (by decide) (by decide) (by decide)
  · exact ⟨mI 1, s, _, by simp (disch := omega) only [Option.bind_some, ↓reduceIte, ↓M_1, ↓M_2, L_0, L_1, L_2, L_3, L_4, L_5, L_6, L_7, L_8, L_9, L_10, L_11, L_12, L_13, L_20, L_24, L_26, L_30, L_31, L_32, L_39, L_40, L_48, L_57, L_76, L_80, L_90, L_91, L_97, L_99, L_100, L_255, L_273, L_1000, L_2000, q_ld, q_ldL, q_sto, q_stoL, q_add, q_sub, q_mul, q_dec, q_rem, q_div, q_lt_t, q_lt_f, q_le_t, q_le_f, q_eq_t, q_eq_f, q_em, q_me, q_ml, q_lm, q_mle, q_lem, q_s1, q_s1o, q_s1k, q_s12, q_s2, q_s2o, q_s2k, q_s21, Nat.add_sub_cancel, q_or, q_and, q_shl, true_or, or_true, false_or, or_false, true_and, and_true, false_and, and_false, not_true_eq_false, not_false_eq_true, ne_eq, fC_EachAddsALine_postman, gC_EachAddsALine_postman_0, C_isSpan_f q2], by simp (disch := omega) only [Option.bind_some, ↓reduceIte, ↓M_1, ↓M_2, L_0, L_1, L_2, L_3, L_4, L_5, L_6, L_7, L_8, L_9, L_10, L_11, L_12, L_13, L_20, L_24, L_26, L_30, L_31, L_32, L_39, L_40, L_48, L_57, L_76, L_80, L_90, L_91, L_97, L_99, L_100, L_255, L_273, L_1000, L_2000, q_ld, q_ldL, q_sto, q_stoL, q_add, q_sub, q_mul, q_dec, q_rem, q_div, q_lt_t, q_lt_f, q_le_t, q_le_f, q_eq_t, q_eq_f, q_em, q_me, q_ml, q_lm, q_mle, q_lem, q_s1, q_s1o, q_s1k, q_s12, q_s2, q_s2o, q_s2k, q_s21, Nat.add_sub_cancel, q_or, q_and, q_shl, true_or, or_true, false_or, or_false, true_and, and_true, false_and, and_false, not_true_eq_false, not_false_eq_true, ne_eq, fM_EachAddsALineModel_postman, gM_EachAddsALineModel_postman_0, M_areHours_f q2], hr.k0 hU⟩
/-- what some make known -/
def kfN (w : Nat → Nat → Nat) (k e x n : Nat) : Nat := fz (fun p y => if x.testBit p = true then y ||| kn w p k e else y) 0 n
theorem kfN_lt (h : okW w) (x n : Nat) : kfN w k e x n < 512 := fz_ind (f := fun p y => if x.testBit p = true then y ||| kn w p k e else y) (z := 0) (n := n) (fun _ a => a < 512) (by decide) (fun i a _ ha => by
  split
  · exact or_lt9 ha (kn_lt h)
  · exact ha) n (Nat.le_refl _)
abbrev heB (w : Nat → Nat → Nat) (k e x : Nat) : Prop := kfN w k e x (w 5 0) = 2 ^ w 5 0 - 1
theorem heB_all (h : okW w) (hk : k ≤ e) : heB w k e (2 ^ w 5 0 - 1) := by
  have h1 : ∀ n, n ≤ w 5 0 → ∀ i, i < n → (kfN w k e (2 ^ w 5 0 - 1) n).testBit i = true := fun n hn => fz_ind (f := fun p y => if Nat.testBit (2 ^ w 5 0 - 1) p = true then y ||| kn w p k e else y) (z := 0) (n := n) (fun j a => ∀ i, i < j → a.testBit i = true) (fun i hi => by omega) (fun j a hj ha i hi => by
    rw [if_pos (by rw [all_tb]; exact decide_eq_true (by omega)), Nat.testBit_or]
    by_cases c : i = j
    · have : (kn w j k e).testBit i = true := by
        unfold kn
        rw [bset_tb, c, decide_eq_true (by omega), Bool.true_and]
        refine decide_eq_true ?_
        rw [show hd w j k e j = k from if_pos rfl]
        exact hk
      rw [this, Bool.or_true]
    · rw [ha i (by omega), Bool.true_or]) n (Nat.le_refl _)
  have h2 : ∀ n, ∀ i, w 5 0 ≤ i → (kfN w k e (2 ^ w 5 0 - 1) n).testBit i = false := fun n => fz_ind (f := fun p y => if Nat.testBit (2 ^ w 5 0 - 1) p = true then y ||| kn w p k e else y) (z := 0) (n := n) (fun j a => ∀ i, w 5 0 ≤ i → a.testBit i = false) (fun i hi => Nat.zero_testBit i) (fun j a hj ha i hi => by
    split
    · rw [Nat.testBit_or, ha i hi, Bool.false_or]
      unfold kn
      rw [bset_tb, decide_eq_false (by omega), Bool.false_and]
    · exact ha i hi) n (Nat.le_refl _)
  refine Nat.eq_of_testBit_eq (fun i => ?_)
  rw [all_tb]
  rcases Nat.lt_or_ge i (w 5 0) with c | c
  · rw [h1 _ (Nat.le_refl _) i c, decide_eq_true c]
  · rw [h2 _ i c, decide_eq_false (by omega)]
theorem C_knownFrom (h : CW w s) (hN : 60 ≤ N) {x : Nat} (hx : x < 512) (ha : ∀ p, p < w 5 0 → s.1 45 p = nI (kn w p k e)) : fC_Paths_knownFrom N (nI x) s = some (nI (kfN w k e x (w 5 0)), s) := by
  have hb := h.bd
  simp (disch := omega) only [Option.bind_some, ↓reduceIte, ↓M_1, ↓M_2, L_0, L_1, L_2, L_3, L_4, L_5, L_6, L_7, L_8, L_9, L_10, L_11, L_12, L_13, L_20, L_24, L_26, L_30, L_31, L_32, L_39, L_40, L_48, L_57, L_76, L_80, L_90, L_91, L_97, L_99, L_100, L_255, L_273, L_1000, L_2000, q_ld, q_ldL, q_sto, q_stoL, q_add, q_sub, q_mul, q_dec, q_rem, q_div, q_lt_t, q_lt_f, q_le_t, q_le_f, q_eq_t, q_eq_f, q_em, q_me, q_ml, q_lm, q_mle, q_lem, q_s1, q_s1o, q_s1k, q_s12, q_s2, q_s2o, q_s2k, q_s21, Nat.add_sub_cancel, q_or, q_and, q_shl, true_or, or_true, false_or, or_false, true_and, and_true, false_and, and_false, not_true_eq_false, not_false_eq_true, ne_eq, fC_Paths_knownFrom, gC_Paths_knownFrom_0]
  refine loopS (fun f i (y : Nat) => gC_Paths_knownFrom_4 N f (nI x) (nI y) (nI i) s) (fun i => kfN w k e x i) (w 5 0) _ (fun f i hi => ?_) (fun f => ?_) N (by omega)
  · have hl : x &&& 2 ^ i ≤ x := Nat.and_le_left
    have es : kfN w k e x (i + 1) = if x.testBit i = true then kfN w k e x i ||| kn w i k e else kfN w k e x i := rfl
    try simp only
    rw [es]
    by_cases c : x.testBit i = true
    · have d : ¬ x &&& 2 ^ i = 0 := fun z => by
        rw [tb_and, c] at z
        exact absurd z (by decide)
      rw [show (if x.testBit i = true then kfN w k e x i ||| kn w i k e else kfN w k e x i) = kfN w k e x i ||| kn w i k e from if_pos c, gC_Paths_knownFrom_4]
      simp (disch := omega) only [Option.bind_some, ↓reduceIte, ↓M_1, ↓M_2, L_0, L_1, L_2, L_3, L_4, L_5, L_6, L_7, L_8, L_9, L_10, L_11, L_12, L_13, L_20, L_24, L_26, L_30, L_31, L_32, L_39, L_40, L_48, L_57, L_76, L_80, L_90, L_91, L_97, L_99, L_100, L_255, L_273, L_1000, L_2000, q_ld, q_ldL, q_sto, q_stoL, q_add, q_sub, q_mul, q_dec, q_rem, q_div, q_lt_t, q_lt_f, q_le_t, q_le_f, q_eq_t, q_eq_f, q_em, q_me, q_ml, q_lm, q_mle, q_lem, q_s1, q_s1o, q_s1k, q_s12, q_s2, q_s2o, q_s2k, q_s21, Nat.add_sub_cancel, q_or, q_and, q_shl, true_or, or_true, false_or, or_false, true_and, and_true, false_and, and_false, not_true_eq_false, not_false_eq_true, ne_eq, h.p, d, ha i hi, gC_Paths_knownFrom_32]
    · have d : x &&& 2 ^ i = 0 := by
        rw [tb_and]
        exact eq_false_of_ne_true c
      rw [show (if x.testBit i = true then kfN w k e x i ||| kn w i k e else kfN w k e x i) = kfN w k e x i from if_neg c, gC_Paths_knownFrom_4]
      simp (disch := omega) only [Option.bind_some, ↓reduceIte, ↓M_1, ↓M_2, L_0, L_1, L_2, L_3, L_4, L_5, L_6, L_7, L_8, L_9, L_10, L_11, L_12, L_13, L_20, L_24, L_26, L_30, L_31, L_32, L_39, L_40, L_48, L_57, L_76, L_80, L_90, L_91, L_97, L_99, L_100, L_255, L_273, L_1000, L_2000, q_ld, q_ldL, q_sto, q_stoL, q_add, q_sub, q_mul, q_dec, q_rem, q_div, q_lt_t, q_lt_f, q_le_t, q_le_f, q_eq_t, q_eq_f, q_em, q_me, q_ml, q_lm, q_mle, q_lem, q_s1, q_s1o, q_s1k, q_s12, q_s2, q_s2o, q_s2k, q_s21, Nat.add_sub_cancel, q_or, q_and, q_shl, true_or, or_true, false_or, or_false, true_and, and_true, false_and, and_false, not_true_eq_false, not_false_eq_true, ne_eq, h.p, d, gC_Paths_knownFrom_32]
  · try simp only
    rw [gC_Paths_knownFrom_4]
    simp (disch := omega) only [Option.bind_some, ↓reduceIte, ↓M_1, ↓M_2, L_0, L_1, L_2, L_3, L_4, L_5, L_6, L_7, L_8, L_9, L_10, L_11, L_12, L_13, L_20, L_24, L_26, L_30, L_31, L_32, L_39, L_40, L_48, L_57, L_76, L_80, L_90, L_91, L_97, L_99, L_100, L_255, L_273, L_1000, L_2000, q_ld, q_ldL, q_sto, q_stoL, q_add, q_sub, q_mul, q_dec, q_rem, q_div, q_lt_t, q_lt_f, q_le_t, q_le_f, q_eq_t, q_eq_f, q_em, q_me, q_ml, q_lm, q_mle, q_lem, q_s1, q_s1o, q_s1k, q_s12, q_s2, q_s2o, q_s2k, q_s21, Nat.add_sub_cancel, q_or, q_and, q_shl, true_or, or_true, false_or, or_false, true_and, and_true, false_and, and_false, not_true_eq_false, not_false_eq_true, ne_eq, h.p]
/-- the class' best, the reference's -/
noncomputable def hcN (w : Nat → Nat → Nat) (k e n : Nat) : Nat := fz (fun x b => if bc (nI x) < bc (nI b) ∧ heB w k e x then x else b) (2 ^ w 5 0 - 1) n
noncomputable def hmN (w : Nat → Nat → Nat) (k e n : Nat) : Nat := fz (fun x b => if heB w k e x ∧ (b = 1000 ∨ bc (nI x) < bc (nI b)) then x else b) 1000 n
def gJ (b : Nat) : Int32 := if b = 1000 then mI 1 else nI b
theorem all_bd (h : okW w) : 2 ^ w 5 0 ≤ 512 ∧ 1 ≤ 2 ^ w 5 0 := ⟨Nat.pow_le_pow_right (by decide) h.1, Nat.one_le_two_pow⟩
theorem hc_hm (h : okW w) {n : Nat} (hn : n ≤ 2 ^ w 5 0 - 1) : (hcN w k e n = 2 ^ w 5 0 - 1 ∧ hmN w k e n = 1000) ∨ (hcN w k e n = hmN w k e n ∧ hcN w k e n < n) := by
  have hal := all_bd h
  have h6 := h.1
  induction n with
  | zero => exact Or.inl ⟨rfl, rfl⟩
  | succ n ih =>
    have i1 := ih (by omega)
    have e1 : hcN w k e (n + 1) = if bc (nI n) < bc (nI (hcN w k e n)) ∧ heB w k e n then n else hcN w k e n := rfl
    have e2 : hmN w k e (n + 1) = if heB w k e n ∧ (hmN w k e n = 1000 ∨ bc (nI n) < bc (nI (hmN w k e n))) then n else hmN w k e n := rfl
    rw [e1, e2]
    rcases i1 with ⟨i1, i2⟩ | ⟨i1, i2⟩
    · rw [i1, i2]
      have hb := bc_all (w 5 0) (by omega) n (by omega)
      by_cases c : heB w k e n
      · rw [if_pos ⟨hb, c⟩, if_pos ⟨c, Or.inl rfl⟩]
        exact Or.inr ⟨rfl, by omega⟩
      · rw [if_neg (fun z => c z.2), if_neg (fun z => c z.1)]
        exact Or.inl ⟨rfl, rfl⟩
    · rw [← i1]
      have hne : ¬ hcN w k e n = 1000 := by omega
      by_cases c : heB w k e n ∧ bc (nI n) < bc (nI (hcN w k e n))
      · rw [if_pos ⟨c.2, c.1⟩, if_pos ⟨c.1, Or.inr c.2⟩]
        exact Or.inr ⟨rfl, by omega⟩
      · rw [if_neg (fun z => c ⟨z.2, z.1⟩), if_neg (fun z => c ⟨z.1, z.2.resolve_left hne⟩)]
        exact Or.inr ⟨rfl, by omega⟩
theorem hc_hm_all (h : okW w) (hk : k ≤ e) : hmN w k e (2 ^ w 5 0) = hcN w k e (2 ^ w 5 0 - 1) := by
  have hal := all_bd h
  have h6 := h.1
  have e2 : hmN w k e (2 ^ w 5 0 - 1 + 1) = if heB w k e (2 ^ w 5 0 - 1) ∧ (hmN w k e (2 ^ w 5 0 - 1) = 1000 ∨ bc (nI (2 ^ w 5 0 - 1)) < bc (nI (hmN w k e (2 ^ w 5 0 - 1)))) then 2 ^ w 5 0 - 1 else hmN w k e (2 ^ w 5 0 - 1) := rfl
  rw [show 2 ^ w 5 0 - 1 + 1 = 2 ^ w 5 0 by omega] at e2
  rw [e2]
  rcases hc_hm (k := k) (e := e) h (Nat.le_refl _) with ⟨i1, i2⟩ | ⟨i1, i2⟩
  · rw [i1, if_pos ⟨heB_all h hk, Or.inl i2⟩]
  · rw [← i1]
    have hb := bc_all (w 5 0) (by omega) _ i2
    rw [if_neg (fun z => by
      rcases z.2 with y | y
      · omega
      · exact Int32.lt_irrefl (Int32.lt_trans y hb))]
theorem hc_lt (h : okW w) {n : Nat} (hn : n ≤ 2 ^ w 5 0 - 1) : hcN w k e n < 512 := by
  have hal := all_bd h
  rcases hc_hm (k := k) (e := e) h hn with ⟨i1, i2⟩ | ⟨i1, i2⟩ <;> omega
theorem hm_lt (h : okW w) {n : Nat} (hn : n ≤ 2 ^ w 5 0) : hmN w k e n = 1000 ∨ hmN w k e n < 512 := by
  have hal := all_bd h
  exact fz_ind (f := fun x b => if heB w k e x ∧ (b = 1000 ∨ bc (nI x) < bc (nI b)) then x else b) (z := 1000) (n := n) (fun _ a => a = 1000 ∨ a < 512) (Or.inl rfl) (fun i a hi ha => by
    split
    · exact Or.inr (by omega)
    · exact ha) n (Nat.le_refl _)
theorem C_fewestHeralds (h : CW w s) (hN : 600 ≤ N) (hk : k ≤ e) (he : e ≤ 99) : ∃ z, fC_Paths_fewestHeralds N (nI k) (nI e) s = some (nI (hcN w k e (2 ^ w 5 0 - 1)), z) ∧ Fr [41, 42, 45] [] s z := by
  have hb := h.bd
  have hal := all_bd h.ok
  have hs1 := q_shlp (P := w 5 0) (by omega)
  have i1 : ∃ z, fC_Paths_fewestHeralds N (nI k) (nI e) s = gC_Paths_fewestHeralds_43 N N (nI (2 ^ w 5 0 - 1)) (nI 0) z ∧ Fr [41, 42, 45] [] s z ∧ ∀ p, p < w 5 0 → z.1 45 p = nI (kn w p k e) := by
    simp (disch := omega) only [Option.bind_some, ↓reduceIte, ↓M_1, ↓M_2, L_0, L_1, L_2, L_3, L_4, L_5, L_6, L_7, L_8, L_9, L_10, L_11, L_12, L_13, L_20, L_24, L_26, L_30, L_31, L_32, L_39, L_40, L_48, L_57, L_76, L_80, L_90, L_91, L_97, L_99, L_100, L_255, L_273, L_1000, L_2000, q_ld, q_ldL, q_sto, q_stoL, q_add, q_sub, q_mul, q_dec, q_rem, q_div, q_lt_t, q_lt_f, q_le_t, q_le_f, q_eq_t, q_eq_f, q_em, q_me, q_ml, q_lm, q_mle, q_lem, q_s1, q_s1o, q_s1k, q_s12, q_s2, q_s2o, q_s2k, q_s21, Nat.add_sub_cancel, q_or, q_and, q_shl, true_or, or_true, false_or, or_false, true_and, and_true, false_and, and_false, not_true_eq_false, not_false_eq_true, ne_eq, fC_Paths_fewestHeralds, gC_Paths_fewestHeralds_0]
    refine loopU (fun f i z => gC_Paths_fewestHeralds_2 N f (nI k) (nI e) (nI i) z) (w 5 0) (fun i z => i ≤ w 5 0 ∧ Fr [41, 42, 45] [] s z ∧ ∀ p, p < i → z.1 45 p = nI (kn w p k e)) (fun o => ∃ z, o = gC_Paths_fewestHeralds_43 N N (nI (2 ^ w 5 0 - 1)) (nI 0) z ∧ Fr [41, 42, 45] [] s z ∧ ∀ p, p < w 5 0 → z.1 45 p = nI (kn w p k e)) ?_ ?_ (w 5 0) N 0 s (by omega) (by omega) ⟨by omega, Fr.rf, fun p hp => by omega⟩
    · rintro f i z hi ⟨g1, g2, g3⟩
      have hz : CW w z := h.fr g2 (by decide)
      obtain ⟨z', x1, x2, x3⟩ := C_knowers (N := N) hz (by omega) hi hk he
      refine Or.inl ⟨s1 z' 45 i (nI (kn w i k e)), ?_, by omega, (g2.tr (x2.mono (by decide) (by decide))).tr (Fr.s1 (by decide)), fun p hp => ?_⟩
      · rw [gC_Paths_fewestHeralds_2]
        simp (disch := omega) only [Option.bind_some, ↓reduceIte, ↓M_1, ↓M_2, L_0, L_1, L_2, L_3, L_4, L_5, L_6, L_7, L_8, L_9, L_10, L_11, L_12, L_13, L_20, L_24, L_26, L_30, L_31, L_32, L_39, L_40, L_48, L_57, L_76, L_80, L_90, L_91, L_97, L_99, L_100, L_255, L_273, L_1000, L_2000, q_ld, q_ldL, q_sto, q_stoL, q_add, q_sub, q_mul, q_dec, q_rem, q_div, q_lt_t, q_lt_f, q_le_t, q_le_f, q_eq_t, q_eq_f, q_em, q_me, q_ml, q_lm, q_mle, q_lem, q_s1, q_s1o, q_s1k, q_s12, q_s2, q_s2o, q_s2k, q_s21, Nat.add_sub_cancel, q_or, q_and, q_shl, true_or, or_true, false_or, or_false, true_and, and_true, false_and, and_false, not_true_eq_false, not_false_eq_true, ne_eq, hz.p, x1]
      · by_cases c : p = i
        · rw [c, q_s1]
        · rw [q_s1k c, x2.1 45 (by decide)]; exact g3 p (by omega)
    · rintro f z ⟨g1, g2, g3⟩
      have hz : CW w z := h.fr g2 (by decide)
      refine ⟨z, ?_, g2, g3⟩
      have eall : fC_Roads_everybody N z = some (nI (2 ^ w 5 0 - 1), z) := by
        simp (disch := omega) only [Option.bind_some, ↓reduceIte, ↓M_1, ↓M_2, L_0, L_1, L_2, L_3, L_4, L_5, L_6, L_7, L_8, L_9, L_10, L_11, L_12, L_13, L_20, L_24, L_26, L_30, L_31, L_32, L_39, L_40, L_48, L_57, L_76, L_80, L_90, L_91, L_97, L_99, L_100, L_255, L_273, L_1000, L_2000, q_ld, q_ldL, q_sto, q_stoL, q_add, q_mul, q_dec, q_rem, q_div, q_lt_t, q_lt_f, q_le_t, q_le_f, q_eq_t, q_eq_f, q_em, q_me, q_ml, q_lm, q_mle, q_lem, q_s1, q_s1o, q_s1k, q_s12, q_s2, q_s2o, q_s2k, q_s21, Nat.add_sub_cancel, q_or, q_and, true_or, or_true, false_or, or_false, true_and, and_true, false_and, and_false, not_true_eq_false, not_false_eq_true, ne_eq, fC_Roads_everybody, gC_Roads_everybody_0, hz.p, hs1]
      try simp only
      rw [gC_Paths_fewestHeralds_2]
      simp (disch := omega) only [Option.bind_some, ↓reduceIte, ↓M_1, ↓M_2, L_0, L_1, L_2, L_3, L_4, L_5, L_6, L_7, L_8, L_9, L_10, L_11, L_12, L_13, L_20, L_24, L_26, L_30, L_31, L_32, L_39, L_40, L_48, L_57, L_76, L_80, L_90, L_91, L_97, L_99, L_100, L_255, L_273, L_1000, L_2000, q_ld, q_ldL, q_sto, q_stoL, q_add, q_sub, q_mul, q_dec, q_rem, q_div, q_lt_t, q_lt_f, q_le_t, q_le_f, q_eq_t, q_eq_f, q_em, q_me, q_ml, q_lm, q_mle, q_lem, q_s1, q_s1o, q_s1k, q_s12, q_s2, q_s2o, q_s2k, q_s21, Nat.add_sub_cancel, q_or, q_and, q_shl, true_or, or_true, false_or, or_false, true_and, and_true, false_and, and_false, not_true_eq_false, not_false_eq_true, ne_eq, hz.p, eall]
  obtain ⟨z, i1, i2, i3⟩ := i1
  have hz : CW w z := h.fr i2 (by decide)
  have eall : fC_Roads_everybody N z = some (nI (2 ^ w 5 0 - 1), z) := by
    simp (disch := omega) only [Option.bind_some, ↓reduceIte, ↓M_1, ↓M_2, L_0, L_1, L_2, L_3, L_4, L_5, L_6, L_7, L_8, L_9, L_10, L_11, L_12, L_13, L_20, L_24, L_26, L_30, L_31, L_32, L_39, L_40, L_48, L_57, L_76, L_80, L_90, L_91, L_97, L_99, L_100, L_255, L_273, L_1000, L_2000, q_ld, q_ldL, q_sto, q_stoL, q_add, q_mul, q_dec, q_rem, q_div, q_lt_t, q_lt_f, q_le_t, q_le_f, q_eq_t, q_eq_f, q_em, q_me, q_ml, q_lm, q_mle, q_lem, q_s1, q_s1o, q_s1k, q_s12, q_s2, q_s2o, q_s2k, q_s21, Nat.add_sub_cancel, q_or, q_and, true_or, or_true, false_or, or_false, true_and, and_true, false_and, and_false, not_true_eq_false, not_false_eq_true, ne_eq, fC_Roads_everybody, gC_Roads_everybody_0, hz.p, hs1]
  refine ⟨z, ?_, i2⟩
  rw [i1]
  refine loopS (fun f i (b : Nat) => gC_Paths_fewestHeralds_43 N f (nI b) (nI i) z) (fun i => hcN w k e i) (2 ^ w 5 0 - 1) _ (fun f i hi => ?_) (fun f => ?_) N (by omega)
  · have hl := hc_lt (k := k) (e := e) h.ok (n := i) (by omega)
    have hkf := kfN_lt (k := k) (e := e) h.ok i (w 5 0)
    have ek := C_knownFrom (N := N) hz (by omega) (x := i) (by omega) i3
    have es : hcN w k e (i + 1) = if bc (nI i) < bc (nI (hcN w k e i)) ∧ heB w k e i then i else hcN w k e i := rfl
    try simp only
    rw [es]
    generalize hcN w k e i = b at hl
    by_cases c : bc (nI i) < bc (nI b)
    · have c' : ¬ bc (nI b) ≤ bc (nI i) := (fa_of_lt c).2.1
      by_cases d : kfN w k e i (w 5 0) = 2 ^ w 5 0 - 1
      · rw [show (if bc (nI i) < bc (nI b) ∧ heB w k e i then i else b) = i from if_pos ⟨c, d⟩, gC_Paths_fewestHeralds_43]
        simp (disch := omega) only [Option.bind_some, ↓reduceIte, ↓M_1, ↓M_2, L_0, L_1, L_2, L_3, L_4, L_5, L_6, L_7, L_8, L_9, L_10, L_11, L_12, L_13, L_20, L_24, L_26, L_30, L_31, L_32, L_39, L_40, L_48, L_57, L_76, L_80, L_90, L_91, L_97, L_99, L_100, L_255, L_273, L_1000, L_2000, q_ld, q_ldL, q_sto, q_stoL, q_add, q_sub, q_mul, q_dec, q_rem, q_div, q_lt_t, q_lt_f, q_le_t, q_le_f, q_eq_t, q_eq_f, q_em, q_me, q_ml, q_lm, q_mle, q_lem, q_s1, q_s1o, q_s1k, q_s12, q_s2, q_s2o, q_s2k, q_s21, Nat.add_sub_cancel, q_or, q_and, q_shl, true_or, or_true, false_or, or_false, true_and, and_true, false_and, and_false, not_true_eq_false, not_false_eq_true, ne_eq, eall, C_bc, c', ek, d, gC_Paths_fewestHeralds_86]
      · rw [show (if bc (nI i) < bc (nI b) ∧ heB w k e i then i else b) = b from if_neg (fun z => d z.2), gC_Paths_fewestHeralds_43]
        simp (disch := omega) only [Option.bind_some, ↓reduceIte, ↓M_1, ↓M_2, L_0, L_1, L_2, L_3, L_4, L_5, L_6, L_7, L_8, L_9, L_10, L_11, L_12, L_13, L_20, L_24, L_26, L_30, L_31, L_32, L_39, L_40, L_48, L_57, L_76, L_80, L_90, L_91, L_97, L_99, L_100, L_255, L_273, L_1000, L_2000, q_ld, q_ldL, q_sto, q_stoL, q_add, q_sub, q_mul, q_dec, q_rem, q_div, q_lt_t, q_lt_f, q_le_t, q_le_f, q_eq_t, q_eq_f, q_em, q_me, q_ml, q_lm, q_mle, q_lem, q_s1, q_s1o, q_s1k, q_s12, q_s2, q_s2o, q_s2k, q_s21, Nat.add_sub_cancel, q_or, q_and, q_shl, true_or, or_true, false_or, or_false, true_and, and_true, false_and, and_false, not_true_eq_false, not_false_eq_true, ne_eq, eall, C_bc, c', ek, gC_Paths_fewestHeralds_86]
    · have c' : bc (nI b) ≤ bc (nI i) := fa_of_nlt c
      rw [show (if bc (nI i) < bc (nI b) ∧ heB w k e i then i else b) = b from if_neg (fun z => c z.1), gC_Paths_fewestHeralds_43]
      simp (disch := omega) only [Option.bind_some, ↓reduceIte, ↓M_1, ↓M_2, L_0, L_1, L_2, L_3, L_4, L_5, L_6, L_7, L_8, L_9, L_10, L_11, L_12, L_13, L_20, L_24, L_26, L_30, L_31, L_32, L_39, L_40, L_48, L_57, L_76, L_80, L_90, L_91, L_97, L_99, L_100, L_255, L_273, L_1000, L_2000, q_ld, q_ldL, q_sto, q_stoL, q_add, q_sub, q_mul, q_dec, q_rem, q_div, q_lt_t, q_lt_f, q_le_t, q_le_f, q_eq_t, q_eq_f, q_em, q_me, q_ml, q_lm, q_mle, q_lem, q_s1, q_s1o, q_s1k, q_s12, q_s2, q_s2o, q_s2k, q_s21, Nat.add_sub_cancel, q_or, q_and, q_shl, true_or, or_true, false_or, or_false, true_and, and_true, false_and, and_false, not_true_eq_false, not_false_eq_true, ne_eq, eall, C_bc, c', gC_Paths_fewestHeralds_86]
  · try simp only
    rw [gC_Paths_fewestHeralds_43]
    simp (disch := omega) only [Option.bind_some, ↓reduceIte, ↓M_1, ↓M_2, L_0, L_1, L_2, L_3, L_4, L_5, L_6, L_7, L_8, L_9, L_10, L_11, L_12, L_13, L_20, L_24, L_26, L_30, L_31, L_32, L_39, L_40, L_48, L_57, L_76, L_80, L_90, L_91, L_97, L_99, L_100, L_255, L_273, L_1000, L_2000, q_ld, q_ldL, q_sto, q_stoL, q_add, q_sub, q_mul, q_dec, q_rem, q_div, q_lt_t, q_lt_f, q_le_t, q_le_f, q_eq_t, q_eq_f, q_em, q_me, q_ml, q_lm, q_mle, q_lem, q_s1, q_s1o, q_s1k, q_s12, q_s2, q_s2o, q_s2k, q_s21, Nat.add_sub_cancel, q_or, q_and, q_shl, true_or, or_true, false_or, or_false, true_and, and_true, false_and, and_false, not_true_eq_false, not_false_eq_true, ne_eq, eall]
theorem M_he67 (R : Int32 → Int32 → vSt → Option (Int32 × vSt)) (h : MW w t) (hN : 60 ≤ N) {x b : Nat} (hx : x < 512) (hb1 : b = 1000 ∨ b < 512) (ha : ∀ p, p < w 5 0 → t.1 21 p = nI (kn w p k e)) :
    gM_EachAddsALineModel_heralds_67 N R N (gJ b) (nI x) (nI 0) (nI 0) t = R (gJ (if heB w k e x ∧ (b = 1000 ∨ bc (nI x) < bc (nI b)) then x else b)) (nI (x + 1)) t := by
  have hb := h.bd
  have hal := all_bd h.ok
  have hs1 := q_shlp (P := w 5 0) (by omega)
  refine loopS (fun f i (y : Nat) => gM_EachAddsALineModel_heralds_67 N R f (gJ b) (nI x) (nI y) (nI i) t) (fun i => kfN w k e x i) (w 5 0) _ (fun f i hi => ?_) (fun f => ?_) N (by omega)
  · have eh := M_has (N := N) (s := t) (b := x) (k := i) (by omega) (by omega)
    have es : kfN w k e x (i + 1) = if x.testBit i = true then kfN w k e x i ||| kn w i k e else kfN w k e x i := rfl
    try simp only
    rw [es]
    by_cases c : x.testBit i = true
    · rw [if_pos c] at eh
      rw [show (if x.testBit i = true then kfN w k e x i ||| kn w i k e else kfN w k e x i) = kfN w k e x i ||| kn w i k e from if_pos c, gM_EachAddsALineModel_heralds_67]
      simp (disch := omega) only [Option.bind_some, ↓reduceIte, ↓M_1, ↓M_2, L_0, L_1, L_2, L_3, L_4, L_5, L_6, L_7, L_8, L_9, L_10, L_11, L_12, L_13, L_20, L_24, L_26, L_30, L_31, L_32, L_39, L_40, L_48, L_57, L_76, L_80, L_90, L_91, L_97, L_99, L_100, L_255, L_273, L_1000, L_2000, q_ld, q_ldL, q_sto, q_stoL, q_add, q_sub, q_mul, q_dec, q_rem, q_div, q_lt_t, q_lt_f, q_le_t, q_le_f, q_eq_t, q_eq_f, q_em, q_me, q_ml, q_lm, q_mle, q_lem, q_s1, q_s1o, q_s1k, q_s12, q_s2, q_s2o, q_s2k, q_s21, Nat.add_sub_cancel, q_or, q_and, q_shl, true_or, or_true, false_or, or_false, true_and, and_true, false_and, and_false, not_true_eq_false, not_false_eq_true, ne_eq, h.p, eh, ha i hi, gM_EachAddsALineModel_heralds_99]
    · rw [if_neg c] at eh
      rw [show (if x.testBit i = true then kfN w k e x i ||| kn w i k e else kfN w k e x i) = kfN w k e x i from if_neg c, gM_EachAddsALineModel_heralds_67]
      simp (disch := omega) only [Option.bind_some, ↓reduceIte, ↓M_1, ↓M_2, L_0, L_1, L_2, L_3, L_4, L_5, L_6, L_7, L_8, L_9, L_10, L_11, L_12, L_13, L_20, L_24, L_26, L_30, L_31, L_32, L_39, L_40, L_48, L_57, L_76, L_80, L_90, L_91, L_97, L_99, L_100, L_255, L_273, L_1000, L_2000, q_ld, q_ldL, q_sto, q_stoL, q_add, q_sub, q_mul, q_dec, q_rem, q_div, q_lt_t, q_lt_f, q_le_t, q_le_f, q_eq_t, q_eq_f, q_em, q_me, q_ml, q_lm, q_mle, q_lem, q_s1, q_s1o, q_s1k, q_s12, q_s2, q_s2o, q_s2k, q_s21, Nat.add_sub_cancel, q_or, q_and, q_shl, true_or, or_true, false_or, or_false, true_and, and_true, false_and, and_false, not_true_eq_false, not_false_eq_true, ne_eq, h.p, eh, gM_EachAddsALineModel_heralds_99, Nat.or_zero]
  · have hkf := kfN_lt (k := k) (e := e) h.ok x (w 5 0)
    try simp only
    by_cases d : kfN w k e x (w 5 0) = 2 ^ w 5 0 - 1
    · by_cases c : b = 1000
      · rw [show (if heB w k e x ∧ (b = 1000 ∨ bc (nI x) < bc (nI b)) then x else b) = x from if_pos ⟨d, Or.inl c⟩, show gJ x = nI x from if_neg (by omega), show gJ b = mI 1 from if_pos c, gM_EachAddsALineModel_heralds_67]
        simp (disch := omega) only [Option.bind_some, ↓reduceIte, ↓M_1, ↓M_2, L_0, L_1, L_2, L_3, L_4, L_5, L_6, L_7, L_8, L_9, L_10, L_11, L_12, L_13, L_20, L_24, L_26, L_30, L_31, L_32, L_39, L_40, L_48, L_57, L_76, L_80, L_90, L_91, L_97, L_99, L_100, L_255, L_273, L_1000, L_2000, q_ld, q_ldL, q_sto, q_stoL, q_add, q_mul, q_dec, q_rem, q_div, q_lt_t, q_lt_f, q_le_t, q_le_f, q_eq_t, q_eq_f, q_em, q_me, q_ml, q_lm, q_mle, q_lem, q_s1, q_s1o, q_s1k, q_s12, q_s2, q_s2o, q_s2k, q_s21, Nat.add_sub_cancel, q_or, q_and, true_or, or_true, false_or, or_false, true_and, and_true, false_and, and_false, not_true_eq_false, not_false_eq_true, ne_eq, h.p, hs1, d, gM_EachAddsALineModel_heralds_141, gM_EachAddsALineModel_heralds_144]
      · have hb2 : b < 512 := hb1.resolve_left c
        by_cases c2 : bc (nI x) < bc (nI b)
        · rw [show (if heB w k e x ∧ (b = 1000 ∨ bc (nI x) < bc (nI b)) then x else b) = x from if_pos ⟨d, Or.inr c2⟩, show gJ x = nI x from if_neg (by omega), show gJ b = nI b from if_neg c, gM_EachAddsALineModel_heralds_67]
          simp (disch := omega) only [Option.bind_some, ↓reduceIte, ↓M_1, ↓M_2, L_0, L_1, L_2, L_3, L_4, L_5, L_6, L_7, L_8, L_9, L_10, L_11, L_12, L_13, L_20, L_24, L_26, L_30, L_31, L_32, L_39, L_40, L_48, L_57, L_76, L_80, L_90, L_91, L_97, L_99, L_100, L_255, L_273, L_1000, L_2000, q_ld, q_ldL, q_sto, q_stoL, q_add, q_mul, q_dec, q_rem, q_div, q_lt_t, q_lt_f, q_le_t, q_le_f, q_eq_t, q_eq_f, q_em, q_me, q_ml, q_lm, q_mle, q_lem, q_s1, q_s1o, q_s1k, q_s12, q_s2, q_s2o, q_s2k, q_s21, Nat.add_sub_cancel, q_or, q_and, true_or, or_true, false_or, or_false, true_and, and_true, false_and, and_false, not_true_eq_false, not_false_eq_true, ne_eq, h.p, hs1, d, M_bc, c2, gM_EachAddsALineModel_heralds_141, gM_EachAddsALineModel_heralds_144]
        · rw [show (if heB w k e x ∧ (b = 1000 ∨ bc (nI x) < bc (nI b)) then x else b) = b from if_neg (fun z => z.2.elim c c2), show gJ b = nI b from if_neg c, gM_EachAddsALineModel_heralds_67]
          simp (disch := omega) only [Option.bind_some, ↓reduceIte, ↓M_1, ↓M_2, L_0, L_1, L_2, L_3, L_4, L_5, L_6, L_7, L_8, L_9, L_10, L_11, L_12, L_13, L_20, L_24, L_26, L_30, L_31, L_32, L_39, L_40, L_48, L_57, L_76, L_80, L_90, L_91, L_97, L_99, L_100, L_255, L_273, L_1000, L_2000, q_ld, q_ldL, q_sto, q_stoL, q_add, q_mul, q_dec, q_rem, q_div, q_lt_t, q_lt_f, q_le_t, q_le_f, q_eq_t, q_eq_f, q_em, q_me, q_ml, q_lm, q_mle, q_lem, q_s1, q_s1o, q_s1k, q_s12, q_s2, q_s2o, q_s2k, q_s21, Nat.add_sub_cancel, q_or, q_and, true_or, or_true, false_or, or_false, true_and, and_true, false_and, and_false, not_true_eq_false, not_false_eq_true, ne_eq, h.p, hs1, d, M_bc, c2, gM_EachAddsALineModel_heralds_144]
    · rw [show (if heB w k e x ∧ (b = 1000 ∨ bc (nI x) < bc (nI b)) then x else b) = b from if_neg (fun z => d z.1), gM_EachAddsALineModel_heralds_67]
      simp (disch := omega) only [Option.bind_some, ↓reduceIte, ↓M_1, ↓M_2, L_0, L_1, L_2, L_3, L_4, L_5, L_6, L_7, L_8, L_9, L_10, L_11, L_12, L_13, L_20, L_24, L_26, L_30, L_31, L_32, L_39, L_40, L_48, L_57, L_76, L_80, L_90, L_91, L_97, L_99, L_100, L_255, L_273, L_1000, L_2000, q_ld, q_ldL, q_sto, q_stoL, q_add, q_mul, q_dec, q_rem, q_div, q_lt_t, q_lt_f, q_le_t, q_le_f, q_eq_t, q_eq_f, q_em, q_me, q_ml, q_lm, q_mle, q_lem, q_s1, q_s1o, q_s1k, q_s12, q_s2, q_s2o, q_s2k, q_s21, Nat.add_sub_cancel, q_or, q_and, true_or, or_true, false_or, or_false, true_and, and_true, false_and, and_false, not_true_eq_false, not_false_eq_true, ne_eq, h.p, hs1, gM_EachAddsALineModel_heralds_144]
theorem M_heralds18 (h : MW w t) (hp : ∀ u, u < w 5 0 → PI w u 0 (fun o => o < 2 * w 5 1 ∧ ¬ o / 2 = 100 ∧ k ≤ hr w o) (fun p => arr w 0 100 u k p)) (hN : 600 ≤ N) (hk : k ≤ e) (he : e ≤ 99) :
    ∃ z, gM_EachAddsALineModel_heralds_18 N N (nI k) (nI e) (nI 0) t = some (bc (nI (hmN w k e (2 ^ w 5 0))), z) ∧ Fm [7, 11, 20, 21] [] [10, 30] t z ∧ z.1 0 10 = nI 1 ∧ z.1 7 0 = nI (hmN w k e (2 ^ w 5 0)) := by
  have hb := h.bd
  have hal := all_bd h.ok
  have i1 : ∃ z, gM_EachAddsALineModel_heralds_18 N N (nI k) (nI e) (nI 0) t = gM_EachAddsALineModel_heralds_50 N N (mI 1) (nI 0) z ∧ Fm [11, 20, 21] [] [30] t z ∧ ∀ p, p < w 5 0 → z.1 21 p = nI (kn w p k e) := by
    refine loopU (fun f i z => gM_EachAddsALineModel_heralds_18 N f (nI k) (nI e) (nI i) z) (w 5 0) (fun i z => i ≤ w 5 0 ∧ Fm [11, 20, 21] [] [30] t z ∧ ∀ p, p < i → z.1 21 p = nI (kn w p k e)) (fun o => ∃ z, o = gM_EachAddsALineModel_heralds_50 N N (mI 1) (nI 0) z ∧ Fm [11, 20, 21] [] [30] t z ∧ ∀ p, p < w 5 0 → z.1 21 p = nI (kn w p k e)) ?_ ?_ (w 5 0) N 0 t (by omega) (by omega) ⟨by omega, Fm.rf, fun p hp => by omega⟩
    · rintro f i z hi ⟨g1, g2, g3⟩
      have hz : MW w z := h.fm g2 (by decide) (by decide)
      obtain ⟨z', x1, x2, x3⟩ := M_knowing (N := N) hz (hp i hi) (by omega) hi hk he
      refine Or.inl ⟨s1 z' 21 i (nI (kn w i k e)), ?_, by omega, (g2.tr (x2.mono (by decide) (by decide) (by decide))).tr (Fm.w1 (by decide) (by decide)), fun p hp => ?_⟩
      · rw [gM_EachAddsALineModel_heralds_18]
        simp (disch := omega) only [Option.bind_some, ↓reduceIte, ↓M_1, ↓M_2, L_0, L_1, L_2, L_3, L_4, L_5, L_6, L_7, L_8, L_9, L_10, L_11, L_12, L_13, L_20, L_24, L_26, L_30, L_31, L_32, L_39, L_40, L_48, L_57, L_76, L_80, L_90, L_91, L_97, L_99, L_100, L_255, L_273, L_1000, L_2000, q_ld, q_ldL, q_sto, q_stoL, q_add, q_sub, q_mul, q_dec, q_rem, q_div, q_lt_t, q_lt_f, q_le_t, q_le_f, q_eq_t, q_eq_f, q_em, q_me, q_ml, q_lm, q_mle, q_lem, q_s1, q_s1o, q_s1k, q_s12, q_s2, q_s2o, q_s2k, q_s21, Nat.add_sub_cancel, q_or, q_and, q_shl, true_or, or_true, false_or, or_false, true_and, and_true, false_and, and_false, not_true_eq_false, not_false_eq_true, ne_eq, hz.p, x1]
      · by_cases c : p = i
        · rw [c, q_s1]
        · rw [q_s1k c, x2.1 21 (by decide) (by decide)]; exact g3 p (by omega)
    · rintro f z ⟨g1, g2, g3⟩
      have hz : MW w z := h.fm g2 (by decide) (by decide)
      refine ⟨z, ?_, g2, g3⟩
      try simp only
      rw [gM_EachAddsALineModel_heralds_18]
      simp (disch := omega) only [Option.bind_some, ↓reduceIte, ↓M_1, ↓M_2, L_0, L_1, L_2, L_3, L_4, L_5, L_6, L_7, L_8, L_9, L_10, L_11, L_12, L_13, L_20, L_24, L_26, L_30, L_31, L_32, L_39, L_40, L_48, L_57, L_76, L_80, L_90, L_91, L_97, L_99, L_100, L_255, L_273, L_1000, L_2000, q_ld, q_ldL, q_sto, q_stoL, q_add, q_sub, q_mul, q_dec, q_rem, q_div, q_lt_t, q_lt_f, q_le_t, q_le_f, q_eq_t, q_eq_f, q_em, q_me, q_ml, q_lm, q_mle, q_lem, q_s1, q_s1o, q_s1k, q_s12, q_s2, q_s2o, q_s2k, q_s21, Nat.add_sub_cancel, q_or, q_and, q_shl, true_or, or_true, false_or, or_false, true_and, and_true, false_and, and_false, not_true_eq_false, not_false_eq_true, ne_eq, hz.p]
  obtain ⟨z, i1, i2, i3⟩ := i1
  have hz : MW w z := h.fm i2 (by decide) (by decide)
  have hfin := hc_hm_all (k := k) (e := e) h.ok hk
  have hfl := hc_lt (k := k) (e := e) h.ok (Nat.le_refl (2 ^ w 5 0 - 1))
  obtain ⟨z2, w1, w2⟩ := M_tell (N := N) (q := fun _ => nI (hmN w k e (2 ^ w 5 0))) (Rm.nil (t := z)) (by decide) (x := nI (hmN w k e (2 ^ w 5 0))) rfl
  refine ⟨z2, ?_, (i2.mono (by decide) (by decide) (by decide)).tr (w2.1.mono (by decide) (by decide) (by decide)), w2.2.1, w2.2.2 0 (by decide)⟩
  rw [i1]
  refine loopS (fun f i (b : Nat) => gM_EachAddsALineModel_heralds_50 N f (gJ b) (nI i) z) (fun i => hmN w k e i) (2 ^ w 5 0) _ (fun f i hi => ?_) (fun f => ?_) N (by omega)
  · have es : hmN w k e (i + 1) = if heB w k e i ∧ (hmN w k e i = 1000 ∨ bc (nI i) < bc (nI (hmN w k e i))) then i else hmN w k e i := rfl
    have hml := hm_lt (k := k) (e := e) h.ok (n := i) (by omega)
    try simp only
    rw [es, gM_EachAddsALineModel_heralds_50, ← M_he67 (N := N) (gM_EachAddsALineModel_heralds_50 N f) hz (by omega) (show i < 512 by omega) hml i3]
    simp (disch := omega) only [Option.bind_some, ↓reduceIte, ↓M_1, ↓M_2, L_0, L_1, L_2, L_3, L_4, L_5, L_6, L_7, L_8, L_9, L_10, L_11, L_12, L_13, L_20, L_24, L_26, L_30, L_31, L_32, L_39, L_40, L_48, L_57, L_76, L_80, L_90, L_91, L_97, L_99, L_100, L_255, L_273, L_1000, L_2000, q_ld, q_ldL, q_sto, q_stoL, q_add, q_sub, q_mul, q_dec, q_rem, q_div, q_lt_t, q_lt_f, q_le_t, q_le_f, q_eq_t, q_eq_f, q_em, q_me, q_ml, q_lm, q_mle, q_lem, q_s1, q_s1o, q_s1k, q_s12, q_s2, q_s2o, q_s2k, q_s21, Nat.add_sub_cancel, q_or, q_and, q_shl, true_or, or_true, false_or, or_false, true_and, and_true, false_and, and_false, not_true_eq_false, not_false_eq_true, ne_eq, hz.p]
  · try simp only
    rw [show gJ (hmN w k e (2 ^ w 5 0)) = nI (hmN w k e (2 ^ w 5 0)) from if_neg (by omega), gM_EachAddsALineModel_heralds_50]
    simp (disch := omega) only [Option.bind_some, ↓reduceIte, ↓M_1, ↓M_2, L_0, L_1, L_2, L_3, L_4, L_5, L_6, L_7, L_8, L_9, L_10, L_11, L_12, L_13, L_20, L_24, L_26, L_30, L_31, L_32, L_39, L_40, L_48, L_57, L_76, L_80, L_90, L_91, L_97, L_99, L_100, L_255, L_273, L_1000, L_2000, q_ld, q_ldL, q_sto, q_stoL, q_add, q_sub, q_mul, q_dec, q_rem, q_div, q_lt_t, q_lt_f, q_le_t, q_le_f, q_eq_t, q_eq_f, q_em, q_me, q_ml, q_lm, q_mle, q_lem, q_s1, q_s1o, q_s1k, q_s12, q_s2, q_s2o, q_s2k, q_s21, Nat.add_sub_cancel, q_or, q_and, q_shl, true_or, or_true, false_or, or_false, true_and, and_true, false_and, and_false, not_true_eq_false, not_false_eq_true, ne_eq, hz.p, w1, M_bc]
theorem k_heralds (hU : okU U) (hN : 600 ≤ N) : keeps2 N (RR U) fC_EachAddsALine_heralds fM_EachAddsALineModel_heralds := fun s t hr b c => by
  obtain ⟨w, h1, h2, _⟩ := id hr
  have h2' := M_rd0 h2 (nI 0)
  have hb := h1.bd
  by_cases q2 : spn b c
  · obtain ⟨k, e, hk, he, rfl, rfl⟩ := q2
    obtain ⟨z, x1, x2⟩ := C_fewestHeralds (N := N) h1 hN hk he
    obtain ⟨y, y1, y2, y3, y4⟩ := M_heralds18 (N := N) h2' (fun u hu => arr_PI h1 hu (show k < 1000 by omega)) hN hk he
    rw [hc_hm_all h1.ok hk] at y1 y4
    obtain ⟨z0, v1, v2⟩ := C_clear_row (N := N) (q := fun _ => nI (hcN w k e (2 ^ w 5 0 - 1))) (s := z)
    obtain ⟨z2, w1, w2⟩ := C_add_row (N := N) v2 (x := nI (hcN w k e (2 ^ w 5 0 - 1))) rfl
    have hro : RO z2 y := ⟨1, by decide, w2.2.1, y3, fun j hj => by
      obtain rfl : j = 0 := by omega
      rw [y4]
      exact w2.2.2 0 (by decide)⟩
    refine ⟨bc (nI (hcN w k e (2 ^ w 5 0 - 1))), z2, y, ?_, ?_, hr.ro hU hro ((x2.mono (by decide) (by decide)).tr (w2.1.mono (by decide) (by decide)) : Fr [3, 4, 41, 42, 45] [] s z2) ((Fm.w10 (by decide)).tr (y2.mono (by decide) (by decide) (by decide)) : Fm [7, 11, 20, 21] [] [10, 11, 30] t y) (by decide) (by decide) (by decide)⟩
    · simp (disch := omega) only [Option.bind_some, ↓reduceIte, ↓M_1, ↓M_2, L_0, L_1, L_2, L_3, L_4, L_5, L_6, L_7, L_8, L_9, L_10, L_11, L_12, L_13, L_20, L_24, L_26, L_30, L_31, L_32, L_39, L_40, L_48, L_57, L_76, L_80, L_90, L_91, L_97, L_99, L_100, L_255, L_273, L_1000, L_2000, q_ld, q_ldL, q_sto, q_stoL, q_add, q_sub, q_mul, q_dec, q_rem, q_div, q_lt_t, q_lt_f, q_le_t, q_le_f, q_eq_t, q_eq_f, q_em, q_me, q_ml, q_lm, q_mle, q_lem, q_s1, q_s1o, q_s1k, q_s12, q_s2, q_s2o, q_s2k, q_s21, Nat.add_sub_cancel, q_or, q_and, q_shl, true_or, or_true, false_or, or_false, true_and, and_true, false_and, and_false, not_true_eq_false, not_false_eq_true, ne_eq, fC_EachAddsALine_heralds, gC_EachAddsALine_heralds_0, C_isSpan_t hk he, x1, v1, w1, C_bc]
    · simp (disch := omega) only [Option.bind_some, ↓reduceIte, ↓M_1, ↓M_2, L_0, L_1, L_2, L_3, L_4, L_5, L_6, L_7, L_8, L_9, L_10, L_11, L_12, L_13, L_20, L_24, L_26, L_30, L_31, L_32, L_39, L_40, L_48, L_57, L_76, L_80, L_90, L_91, L_97, L_99, L_100, L_255, L_273, L_1000, L_2000, q_ld, q_ldL, q_sto, q_stoL, q_add, q_sub, q_mul, q_dec, q_rem, q_div, q_lt_t, q_lt_f, q_le_t, q_le_f, q_eq_t, q_eq_f, q_em, q_me, q_ml, q_lm, q_mle, q_lem, q_s1, q_s1o, q_s1k, q_s12, q_s2, q_s2o, q_s2k, q_s21, Nat.add_sub_cancel, q_or, q_and, q_shl, true_or, or_true, false_or, or_false, true_and, and_true, false_and, and_false, not_true_eq_false, not_false_eq_true, ne_eq, fM_EachAddsALineModel_heralds, gM_EachAddsALineModel_heralds_0, M_areHours_t hk he, y1]
  · exact ⟨mI 1, s, _, by simp (disch := omega) only [Option.bind_some, ↓reduceIte, ↓M_1, ↓M_2, L_0, L_1, L_2, L_3, L_4, L_5, L_6, L_7, L_8, L_9, L_10, L_11, L_12, L_13, L_20, L_24, L_26, L_30, L_31, L_32, L_39, L_40, L_48, L_57, L_76, L_80, L_90, L_91, L_97, L_99, L_100, L_255, L_273, L_1000, L_2000, q_ld, q_ldL, q_sto, q_stoL, q_add, q_sub, q_mul, q_dec, q_rem, q_div, q_lt_t, q_lt_f, q_le_t, q_le_f, q_eq_t, q_eq_f, q_em, q_me, q_ml, q_lm, q_mle, q_lem, q_s1, q_s1o, q_s1k, q_s12, q_s2, q_s2o, q_s2k, q_s21, Nat.add_sub_cancel, q_or, q_and, q_shl, true_or, or_true, false_or, or_false, true_and, and_true, false_and, and_false, not_true_eq_false, not_false_eq_true, ne_eq, fC_EachAddsALine_heralds, gC_EachAddsALine_heralds_0, C_isSpan_f q2], by simp (disch := omega) only [Option.bind_some, ↓reduceIte, ↓M_1, ↓M_2, L_0, L_1, L_2, L_3, L_4, L_5, L_6, L_7, L_8, L_9, L_10, L_11, L_12, L_13, L_20, L_24, L_26, L_30, L_31, L_32, L_39, L_40, L_48, L_57, L_76, L_80, L_90, L_91, L_97, L_99, L_100, L_255, L_273, L_1000, L_2000, q_ld, q_ldL, q_sto, q_stoL, q_add, q_sub, q_mul, q_dec, q_rem, q_div, q_lt_t, q_lt_f, q_le_t, q_le_f, q_eq_t, q_eq_f, q_em, q_me, q_ml, q_lm, q_mle, q_lem, q_s1, q_s1o, q_s1k, q_s12, q_s2, q_s2o, q_s2k, q_s21, Nat.add_sub_cancel, q_or, q_and, q_shl, true_or, or_true, false_or, or_false, true_and, and_true, false_and, and_false, not_true_eq_false, not_false_eq_true, ne_eq, fM_EachAddsALineModel_heralds, gM_EachAddsALineModel_heralds_0, M_areHours_f q2], hr.k0 hU⟩
end PO
