/-! pairs, apart -/
section PA
variable {N : Nat} {U : vSt → vSt → Prop} {w : Nat → Nat → Nat} {s t : vSt} {u v k : Nat}
abbrev pq := Nat × Nat × Nat × Nat
def prF (w : Nat → Nat → Nat) (k a b : Nat) (x : pq) : pq := if a = b ∨ ¬ arr w 0 100 a k b < 1000000 then x else if x.2.2.2 < arr w 0 100 a k b + 1 then (x.1 + 1, a, b, arr w 0 100 a k b + 1) else (x.1 + 1, x.2)
def prI (w : Nat → Nat → Nat) (k a : Nat) (x : pq) (n : Nat) : pq := fz (prF w k a) x n
def prO (w : Nat → Nat → Nat) (k n : Nat) : pq := fz (fun a x => prI w k a x (w 5 0)) (0, 0, 0, 0) n
def prB (m : Nat) (x : pq) : Prop := x.1 ≤ m ∧ (x.1 = 0 ↔ x.2.2.2 = 0) ∧ x.2.2.2 ≤ 100 ∧ x.2.1 < 9 ∧ x.2.2.1 < 9
theorem prF_ok (h : okW w) {a b m : Nat} (ha : a < w 5 0) (hb : b < w 5 0) {x : pq} (hx : prB m x) : prB (m + 1) (prF w k a b x) := by
  have hbd := arr_bd (br := 0) (go := 100) (u := a) (k := k) (v := b) h
  have hP := h.1
  obtain ⟨h1, h2, h3, h4, h5⟩ := hx
  unfold prF
  split
  · exact ⟨by omega, h2, h3, h4, h5⟩
  · rename_i c
    have c2 : arr w 0 100 a k b < 1000000 := Classical.byContradiction (fun z => c (Or.inr z))
    split
    · refine ⟨?_, ?_, ?_, ?_, ?_⟩
      · show x.1 + 1 ≤ m + 1; omega
      · show x.1 + 1 = 0 ↔ arr w 0 100 a k b + 1 = 0; omega
      · show arr w 0 100 a k b + 1 ≤ 100; omega
      · show a < 9; omega
      · show b < 9; omega
    · refine ⟨?_, ?_, h3, h4, h5⟩
      · show x.1 + 1 ≤ m + 1; omega
      · show x.1 + 1 = 0 ↔ x.2.2.2 = 0; omega
theorem prI_ok (h : okW w) {a m n : Nat} (ha : a < w 5 0) (hn : n ≤ w 5 0) {x : pq} (hx : prB m x) : prB (m + n) (prI w k a x n) :=
  fz_ind (f := prF w k a) (z := x) (n := n) (fun i y => prB (m + i) y) hx (fun i y hi hy => prF_ok h ha (by omega) hy) n (Nat.le_refl _)
theorem prO_ok (h : okW w) {n : Nat} (hn : n ≤ w 5 0) : prB (n * w 5 0) (prO w k n) :=
  fz_ind (f := fun a x => prI w k a x (w 5 0)) (z := (0, 0, 0, 0)) (n := n) (fun i y => prB (i * w 5 0) y) ⟨Nat.zero_le _, Iff.rfl, by decide, by decide, by decide⟩ (fun i y hi hy => by rw [Nat.succ_mul]; exact prI_ok h (by omega) (Nat.le_refl _) hy) n (Nat.le_refl _)
def RX (x : pq) (z : vSt) : Prop := (x.2.2.2 = 0 → z.1 3 1 = nI 0) ∧ (¬ x.2.2.2 = 0 → z.1 3 1 = nI 3 ∧ z.1 4 0 = nI x.2.1 ∧ z.1 4 1 = nI x.2.2.1 ∧ z.1 4 2 = nI (x.2.2.2 - 1))
theorem lm_lt {l y : Nat} (hl : l ≤ 1000) (hy : y ≤ 99) : (nI y ≤ lmI l) = ¬ (l < y + 1) := by
  refine propext ?_
  unfold lmI
  by_cases c : l = 0
  · rw [if_pos c, (q_lem (a := y) (b := 1) (by omega) (by decide) (by omega))]
    exact ⟨False.elim, fun z => by omega⟩
  · rw [if_neg c, nI_leI (by omega) (by omega)]
    omega
theorem lm_lt2 {l y : Nat} (hl : l ≤ 1000) (hy : y ≤ 99) : (lmI l < nI y) = (l < y + 1) := by
  refine propext ?_
  unfold lmI
  by_cases c : l = 0
  · rw [if_pos c, (q_ml (a := y) (b := 1) (by omega) (by decide) (by omega))]
    exact ⟨fun _ => by omega, fun _ => trivial⟩
  · rw [if_neg c, nI_ltI (by omega) (by omega)]
    omega
theorem C_pairs36 (R : Int32 → Int32 → Int32 → Int32 → vSt → Option (Int32 × vSt)) {a m : Nat} {x : pq} (h : CW w s) (hN : 60 ≤ N) (ha : a < w 5 0) (hx : prB m x) (hm : m ≤ 100) (h42 : ∀ p, p < w 5 0 → s.1 42 p = ea (arr w 0 100 a k p)) (hr : RX x s) :
    ∃ z, gC_Paths_countPairs_36 N R N (nI k) (nI x.1) (lmI x.2.2.2) (nI a) (nI 0) s = R (nI k) (nI (prI w k a x (w 5 0)).1) (lmI (prI w k a x (w 5 0)).2.2.2) (nI (a + 1)) z ∧ Fr [3, 4] [] s z ∧ RX (prI w k a x (w 5 0)) z := by
  have hb := h.bd
  refine loopU (fun f i z => gC_Paths_countPairs_36 N R f (nI k) (nI (prI w k a x i).1) (lmI (prI w k a x i).2.2.2) (nI a) (nI i) z) (w 5 0) (fun i z => i ≤ w 5 0 ∧ Fr [3, 4] [] s z ∧ RX (prI w k a x i) z) (fun o => ∃ z, o = R (nI k) (nI (prI w k a x (w 5 0)).1) (lmI (prI w k a x (w 5 0)).2.2.2) (nI (a + 1)) z ∧ Fr [3, 4] [] s z ∧ RX (prI w k a x (w 5 0)) z) ?_ ?_ (w 5 0) N 0 s (by omega) (by omega) ⟨by omega, Fr.rf, hr⟩
  · rintro f i z hi ⟨g1, g2, g3⟩
    have hz : CW w z := h.fr g2 (by decide)
    have hxi := prI_ok (k := k) (n := i) h.ok ha (by omega) hx
    have es : prI w k a x (i + 1) = prF w k a i (prI w k a x i) := rfl
    have hbd := arr_bd (br := 0) (go := 100) (u := a) (k := k) (v := i) h.ok
    have e1 : z.1 42 i = ea (arr w 0 100 a k i) := by rw [g2.1 42 (by decide)]; exact h42 i hi
    try simp only
    rw [es]
    generalize prI w k a x i = y at hxi g3
    obtain ⟨b1, b2, b3, b4, b5⟩ := hxi
    by_cases c : i = a
    · refine Or.inl ⟨z, ?_, by omega, g2, ?_⟩
      · rw [show prF w k a i y = y from if_pos (Or.inl c.symm), gC_Paths_countPairs_36]
        simp (disch := omega) only [Option.bind_some, ↓reduceIte, ↓M_1, ↓M_2, L_0, L_1, L_2, L_3, L_4, L_5, L_6, L_7, L_8, L_9, L_10, L_11, L_12, L_13, L_20, L_24, L_26, L_30, L_31, L_32, L_39, L_40, L_48, L_57, L_76, L_80, L_90, L_91, L_97, L_99, L_100, L_255, L_273, L_1000, L_2000, q_ld, q_ldL, q_sto, q_stoL, q_add, q_sub, q_mul, q_dec, q_rem, q_div, q_lt_t, q_lt_f, q_le_t, q_le_f, q_eq_t, q_eq_f, q_em, q_me, q_ml, q_lm, q_mle, q_lem, q_s1, q_s1o, q_s1k, q_s12, q_s2, q_s2o, q_s2k, q_s21, Nat.add_sub_cancel, q_or, q_and, q_shl, true_or, or_true, false_or, or_false, true_and, and_true, false_and, and_false, not_true_eq_false, not_false_eq_true, ne_eq, hz.p, c, gC_Paths_countPairs_115]
      · rw [show prF w k a i y = y from if_pos (Or.inl c.symm)]; exact g3
    · by_cases d : arr w 0 100 a k i < 1000000
      · rw [ea_lt (by omega)] at e1
        have el := lm_lt (l := y.2.2.2) (y := arr w 0 100 a k i) (by omega) (by omega)
        have hne : ¬ (a = i ∨ ¬ arr w 0 100 a k i < 1000000) := fun q => q.elim (fun q => c q.symm) (fun q => q d)
        by_cases e : y.2.2.2 < arr w 0 100 a k i + 1
        · have ef : prF w k a i y = (y.1 + 1, a, i, arr w 0 100 a k i + 1) := (if_neg hne).trans (if_pos e)
          obtain ⟨z0, v1, v2⟩ := C_clear_row (N := N) (q := fun j => if j = 0 then nI a else if j = 1 then nI i else nI (arr w 0 100 a k i)) (s := z)
          obtain ⟨z1, w1, w2⟩ := C_add_row (N := N) v2 (x := nI a) rfl
          obtain ⟨z2, w3, w4⟩ := C_add_row (N := N) w2 (x := nI i) rfl
          obtain ⟨z3, w5, w6⟩ := C_add_row (N := N) w4 (x := nI (arr w 0 100 a k i)) rfl
          refine Or.inl ⟨z3, ?_, by omega, g2.tr w6.1, ?_⟩
          · rw [ef, gC_Paths_countPairs_36]
            show _ = gC_Paths_countPairs_36 N R f (nI k) (nI (y.1 + 1)) (lmI (arr w 0 100 a k i + 1)) (nI a) (nI (i + 1)) z3
            rw [lmI_s]
            simp (disch := omega) only [Option.bind_some, ↓reduceIte, ↓M_1, ↓M_2, L_0, L_1, L_2, L_3, L_4, L_5, L_6, L_7, L_8, L_9, L_10, L_11, L_12, L_13, L_20, L_24, L_26, L_30, L_31, L_32, L_39, L_40, L_48, L_57, L_76, L_80, L_90, L_91, L_97, L_99, L_100, L_255, L_273, L_1000, L_2000, q_ld, q_ldL, q_sto, q_stoL, q_add, q_sub, q_mul, q_dec, q_rem, q_div, q_lt_t, q_lt_f, q_le_t, q_le_f, q_eq_t, q_eq_f, q_em, q_me, q_ml, q_lm, q_mle, q_lem, q_s1, q_s1o, q_s1k, q_s12, q_s2, q_s2o, q_s2k, q_s21, Nat.add_sub_cancel, q_or, q_and, q_shl, true_or, or_true, false_or, or_false, true_and, and_true, false_and, and_false, not_true_eq_false, not_false_eq_true, ne_eq, hz.p, c, e1, el, eq_false (fun q : ¬ y.2.2.2 < arr w 0 100 a k i + 1 => q e), v1, w1, w3, w5, gC_Paths_countPairs_115]
          · rw [ef]
            exact ⟨fun q => absurd q (Nat.succ_ne_zero _), fun _ => ⟨w6.2.1, w6.2.2 0 (by decide), w6.2.2 1 (by decide), w6.2.2 2 (by decide)⟩⟩
        · have ef : prF w k a i y = (y.1 + 1, y.2) := (if_neg hne).trans (if_neg e)
          refine Or.inl ⟨z, ?_, by omega, g2, ?_⟩
          · rw [ef, gC_Paths_countPairs_36]
            show _ = gC_Paths_countPairs_36 N R f (nI k) (nI (y.1 + 1)) (lmI y.2.2.2) (nI a) (nI (i + 1)) z
            simp (disch := omega) only [Option.bind_some, ↓reduceIte, ↓M_1, ↓M_2, L_0, L_1, L_2, L_3, L_4, L_5, L_6, L_7, L_8, L_9, L_10, L_11, L_12, L_13, L_20, L_24, L_26, L_30, L_31, L_32, L_39, L_40, L_48, L_57, L_76, L_80, L_90, L_91, L_97, L_99, L_100, L_255, L_273, L_1000, L_2000, q_ld, q_ldL, q_sto, q_stoL, q_add, q_sub, q_mul, q_dec, q_rem, q_div, q_lt_t, q_lt_f, q_le_t, q_le_f, q_eq_t, q_eq_f, q_em, q_me, q_ml, q_lm, q_mle, q_lem, q_s1, q_s1o, q_s1k, q_s12, q_s2, q_s2o, q_s2k, q_s21, Nat.add_sub_cancel, q_or, q_and, q_shl, true_or, or_true, false_or, or_false, true_and, and_true, false_and, and_false, not_true_eq_false, not_false_eq_true, ne_eq, hz.p, c, e1, el, eq_true e, gC_Paths_countPairs_115]
          · rw [ef]; exact g3
      · have ef : prF w k a i y = y := if_pos (Or.inr d)
        rw [show arr w 0 100 a k i = 1000000 by omega, ea_far] at e1
        refine Or.inl ⟨z, ?_, by omega, g2, ?_⟩
        · rw [ef, gC_Paths_countPairs_36]
          simp (disch := omega) only [Option.bind_some, ↓reduceIte, ↓M_1, ↓M_2, L_0, L_1, L_2, L_3, L_4, L_5, L_6, L_7, L_8, L_9, L_10, L_11, L_12, L_13, L_20, L_24, L_26, L_30, L_31, L_32, L_39, L_40, L_48, L_57, L_76, L_80, L_90, L_91, L_97, L_99, L_100, L_255, L_273, L_1000, L_2000, q_ld, q_ldL, q_sto, q_stoL, q_add, q_sub, q_mul, q_dec, q_rem, q_div, q_lt_t, q_lt_f, q_le_t, q_le_f, q_eq_t, q_eq_f, q_em, q_me, q_ml, q_lm, q_mle, q_lem, q_s1, q_s1o, q_s1k, q_s12, q_s2, q_s2o, q_s2k, q_s21, Nat.add_sub_cancel, q_or, q_and, q_shl, true_or, or_true, false_or, or_false, true_and, and_true, false_and, and_false, not_true_eq_false, not_false_eq_true, ne_eq, hz.p, c, e1, gC_Paths_countPairs_115]
        · rw [ef]; exact g3
  · rintro f z ⟨g1, g2, g3⟩
    have hz : CW w z := h.fr g2 (by decide)
    refine ⟨z, ?_, g2, g3⟩
    try simp only
    rw [gC_Paths_countPairs_36]
    simp (disch := omega) only [Option.bind_some, ↓reduceIte, ↓M_1, ↓M_2, L_0, L_1, L_2, L_3, L_4, L_5, L_6, L_7, L_8, L_9, L_10, L_11, L_12, L_13, L_20, L_24, L_26, L_30, L_31, L_32, L_39, L_40, L_48, L_57, L_76, L_80, L_90, L_91, L_97, L_99, L_100, L_255, L_273, L_1000, L_2000, q_ld, q_ldL, q_sto, q_stoL, q_add, q_sub, q_mul, q_dec, q_rem, q_div, q_lt_t, q_lt_f, q_le_t, q_le_f, q_eq_t, q_eq_f, q_em, q_me, q_ml, q_lm, q_mle, q_lem, q_s1, q_s1o, q_s1k, q_s12, q_s2, q_s2o, q_s2k, q_s21, Nat.add_sub_cancel, q_or, q_and, q_shl, true_or, or_true, false_or, or_false, true_and, and_true, false_and, and_false, not_true_eq_false, not_false_eq_true, ne_eq, hz.p]
theorem C_countPairs (h : CW w s) (hN : 60 ≤ N) (hk : k < 100) : ∃ z, fC_Paths_countPairs N (nI k) s = some (nI (prO w k (w 5 0)).1, z) ∧ Fr [3, 4, 42] [] s z ∧ RX (prO w k (w 5 0)) z := by
  have hb := h.bd
  obtain ⟨z0, v1, v2⟩ := C_clear_row (N := N) (q := fun _ => nI 0) (s := s)
  simp (disch := omega) only [Option.bind_some, ↓reduceIte, ↓M_1, ↓M_2, L_0, L_1, L_2, L_3, L_4, L_5, L_6, L_7, L_8, L_9, L_10, L_11, L_12, L_13, L_20, L_24, L_26, L_30, L_31, L_32, L_39, L_40, L_48, L_57, L_76, L_80, L_90, L_91, L_97, L_99, L_100, L_255, L_273, L_1000, L_2000, q_ld, q_ldL, q_sto, q_stoL, q_add, q_sub, q_mul, q_dec, q_rem, q_div, q_lt_t, q_lt_f, q_le_t, q_le_f, q_eq_t, q_eq_f, q_em, q_me, q_ml, q_lm, q_mle, q_lem, q_s1, q_s1o, q_s1k, q_s12, q_s2, q_s2o, q_s2k, q_s21, Nat.add_sub_cancel, q_or, q_and, q_shl, true_or, or_true, false_or, or_false, true_and, and_true, false_and, and_false, not_true_eq_false, not_false_eq_true, ne_eq, fC_Paths_countPairs, gC_Paths_countPairs_0, v1]
  refine loopU (fun f i z => gC_Paths_countPairs_12 N f (nI k) (nI (prO w k i).1) (lmI (prO w k i).2.2.2) (nI i) z) (w 5 0) (fun i z => i ≤ w 5 0 ∧ Fr [3, 4, 42] [] s z ∧ RX (prO w k i) z) (fun o => ∃ z, o = some (nI (prO w k (w 5 0)).1, z) ∧ Fr [3, 4, 42] [] s z ∧ RX (prO w k (w 5 0)) z) ?_ ?_ (w 5 0) N 0 z0 (by omega) (by omega) ⟨by omega, v2.1.mono (by decide) (by decide), fun _ => v2.2.1, fun q => absurd rfl q⟩
  · rintro f i z hi ⟨g1, g2, g3⟩
    have hz : CW w z := h.fr g2 (by decide)
    have hxi := prO_ok (k := k) (n := i) h.ok (by omega)
    have hmul : i * w 5 0 ≤ 81 := Nat.mul_le_mul (show i ≤ 9 by omega) hb.1
    have es : prO w k (i + 1) = prI w k i (prO w k i) (w 5 0) := rfl
    obtain ⟨z1, x1, x2, x3⟩ := C_spread0 (N := N) (go := 100) (br := 0) hz hN hi (show k < 1000 by omega) shuts0 (Or.inr rfl)
    rw [gI_no (g := 100) (by decide)] at x1
    have hz1 : CW w z1 := hz.fr x2 (by decide)
    try simp only
    rw [es]
    generalize prO w k i = y at hxi g3
    obtain ⟨z2, y1, y2, y3⟩ := C_pairs36 (N := N) (gC_Paths_countPairs_12 N f) hz1 hN hi hxi (by omega) x3 (by
      unfold RX at g3 ⊢
      rw [x2.1 3 (by decide), x2.1 4 (by decide)]
      exact g3)
    refine Or.inl ⟨z2, ?_, by omega, (g2.tr (x2.mono (by decide) (by decide))).tr (y2.mono (by decide) (by decide)), y3⟩
    rw [gC_Paths_countPairs_12]
    simp (disch := omega) only [Option.bind_some, ↓reduceIte, ↓M_1, ↓M_2, L_0, L_1, L_2, L_3, L_4, L_5, L_6, L_7, L_8, L_9, L_10, L_11, L_12, L_13, L_20, L_24, L_26, L_30, L_31, L_32, L_39, L_40, L_48, L_57, L_76, L_80, L_90, L_91, L_97, L_99, L_100, L_255, L_273, L_1000, L_2000, q_ld, q_ldL, q_sto, q_stoL, q_add, q_sub, q_mul, q_dec, q_rem, q_div, q_lt_t, q_lt_f, q_le_t, q_le_f, q_eq_t, q_eq_f, q_em, q_me, q_ml, q_lm, q_mle, q_lem, q_s1, q_s1o, q_s1k, q_s12, q_s2, q_s2o, q_s2k, q_s21, Nat.add_sub_cancel, q_or, q_and, q_shl, true_or, or_true, false_or, or_false, true_and, and_true, false_and, and_false, not_true_eq_false, not_false_eq_true, ne_eq, hz.p, x1, y1]
  · rintro f z ⟨g1, g2, g3⟩
    have hz : CW w z := h.fr g2 (by decide)
    refine ⟨z, ?_, g2, g3⟩
    try simp only
    rw [gC_Paths_countPairs_12]
    simp (disch := omega) only [Option.bind_some, ↓reduceIte, ↓M_1, ↓M_2, L_0, L_1, L_2, L_3, L_4, L_5, L_6, L_7, L_8, L_9, L_10, L_11, L_12, L_13, L_20, L_24, L_26, L_30, L_31, L_32, L_39, L_40, L_48, L_57, L_76, L_80, L_90, L_91, L_97, L_99, L_100, L_255, L_273, L_1000, L_2000, q_ld, q_ldL, q_sto, q_stoL, q_add, q_sub, q_mul, q_dec, q_rem, q_div, q_lt_t, q_lt_f, q_le_t, q_le_f, q_eq_t, q_eq_f, q_em, q_me, q_ml, q_lm, q_mle, q_lem, q_s1, q_s1o, q_s1k, q_s12, q_s2, q_s2o, q_s2k, q_s21, Nat.add_sub_cancel, q_or, q_and, q_shl, true_or, or_true, false_or, or_false, true_and, and_true, false_and, and_false, not_true_eq_false, not_false_eq_true, ne_eq, hz.p]
theorem M_pairs44 (R : Int32 → Int32 → Int32 → Int32 → Int32 → Int32 → vSt → Option (Int32 × vSt)) {a m : Nat} {x : pq} (h : MW w t) (hN : 60 ≤ N) (ha : a < w 5 0) (hk : k < 100) (hx : prB m x) (hm : m ≤ 100) (h33 : t.1 0 33 = nI 0) (h34 : t.1 0 34 = nI 1000000) (h35 : t.1 0 35 = gI 100) :
    ∃ z, gM_EachAddsALineModel_pairs_44 N R N (nI k) (nI x.1) (nI x.2.1) (nI x.2.2.1) (lmI x.2.2.2) (nI a) (nI 0) t = R (nI k) (nI (prI w k a x (w 5 0)).1) (nI (prI w k a x (w 5 0)).2.1) (nI (prI w k a x (w 5 0)).2.2.1) (lmI (prI w k a x (w 5 0)).2.2.2) (nI (a + 1)) z ∧ Fm [11, 12, 13] [] [30] t z := by
  have hb := h.bd
  refine loopU (fun f i z => gM_EachAddsALineModel_pairs_44 N R f (nI k) (nI (prI w k a x i).1) (nI (prI w k a x i).2.1) (nI (prI w k a x i).2.2.1) (lmI (prI w k a x i).2.2.2) (nI a) (nI i) z) (w 5 0) (fun i z => i ≤ w 5 0 ∧ Fm [11, 12, 13] [] [30] t z) (fun o => ∃ z, o = R (nI k) (nI (prI w k a x (w 5 0)).1) (nI (prI w k a x (w 5 0)).2.1) (nI (prI w k a x (w 5 0)).2.2.1) (lmI (prI w k a x (w 5 0)).2.2.2) (nI (a + 1)) z ∧ Fm [11, 12, 13] [] [30] t z) ?_ ?_ (w 5 0) N 0 t (by omega) (by omega) ⟨by omega, Fm.rf⟩
  · rintro f i z hi ⟨g1, g2⟩
    have hz : MW w z := h.fm g2 (by decide) (by decide)
    have hxi := prI_ok (k := k) (n := i) h.ok ha (by omega) hx
    have es : prI w k a x (i + 1) = prF w k a i (prI w k a x i) := rfl
    have hbd := arr_bd (br := 0) (go := 100) (u := a) (k := k) (v := i) h.ok
    try simp only
    rw [es]
    generalize prI w k a x i = y at hxi
    obtain ⟨b1, b2, b3, b4, b5⟩ := hxi
    by_cases c : i = a
    · refine Or.inl ⟨z, ?_, by omega, g2⟩
      rw [show prF w k a i y = y from if_pos (Or.inl c.symm), gM_EachAddsALineModel_pairs_44]
      have c' : a = i := c.symm
      simp (disch := omega) only [Option.bind_some, ↓reduceIte, ↓M_1, ↓M_2, L_0, L_1, L_2, L_3, L_4, L_5, L_6, L_7, L_8, L_9, L_10, L_11, L_12, L_13, L_20, L_24, L_26, L_30, L_31, L_32, L_39, L_40, L_48, L_57, L_76, L_80, L_90, L_91, L_97, L_99, L_100, L_255, L_273, L_1000, L_2000, q_ld, q_ldL, q_sto, q_stoL, q_add, q_sub, q_mul, q_dec, q_rem, q_div, q_lt_t, q_lt_f, q_le_t, q_le_f, q_eq_t, q_eq_f, q_em, q_me, q_ml, q_lm, q_mle, q_lem, q_s1, q_s1o, q_s1k, q_s12, q_s2, q_s2o, q_s2k, q_s21, Nat.add_sub_cancel, q_or, q_and, q_shl, true_or, or_true, false_or, or_false, true_and, and_true, false_and, and_false, not_true_eq_false, not_false_eq_true, ne_eq, hz.p, c, L_1000000, gM_EachAddsALineModel_pairs_74, gM_EachAddsALineModel_pairs_110]
    · have c' : ¬ a = i := fun q => c q.symm
      obtain ⟨z', x1, x2⟩ := M_soonest0 (N := N) (br := 0) (go := 100) (k := k) hz hN ha hi (by omega) (by decide) ((g2.2.2 33 (by decide)).trans h33) ((g2.2.2 34 (by decide)).trans h34) ((g2.2.2 35 (by decide)).trans h35)
      refine Or.inl ⟨z', ?_, by omega, g2.tr x2⟩
      by_cases d : arr w 0 100 a k i < 1000000
      · have el := lm_lt2 (l := y.2.2.2) (y := arr w 0 100 a k i) (by omega) (by omega)
        have hne : ¬ (a = i ∨ ¬ arr w 0 100 a k i < 1000000) := fun q => q.elim c' (fun q => q d)
        by_cases e : y.2.2.2 < arr w 0 100 a k i + 1
        · have ef : prF w k a i y = (y.1 + 1, a, i, arr w 0 100 a k i + 1) := (if_neg hne).trans (if_pos e)
          rw [ef, gM_EachAddsALineModel_pairs_44]
          show _ = gM_EachAddsALineModel_pairs_44 N R f (nI k) (nI (y.1 + 1)) (nI a) (nI i) (lmI (arr w 0 100 a k i + 1)) (nI a) (nI (i + 1)) z'
          rw [lmI_s]
          simp (disch := omega) only [Option.bind_some, ↓reduceIte, ↓M_1, ↓M_2, L_0, L_1, L_2, L_3, L_4, L_5, L_6, L_7, L_8, L_9, L_10, L_11, L_12, L_13, L_20, L_24, L_26, L_30, L_31, L_32, L_39, L_40, L_48, L_57, L_76, L_80, L_90, L_91, L_97, L_99, L_100, L_255, L_273, L_1000, L_2000, q_ld, q_ldL, q_sto, q_stoL, q_add, q_sub, q_mul, q_dec, q_rem, q_div, q_lt_t, q_lt_f, q_le_t, q_le_f, q_eq_t, q_eq_f, q_em, q_me, q_ml, q_lm, q_mle, q_lem, q_s1, q_s1o, q_s1k, q_s12, q_s2, q_s2o, q_s2k, q_s21, Nat.add_sub_cancel, q_or, q_and, q_shl, true_or, or_true, false_or, or_false, true_and, and_true, false_and, and_false, not_true_eq_false, not_false_eq_true, ne_eq, hz.p, c', x1, el, eq_true e, L_1000000, gM_EachAddsALineModel_pairs_74, gM_EachAddsALineModel_pairs_110]
        · have ef : prF w k a i y = (y.1 + 1, y.2) := (if_neg hne).trans (if_neg e)
          rw [ef, gM_EachAddsALineModel_pairs_44]
          show _ = gM_EachAddsALineModel_pairs_44 N R f (nI k) (nI (y.1 + 1)) (nI y.2.1) (nI y.2.2.1) (lmI y.2.2.2) (nI a) (nI (i + 1)) z'
          simp (disch := omega) only [Option.bind_some, ↓reduceIte, ↓M_1, ↓M_2, L_0, L_1, L_2, L_3, L_4, L_5, L_6, L_7, L_8, L_9, L_10, L_11, L_12, L_13, L_20, L_24, L_26, L_30, L_31, L_32, L_39, L_40, L_48, L_57, L_76, L_80, L_90, L_91, L_97, L_99, L_100, L_255, L_273, L_1000, L_2000, q_ld, q_ldL, q_sto, q_stoL, q_add, q_sub, q_mul, q_dec, q_rem, q_div, q_lt_t, q_lt_f, q_le_t, q_le_f, q_eq_t, q_eq_f, q_em, q_me, q_ml, q_lm, q_mle, q_lem, q_s1, q_s1o, q_s1k, q_s12, q_s2, q_s2o, q_s2k, q_s21, Nat.add_sub_cancel, q_or, q_and, q_shl, true_or, or_true, false_or, or_false, true_and, and_true, false_and, and_false, not_true_eq_false, not_false_eq_true, ne_eq, hz.p, c', x1, el, eq_false e, L_1000000, gM_EachAddsALineModel_pairs_74, gM_EachAddsALineModel_pairs_110]
      · have ef : prF w k a i y = y := if_pos (Or.inr d)
        rw [ef, gM_EachAddsALineModel_pairs_44]
        simp (disch := omega) only [Option.bind_some, ↓reduceIte, ↓M_1, ↓M_2, L_0, L_1, L_2, L_3, L_4, L_5, L_6, L_7, L_8, L_9, L_10, L_11, L_12, L_13, L_20, L_24, L_26, L_30, L_31, L_32, L_39, L_40, L_48, L_57, L_76, L_80, L_90, L_91, L_97, L_99, L_100, L_255, L_273, L_1000, L_2000, q_ld, q_ldL, q_sto, q_stoL, q_add, q_sub, q_mul, q_dec, q_rem, q_div, q_lt_t, q_lt_f, q_le_t, q_le_f, q_eq_t, q_eq_f, q_em, q_me, q_ml, q_lm, q_mle, q_lem, q_s1, q_s1o, q_s1k, q_s12, q_s2, q_s2o, q_s2k, q_s21, Nat.add_sub_cancel, q_or, q_and, q_shl, true_or, or_true, false_or, or_false, true_and, and_true, false_and, and_false, not_true_eq_false, not_false_eq_true, ne_eq, hz.p, c', x1, L_1000000, gM_EachAddsALineModel_pairs_74, gM_EachAddsALineModel_pairs_110]
  · rintro f z ⟨g1, g2⟩
    have hz : MW w z := h.fm g2 (by decide) (by decide)
    refine ⟨z, ?_, g2⟩
    try simp only
    rw [gM_EachAddsALineModel_pairs_44]
    simp (disch := omega) only [Option.bind_some, ↓reduceIte, ↓M_1, ↓M_2, L_0, L_1, L_2, L_3, L_4, L_5, L_6, L_7, L_8, L_9, L_10, L_11, L_12, L_13, L_20, L_24, L_26, L_30, L_31, L_32, L_39, L_40, L_48, L_57, L_76, L_80, L_90, L_91, L_97, L_99, L_100, L_255, L_273, L_1000, L_2000, q_ld, q_ldL, q_sto, q_stoL, q_add, q_sub, q_mul, q_dec, q_rem, q_div, q_lt_t, q_lt_f, q_le_t, q_le_f, q_eq_t, q_eq_f, q_em, q_me, q_ml, q_lm, q_mle, q_lem, q_s1, q_s1o, q_s1k, q_s12, q_s2, q_s2o, q_s2k, q_s21, Nat.add_sub_cancel, q_or, q_and, q_shl, true_or, or_true, false_or, or_false, true_and, and_true, false_and, and_false, not_true_eq_false, not_false_eq_true, ne_eq, hz.p]
theorem M_pairs32 (h : MW w t) (hN : 60 ≤ N) (hk : k < 100) (h33 : t.1 0 33 = nI 0) (h34 : t.1 0 34 = nI 1000000) (h35 : t.1 0 35 = gI 100) :
    ∃ z, gM_EachAddsALineModel_pairs_32 N N (nI k) (nI 0) (nI 0) (nI 0) (mI 1) (nI 0) t = some (nI (prO w k (w 5 0)).1, z) ∧ Fm [7, 11, 12, 13] [] [10, 30] t z ∧ ((prO w k (w 5 0)).2.2.2 = 0 → z.1 0 10 = nI 0) ∧ (¬ (prO w k (w 5 0)).2.2.2 = 0 → z.1 0 10 = nI 3 ∧ z.1 7 0 = nI (prO w k (w 5 0)).2.1 ∧ z.1 7 1 = nI (prO w k (w 5 0)).2.2.1 ∧ z.1 7 2 = nI ((prO w k (w 5 0)).2.2.2 - 1)) := by
  have hb := h.bd
  refine loopU (fun f i z => gM_EachAddsALineModel_pairs_32 N f (nI k) (nI (prO w k i).1) (nI (prO w k i).2.1) (nI (prO w k i).2.2.1) (lmI (prO w k i).2.2.2) (nI i) z) (w 5 0) (fun i z => i ≤ w 5 0 ∧ Fm [11, 12, 13] [] [30] t z) (fun o => ∃ z, o = some (nI (prO w k (w 5 0)).1, z) ∧ Fm [7, 11, 12, 13] [] [10, 30] t z ∧ ((prO w k (w 5 0)).2.2.2 = 0 → z.1 0 10 = nI 0) ∧ (¬ (prO w k (w 5 0)).2.2.2 = 0 → z.1 0 10 = nI 3 ∧ z.1 7 0 = nI (prO w k (w 5 0)).2.1 ∧ z.1 7 1 = nI (prO w k (w 5 0)).2.2.1 ∧ z.1 7 2 = nI ((prO w k (w 5 0)).2.2.2 - 1))) ?_ ?_ (w 5 0) N 0 t (by omega) (by omega) ⟨by omega, Fm.rf⟩
  · rintro f i z hi ⟨g1, g2⟩
    have hz : MW w z := h.fm g2 (by decide) (by decide)
    have hxi := prO_ok (k := k) (n := i) h.ok (by omega)
    have hmul : i * w 5 0 ≤ 81 := Nat.mul_le_mul (show i ≤ 9 by omega) hb.1
    have es : prO w k (i + 1) = prI w k i (prO w k i) (w 5 0) := rfl
    try simp only
    rw [es]
    generalize prO w k i = y at hxi
    obtain ⟨z2, y1, y2⟩ := M_pairs44 (N := N) (gM_EachAddsALineModel_pairs_32 N f) hz hN hi hk hxi (by omega) ((g2.2.2 33 (by decide)).trans h33) ((g2.2.2 34 (by decide)).trans h34) ((g2.2.2 35 (by decide)).trans h35)
    refine Or.inl ⟨z2, ?_, by omega, g2.tr y2⟩
    rw [gM_EachAddsALineModel_pairs_32]
    simp (disch := omega) only [Option.bind_some, ↓reduceIte, ↓M_1, ↓M_2, L_0, L_1, L_2, L_3, L_4, L_5, L_6, L_7, L_8, L_9, L_10, L_11, L_12, L_13, L_20, L_24, L_26, L_30, L_31, L_32, L_39, L_40, L_48, L_57, L_76, L_80, L_90, L_91, L_97, L_99, L_100, L_255, L_273, L_1000, L_2000, q_ld, q_ldL, q_sto, q_stoL, q_add, q_sub, q_mul, q_dec, q_rem, q_div, q_lt_t, q_lt_f, q_le_t, q_le_f, q_eq_t, q_eq_f, q_em, q_me, q_ml, q_lm, q_mle, q_lem, q_s1, q_s1o, q_s1k, q_s12, q_s2, q_s2o, q_s2k, q_s21, Nat.add_sub_cancel, q_or, q_and, q_shl, true_or, or_true, false_or, or_false, true_and, and_true, false_and, and_false, not_true_eq_false, not_false_eq_true, ne_eq, hz.p, y1]
  · rintro f z ⟨g1, g2⟩
    have hz : MW w z := h.fm g2 (by decide) (by decide)
    have hxi := prO_ok (k := k) (n := w 5 0) h.ok (Nat.le_refl _)
    have hmul : w 5 0 * w 5 0 ≤ 81 := Nat.mul_le_mul hb.1 hb.1
    try simp only
    generalize prO w k (w 5 0) = y at hxi
    obtain ⟨b1, b2, b3, b4, b5⟩ := hxi
    by_cases c : y.2.2.2 = 0
    · have c0 : y.1 = 0 := b2.mpr c
      refine ⟨s1 z 0 10 (nI 0), ?_, (g2.mono (by decide) (by decide) (by decide)).tr (Fm.w10 (by decide)), fun _ => q_s1 _ _ _ _, fun q => absurd c q⟩
      rw [gM_EachAddsALineModel_pairs_32]
      simp (disch := omega) only [Option.bind_some, ↓reduceIte, ↓M_1, ↓M_2, L_0, L_1, L_2, L_3, L_4, L_5, L_6, L_7, L_8, L_9, L_10, L_11, L_12, L_13, L_20, L_24, L_26, L_30, L_31, L_32, L_39, L_40, L_48, L_57, L_76, L_80, L_90, L_91, L_97, L_99, L_100, L_255, L_273, L_1000, L_2000, q_ld, q_ldL, q_sto, q_stoL, q_add, q_sub, q_mul, q_dec, q_rem, q_div, q_lt_t, q_lt_f, q_le_t, q_le_f, q_eq_t, q_eq_f, q_em, q_me, q_ml, q_lm, q_mle, q_lem, q_s1, q_s1o, q_s1k, q_s12, q_s2, q_s2o, q_s2k, q_s21, Nat.add_sub_cancel, q_or, q_and, q_shl, true_or, or_true, false_or, or_false, true_and, and_true, false_and, and_false, not_true_eq_false, not_false_eq_true, ne_eq, hz.p]
    · have c0 : ¬ y.1 = 0 := fun q => c (b2.mp q)
      obtain ⟨z1, w1, w2⟩ := M_tell (N := N) (q := fun j => if j = 0 then nI y.2.1 else if j = 1 then nI y.2.2.1 else nI (y.2.2.2 - 1)) (Rm.nil (t := z)) (by decide) (x := nI y.2.1) rfl
      obtain ⟨z2, w3, w4⟩ := M_tell (N := N) w2 (by decide) (x := nI y.2.2.1) rfl
      obtain ⟨z3, w5, w6⟩ := M_tell (N := N) w4 (by decide) (x := nI (y.2.2.2 - 1)) rfl
      refine ⟨z3, ?_, (g2.mono (by decide) (by decide) (by decide)).tr (w6.1.mono (by decide) (by decide) (by decide)), fun q => absurd q c, fun _ => ⟨w6.2.1, w6.2.2 0 (by decide), w6.2.2 1 (by decide), w6.2.2 2 (by decide)⟩⟩
      rw [gM_EachAddsALineModel_pairs_32, show lmI y.2.2.2 = nI (y.2.2.2 - 1) from if_neg c]
      simp (disch := omega) only [Option.bind_some, ↓reduceIte, ↓M_1, ↓M_2, L_0, L_1, L_2, L_3, L_4, L_5, L_6, L_7, L_8, L_9, L_10, L_11, L_12, L_13, L_20, L_24, L_26, L_30, L_31, L_32, L_39, L_40, L_48, L_57, L_76, L_80, L_90, L_91, L_97, L_99, L_100, L_255, L_273, L_1000, L_2000, q_ld, q_ldL, q_sto, q_stoL, q_add, q_sub, q_mul, q_dec, q_rem, q_div, q_lt_t, q_lt_f, q_le_t, q_le_f, q_eq_t, q_eq_f, q_em, q_me, q_ml, q_lm, q_mle, q_lem, q_s1, q_s1o, q_s1k, q_s12, q_s2, q_s2o, q_s2k, q_s21, Nat.add_sub_cancel, q_or, q_and, q_shl, true_or, or_true, false_or, or_false, true_and, and_true, false_and, and_false, not_true_eq_false, not_false_eq_true, ne_eq, hz.p, w1, w3, w5]
theorem k_pairs (hU : okU U) (hN : 200 ≤ N) : keeps1 N (RR U) fC_EachAddsALine_pairs fM_EachAddsALineModel_pairs := fun s t hr c => by
  obtain ⟨w, h1, h2, _⟩ := id hr
  have hmc := hr.mc.r
  by_cases q2 : isP 100 c
  · obtain ⟨k, hk, rfl⟩ := q2
    have g0 : Fm [] [] [11, 33] t (s1 (s1 t 0 11 (nI 0)) 0 33 (nI 0)) := (Fm.w10 (by decide)).tr (Fm.w10 (by decide))
    have h3 : MW w (s1 (s1 t 0 11 (nI 0)) 0 33 (nI 0)) := h2.fm g0 (by decide) (by decide)
    obtain ⟨z, x1, x2, x3⟩ := C_countPairs (N := N) h1 (by omega) hk
    obtain ⟨y, y1, y2, y3, y4⟩ := M_pairs32 (N := N) h3 (by omega) hk (by simp (disch := omega) only [Option.bind_some, ↓reduceIte, ↓M_1, ↓M_2, L_0, L_1, L_2, L_3, L_4, L_5, L_6, L_7, L_8, L_9, L_10, L_11, L_12, L_13, L_20, L_24, L_26, L_30, L_31, L_32, L_39, L_40, L_48, L_57, L_76, L_80, L_90, L_91, L_97, L_99, L_100, L_255, L_273, L_1000, L_2000, q_ld, q_ldL, q_sto, q_stoL, q_add, q_sub, q_mul, q_dec, q_rem, q_div, q_lt_t, q_lt_f, q_le_t, q_le_f, q_eq_t, q_eq_f, q_em, q_me, q_ml, q_lm, q_mle, q_lem, q_s1, q_s1o, q_s1k, q_s12, q_s2, q_s2o, q_s2k, q_s21, Nat.add_sub_cancel, q_or, q_and, q_shl, true_or, or_true, false_or, or_false, true_and, and_true, false_and, and_false, not_true_eq_false, not_false_eq_true, ne_eq]) (by simp (disch := omega) only [Option.bind_some, ↓reduceIte, ↓M_1, ↓M_2, L_0, L_1, L_2, L_3, L_4, L_5, L_6, L_7, L_8, L_9, L_10, L_11, L_12, L_13, L_20, L_24, L_26, L_30, L_31, L_32, L_39, L_40, L_48, L_57, L_76, L_80, L_90, L_91, L_97, L_99, L_100, L_255, L_273, L_1000, L_2000, q_ld, q_ldL, q_sto, q_stoL, q_add, q_sub, q_mul, q_dec, q_rem, q_div, q_lt_t, q_lt_f, q_le_t, q_le_f, q_eq_t, q_eq_f, q_em, q_me, q_ml, q_lm, q_mle, q_lem, q_s1, q_s1o, q_s1k, q_s12, q_s2, q_s2o, q_s2k, q_s21, Nat.add_sub_cancel, q_or, q_and, q_shl, true_or, or_true, false_or, or_false, true_and, and_true, false_and, and_false, not_true_eq_false, not_false_eq_true, ne_eq]; exact hmc.1) (by simp (disch := omega) only [Option.bind_some, ↓reduceIte, ↓M_1, ↓M_2, L_0, L_1, L_2, L_3, L_4, L_5, L_6, L_7, L_8, L_9, L_10, L_11, L_12, L_13, L_20, L_24, L_26, L_30, L_31, L_32, L_39, L_40, L_48, L_57, L_76, L_80, L_90, L_91, L_97, L_99, L_100, L_255, L_273, L_1000, L_2000, q_ld, q_ldL, q_sto, q_stoL, q_add, q_sub, q_mul, q_dec, q_rem, q_div, q_lt_t, q_lt_f, q_le_t, q_le_f, q_eq_t, q_eq_f, q_em, q_me, q_ml, q_lm, q_mle, q_lem, q_s1, q_s1o, q_s1k, q_s12, q_s2, q_s2o, q_s2k, q_s21, Nat.add_sub_cancel, q_or, q_and, q_shl, true_or, or_true, false_or, or_false, true_and, and_true, false_and, and_false, not_true_eq_false, not_false_eq_true, ne_eq]; exact hmc.2.1)
    have hro : RO z y := by
      by_cases c : (prO w k (w 5 0)).2.2.2 = 0
      · exact ⟨0, by decide, x3.1 c, y3 c, fun j hj => by omega⟩
      · obtain ⟨p1, p2, p3, p4⟩ := x3.2 c
        obtain ⟨q1, q2, q3, q4⟩ := y4 c
        refine ⟨3, by decide, p1, q1, fun j hj => ?_⟩
        have : j = 0 ∨ j = 1 ∨ j = 2 := by omega
        rcases this with rfl | rfl | rfl
        · rw [p2, q2]
        · rw [p3, q3]
        · rw [p4, q4]
    refine ⟨nI (prO w k (w 5 0)).1, z, y, ?_, ?_, hr.ro hU hro x2 ((g0.mono (by decide) (by decide) (by decide)).tr (y2.mono (by decide) (by decide) (by decide)) : Fm [7, 11, 12, 13] [] [10, 11, 30, 33] t y) (by decide) (by decide) (by decide)⟩
    · simp (disch := omega) only [Option.bind_some, ↓reduceIte, ↓M_1, ↓M_2, L_0, L_1, L_2, L_3, L_4, L_5, L_6, L_7, L_8, L_9, L_10, L_11, L_12, L_13, L_20, L_24, L_26, L_30, L_31, L_32, L_39, L_40, L_48, L_57, L_76, L_80, L_90, L_91, L_97, L_99, L_100, L_255, L_273, L_1000, L_2000, q_ld, q_ldL, q_sto, q_stoL, q_add, q_sub, q_mul, q_dec, q_rem, q_div, q_lt_t, q_lt_f, q_le_t, q_le_f, q_eq_t, q_eq_f, q_em, q_me, q_ml, q_lm, q_mle, q_lem, q_s1, q_s1o, q_s1k, q_s12, q_s2, q_s2o, q_s2k, q_s21, Nat.add_sub_cancel, q_or, q_and, q_shl, true_or, or_true, false_or, or_false, true_and, and_true, false_and, and_false, not_true_eq_false, not_false_eq_true, ne_eq, fC_EachAddsALine_pairs, gC_EachAddsALine_pairs_0, C_isHour_t hk, x1]
    · simp (disch := omega) only [Option.bind_some, ↓reduceIte, ↓M_1, ↓M_2, L_0, L_1, L_2, L_3, L_4, L_5, L_6, L_7, L_8, L_9, L_10, L_11, L_12, L_13, L_20, L_24, L_26, L_30, L_31, L_32, L_39, L_40, L_48, L_57, L_76, L_80, L_90, L_91, L_97, L_99, L_100, L_255, L_273, L_1000, L_2000, q_ld, q_ldL, q_sto, q_stoL, q_add, q_sub, q_mul, q_dec, q_rem, q_div, q_lt_t, q_lt_f, q_le_t, q_le_f, q_eq_t, q_eq_f, q_em, q_me, q_ml, q_lm, q_mle, q_lem, q_s1, q_s1o, q_s1k, q_s12, q_s2, q_s2o, q_s2k, q_s21, Nat.add_sub_cancel, q_or, q_and, q_shl, true_or, or_true, false_or, or_false, true_and, and_true, false_and, and_false, not_true_eq_false, not_false_eq_true, ne_eq, fM_EachAddsALineModel_pairs, gM_EachAddsALineModel_pairs_0, M_isHour_t hk, y1]
  · exact ⟨mI 1, s, _, by simp (disch := omega) only [Option.bind_some, ↓reduceIte, ↓M_1, ↓M_2, L_0, L_1, L_2, L_3, L_4, L_5, L_6, L_7, L_8, L_9, L_10, L_11, L_12, L_13, L_20, L_24, L_26, L_30, L_31, L_32, L_39, L_40, L_48, L_57, L_76, L_80, L_90, L_91, L_97, L_99, L_100, L_255, L_273, L_1000, L_2000, q_ld, q_ldL, q_sto, q_stoL, q_add, q_sub, q_mul, q_dec, q_rem, q_div, q_lt_t, q_lt_f, q_le_t, q_le_f, q_eq_t, q_eq_f, q_em, q_me, q_ml, q_lm, q_mle, q_lem, q_s1, q_s1o, q_s1k, q_s12, q_s2, q_s2o, q_s2k, q_s21, Nat.add_sub_cancel, q_or, q_and, q_shl, true_or, or_true, false_or, or_false, true_and, and_true, false_and, and_false, not_true_eq_false, not_false_eq_true, ne_eq, fC_EachAddsALine_pairs, gC_EachAddsALine_pairs_0, C_isHour_f q2], by simp (disch := omega) only [Option.bind_some, ↓reduceIte, ↓M_1, ↓M_2, L_0, L_1, L_2, L_3, L_4, L_5, L_6, L_7, L_8, L_9, L_10, L_11, L_12, L_13, L_20, L_24, L_26, L_30, L_31, L_32, L_39, L_40, L_48, L_57, L_76, L_80, L_90, L_91, L_97, L_99, L_100, L_255, L_273, L_1000, L_2000, q_ld, q_ldL, q_sto, q_stoL, q_add, q_sub, q_mul, q_dec, q_rem, q_div, q_lt_t, q_lt_f, q_le_t, q_le_f, q_eq_t, q_eq_f, q_em, q_me, q_ml, q_lm, q_mle, q_lem, q_s1, q_s1o, q_s1k, q_s12, q_s2, q_s2o, q_s2k, q_s21, Nat.add_sub_cancel, q_or, q_and, q_shl, true_or, or_true, false_or, or_false, true_and, and_true, false_and, and_false, not_true_eq_false, not_false_eq_true, ne_eq, fM_EachAddsALineModel_pairs, gM_EachAddsALineModel_pairs_0, M_isHour_f q2], hr.k0 hU⟩
end PA
