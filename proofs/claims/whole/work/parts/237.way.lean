/-! way -/
theorem q_subm {a b : Nat} (h : a < b) : nI a - nI b = mI (b - a) := by
  rw [z_n, z_n, z_sub, z_m]
  congr 1
  omega
theorem not_isP_m {n k : Nat} (hn : n < 2 ^ 31) (hk : 0 < k) (hk2 : k < 2 ^ 31) : ¬ isP n (mI k) := fun ⟨j, hj, e⟩ => by
  rw [q_me (by omega) hk2 hk] at e
  exact e
section WA
variable {N : Nat} {U : vSt → vSt → Prop} {w : Nat → Nat → Nat} {s t z : vSt} {n u k g y r : Nat} {x : Nat → Nat}
def waB (P : Nat) (x : Nat → Nat) (p : Nat) : Bool := !(decide (p < 30) && decide (97 ≤ x p ∧ x p < 97 + P))
theorem waB_f {P p : Nat} (h : p < 30) (h2 : 97 ≤ x p ∧ x p < 97 + P) : waB P x p = false := by unfold waB; rw [decide_eq_true h, decide_eq_true h2]; rfl
theorem waB_t {P p : Nat} (h : ¬ (p < 30 ∧ 97 ≤ x p ∧ x p < 97 + P)) : waB P x p = true := by
  unfold waB
  by_cases c : p < 30
  · rw [decide_eq_false (fun z => h ⟨c, z⟩), Bool.and_false]; rfl
  · rw [decide_eq_false c]; rfl
theorem waB_of {P p : Nat} (h : waB P x p = false) : p < 30 ∧ 97 ≤ x p ∧ x p < 97 + P := Classical.byContradiction (fun c => by rw [waB_t c] at h; cases h)
theorem C_wayFault (h : CW w s) (hN : 100 ≤ N) (h1 : s.1 1 1 = nI n) (hn : n ≤ 80) (hx : ∀ k, k < n → x k < 256 ∧ s.1 2 k = nI (x k)) : fC_EachAddsALine_wayFault N s = some (nxI (fst1 (waB (w 5 0) x) n) n, s) := by
  have hb := h.bd
  simp (disch := omega) only [Option.bind_some, ↓reduceIte, ↓M_1, ↓M_2, L_0, L_1, L_2, L_3, L_4, L_5, L_6, L_7, L_8, L_9, L_10, L_11, L_12, L_13, L_20, L_24, L_26, L_30, L_31, L_32, L_39, L_40, L_48, L_57, L_76, L_80, L_90, L_91, L_97, L_99, L_100, L_255, L_273, L_1000, L_2000, q_ld, q_ldL, q_sto, q_stoL, q_add, q_sub, q_mul, q_dec, q_rem, q_div, q_lt_t, q_lt_f, q_le_t, q_le_f, q_eq_t, q_eq_f, q_em, q_me, q_ml, q_lm, q_mle, q_lem, q_s1, q_s1o, q_s1k, q_s12, q_s2, q_s2o, q_s2k, q_s21, Nat.add_sub_cancel, q_or, q_and, q_shl, true_or, or_true, false_or, or_false, true_and, and_true, false_and, and_false, not_true_eq_false, not_false_eq_true, ne_eq, fC_EachAddsALine_wayFault, gC_EachAddsALine_wayFault_0]
  refine loopU (fun f i (_ : Unit) => gC_EachAddsALine_wayFault_2 N f (nI i) s) n (fun i _ => i ≤ n ∧ ∀ j, j < i → waB (w 5 0) x j = false) (fun o => o = some (nxI (fst1 (waB (w 5 0) x) n) n, s)) ?_ ?_ n N 0 () (by omega) (by omega) ⟨by omega, fun j hj => by omega⟩
  · rintro f i _ hi ⟨g1, g2⟩
    have es := C_signAt (N := N) h1 hn hi
    rw [(hx i hi).2] at es
    have hx2 := (hx i hi).1
    by_cases c : i < 30
    · by_cases d : 97 ≤ x i ∧ x i < 97 + w 5 0
      · have ep := C_hasPerson_t (N := N) h (u := x i - 97) (by omega)
        refine Or.inl ⟨(), ?_, by omega, fun j hj => ?_⟩
        · rw [gC_EachAddsALine_wayFault_2]
          simp (disch := omega) only [Option.bind_some, ↓reduceIte, ↓M_1, ↓M_2, L_0, L_1, L_2, L_3, L_4, L_5, L_6, L_7, L_8, L_9, L_10, L_11, L_12, L_13, L_20, L_24, L_26, L_30, L_31, L_32, L_39, L_40, L_48, L_57, L_76, L_80, L_90, L_91, L_97, L_99, L_100, L_255, L_273, L_1000, L_2000, q_ld, q_ldL, q_sto, q_stoL, q_add, q_sub, q_mul, q_dec, q_rem, q_div, q_lt_t, q_lt_f, q_le_t, q_le_f, q_eq_t, q_eq_f, q_em, q_me, q_ml, q_lm, q_mle, q_lem, q_s1, q_s1o, q_s1k, q_s12, q_s2, q_s2o, q_s2k, q_s21, Nat.add_sub_cancel, q_or, q_and, q_shl, true_or, or_true, false_or, or_false, true_and, and_true, false_and, and_false, not_true_eq_false, not_false_eq_true, ne_eq, h1, es, ep]
        · by_cases e : j = i
          · rw [e]; exact waB_f c d
          · exact g2 j (by omega)
      · have ep : fC_Roads_hasPerson N (nI (x i) - nI 97) s = some (0, s) := by
          by_cases e : x i < 97
          · rw [q_subm e]
            exact C_hasPerson_f h (not_isP_m (by omega) (by omega) (by omega))
          · rw [q_sub (by omega)]
            refine C_hasPerson_f h (fun ⟨j, hj, ej⟩ => ?_)
            have := (nI_eq (by omega) (by omega)).mp ej
            omega
        refine Or.inr ?_
        rw [fst1_of hi (waB_t (fun q => d q.2)) g2, show nxI i n = nI i from if_pos hi]
        try simp only
        rw [gC_EachAddsALine_wayFault_2]
        simp (disch := omega) only [Option.bind_some, ↓reduceIte, ↓M_1, ↓M_2, L_0, L_1, L_2, L_3, L_4, L_5, L_6, L_7, L_8, L_9, L_10, L_11, L_12, L_13, L_20, L_24, L_26, L_30, L_31, L_32, L_39, L_40, L_48, L_57, L_76, L_80, L_90, L_91, L_97, L_99, L_100, L_255, L_273, L_1000, L_2000, q_ld, q_ldL, q_sto, q_stoL, q_add, q_mul, q_dec, q_rem, q_div, q_lt_t, q_lt_f, q_le_t, q_le_f, q_eq_t, q_eq_f, q_em, q_me, q_ml, q_lm, q_mle, q_lem, q_s1, q_s1o, q_s1k, q_s12, q_s2, q_s2o, q_s2k, q_s21, Nat.add_sub_cancel, q_or, q_and, q_shl, true_or, or_true, false_or, or_false, true_and, and_true, false_and, and_false, not_true_eq_false, not_false_eq_true, ne_eq, h1, es, ep]
    · refine Or.inr ?_
      rw [fst1_of hi (waB_t (fun q => c q.1)) g2, show nxI i n = nI i from if_pos hi]
      try simp only
      rw [gC_EachAddsALine_wayFault_2]
      simp (disch := omega) only [Option.bind_some, ↓reduceIte, ↓M_1, ↓M_2, L_0, L_1, L_2, L_3, L_4, L_5, L_6, L_7, L_8, L_9, L_10, L_11, L_12, L_13, L_20, L_24, L_26, L_30, L_31, L_32, L_39, L_40, L_48, L_57, L_76, L_80, L_90, L_91, L_97, L_99, L_100, L_255, L_273, L_1000, L_2000, q_ld, q_ldL, q_sto, q_stoL, q_add, q_sub, q_mul, q_dec, q_rem, q_div, q_lt_t, q_lt_f, q_le_t, q_le_f, q_eq_t, q_eq_f, q_em, q_me, q_ml, q_lm, q_mle, q_lem, q_s1, q_s1o, q_s1k, q_s12, q_s2, q_s2o, q_s2k, q_s21, Nat.add_sub_cancel, q_or, q_and, q_shl, true_or, or_true, false_or, or_false, true_and, and_true, false_and, and_false, not_true_eq_false, not_false_eq_true, ne_eq, h1]
  · rintro f _ ⟨g1, g2⟩
    have hf : ¬ fst1 (waB (w 5 0) x) n < n := fun q => by
      have := fst1_lt q
      rw [g2 _ q] at this
      cases this
    rw [show nxI (fst1 (waB (w 5 0) x) n) n = mI 1 from if_neg hf]
    try simp only
    rw [gC_EachAddsALine_wayFault_2]
    simp (disch := omega) only [Option.bind_some, ↓reduceIte, ↓M_1, ↓M_2, L_0, L_1, L_2, L_3, L_4, L_5, L_6, L_7, L_8, L_9, L_10, L_11, L_12, L_13, L_20, L_24, L_26, L_30, L_31, L_32, L_39, L_40, L_48, L_57, L_76, L_80, L_90, L_91, L_97, L_99, L_100, L_255, L_273, L_1000, L_2000, q_ld, q_ldL, q_sto, q_stoL, q_add, q_sub, q_mul, q_dec, q_rem, q_div, q_lt_t, q_lt_f, q_le_t, q_le_f, q_eq_t, q_eq_f, q_em, q_me, q_ml, q_lm, q_mle, q_lem, q_s1, q_s1o, q_s1k, q_s12, q_s2, q_s2o, q_s2k, q_s21, Nat.add_sub_cancel, q_or, q_and, q_shl, true_or, or_true, false_or, or_false, true_and, and_true, false_and, and_false, not_true_eq_false, not_false_eq_true, ne_eq, h1]
/-- the first meeting at which one can hand it to another one -/
abbrev mc (w : Nat → Nat → Nat) (g y r m : Nat) : Prop := r ≤ w 3 m ∧ ((w 1 m = g ∧ w 2 m = y) ∨ (w 1 m = y ∧ w 2 m = g))
def mb (w : Nat → Nat → Nat) (g y r : Nat) : Nat := if fst1 (fun k => decide (mc w g y r (w 6 k))) (w 5 1) < w 5 1 then w 6 (fst1 (fun k => decide (mc w g y r (w 6 k))) (w 5 1)) else 100
theorem mb_ok (h : okW w) (ho : okO w) : (mb w g y r = 100 ∧ ∀ m, m < w 5 1 → ¬ mc w g y r m) ∨ (mb w g y r < w 5 1 ∧ mc w g y r (mb w g y r) ∧ ∀ m, m < w 5 1 → mc w g y r m → w 3 (mb w g y r) < w 3 m ∨ (w 3 (mb w g y r) = w 3 m ∧ mb w g y r ≤ m)) := by
  unfold mb
  by_cases c : fst1 (fun k => decide (mc w g y r (w 6 k))) (w 5 1) < w 5 1
  · rw [if_pos c]
    have h1 := of_decide_eq_true (fst1_lt c)
    refine Or.inr ⟨ho.1 _ c, h1, fun m hm hc => ?_⟩
    obtain ⟨j, j1, j2⟩ := ho.2.2 m hm
    rcases Nat.lt_trichotomy j (fst1 (fun k => decide (mc w g y r (w 6 k))) (w 5 1)) with d | d | d
    · have := fst1_not d
      try simp only at this
      rw [j2, decide_eq_true hc] at this
      cases this
    · rw [← d, j2]; exact Or.inr ⟨rfl, Nat.le_refl _⟩
    · have := ho.2.1 _ j d j1
      rw [j2] at this
      omega
  · rw [if_neg c]
    refine Or.inl ⟨rfl, fun m hm hc => ?_⟩
    obtain ⟨j, j1, j2⟩ := ho.2.2 m hm
    have := fst1_not (p := fun k => decide (mc w g y r (w 6 k))) (n := w 5 1) (j := j) (by omega)
    try simp only at this
    rw [j2, decide_eq_true hc] at this
    cases this
theorem C_meetingOf (h : CW w s) (hN : 60 ≤ N) (hg : g < w 5 0) (hy : y < w 5 0) (hr' : r < 1000) : fC_Paths_meetingOf N (nI g) (nI y) (nI r) s = some (gI (mb w g y r), s) := by
  have hb := h.bd
  by_cases c : g = y
  · have hno : mb w g y r = 100 := by
      rcases mb_ok (g := g) (y := y) (r := r) h.ok h.or with z | ⟨z1, z2, _⟩
      · exact z.1
      · have := (h.ok.2.2.2 _ z1).2.2.1
        have := z2.2
        omega
    rw [hno, gI_no (g := 100) (by decide), c]
    simp (disch := omega) only [Option.bind_some, ↓reduceIte, ↓M_1, ↓M_2, L_0, L_1, L_2, L_3, L_4, L_5, L_6, L_7, L_8, L_9, L_10, L_11, L_12, L_13, L_20, L_24, L_26, L_30, L_31, L_32, L_39, L_40, L_48, L_57, L_76, L_80, L_90, L_91, L_97, L_99, L_100, L_255, L_273, L_1000, L_2000, q_ld, q_ldL, q_sto, q_stoL, q_add, q_sub, q_mul, q_dec, q_rem, q_div, q_lt_t, q_lt_f, q_le_t, q_le_f, q_eq_t, q_eq_f, q_em, q_me, q_ml, q_lm, q_mle, q_lem, q_s1, q_s1o, q_s1k, q_s12, q_s2, q_s2o, q_s2k, q_s21, Nat.add_sub_cancel, q_or, q_and, q_shl, true_or, or_true, false_or, or_false, true_and, and_true, false_and, and_false, not_true_eq_false, not_false_eq_true, ne_eq, fC_Paths_meetingOf, gC_Paths_meetingOf_0]
  · simp (disch := omega) only [Option.bind_some, ↓reduceIte, ↓M_1, ↓M_2, L_0, L_1, L_2, L_3, L_4, L_5, L_6, L_7, L_8, L_9, L_10, L_11, L_12, L_13, L_20, L_24, L_26, L_30, L_31, L_32, L_39, L_40, L_48, L_57, L_76, L_80, L_90, L_91, L_97, L_99, L_100, L_255, L_273, L_1000, L_2000, q_ld, q_ldL, q_sto, q_stoL, q_add, q_sub, q_mul, q_dec, q_rem, q_div, q_lt_t, q_lt_f, q_le_t, q_le_f, q_eq_t, q_eq_f, q_em, q_me, q_ml, q_lm, q_mle, q_lem, q_s1, q_s1o, q_s1k, q_s12, q_s2, q_s2o, q_s2k, q_s21, Nat.add_sub_cancel, q_or, q_and, q_shl, true_or, or_true, false_or, or_false, true_and, and_true, false_and, and_false, not_true_eq_false, not_false_eq_true, ne_eq, fC_Paths_meetingOf, gC_Paths_meetingOf_0]
    refine loopU (fun f i (_ : Unit) => gC_Paths_meetingOf_10 N f (nI g) (nI y) (nI r) (nI i) s) (w 5 1) (fun i _ => i ≤ w 5 1 ∧ ∀ j, j < i → decide (mc w g y r (w 6 j)) = false) (fun o => o = some (gI (mb w g y r), s)) ?_ ?_ (w 5 1) N 0 () (by omega) (by omega) ⟨by omega, fun j hj => by omega⟩
    · rintro f i _ hi ⟨g1, g2⟩
      have hm := h.or.1 i hi
      have hq := h.ok.2.2.2 _ hm
      have e1 := C_isAt (N := N) h hm hg
      have e2 := C_isAt (N := N) h hm hy
      have e3 := h.o hi
      have e4 := h.h hm
      by_cases d1 : r ≤ w 3 (w 6 i)
      · by_cases d2 : w 1 (w 6 i) = g ∨ w 2 (w 6 i) = g
        · rw [if_pos d2] at e1
          by_cases d3 : w 1 (w 6 i) = y ∨ w 2 (w 6 i) = y
          · rw [if_pos d3] at e2
            have hc : mc w g y r (w 6 i) := ⟨d1, by omega⟩
            have hf : fst1 (fun k => decide (mc w g y r (w 6 k))) (w 5 1) = i := fst1_of hi (decide_eq_true hc) g2
            have hmb : mb w g y r = w 6 i := by
              unfold mb
              rw [hf, if_pos hi]
            refine Or.inr ?_
            rw [hmb, gI_nI (g := w 6 i) (by omega)]
            try simp only
            rw [gC_Paths_meetingOf_10]
            simp (disch := omega) only [Option.bind_some, ↓reduceIte, ↓M_1, ↓M_2, L_0, L_1, L_2, L_3, L_4, L_5, L_6, L_7, L_8, L_9, L_10, L_11, L_12, L_13, L_20, L_24, L_26, L_30, L_31, L_32, L_39, L_40, L_48, L_57, L_76, L_80, L_90, L_91, L_97, L_99, L_100, L_255, L_273, L_1000, L_2000, q_ld, q_ldL, q_sto, q_stoL, q_add, q_sub, q_mul, q_dec, q_rem, q_div, q_lt_t, q_lt_f, q_le_t, q_le_f, q_eq_t, q_eq_f, q_em, q_me, q_ml, q_lm, q_mle, q_lem, q_s1, q_s1o, q_s1k, q_s12, q_s2, q_s2o, q_s2k, q_s21, Nat.add_sub_cancel, q_or, q_and, q_shl, true_or, or_true, false_or, or_false, true_and, and_true, false_and, and_false, not_true_eq_false, not_false_eq_true, ne_eq, h.m, e3, e4, e1, e2]
          · rw [if_neg d3] at e2
            refine Or.inl ⟨(), ?_, by omega, fun j hj => ?_⟩
            · rw [gC_Paths_meetingOf_10]
              simp (disch := omega) only [Option.bind_some, ↓reduceIte, ↓M_1, ↓M_2, L_0, L_1, L_2, L_3, L_4, L_5, L_6, L_7, L_8, L_9, L_10, L_11, L_12, L_13, L_20, L_24, L_26, L_30, L_31, L_32, L_39, L_40, L_48, L_57, L_76, L_80, L_90, L_91, L_97, L_99, L_100, L_255, L_273, L_1000, L_2000, q_ld, q_ldL, q_sto, q_stoL, q_add, q_sub, q_mul, q_dec, q_rem, q_div, q_lt_t, q_lt_f, q_le_t, q_le_f, q_eq_t, q_eq_f, q_em, q_me, q_ml, q_lm, q_mle, q_lem, q_s1, q_s1o, q_s1k, q_s12, q_s2, q_s2o, q_s2k, q_s21, Nat.add_sub_cancel, q_or, q_and, q_shl, true_or, or_true, false_or, or_false, true_and, and_true, false_and, and_false, not_true_eq_false, not_false_eq_true, ne_eq, h.m, e3, e4, e1, e2, gC_Paths_meetingOf_77]
            · by_cases e : j = i
              · rw [e]; exact decide_eq_false (fun q => by have := q.2; omega)
              · exact g2 j (by omega)
        · rw [if_neg d2] at e1
          refine Or.inl ⟨(), ?_, by omega, fun j hj => ?_⟩
          · rw [gC_Paths_meetingOf_10]
            simp (disch := omega) only [Option.bind_some, ↓reduceIte, ↓M_1, ↓M_2, L_0, L_1, L_2, L_3, L_4, L_5, L_6, L_7, L_8, L_9, L_10, L_11, L_12, L_13, L_20, L_24, L_26, L_30, L_31, L_32, L_39, L_40, L_48, L_57, L_76, L_80, L_90, L_91, L_97, L_99, L_100, L_255, L_273, L_1000, L_2000, q_ld, q_ldL, q_sto, q_stoL, q_add, q_sub, q_mul, q_dec, q_rem, q_div, q_lt_t, q_lt_f, q_le_t, q_le_f, q_eq_t, q_eq_f, q_em, q_me, q_ml, q_lm, q_mle, q_lem, q_s1, q_s1o, q_s1k, q_s12, q_s2, q_s2o, q_s2k, q_s21, Nat.add_sub_cancel, q_or, q_and, q_shl, true_or, or_true, false_or, or_false, true_and, and_true, false_and, and_false, not_true_eq_false, not_false_eq_true, ne_eq, h.m, e3, e4, e1, gC_Paths_meetingOf_77]
          · by_cases e : j = i
            · rw [e]; exact decide_eq_false (fun q => by have := q.2; omega)
            · exact g2 j (by omega)
      · refine Or.inl ⟨(), ?_, by omega, fun j hj => ?_⟩
        · rw [gC_Paths_meetingOf_10]
          simp (disch := omega) only [Option.bind_some, ↓reduceIte, ↓M_1, ↓M_2, L_0, L_1, L_2, L_3, L_4, L_5, L_6, L_7, L_8, L_9, L_10, L_11, L_12, L_13, L_20, L_24, L_26, L_30, L_31, L_32, L_39, L_40, L_48, L_57, L_76, L_80, L_90, L_91, L_97, L_99, L_100, L_255, L_273, L_1000, L_2000, q_ld, q_ldL, q_sto, q_stoL, q_add, q_sub, q_mul, q_dec, q_rem, q_div, q_lt_t, q_lt_f, q_le_t, q_le_f, q_eq_t, q_eq_f, q_em, q_me, q_ml, q_lm, q_mle, q_lem, q_s1, q_s1o, q_s1k, q_s12, q_s2, q_s2o, q_s2k, q_s21, Nat.add_sub_cancel, q_or, q_and, q_shl, true_or, or_true, false_or, or_false, true_and, and_true, false_and, and_false, not_true_eq_false, not_false_eq_true, ne_eq, h.m, e3, e4, gC_Paths_meetingOf_77]
        · by_cases e : j = i
          · rw [e]; exact decide_eq_false (fun q => d1 q.1)
          · exact g2 j (by omega)
    · rintro f _ ⟨g1, g2⟩
      have hmb : mb w g y r = 100 := by
        unfold mb
        rw [if_neg (fun q => by
          have := fst1_lt q
          rw [g2 _ q] at this
          cases this)]
      rw [hmb, gI_no (g := 100) (by decide)]
      try simp only
      rw [gC_Paths_meetingOf_10]
      simp (disch := omega) only [Option.bind_some, ↓reduceIte, ↓M_1, ↓M_2, L_0, L_1, L_2, L_3, L_4, L_5, L_6, L_7, L_8, L_9, L_10, L_11, L_12, L_13, L_20, L_24, L_26, L_30, L_31, L_32, L_39, L_40, L_48, L_57, L_76, L_80, L_90, L_91, L_97, L_99, L_100, L_255, L_273, L_1000, L_2000, q_ld, q_ldL, q_sto, q_stoL, q_add, q_sub, q_mul, q_dec, q_rem, q_div, q_lt_t, q_lt_f, q_le_t, q_le_f, q_eq_t, q_eq_f, q_em, q_me, q_ml, q_lm, q_mle, q_lem, q_s1, q_s1o, q_s1k, q_s12, q_s2, q_s2o, q_s2k, q_s21, Nat.add_sub_cancel, q_or, q_and, q_shl, true_or, or_true, false_or, or_false, true_and, and_true, false_and, and_false, not_true_eq_false, not_false_eq_true, ne_eq, h.m]
theorem M_isThere (h : MW w t) {m : Nat} (hm : m < w 5 1) (hg : g < w 5 0) : fM_EachAddsALineModel_isThere N (nI g) (nI m) t = some (if w 1 m = g ∨ w 2 m = g then nI 1 else nI 0, t) := by
  have hb := h.bd
  have hq := h.ok.2.2.2 m hm
  by_cases c1 : w 1 m = g
  · rw [if_pos (Or.inl c1)]
    simp (disch := omega) only [Option.bind_some, ↓reduceIte, ↓M_1, ↓M_2, L_0, L_1, L_2, L_3, L_4, L_5, L_6, L_7, L_8, L_9, L_10, L_11, L_12, L_13, L_20, L_24, L_26, L_30, L_31, L_32, L_39, L_40, L_48, L_57, L_76, L_80, L_90, L_91, L_97, L_99, L_100, L_255, L_273, L_1000, L_2000, q_ld, q_ldL, q_sto, q_stoL, q_add, q_sub, q_mul, q_dec, q_rem, q_div, q_lt_t, q_lt_f, q_le_t, q_le_f, q_eq_t, q_eq_f, q_em, q_me, q_ml, q_lm, q_mle, q_lem, q_s1, q_s1o, q_s1k, q_s12, q_s2, q_s2o, q_s2k, q_s21, Nat.add_sub_cancel, q_or, q_and, q_shl, true_or, or_true, false_or, or_false, true_and, and_true, false_and, and_false, not_true_eq_false, not_false_eq_true, ne_eq, fM_EachAddsALineModel_isThere, gM_EachAddsALineModel_isThere_0, gM_EachAddsALineModel_isThere_20, h.a hm]
  · by_cases c2 : w 2 m = g
    · rw [if_pos (Or.inr c2)]
      simp (disch := omega) only [Option.bind_some, ↓reduceIte, ↓M_1, ↓M_2, L_0, L_1, L_2, L_3, L_4, L_5, L_6, L_7, L_8, L_9, L_10, L_11, L_12, L_13, L_20, L_24, L_26, L_30, L_31, L_32, L_39, L_40, L_48, L_57, L_76, L_80, L_90, L_91, L_97, L_99, L_100, L_255, L_273, L_1000, L_2000, q_ld, q_ldL, q_sto, q_stoL, q_add, q_sub, q_mul, q_dec, q_rem, q_div, q_lt_t, q_lt_f, q_le_t, q_le_f, q_eq_t, q_eq_f, q_em, q_me, q_ml, q_lm, q_mle, q_lem, q_s1, q_s1o, q_s1k, q_s12, q_s2, q_s2o, q_s2k, q_s21, Nat.add_sub_cancel, q_or, q_and, q_shl, true_or, or_true, false_or, or_false, true_and, and_true, false_and, and_false, not_true_eq_false, not_false_eq_true, ne_eq, fM_EachAddsALineModel_isThere, gM_EachAddsALineModel_isThere_0, gM_EachAddsALineModel_isThere_20, h.a hm, h.b hm]
    · rw [if_neg (fun q => q.elim c1 c2)]
      simp (disch := omega) only [Option.bind_some, ↓reduceIte, ↓M_1, ↓M_2, L_0, L_1, L_2, L_3, L_4, L_5, L_6, L_7, L_8, L_9, L_10, L_11, L_12, L_13, L_20, L_24, L_26, L_30, L_31, L_32, L_39, L_40, L_48, L_57, L_76, L_80, L_90, L_91, L_97, L_99, L_100, L_255, L_273, L_1000, L_2000, q_ld, q_ldL, q_sto, q_stoL, q_add, q_sub, q_mul, q_dec, q_rem, q_div, q_lt_t, q_lt_f, q_le_t, q_le_f, q_eq_t, q_eq_f, q_em, q_me, q_ml, q_lm, q_mle, q_lem, q_s1, q_s1o, q_s1k, q_s12, q_s2, q_s2o, q_s2k, q_s21, Nat.add_sub_cancel, q_or, q_and, q_shl, true_or, or_true, false_or, or_false, true_and, and_true, false_and, and_false, not_true_eq_false, not_false_eq_true, ne_eq, fM_EachAddsALineModel_isThere, gM_EachAddsALineModel_isThere_0, gM_EachAddsALineModel_isThere_20, h.a hm, h.b hm]
theorem M_partner (h : MW w t) {m : Nat} (hm : m < w 5 1) (hg : g < w 5 0) : fM_EachAddsALineModel_partner N (nI g) (nI m) t = some (nI (oth w m g), t) := by
  have hb := h.bd
  have hq := h.ok.2.2.2 m hm
  unfold oth
  by_cases c1 : w 1 m = g
  · rw [if_pos c1]
    simp (disch := omega) only [Option.bind_some, ↓reduceIte, ↓M_1, ↓M_2, L_0, L_1, L_2, L_3, L_4, L_5, L_6, L_7, L_8, L_9, L_10, L_11, L_12, L_13, L_20, L_24, L_26, L_30, L_31, L_32, L_39, L_40, L_48, L_57, L_76, L_80, L_90, L_91, L_97, L_99, L_100, L_255, L_273, L_1000, L_2000, q_ld, q_ldL, q_sto, q_stoL, q_add, q_sub, q_mul, q_dec, q_rem, q_div, q_lt_t, q_lt_f, q_le_t, q_le_f, q_eq_t, q_eq_f, q_em, q_me, q_ml, q_lm, q_mle, q_lem, q_s1, q_s1o, q_s1k, q_s12, q_s2, q_s2o, q_s2k, q_s21, Nat.add_sub_cancel, q_or, q_and, q_shl, true_or, or_true, false_or, or_false, true_and, and_true, false_and, and_false, not_true_eq_false, not_false_eq_true, ne_eq, fM_EachAddsALineModel_partner, gM_EachAddsALineModel_partner_0, h.a hm, h.b hm]
  · rw [if_neg c1]
    simp (disch := omega) only [Option.bind_some, ↓reduceIte, ↓M_1, ↓M_2, L_0, L_1, L_2, L_3, L_4, L_5, L_6, L_7, L_8, L_9, L_10, L_11, L_12, L_13, L_20, L_24, L_26, L_30, L_31, L_32, L_39, L_40, L_48, L_57, L_76, L_80, L_90, L_91, L_97, L_99, L_100, L_255, L_273, L_1000, L_2000, q_ld, q_ldL, q_sto, q_stoL, q_add, q_sub, q_mul, q_dec, q_rem, q_div, q_lt_t, q_lt_f, q_le_t, q_le_f, q_eq_t, q_eq_f, q_em, q_me, q_ml, q_lm, q_mle, q_lem, q_s1, q_s1o, q_s1k, q_s12, q_s2, q_s2o, q_s2k, q_s21, Nat.add_sub_cancel, q_or, q_and, q_shl, true_or, or_true, false_or, or_false, true_and, and_true, false_and, and_false, not_true_eq_false, not_false_eq_true, ne_eq, fM_EachAddsALineModel_partner, gM_EachAddsALineModel_partner_0, h.a hm, h.b hm]
/-- what the reference finds at one letter -/
theorem M_way151 (R : Int32 → Int32 → Int32 → Int32 → Int32 → vSt → Option (Int32 × vSt)) {a3 : Int32} {since rdy j : Nat} (h : MW w t) (ho : okO w) (hN : 60 ≤ N) (hg : g < w 5 0) (hy : y < w 5 0) (hj : j < 30) (hs : since < 500) (hrd : (rdy = 1 ∧ r = since) ∨ (rdy = 0 ∧ r = since + w 0 g)) (h15 : t.1 15 j = nI y) :
    gM_EachAddsALineModel_way_151 N R N a3 (nI g) (nI since) (nI rdy) (nI j) (mI 1) (nI 0) t = if mb w g y r = 100 then some (mI (100 + j), t) else R a3 (nI y) (nI (w 3 (mb w g y r))) (nI 0) (nI (j + 1)) (s1 t 10 j (nI (mb w g y r))) := by
  have hb := h.bd
  have hR := h.ok.2.2.1 g hg
  refine loopU (fun f i (b : Nat) => gM_EachAddsALineModel_way_151 N R f a3 (nI g) (nI since) (nI rdy) (nI j) (gI b) (nI i) t) (w 5 1) (fun i b => i ≤ w 5 1 ∧ ((b = 100 ∧ ∀ m, m < i → ¬ mc w g y r m) ∨ (b < i ∧ mc w g y r b ∧ ∀ m, m < i → mc w g y r m → w 3 b < w 3 m ∨ (w 3 b = w 3 m ∧ b ≤ m)))) (fun o => o = if mb w g y r = 100 then some (mI (100 + j), t) else R a3 (nI y) (nI (w 3 (mb w g y r))) (nI 0) (nI (j + 1)) (s1 t 10 j (nI (mb w g y r)))) ?_ ?_ (w 5 1) N 0 100 (by omega) (by omega) ⟨by omega, Or.inl ⟨rfl, fun m hm => by omega⟩⟩
  · rintro f i b hi ⟨g1, g2⟩
    have hq := h.ok.2.2.2 i hi
    have e1 := M_isThere (N := N) h hi hg
    have e2 := M_partner (N := N) h hi hg
    have hol := oth_lt h.ok (u := g) hi
    have no : ¬ mc w g y r i → gM_EachAddsALineModel_way_151 N R (f + 1) a3 (nI g) (nI since) (nI rdy) (nI j) (gI b) (nI i) t = gM_EachAddsALineModel_way_151 N R f a3 (nI g) (nI since) (nI rdy) (nI j) (gI b) (nI (i + 1)) t := fun hn => by
      rw [gM_EachAddsALineModel_way_151]
      by_cases d2 : w 1 i = g ∨ w 2 i = g
      · rw [if_pos d2] at e1
        by_cases d3 : oth w i g = y
        · rw [d3] at e2
          have d4 : w 3 i < r := by
            unfold oth at d3
            refine Nat.lt_of_not_le (fun q => hn ⟨q, ?_⟩)
            split at d3 <;> omega
          rcases hrd with ⟨rfl, rfl⟩ | ⟨rfl, rfl⟩
          · simp (disch := omega) only [Option.bind_some, ↓reduceIte, ↓M_1, ↓M_2, L_0, L_1, L_2, L_3, L_4, L_5, L_6, L_7, L_8, L_9, L_10, L_11, L_12, L_13, L_20, L_24, L_26, L_30, L_31, L_32, L_39, L_40, L_48, L_57, L_76, L_80, L_90, L_91, L_97, L_99, L_100, L_255, L_273, L_1000, L_2000, q_ld, q_ldL, q_sto, q_stoL, q_add, q_sub, q_mul, q_dec, q_rem, q_div, q_lt_t, q_lt_f, q_le_t, q_le_f, q_eq_t, q_eq_f, q_em, q_me, q_ml, q_lm, q_mle, q_lem, q_s1, q_s1o, q_s1k, q_s12, q_s2, q_s2o, q_s2k, q_s21, Nat.add_sub_cancel, q_or, q_and, q_shl, true_or, or_true, false_or, or_false, true_and, and_true, false_and, and_false, not_true_eq_false, not_false_eq_true, ne_eq, h.m, e1, e2, h15, h.h hi, gM_EachAddsALineModel_way_214, gM_EachAddsALineModel_way_248, Nat.add_zero]
          · simp (disch := omega) only [Option.bind_some, ↓reduceIte, ↓M_1, ↓M_2, L_0, L_1, L_2, L_3, L_4, L_5, L_6, L_7, L_8, L_9, L_10, L_11, L_12, L_13, L_20, L_24, L_26, L_30, L_31, L_32, L_39, L_40, L_48, L_57, L_76, L_80, L_90, L_91, L_97, L_99, L_100, L_255, L_273, L_1000, L_2000, q_ld, q_ldL, q_sto, q_stoL, q_add, q_sub, q_mul, q_dec, q_rem, q_div, q_lt_t, q_lt_f, q_le_t, q_le_f, q_eq_t, q_eq_f, q_em, q_me, q_ml, q_lm, q_mle, q_lem, q_s1, q_s1o, q_s1k, q_s12, q_s2, q_s2o, q_s2k, q_s21, Nat.add_sub_cancel, q_or, q_and, q_shl, true_or, or_true, false_or, or_false, true_and, and_true, false_and, and_false, not_true_eq_false, not_false_eq_true, ne_eq, h.m, e1, e2, h15, h.h hi, h.rd hg, gM_EachAddsALineModel_way_214, gM_EachAddsALineModel_way_248]
        · simp (disch := omega) only [Option.bind_some, ↓reduceIte, ↓M_1, ↓M_2, L_0, L_1, L_2, L_3, L_4, L_5, L_6, L_7, L_8, L_9, L_10, L_11, L_12, L_13, L_20, L_24, L_26, L_30, L_31, L_32, L_39, L_40, L_48, L_57, L_76, L_80, L_90, L_91, L_97, L_99, L_100, L_255, L_273, L_1000, L_2000, q_ld, q_ldL, q_sto, q_stoL, q_add, q_sub, q_mul, q_dec, q_rem, q_div, q_lt_t, q_lt_f, q_le_t, q_le_f, q_eq_t, q_eq_f, q_em, q_me, q_ml, q_lm, q_mle, q_lem, q_s1, q_s1o, q_s1k, q_s12, q_s2, q_s2o, q_s2k, q_s21, Nat.add_sub_cancel, q_or, q_and, q_shl, true_or, or_true, false_or, or_false, true_and, and_true, false_and, and_false, not_true_eq_false, not_false_eq_true, ne_eq, h.m, e1, e2, h15, gM_EachAddsALineModel_way_248]
      · rw [if_neg d2] at e1
        simp (disch := omega) only [Option.bind_some, ↓reduceIte, ↓M_1, ↓M_2, L_0, L_1, L_2, L_3, L_4, L_5, L_6, L_7, L_8, L_9, L_10, L_11, L_12, L_13, L_20, L_24, L_26, L_30, L_31, L_32, L_39, L_40, L_48, L_57, L_76, L_80, L_90, L_91, L_97, L_99, L_100, L_255, L_273, L_1000, L_2000, q_ld, q_ldL, q_sto, q_stoL, q_add, q_sub, q_mul, q_dec, q_rem, q_div, q_lt_t, q_lt_f, q_le_t, q_le_f, q_eq_t, q_eq_f, q_em, q_me, q_ml, q_lm, q_mle, q_lem, q_s1, q_s1o, q_s1k, q_s12, q_s2, q_s2o, q_s2k, q_s21, Nat.add_sub_cancel, q_or, q_and, q_shl, true_or, or_true, false_or, or_false, true_and, and_true, false_and, and_false, not_true_eq_false, not_false_eq_true, ne_eq, h.m, e1, gM_EachAddsALineModel_way_248]
    by_cases c : mc w g y r i
    · have d2 : w 1 i = g ∨ w 2 i = g := by have := c.2; omega
      have d3 : oth w i g = y := by
        unfold oth
        have := c.2
        split <;> omega
      rw [if_pos d2] at e1
      rw [d3] at e2
      have d4 := c.1
      by_cases hbn : b = 100 ∨ ¬ w 3 b ≤ w 3 i
      · refine Or.inl ⟨i, ?_, by omega, Or.inr ⟨by omega, c, fun m hm hc => ?_⟩⟩
        · try simp only
          rw [gI_nI (g := i) (by omega), gM_EachAddsALineModel_way_151]
          by_cases hb1 : b = 100
          · rw [hb1, gI_no (g := 100) (by decide)]
            rcases hrd with ⟨rfl, rfl⟩ | ⟨rfl, rfl⟩
            · simp (disch := omega) only [Option.bind_some, ↓reduceIte, ↓M_1, ↓M_2, L_0, L_1, L_2, L_3, L_4, L_5, L_6, L_7, L_8, L_9, L_10, L_11, L_12, L_13, L_20, L_24, L_26, L_30, L_31, L_32, L_39, L_40, L_48, L_57, L_76, L_80, L_90, L_91, L_97, L_99, L_100, L_255, L_273, L_1000, L_2000, q_ld, q_ldL, q_sto, q_stoL, q_add, q_sub, q_mul, q_dec, q_rem, q_div, q_lt_t, q_lt_f, q_le_t, q_le_f, q_eq_t, q_eq_f, q_em, q_me, q_ml, q_lm, q_mle, q_lem, q_s1, q_s1o, q_s1k, q_s12, q_s2, q_s2o, q_s2k, q_s21, Nat.add_sub_cancel, q_or, q_and, q_shl, true_or, or_true, false_or, or_false, true_and, and_true, false_and, and_false, not_true_eq_false, not_false_eq_true, ne_eq, h.m, e1, e2, h15, h.h hi, gM_EachAddsALineModel_way_214, gM_EachAddsALineModel_way_244, gM_EachAddsALineModel_way_248, Nat.add_zero]
            · simp (disch := omega) only [Option.bind_some, ↓reduceIte, ↓M_1, ↓M_2, L_0, L_1, L_2, L_3, L_4, L_5, L_6, L_7, L_8, L_9, L_10, L_11, L_12, L_13, L_20, L_24, L_26, L_30, L_31, L_32, L_39, L_40, L_48, L_57, L_76, L_80, L_90, L_91, L_97, L_99, L_100, L_255, L_273, L_1000, L_2000, q_ld, q_ldL, q_sto, q_stoL, q_add, q_sub, q_mul, q_dec, q_rem, q_div, q_lt_t, q_lt_f, q_le_t, q_le_f, q_eq_t, q_eq_f, q_em, q_me, q_ml, q_lm, q_mle, q_lem, q_s1, q_s1o, q_s1k, q_s12, q_s2, q_s2o, q_s2k, q_s21, Nat.add_sub_cancel, q_or, q_and, q_shl, true_or, or_true, false_or, or_false, true_and, and_true, false_and, and_false, not_true_eq_false, not_false_eq_true, ne_eq, h.m, e1, e2, h15, h.h hi, h.rd hg, gM_EachAddsALineModel_way_214, gM_EachAddsALineModel_way_244, gM_EachAddsALineModel_way_248]
          · have hb2 := (g2.resolve_left (fun q => hb1 q.1)).1
            have hb3 := hbn.resolve_left hb1
            have hqb := h.ok.2.2.2 b (by omega)
            rw [gI_nI (g := b) (by omega)]
            rcases hrd with ⟨rfl, rfl⟩ | ⟨rfl, rfl⟩
            · simp (disch := omega) only [Option.bind_some, ↓reduceIte, ↓M_1, ↓M_2, L_0, L_1, L_2, L_3, L_4, L_5, L_6, L_7, L_8, L_9, L_10, L_11, L_12, L_13, L_20, L_24, L_26, L_30, L_31, L_32, L_39, L_40, L_48, L_57, L_76, L_80, L_90, L_91, L_97, L_99, L_100, L_255, L_273, L_1000, L_2000, q_ld, q_ldL, q_sto, q_stoL, q_add, q_sub, q_mul, q_dec, q_rem, q_div, q_lt_t, q_lt_f, q_le_t, q_le_f, q_eq_t, q_eq_f, q_em, q_me, q_ml, q_lm, q_mle, q_lem, q_s1, q_s1o, q_s1k, q_s12, q_s2, q_s2o, q_s2k, q_s21, Nat.add_sub_cancel, q_or, q_and, q_shl, true_or, or_true, false_or, or_false, true_and, and_true, false_and, and_false, not_true_eq_false, not_false_eq_true, ne_eq, h.m, e1, e2, h15, h.h hi, h.h (m := b) (by omega), gM_EachAddsALineModel_way_214, gM_EachAddsALineModel_way_244, gM_EachAddsALineModel_way_248, Nat.add_zero]
            · simp (disch := omega) only [Option.bind_some, ↓reduceIte, ↓M_1, ↓M_2, L_0, L_1, L_2, L_3, L_4, L_5, L_6, L_7, L_8, L_9, L_10, L_11, L_12, L_13, L_20, L_24, L_26, L_30, L_31, L_32, L_39, L_40, L_48, L_57, L_76, L_80, L_90, L_91, L_97, L_99, L_100, L_255, L_273, L_1000, L_2000, q_ld, q_ldL, q_sto, q_stoL, q_add, q_sub, q_mul, q_dec, q_rem, q_div, q_lt_t, q_lt_f, q_le_t, q_le_f, q_eq_t, q_eq_f, q_em, q_me, q_ml, q_lm, q_mle, q_lem, q_s1, q_s1o, q_s1k, q_s12, q_s2, q_s2o, q_s2k, q_s21, Nat.add_sub_cancel, q_or, q_and, q_shl, true_or, or_true, false_or, or_false, true_and, and_true, false_and, and_false, not_true_eq_false, not_false_eq_true, ne_eq, h.m, e1, e2, h15, h.h hi, h.h (m := b) (by omega), h.rd hg, gM_EachAddsALineModel_way_214, gM_EachAddsALineModel_way_244, gM_EachAddsALineModel_way_248]
        · by_cases e : m = i
          · rw [e]; exact Or.inr ⟨rfl, Nat.le_refl _⟩
          · rcases g2 with q | q
            · exact absurd hc (q.2 m (by omega))
            · have h9 := q.2.2 m (by omega) hc
              have hb3 : ¬ w 3 b ≤ w 3 i := hbn.resolve_left (by omega)
              omega
      · have hb1 : ¬ b = 100 := fun q => hbn (Or.inl q)
        have hb3 : w 3 b ≤ w 3 i := Classical.byContradiction (fun q => hbn (Or.inr q))
        have hb2 := g2.resolve_left (fun q => hb1 q.1)
        have hqb := h.ok.2.2.2 b (by omega)
        refine Or.inl ⟨b, ?_, by omega, Or.inr ⟨by omega, hb2.2.1, fun m hm hc => ?_⟩⟩
        · try simp only
          rw [gI_nI (g := b) (by omega), gM_EachAddsALineModel_way_151]
          rcases hrd with ⟨rfl, rfl⟩ | ⟨rfl, rfl⟩
          · simp (disch := omega) only [Option.bind_some, ↓reduceIte, ↓M_1, ↓M_2, L_0, L_1, L_2, L_3, L_4, L_5, L_6, L_7, L_8, L_9, L_10, L_11, L_12, L_13, L_20, L_24, L_26, L_30, L_31, L_32, L_39, L_40, L_48, L_57, L_76, L_80, L_90, L_91, L_97, L_99, L_100, L_255, L_273, L_1000, L_2000, q_ld, q_ldL, q_sto, q_stoL, q_add, q_sub, q_mul, q_dec, q_rem, q_div, q_lt_t, q_lt_f, q_le_t, q_le_f, q_eq_t, q_eq_f, q_em, q_me, q_ml, q_lm, q_mle, q_lem, q_s1, q_s1o, q_s1k, q_s12, q_s2, q_s2o, q_s2k, q_s21, Nat.add_sub_cancel, q_or, q_and, q_shl, true_or, or_true, false_or, or_false, true_and, and_true, false_and, and_false, not_true_eq_false, not_false_eq_true, ne_eq, h.m, e1, e2, h15, h.h hi, h.h (m := b) (by omega), gM_EachAddsALineModel_way_214, gM_EachAddsALineModel_way_248, Nat.add_zero]
          · simp (disch := omega) only [Option.bind_some, ↓reduceIte, ↓M_1, ↓M_2, L_0, L_1, L_2, L_3, L_4, L_5, L_6, L_7, L_8, L_9, L_10, L_11, L_12, L_13, L_20, L_24, L_26, L_30, L_31, L_32, L_39, L_40, L_48, L_57, L_76, L_80, L_90, L_91, L_97, L_99, L_100, L_255, L_273, L_1000, L_2000, q_ld, q_ldL, q_sto, q_stoL, q_add, q_sub, q_mul, q_dec, q_rem, q_div, q_lt_t, q_lt_f, q_le_t, q_le_f, q_eq_t, q_eq_f, q_em, q_me, q_ml, q_lm, q_mle, q_lem, q_s1, q_s1o, q_s1k, q_s12, q_s2, q_s2o, q_s2k, q_s21, Nat.add_sub_cancel, q_or, q_and, q_shl, true_or, or_true, false_or, or_false, true_and, and_true, false_and, and_false, not_true_eq_false, not_false_eq_true, ne_eq, h.m, e1, e2, h15, h.h hi, h.h (m := b) (by omega), h.rd hg, gM_EachAddsALineModel_way_214, gM_EachAddsALineModel_way_248]
        · by_cases e : m = i
          · rw [e]; omega
          · exact hb2.2.2 m (by omega) hc
    · refine Or.inl ⟨b, no c, by omega, ?_⟩
      rcases g2 with q | q
      · refine Or.inl ⟨q.1, fun m hm => ?_⟩
        by_cases e : m = i
        · rw [e]; exact c
        · exact q.2 m (by omega)
      · refine Or.inr ⟨by omega, q.2.1, fun m hm hc => ?_⟩
        by_cases e : m = i
        · rw [e] at hc; exact absurd hc c
        · exact q.2.2 m (by omega) hc
  · rintro f b ⟨g1, g2⟩
    have hm := mb_ok (g := g) (y := y) (r := r) h.ok ho
    have hbb : b = mb w g y r := by
      rcases g2 with q | q
      · rcases hm with p | p
        · rw [q.1, p.1]
        · exact absurd p.2.1 (q.2 _ p.1)
      · rcases hm with p | p
        · exact absurd q.2.1 (p.2 _ q.1)
        · have h1 := q.2.2 _ p.1 p.2.1
          have h2 := p.2.2 _ q.1 q.2.1
          omega
    subst hbb
    try simp only
    rw [gM_EachAddsALineModel_way_151]
    rcases hm with p | p
    · rw [p.1, gI_no (g := 100) (by decide), if_pos (show (100 : Nat) = 100 from rfl)]
      simp (disch := omega) only [Option.bind_some, ↓reduceIte, ↓M_1, ↓M_2, L_0, L_1, L_2, L_3, L_4, L_5, L_6, L_7, L_8, L_9, L_10, L_11, L_12, L_13, L_20, L_24, L_26, L_30, L_31, L_32, L_39, L_40, L_48, L_57, L_76, L_80, L_90, L_91, L_97, L_99, L_100, L_255, L_273, L_1000, L_2000, q_ld, q_ldL, q_sto, q_stoL, q_add, q_sub, q_mul, q_dec, q_rem, q_div, q_lt_t, q_lt_f, q_le_t, q_le_f, q_eq_t, q_eq_f, q_em, q_me, q_ml, q_lm, q_mle, q_lem, q_s1, q_s1o, q_s1k, q_s12, q_s2, q_s2o, q_s2k, q_s21, Nat.add_sub_cancel, q_or, q_and, q_shl, true_or, or_true, false_or, or_false, true_and, and_true, false_and, and_false, not_true_eq_false, not_false_eq_true, ne_eq, h.m, ↓M_100, q_ms]
    · have hq := h.ok.2.2.2 _ p.1
      rw [show (if mb w g y r = 100 then some (mI (100 + j), t) else R a3 (nI y) (nI (w 3 (mb w g y r))) (nI 0) (nI (j + 1)) (s1 t 10 j (nI (mb w g y r)))) = R a3 (nI y) (nI (w 3 (mb w g y r))) (nI 0) (nI (j + 1)) (s1 t 10 j (nI (mb w g y r))) from if_neg (by omega), gI_nI (g := mb w g y r) (by omega)]
      simp (disch := omega) only [Option.bind_some, ↓reduceIte, ↓M_1, ↓M_2, L_0, L_1, L_2, L_3, L_4, L_5, L_6, L_7, L_8, L_9, L_10, L_11, L_12, L_13, L_20, L_24, L_26, L_30, L_31, L_32, L_39, L_40, L_48, L_57, L_76, L_80, L_90, L_91, L_97, L_99, L_100, L_255, L_273, L_1000, L_2000, q_ld, q_ldL, q_sto, q_stoL, q_add, q_sub, q_mul, q_dec, q_rem, q_div, q_lt_t, q_lt_f, q_le_t, q_le_f, q_eq_t, q_eq_f, q_em, q_me, q_ml, q_lm, q_mle, q_lem, q_s1, q_s1o, q_s1k, q_s12, q_s2, q_s2o, q_s2k, q_s21, Nat.add_sub_cancel, q_or, q_and, q_shl, true_or, or_true, false_or, or_false, true_and, and_true, false_and, and_false, not_true_eq_false, not_false_eq_true, ne_eq, h.m, h15, h.h p.1]
end WA
