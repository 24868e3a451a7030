/-! tales: in how many ways a tale can have come; the reference's tables -/
theorem cmpL_le {a b : Nat} (ha : a < 2 ^ 63) (hb : b < 2 ^ 63) : (lg_cmp (lN a) (lN b) ≤ nI 0) = (a ≤ b) := propext ((lg_cmp_le (lN a) (lN b)).trans (by
  rw [Int64.le_iff_toInt_le, pf_lI ha, pf_lI hb]
  omega))
theorem cmpL_ge {a b : Nat} (ha : a < 2 ^ 63) (hb : b < 2 ^ 63) : (nI 0 ≤ lg_cmp (lN a) (lN b)) = (b ≤ a) := propext ((lg_cmp_ge (lN a) (lN b)).trans (by
  rw [Int64.le_iff_toInt_le, pf_lI ha, pf_lI hb]
  omega))
def TF (w : Nat → Nat → Nat) (C : List Nat) (ta : Nat → Nat) (n v no : Nat) : Nat → Nat → Nat
  | 0 => fun a => if fre w 100 no a ∧ SO w C ta (n - 1) a then (if gt w a = v then 1 else 0) else 0
  | j + 1 => fun a => if fre w 100 no a ∧ SO w C ta (n - 2 - j) a then fb_sm (fun o => if fol w o a then TF w C ta n v no j o else 0) (2 * w 5 1) else 0
def FT (w : Nat → Nat → Nat) (C : List Nat) (ta : Nat → Nat) (n v no k a : Nat) : Nat := TF w C ta n v no (n - 1 - k) a
def CF (w : Nat → Nat → Nat) (C : List Nat) (ta : Nat → Nat) (n u v r no : Nat) : Nat := if n = 1 then (if u = v ∧ ¬ no = v then 1 else 0) else wy w (FT w C ta n v no 1) u r (2 * w 5 1)
section FE
variable {w : Nat → Nat → Nat} {C : List Nat} {ta : Nat → Nat} {n u v r no k a : Nat}
theorem FT_last (hk : k + 1 = n) : FT w C ta n v no k a = if fre w 100 no a ∧ SO w C ta k a then (if gt w a = v then 1 else 0) else 0 := by
  unfold FT
  rw [show n - 1 - k = 0 by omega, TF, show n - 1 = k by omega]
theorem FT_next (hk : k + 1 < n) : FT w C ta n v no k a = if fre w 100 no a ∧ SO w C ta k a then fb_sm (fun o => if fol w o a then FT w C ta n v no (k + 1) o else 0) (2 * w 5 1) else 0 := by
  unfold FT
  rw [show n - 1 - k = (n - 1 - (k + 1)) + 1 by omega, TF, show n - 2 - (n - 1 - (k + 1)) = k by omega]
theorem FT_eq (hk : k < n) : FT w C ta n v no k a = if fre w 100 no a ∧ SO w C ta k a then (if k + 1 = n ∧ gt w a = v then 1 else 0) + (if k + 1 < n then fb_sm (fun o => if fol w o a then FT w C ta n v no (k + 1) o else 0) (2 * w 5 1) else 0) else 0 := by
  by_cases c : k + 1 = n
  · have e : (if k + 1 = n ∧ gt w a = v then 1 else 0) = if gt w a = v then 1 else 0 := by
      by_cases d : gt w a = v
      · rw [if_pos d, if_pos ⟨c, d⟩]
      · rw [if_neg d, if_neg (fun z => d z.2)]
    rw [FT_last c, e, if_neg (show ¬ k + 1 < n by omega), Nat.add_zero]
  · have e : (if k + 1 = n ∧ gt w a = v then 1 else 0) = 0 := if_neg (fun z => c z.1)
    rw [FT_next (by omega), e, if_pos (show k + 1 < n by omega), Nat.zero_add]
theorem wy_le (h : okW w) {T : Nat → Nat} {B : Nat} (hT : ∀ o, o < 2 * w 5 1 → T o ≤ B) (u r : Nat) : ∀ m, m ≤ w 5 1 → wy w T u r (2 * m) ≤ m * B := by
  intro m
  induction m with
  | zero => intro _; exact Nat.zero_le _
  | succ m ih =>
    intro hm
    have e : (m + 1) * B = m * B + B := Nat.succ_mul m B
    rw [wy_hop h T u r (by omega), e]
    refine Nat.add_le_add (ih (by omega)) ?_
    split
    · exact hT _ (ix_lt u (by omega))
    · exact Nat.zero_le _
theorem fol_wy (T : Nat → Nat) (a : Nat) : fb_sm (fun o => if fol w o a then T o else 0) (2 * w 5 1) = wy w T (gt w a) (rd w a) (2 * w 5 1) := rfl
theorem TF_0 : TF w C ta n v no 0 a = if fre w 100 no a ∧ SO w C ta (n - 1) a then (if gt w a = v then 1 else 0) else 0 := rfl
theorem TF_s {j : Nat} : TF w C ta n v no (j + 1) a = if fre w 100 no a ∧ SO w C ta (n - 2 - j) a then fb_sm (fun o => if fol w o a then TF w C ta n v no j o else 0) (2 * w 5 1) else 0 := rfl
theorem TF_le (h : okW w) : ∀ j a, TF w C ta n v no j a ≤ 20 ^ j := by
  have hM := h.2.1
  intro j
  induction j with
  | zero => intro a; rw [TF_0]; show _ ≤ 1; split <;> (try split) <;> omega
  | succ j ih =>
    intro a
    rw [TF_s]
    split
    · rw [fol_wy]
      refine Nat.le_trans (wy_le h (fun o _ => ih o) _ _ (w 5 1) (Nat.le_refl _)) ?_
      rw [Nat.pow_succ, Nat.mul_comm]
      exact Nat.mul_le_mul_left _ hM
    · exact Nat.zero_le _
theorem FT_lt (h : okW w) (hn : n ≤ 12) : FT w C ta n v no k a < 2 ^ 50 := by
  have h1 := TF_le (C := C) (ta := ta) (n := n) (v := v) (no := no) h (n - 1 - k) a
  have h2 : 20 ^ (n - 1 - k) ≤ 20 ^ 11 := Nat.pow_le_pow_right (by decide) (by omega)
  have h3 : 20 ^ 11 < 2 ^ 50 := by decide
  unfold FT
  omega
theorem CF_lt (h : okW w) (hn : n ≤ 12) : CF w C ta n u v r no < 2 ^ 55 := by
  have hM := h.2.1
  unfold CF
  split
  · split <;> decide
  · have h1 := wy_le h (T := FT w C ta n v no 1) (B := 2 ^ 50) (fun o _ => Nat.le_of_lt (FT_lt h hn)) u r (w 5 1) (Nat.le_refl _)
    have h2 : w 5 1 * 2 ^ 50 ≤ 20 * 2 ^ 50 := Nat.mul_le_mul_right _ hM
    have h3 : 20 * 2 ^ 50 < 2 ^ 55 := by decide
    omega
end FE
section FM
variable {N : Nat} {w : Nat → Nat → Nat} {C : List Nat} {x ta G : Nat → Nat} {n u v r no k a q off x0 : Nat} {t : vSt}
theorem M_ff78 (R : Int32 → Int32 → Int32 → Int32 → Int32 → vSt → Option vSt) (h : MW w t) (hN : 100 ≤ N) (hn : n ≤ 12) (hk : 0 < k ∧ k < n) (ha : a < 2 * w 5 1) (h30 : t.1 0 30 = nI (2 * w 5 1)) (hG : k + 1 < n → ∀ o, o < 2 * w 5 1 → t.2 17 (40 * (k + 1) + o) = lN (G o)) :
    gM_EachAddsALineModel_findFits_78 N R N (nI off) (nI n) (nI v) (nI k) (nI a) (lN x0) (nI 0) t = gM_EachAddsALineModel_findFits_132 N R (nI off) (nI n) (nI v) (nI k) (nI a) (lN (x0 + if k + 1 < n then fb_sm (fun o => if fol w o a then G o else 0) (2 * w 5 1) else 0)) t := by
  have hb := h.bd
  have hk2 := hk.2
  by_cases c : k + 1 < n
  · rw [if_pos c]
    refine loopS (fun f i (y : Nat) => gM_EachAddsALineModel_findFits_78 N R f (nI off) (nI n) (nI v) (nI k) (nI a) (lN y) (nI i) t) (fun i => x0 + fb_sm (fun o => if fol w o a then G o else 0) i) (2 * w 5 1) _ (fun f i hi => ?_) (fun f => ?_) N (by omega)
    · have ef := M_follows (N := N) h hi ha
      have e1 := hG c i hi
      show gM_EachAddsALineModel_findFits_78 N R (f + 1) (nI off) (nI n) (nI v) (nI k) (nI a) (lN (x0 + fb_sm (fun o => if fol w o a then G o else 0) i)) (nI i) t = gM_EachAddsALineModel_findFits_78 N R f (nI off) (nI n) (nI v) (nI k) (nI a) (lN (x0 + fb_sm (fun o => if fol w o a then G o else 0) (i + 1))) (nI (i + 1)) t
      rw [fb_sm_succ]
      generalize fb_sm (fun o => if fol w o a then G o else 0) i = y
      rw [gM_EachAddsALineModel_findFits_78]
      by_cases d : fol w i a
      · rw [if_pos d] at ef ⊢
        rw [← Nat.add_assoc]
        simp (disch := omega) only [Option.bind_some, ↓reduceIte, ↓M_1, ↓M_2, L_0, L_1, L_2, L_3, L_4, L_5, L_6, L_7, L_8, L_9, L_10, L_11, L_12, L_13, L_20, L_24, L_26, L_30, L_31, L_32, L_39, L_40, L_48, L_57, L_76, L_80, L_90, L_91, L_97, L_99, L_100, L_255, L_273, L_1000, L_2000, q_ld, q_ldL, q_sto, q_stoL, q_add, q_sub, q_mul, q_dec, q_rem, q_div, q_lt_t, q_lt_f, q_le_t, q_le_f, q_eq_t, q_eq_f, q_em, q_me, q_ml, q_lm, q_mle, q_lem, q_s1, q_s1o, q_s1k, q_s12, q_s2, q_s2o, q_s2k, q_s21, Nat.add_sub_cancel, q_or, q_and, q_shl, true_or, or_true, false_or, or_false, true_and, and_true, false_and, and_false, not_true_eq_false, not_false_eq_true, ne_eq, h30, ef, e1, lN_add, gM_EachAddsALineModel_findFits_126]
      · rw [if_neg d] at ef ⊢
        rw [Nat.add_zero]
        simp (disch := omega) only [Option.bind_some, ↓reduceIte, ↓M_1, ↓M_2, L_0, L_1, L_2, L_3, L_4, L_5, L_6, L_7, L_8, L_9, L_10, L_11, L_12, L_13, L_20, L_24, L_26, L_30, L_31, L_32, L_39, L_40, L_48, L_57, L_76, L_80, L_90, L_91, L_97, L_99, L_100, L_255, L_273, L_1000, L_2000, q_ld, q_ldL, q_sto, q_stoL, q_add, q_sub, q_mul, q_dec, q_rem, q_div, q_lt_t, q_lt_f, q_le_t, q_le_f, q_eq_t, q_eq_f, q_em, q_me, q_ml, q_lm, q_mle, q_lem, q_s1, q_s1o, q_s1k, q_s12, q_s2, q_s2o, q_s2k, q_s21, Nat.add_sub_cancel, q_or, q_and, q_shl, true_or, or_true, false_or, or_false, true_and, and_true, false_and, and_false, not_true_eq_false, not_false_eq_true, ne_eq, h30, ef, gM_EachAddsALineModel_findFits_126]
    · show gM_EachAddsALineModel_findFits_78 N R (f + 1) (nI off) (nI n) (nI v) (nI k) (nI a) (lN (x0 + fb_sm (fun o => if fol w o a then G o else 0) (2 * w 5 1))) (nI (2 * w 5 1)) t = _
      rw [gM_EachAddsALineModel_findFits_78]
      simp (disch := omega) only [Option.bind_some, ↓reduceIte, ↓M_1, ↓M_2, L_0, L_1, L_2, L_3, L_4, L_5, L_6, L_7, L_8, L_9, L_10, L_11, L_12, L_13, L_20, L_24, L_26, L_30, L_31, L_32, L_39, L_40, L_48, L_57, L_76, L_80, L_90, L_91, L_97, L_99, L_100, L_255, L_273, L_1000, L_2000, q_ld, q_ldL, q_sto, q_stoL, q_add, q_sub, q_mul, q_dec, q_rem, q_div, q_lt_t, q_lt_f, q_le_t, q_le_f, q_eq_t, q_eq_f, q_em, q_me, q_ml, q_lm, q_mle, q_lem, q_s1, q_s1o, q_s1k, q_s12, q_s2, q_s2o, q_s2k, q_s21, Nat.add_sub_cancel, q_or, q_and, q_shl, true_or, or_true, false_or, or_false, true_and, and_true, false_and, and_false, not_true_eq_false, not_false_eq_true, ne_eq, h30]
  · rw [if_neg c, Nat.add_zero]
    obtain ⟨m, hm⟩ : ∃ m, N = m + 1 := ⟨N - 1, by omega⟩
    have e : gM_EachAddsALineModel_findFits_78 N R N (nI off) (nI n) (nI v) (nI k) (nI a) (lN x0) (nI 0) t = gM_EachAddsALineModel_findFits_78 N R (m + 1) (nI off) (nI n) (nI v) (nI k) (nI a) (lN x0) (nI 0) t := by rw [← hm]
    rw [e, gM_EachAddsALineModel_findFits_78]
    simp (disch := omega) only [Option.bind_some, ↓reduceIte, ↓M_1, ↓M_2, L_0, L_1, L_2, L_3, L_4, L_5, L_6, L_7, L_8, L_9, L_10, L_11, L_12, L_13, L_20, L_24, L_26, L_30, L_31, L_32, L_39, L_40, L_48, L_57, L_76, L_80, L_90, L_91, L_97, L_99, L_100, L_255, L_273, L_1000, L_2000, q_ld, q_ldL, q_sto, q_stoL, q_add, q_sub, q_mul, q_dec, q_rem, q_div, q_lt_t, q_lt_f, q_le_t, q_le_f, q_eq_t, q_eq_f, q_em, q_me, q_ml, q_lm, q_mle, q_lem, q_s1, q_s1o, q_s1k, q_s12, q_s2, q_s2o, q_s2k, q_s21, Nat.add_sub_cancel, q_or, q_and, q_shl, true_or, or_true, false_or, or_false, true_and, and_true, false_and, and_false, not_true_eq_false, not_false_eq_true, ne_eq, h30]
theorem M_ff17 (R : Int32 → Int32 → Int32 → Int32 → vSt → Option vSt) (h : MW w t) (hN : 100 ≤ N) (hU : UM N q x C t) (hT : MT off n ta t) (ho : off ≤ 12) (hk : 0 < k ∧ k < n) (h30 : t.1 0 30 = nI (2 * w 5 1)) (h35 : t.1 0 35 = gI 100) (h37 : t.1 0 37 = gI no) (hG : k + 1 < n → ∀ o, o < 2 * w 5 1 → t.2 17 (40 * (k + 1) + o) = lN (FT w C ta n v no (k + 1) o)) (hv : v < w 5 0) :
    ∃ z, gM_EachAddsALineModel_findFits_17 N R N (nI off) (nI n) (nI v) (nI k) (nI 0) t = R (nI off) (nI n) (nI v) (nI k + mI 1) z ∧ Fm [] [17] [12, 13, 14, 15, 16, 19, 20, 21, 22, 23, 24, 25, 26] t z ∧ (∀ o, o < 2 * w 5 1 → z.2 17 (40 * k + o) = lN (FT w C ta n v no k o)) ∧ ∀ j, ¬ (40 * k ≤ j ∧ j < 40 * k + 40) → z.2 17 j = t.2 17 j := by
  have hb := h.bd
  have hn := hT.1
  have hk2 := hk.2
  refine loopU (fun f i z => gM_EachAddsALineModel_findFits_17 N R f (nI off) (nI n) (nI v) (nI k) (nI i) z) (2 * w 5 1) (fun i z => i ≤ 2 * w 5 1 ∧ Fm [] [17] [12, 13, 14, 15, 16, 19, 20, 21, 22, 23, 24, 25, 26] t z ∧ (∀ o, o < i → z.2 17 (40 * k + o) = lN (FT w C ta n v no k o)) ∧ ∀ j, ¬ (40 * k ≤ j ∧ j < 40 * k + 40) → z.2 17 j = t.2 17 j)
    (fun o => ∃ z, o = R (nI off) (nI n) (nI v) (nI k + mI 1) z ∧ Fm [] [17] [12, 13, 14, 15, 16, 19, 20, 21, 22, 23, 24, 25, 26] t z ∧ (∀ o, o < 2 * w 5 1 → z.2 17 (40 * k + o) = lN (FT w C ta n v no k o)) ∧ ∀ j, ¬ (40 * k ≤ j ∧ j < 40 * k + 40) → z.2 17 j = t.2 17 j) ?_ ?_ (2 * w 5 1) N 0 t (by omega) (by omega) ⟨by omega, Fm.rf, fun o h => by omega, fun _ _ => rfl⟩
  · rintro f i z hi ⟨g1, g2, g3, g4⟩
    have hz : MW w z := h.fm g2 (by decide) (by decide)
    have z30 : z.1 0 30 = nI (2 * w 5 1) := (g2.2.2 30 (by decide)).trans h30
    have z35 : z.1 0 35 = gI 100 := (g2.2.2 35 (by decide)).trans h35
    have z37 : z.1 0 37 = gI no := (g2.2.2 37 (by decide)).trans h37
    have ef := M_isFree (N := N) hz z35 z37 hi
    have hgt := gt_lt h.ok hi
    -- the entry is put
    have put : ∀ y : vSt, Fm [] [] [12, 13, 14, 15, 16, 19, 20, 21, 22, 23, 24, 25, 26] z y → gM_EachAddsALineModel_findFits_17 N R (f + 1) (nI off) (nI n) (nI v) (nI k) (nI i) z = gM_EachAddsALineModel_findFits_132 N (gM_EachAddsALineModel_findFits_17 N R f) (nI off) (nI n) (nI v) (nI k) (nI i) (lN (FT w C ta n v no k i)) y →
        ∃ z', gM_EachAddsALineModel_findFits_17 N R (f + 1) (nI off) (nI n) (nI v) (nI k) (nI i) z = gM_EachAddsALineModel_findFits_17 N R f (nI off) (nI n) (nI v) (nI k) (nI (i + 1)) z' ∧ i + 1 ≤ 2 * w 5 1 ∧ Fm [] [17] [12, 13, 14, 15, 16, 19, 20, 21, 22, 23, 24, 25, 26] t z' ∧ (∀ o, o < i + 1 → z'.2 17 (40 * k + o) = lN (FT w C ta n v no k o)) ∧ ∀ j, ¬ (40 * k ≤ j ∧ j < 40 * k + 40) → z'.2 17 j = t.2 17 j := by
      intro y hy e
      refine ⟨s2 y 17 (40 * k + i) (lN (FT w C ta n v no k i)), ?_, by omega, g2.tr ((hy.mono (by decide) (by decide) (by decide)).tr (Fm.w2 (by decide))), fun o ho => ?_, fun j hj => ?_⟩
      · rw [e, gM_EachAddsALineModel_findFits_132]
        simp (disch := omega) only [Option.bind_some, ↓reduceIte, ↓M_1, ↓M_2, L_0, L_1, L_2, L_3, L_4, L_5, L_6, L_7, L_8, L_9, L_10, L_11, L_12, L_13, L_20, L_24, L_26, L_30, L_31, L_32, L_39, L_40, L_48, L_57, L_76, L_80, L_90, L_91, L_97, L_99, L_100, L_255, L_273, L_1000, L_2000, q_ld, q_ldL, q_sto, q_stoL, q_add, q_sub, q_mul, q_dec, q_rem, q_div, q_lt_t, q_lt_f, q_le_t, q_le_f, q_eq_t, q_eq_f, q_em, q_me, q_ml, q_lm, q_mle, q_lem, q_s1, q_s1o, q_s1k, q_s12, q_s2, q_s2o, q_s2k, q_s21, Nat.add_sub_cancel, q_or, q_and, q_shl, true_or, or_true, false_or, or_false, true_and, and_true, false_and, and_false, not_true_eq_false, not_false_eq_true, ne_eq]
      · by_cases d : o = i
        · subst d; rw [q_s2]
        · rw [q_s2k (by omega), hy.2.1 17 (by decide)]; exact g3 o (by omega)
      · rw [q_s2k (by omega), hy.2.1 17 (by decide)]; exact g4 j hj
    have eFT := FT_eq (w := w) (C := C) (ta := ta) (v := v) (no := no) (a := i) hk.2
    by_cases c : fre w 100 no i
    · rw [if_pos c] at ef
      obtain ⟨y, y1, y2, _⟩ := M_isSo (N := N) hN hz (hU.fm g2 (by decide) (by decide)) (hT.fm g2 (by decide)) ho hi hk
      have hy : MW w y := hz.fm y2 (by decide) (by decide)
      have y30 : y.1 0 30 = nI (2 * w 5 1) := (y2.2.2 30 (by decide)).trans z30
      have yG : k + 1 < n → ∀ o, o < 2 * w 5 1 → y.2 17 (40 * (k + 1) + o) = lN (FT w C ta n v no (k + 1) o) := fun hk1 o ho1 => by
        rw [y2.2.1 17 (by decide), g4 _ (by omega)]; exact hG hk1 o ho1
      by_cases d : SO w C ta k i
      · rw [if_pos d] at y1
        rw [if_pos ⟨c, d⟩] at eFT
        refine Or.inl (put y y2 ?_)
        rw [eFT]
        have eg := M_getter (N := N) hy hi
        by_cases e : k + 1 = n ∧ gt w i = v
        · have e78 := M_ff78 (N := N) (off := off) (v := v) (x0 := 1) (gM_EachAddsALineModel_findFits_17 N R f) hy hN hn hk hi y30 yG
          rw [if_pos e, ← e78, gM_EachAddsALineModel_findFits_17]
          have e1 := e.1
          have e2 := e.2
          simp (disch := omega) only [Option.bind_some, ↓reduceIte, ↓M_1, ↓M_2, L_0, L_1, L_2, L_3, L_4, L_5, L_6, L_7, L_8, L_9, L_10, L_11, L_12, L_13, L_20, L_24, L_26, L_30, L_31, L_32, L_39, L_40, L_48, L_57, L_76, L_80, L_90, L_91, L_97, L_99, L_100, L_255, L_273, L_1000, L_2000, q_ld, q_ldL, q_sto, q_stoL, q_add, q_sub, q_mul, q_dec, q_rem, q_div, q_lt_t, q_lt_f, q_le_t, q_le_f, q_eq_t, q_eq_f, q_em, q_me, q_ml, q_lm, q_mle, q_lem, q_s1, q_s1o, q_s1k, q_s12, q_s2, q_s2o, q_s2k, q_s21, Nat.add_sub_cancel, q_or, q_and, q_shl, true_or, or_true, false_or, or_false, true_and, and_true, false_and, and_false, not_true_eq_false, not_false_eq_true, ne_eq, z30, ef, y1, eg, e2, gM_EachAddsALineModel_findFits_73, l_1]
        · have e78 := M_ff78 (N := N) (off := off) (v := v) (x0 := 0) (gM_EachAddsALineModel_findFits_17 N R f) hy hN hn hk hi y30 yG
          rw [if_neg e, ← e78, gM_EachAddsALineModel_findFits_17]
          by_cases e1 : k + 1 = n
          · have e2 : gt w i ≠ v := fun z => e ⟨e1, z⟩
            simp (disch := omega) only [Option.bind_some, ↓reduceIte, ↓M_1, ↓M_2, L_0, L_1, L_2, L_3, L_4, L_5, L_6, L_7, L_8, L_9, L_10, L_11, L_12, L_13, L_20, L_24, L_26, L_30, L_31, L_32, L_39, L_40, L_48, L_57, L_76, L_80, L_90, L_91, L_97, L_99, L_100, L_255, L_273, L_1000, L_2000, q_ld, q_ldL, q_sto, q_stoL, q_add, q_sub, q_mul, q_dec, q_rem, q_div, q_lt_t, q_lt_f, q_le_t, q_le_f, q_eq_t, q_eq_f, q_em, q_me, q_ml, q_lm, q_mle, q_lem, q_s1, q_s1o, q_s1k, q_s12, q_s2, q_s2o, q_s2k, q_s21, Nat.add_sub_cancel, q_or, q_and, q_shl, true_or, or_true, false_or, or_false, true_and, and_true, false_and, and_false, not_true_eq_false, not_false_eq_true, ne_eq, z30, ef, y1, eg, gM_EachAddsALineModel_findFits_72, gM_EachAddsALineModel_findFits_73, l_0]
          · simp (disch := omega) only [Option.bind_some, ↓reduceIte, ↓M_1, ↓M_2, L_0, L_1, L_2, L_3, L_4, L_5, L_6, L_7, L_8, L_9, L_10, L_11, L_12, L_13, L_20, L_24, L_26, L_30, L_31, L_32, L_39, L_40, L_48, L_57, L_76, L_80, L_90, L_91, L_97, L_99, L_100, L_255, L_273, L_1000, L_2000, q_ld, q_ldL, q_sto, q_stoL, q_add, q_sub, q_mul, q_dec, q_rem, q_div, q_lt_t, q_lt_f, q_le_t, q_le_f, q_eq_t, q_eq_f, q_em, q_me, q_ml, q_lm, q_mle, q_lem, q_s1, q_s1o, q_s1k, q_s12, q_s2, q_s2o, q_s2k, q_s21, Nat.add_sub_cancel, q_or, q_and, q_shl, true_or, or_true, false_or, or_false, true_and, and_true, false_and, and_false, not_true_eq_false, not_false_eq_true, ne_eq, z30, ef, y1, gM_EachAddsALineModel_findFits_72, gM_EachAddsALineModel_findFits_73, l_0]
      · rw [if_neg d] at y1
        rw [if_neg (fun z => d z.2)] at eFT
        refine Or.inl (put y y2 ?_)
        rw [eFT, gM_EachAddsALineModel_findFits_17]
        simp (disch := omega) only [Option.bind_some, ↓reduceIte, ↓M_1, ↓M_2, L_0, L_1, L_2, L_3, L_4, L_5, L_6, L_7, L_8, L_9, L_10, L_11, L_12, L_13, L_20, L_24, L_26, L_30, L_31, L_32, L_39, L_40, L_48, L_57, L_76, L_80, L_90, L_91, L_97, L_99, L_100, L_255, L_273, L_1000, L_2000, q_ld, q_ldL, q_sto, q_stoL, q_add, q_sub, q_mul, q_dec, q_rem, q_div, q_lt_t, q_lt_f, q_le_t, q_le_f, q_eq_t, q_eq_f, q_em, q_me, q_ml, q_lm, q_mle, q_lem, q_s1, q_s1o, q_s1k, q_s12, q_s2, q_s2o, q_s2k, q_s21, Nat.add_sub_cancel, q_or, q_and, q_shl, true_or, or_true, false_or, or_false, true_and, and_true, false_and, and_false, not_true_eq_false, not_false_eq_true, ne_eq, z30, ef, y1, l_0]
    · rw [if_neg c] at ef
      rw [if_neg (fun z => c z.1)] at eFT
      refine Or.inl (put z Fm.rf ?_)
      rw [eFT, gM_EachAddsALineModel_findFits_17]
      simp (disch := omega) only [Option.bind_some, ↓reduceIte, ↓M_1, ↓M_2, L_0, L_1, L_2, L_3, L_4, L_5, L_6, L_7, L_8, L_9, L_10, L_11, L_12, L_13, L_20, L_24, L_26, L_30, L_31, L_32, L_39, L_40, L_48, L_57, L_76, L_80, L_90, L_91, L_97, L_99, L_100, L_255, L_273, L_1000, L_2000, q_ld, q_ldL, q_sto, q_stoL, q_add, q_sub, q_mul, q_dec, q_rem, q_div, q_lt_t, q_lt_f, q_le_t, q_le_f, q_eq_t, q_eq_f, q_em, q_me, q_ml, q_lm, q_mle, q_lem, q_s1, q_s1o, q_s1k, q_s12, q_s2, q_s2o, q_s2k, q_s21, Nat.add_sub_cancel, q_or, q_and, q_shl, true_or, or_true, false_or, or_false, true_and, and_true, false_and, and_false, not_true_eq_false, not_false_eq_true, ne_eq, z30, ef, l_0]
  · rintro f z ⟨g1, g2, g3, g4⟩
    have z30 : z.1 0 30 = nI (2 * w 5 1) := (g2.2.2 30 (by decide)).trans h30
    refine ⟨z, ?_, g2, g3, g4⟩
    show gM_EachAddsALineModel_findFits_17 N R (f + 1) (nI off) (nI n) (nI v) (nI k) (nI (2 * w 5 1)) z = _
    rw [gM_EachAddsALineModel_findFits_17]
    simp (disch := omega) only [Option.bind_some, ↓reduceIte, ↓M_1, ↓M_2, L_0, L_1, L_2, L_3, L_4, L_5, L_6, L_7, L_8, L_9, L_10, L_11, L_12, L_13, L_20, L_24, L_26, L_30, L_31, L_32, L_39, L_40, L_48, L_57, L_76, L_80, L_90, L_91, L_97, L_99, L_100, L_255, L_273, L_1000, L_2000, q_ld, q_ldL, q_sto, q_stoL, q_add, q_sub, q_mul, q_rem, q_div, q_lt_t, q_lt_f, q_le_t, q_le_f, q_eq_t, q_eq_f, q_em, q_me, q_ml, q_lm, q_mle, q_lem, q_s1, q_s1o, q_s1k, q_s12, q_s2, q_s2o, q_s2k, q_s21, Nat.add_sub_cancel, q_or, q_and, q_shl, true_or, or_true, false_or, or_false, true_and, and_true, false_and, and_false, not_true_eq_false, not_false_eq_true, ne_eq, z30]
theorem M_findFits (h : MW w t) (hN : 100 ≤ N) (hU : UM N q x C t) (hT : MT off n ta t) (ho : off ≤ 12) (hn0 : 0 < n) (h35 : t.1 0 35 = gI 100) (h37 : t.1 0 37 = gI no) (hv : v < w 5 0) :
    ∃ z, fM_EachAddsALineModel_findFits N (nI off) (nI n) (nI v) t = some z ∧ Fm [11] [17] [12, 13, 14, 15, 16, 19, 20, 21, 22, 23, 24, 25, 26, 30] t z ∧ z.1 0 30 = nI (2 * w 5 1) ∧ ∀ k o, 0 < k → k < n → o < 2 * w 5 1 → z.2 17 (40 * k + o) = lN (FT w C ta n v no k o) := by
  have hb := h.bd
  have hn := hT.1
  obtain ⟨t0, e, a1, a2, a3, a4, a5⟩ := M_findOrder (N := N) h (show 60 ≤ N by omega)
  have em : nI n - nI 1 = nI (n - 1) := q_sub (by omega)
  have st : fM_EachAddsALineModel_findFits N (nI off) (nI n) (nI v) t = gM_EachAddsALineModel_findFits_9 N N (nI off) (nI n) (nI v) (nI (n - 1)) t0 := by
    simp (disch := omega) only [Option.bind_some, ↓reduceIte, ↓M_1, ↓M_2, L_0, L_1, L_2, L_3, L_4, L_5, L_6, L_7, L_8, L_9, L_10, L_11, L_12, L_13, L_20, L_24, L_26, L_30, L_31, L_32, L_39, L_40, L_48, L_57, L_76, L_80, L_90, L_91, L_97, L_99, L_100, L_255, L_273, L_1000, L_2000, q_ld, q_ldL, q_sto, q_stoL, q_add, q_sub, q_mul, q_dec, q_rem, q_div, q_lt_t, q_lt_f, q_le_t, q_le_f, q_eq_t, q_eq_f, q_em, q_me, q_ml, q_lm, q_mle, q_lem, q_s1, q_s1o, q_s1k, q_s12, q_s2, q_s2o, q_s2k, q_s21, Nat.add_sub_cancel, q_or, q_and, q_shl, true_or, or_true, false_or, or_false, true_and, and_true, false_and, and_false, not_true_eq_false, not_false_eq_true, ne_eq, fM_EachAddsALineModel_findFits, gM_EachAddsALineModel_findFits_0, a1]
  rw [st]
  refine loopD (fun f i z => gM_EachAddsALineModel_findFits_9 N f (nI off) (nI n) (nI v) (nI i) z) (n - 1) (fun i z => i ≤ n - 1 ∧ Fm [] [17] [12, 13, 14, 15, 16, 19, 20, 21, 22, 23, 24, 25, 26] t0 z ∧ ∀ k o, i < k → k < n → o < 2 * w 5 1 → z.2 17 (40 * k + o) = lN (FT w C ta n v no k o))
    (fun o => ∃ z, o = some z ∧ Fm [11] [17] [12, 13, 14, 15, 16, 19, 20, 21, 22, 23, 24, 25, 26, 30] t z ∧ z.1 0 30 = nI (2 * w 5 1) ∧ ∀ k o, 0 < k → k < n → o < 2 * w 5 1 → z.2 17 (40 * k + o) = lN (FT w C ta n v no k o)) ?_ ?_ (n - 1) N t0 (Nat.le_refl _) (by omega) ⟨Nat.le_refl _, Fm.rf, fun k o h1 h2 => by omega⟩
  · rintro f i z hi ⟨g1, g2, g3⟩
    have fz : Fm [11] [17] [12, 13, 14, 15, 16, 19, 20, 21, 22, 23, 24, 25, 26, 30] t z := (a2.mono (by decide) (by decide) (by decide)).tr (g2.mono (by decide) (by decide) (by decide))
    have hz : MW w z := h.fm fz (by decide) (by decide)
    have z30 : z.1 0 30 = nI (2 * w 5 1) := (g2.2.2 30 (by decide)).trans a3
    obtain ⟨y, y1, y2, y3, y4⟩ := M_ff17 (N := N) (v := v) (no := no) (gM_EachAddsALineModel_findFits_9 N f) hz hN (hU.fm fz (by decide) (by decide)) (hT.fm fz (by decide)) ho (k := i + 1) ⟨by omega, by omega⟩ z30 ((fz.2.2 35 (by decide)).trans h35) ((fz.2.2 37 (by decide)).trans h37) (fun hk o ho1 => g3 (i + 1 + 1) o (by omega) (by omega) ho1) hv
    refine Or.inl ⟨y, ?_, by omega, g2.tr y2, fun k o k1 k2 ho1 => ?_⟩
    · show gM_EachAddsALineModel_findFits_9 N (f + 1) (nI off) (nI n) (nI v) (nI (i + 1)) z = _
      rw [gM_EachAddsALineModel_findFits_9]
      rw [q_dec (by omega), Nat.add_sub_cancel] at y1
      simp (disch := omega) only [Option.bind_some, ↓reduceIte, ↓M_1, ↓M_2, L_0, L_1, L_2, L_3, L_4, L_5, L_6, L_7, L_8, L_9, L_10, L_11, L_12, L_13, L_20, L_24, L_26, L_30, L_31, L_32, L_39, L_40, L_48, L_57, L_76, L_80, L_90, L_91, L_97, L_99, L_100, L_255, L_273, L_1000, L_2000, q_ld, q_ldL, q_sto, q_stoL, q_add, q_sub, q_mul, q_dec, q_rem, q_div, q_lt_t, q_lt_f, q_le_t, q_le_f, q_eq_t, q_eq_f, q_em, q_me, q_ml, q_lm, q_mle, q_lem, q_s1, q_s1o, q_s1k, q_s12, q_s2, q_s2o, q_s2k, q_s21, Nat.add_sub_cancel, q_or, q_and, q_shl, true_or, or_true, false_or, or_false, true_and, and_true, false_and, and_false, not_true_eq_false, not_false_eq_true, ne_eq, y1]
    · by_cases c : k = i + 1
      · subst c; exact y3 o ho1
      · rw [y4 _ (by omega)]; exact g3 k o (by omega) k2 ho1
  · rintro f z ⟨g1, g2, g3⟩
    refine ⟨z, ?_, (a2.mono (by decide) (by decide) (by decide)).tr (g2.mono (by decide) (by decide) (by decide)), (g2.2.2 30 (by decide)).trans a3, g3⟩
    show gM_EachAddsALineModel_findFits_9 N (f + 1) (nI off) (nI n) (nI v) (nI 0) z = _
    rw [gM_EachAddsALineModel_findFits_9]
    simp (disch := omega) only [Option.bind_some, ↓reduceIte, ↓M_1, ↓M_2, L_0, L_1, L_2, L_3, L_4, L_5, L_6, L_7, L_8, L_9, L_10, L_11, L_12, L_13, L_20, L_24, L_26, L_30, L_31, L_32, L_39, L_40, L_48, L_57, L_76, L_80, L_90, L_91, L_97, L_99, L_100, L_255, L_273, L_1000, L_2000, q_ld, q_ldL, q_sto, q_stoL, q_add, q_sub, q_mul, q_dec, q_rem, q_div, q_lt_t, q_lt_f, q_le_t, q_le_f, q_eq_t, q_eq_f, q_em, q_me, q_ml, q_lm, q_mle, q_lem, q_s1, q_s1o, q_s1k, q_s12, q_s2, q_s2o, q_s2k, q_s21, Nat.add_sub_cancel, q_or, q_and, q_shl, true_or, or_true, false_or, or_false, true_and, and_true, false_and, and_false, not_true_eq_false, not_false_eq_true, ne_eq]
theorem M_countFits (h : MW w t) (hN : 100 ≤ N) (hU : UM N q x C t) (hT : MT off n ta t) (ho : off ≤ 12) (hn0 : 0 < n) (h35 : t.1 0 35 = gI 100) (h37 : t.1 0 37 = gI no) (hno : no ≤ 100) (hu : u < w 5 0) (hv : v < w 5 0) (hr : r < 1000) :
    ∃ z, fM_EachAddsALineModel_countFits N (nI off) (nI n) (nI u) (nI v) (nI r) t = some (lN (CF w C ta n u v r no), z) ∧ Fm [11] [17] [12, 13, 14, 15, 16, 19, 20, 21, 22, 23, 24, 25, 26, 30] t z ∧ (1 < n → z.1 0 30 = nI (2 * w 5 1) ∧ ∀ k o, 0 < k → k < n → o < 2 * w 5 1 → z.2 17 (40 * k + o) = lN (FT w C ta n v no k o)) := by
  have hb := h.bd
  have hn := hT.1
  have hgv := gI_eq (g := no) (m := v) (by omega)
  have hgv' : (gI no = nI v) = (v = no) := by rw [← hgv]; exact propext eq_comm
  by_cases c : n = 1
  · unfold CF
    rw [if_pos c]
    refine ⟨t, ?_, Fm.rf, fun h => by omega⟩
    by_cases d : u = v
    · by_cases e : no = v
      · have e' : (v = no) = True := eq_true e.symm
        rw [if_neg (fun z => z.2 e)]
        simp (disch := omega) only [Option.bind_some, ↓reduceIte, ↓M_1, ↓M_2, L_0, L_1, L_2, L_3, L_4, L_5, L_6, L_7, L_8, L_9, L_10, L_11, L_12, L_13, L_20, L_24, L_26, L_30, L_31, L_32, L_39, L_40, L_48, L_57, L_76, L_80, L_90, L_91, L_97, L_99, L_100, L_255, L_273, L_1000, L_2000, q_ld, q_ldL, q_sto, q_stoL, q_add, q_sub, q_mul, q_dec, q_rem, q_div, q_lt_t, q_lt_f, q_le_t, q_le_f, q_eq_t, q_eq_f, q_em, q_me, q_ml, q_lm, q_mle, q_lem, q_s1, q_s1o, q_s1k, q_s12, q_s2, q_s2o, q_s2k, q_s21, Nat.add_sub_cancel, q_or, q_and, q_shl, true_or, or_true, false_or, or_false, true_and, and_true, false_and, and_false, not_true_eq_false, not_false_eq_true, ne_eq, fM_EachAddsALineModel_countFits, gM_EachAddsALineModel_countFits_0, gM_EachAddsALineModel_countFits_24, c, d, h37, hgv', e', l_0]
      · have e' : (v = no) = False := eq_false (fun z => e z.symm)
        rw [if_pos ⟨d, e⟩]
        simp (disch := omega) only [Option.bind_some, ↓reduceIte, ↓M_1, ↓M_2, L_0, L_1, L_2, L_3, L_4, L_5, L_6, L_7, L_8, L_9, L_10, L_11, L_12, L_13, L_20, L_24, L_26, L_30, L_31, L_32, L_39, L_40, L_48, L_57, L_76, L_80, L_90, L_91, L_97, L_99, L_100, L_255, L_273, L_1000, L_2000, q_ld, q_ldL, q_sto, q_stoL, q_add, q_sub, q_mul, q_dec, q_rem, q_div, q_lt_t, q_lt_f, q_le_t, q_le_f, q_eq_t, q_eq_f, q_em, q_me, q_ml, q_lm, q_mle, q_lem, q_s1, q_s1o, q_s1k, q_s12, q_s2, q_s2o, q_s2k, q_s21, Nat.add_sub_cancel, q_or, q_and, q_shl, true_or, or_true, false_or, or_false, true_and, and_true, false_and, and_false, not_true_eq_false, not_false_eq_true, ne_eq, fM_EachAddsALineModel_countFits, gM_EachAddsALineModel_countFits_0, gM_EachAddsALineModel_countFits_24, c, d, h37, hgv', e', l_1]
    · rw [if_neg (fun z => d z.1)]
      simp (disch := omega) only [Option.bind_some, ↓reduceIte, ↓M_1, ↓M_2, L_0, L_1, L_2, L_3, L_4, L_5, L_6, L_7, L_8, L_9, L_10, L_11, L_12, L_13, L_20, L_24, L_26, L_30, L_31, L_32, L_39, L_40, L_48, L_57, L_76, L_80, L_90, L_91, L_97, L_99, L_100, L_255, L_273, L_1000, L_2000, q_ld, q_ldL, q_sto, q_stoL, q_add, q_sub, q_mul, q_dec, q_rem, q_div, q_lt_t, q_lt_f, q_le_t, q_le_f, q_eq_t, q_eq_f, q_em, q_me, q_ml, q_lm, q_mle, q_lem, q_s1, q_s1o, q_s1k, q_s12, q_s2, q_s2o, q_s2k, q_s21, Nat.add_sub_cancel, q_or, q_and, q_shl, true_or, or_true, false_or, or_false, true_and, and_true, false_and, and_false, not_true_eq_false, not_false_eq_true, ne_eq, fM_EachAddsALineModel_countFits, gM_EachAddsALineModel_countFits_0, gM_EachAddsALineModel_countFits_24, c, l_0]
  · obtain ⟨z, z1, z2, z3, z4⟩ := M_findFits (N := N) (no := no) h hN hU hT ho hn0 h35 h37 hv
    have hz : MW w z := h.fm z2 (by decide) (by decide)
    unfold CF
    rw [if_neg c]
    refine ⟨z, ?_, z2, fun _ => ⟨z3, z4⟩⟩
    have st : fM_EachAddsALineModel_countFits N (nI off) (nI n) (nI u) (nI v) (nI r) t = gM_EachAddsALineModel_countFits_40 N N (nI u) (nI r) (lN 0) (nI 0) z := by
      simp (disch := omega) only [Option.bind_some, ↓reduceIte, ↓M_1, ↓M_2, L_0, L_1, L_2, L_3, L_4, L_5, L_6, L_7, L_8, L_9, L_10, L_11, L_12, L_13, L_20, L_24, L_26, L_30, L_31, L_32, L_39, L_40, L_48, L_57, L_76, L_80, L_90, L_91, L_97, L_99, L_100, L_255, L_273, L_1000, L_2000, q_ld, q_ldL, q_sto, q_stoL, q_add, q_sub, q_mul, q_dec, q_rem, q_div, q_lt_t, q_lt_f, q_le_t, q_le_f, q_eq_t, q_eq_f, q_em, q_me, q_ml, q_lm, q_mle, q_lem, q_s1, q_s1o, q_s1k, q_s12, q_s2, q_s2o, q_s2k, q_s21, Nat.add_sub_cancel, q_or, q_and, q_shl, true_or, or_true, false_or, or_false, true_and, and_true, false_and, and_false, not_true_eq_false, not_false_eq_true, ne_eq, fM_EachAddsALineModel_countFits, gM_EachAddsALineModel_countFits_0, z1, l_0]
    rw [st]
    refine loopS (fun f i (y : Nat) => gM_EachAddsALineModel_countFits_40 N f (nI u) (nI r) (lN y) (nI i) z) (fun i => wy w (FT w C ta n v no 1) u r i) (2 * w 5 1) _ (fun f i hi => ?_) (fun f => ?_) N (by omega)
    · have eb := M_begins (N := N) hz hi hu hr
      have e1 := z4 1 i (by omega) (by omega) hi
      rw [Nat.mul_one] at e1
      show gM_EachAddsALineModel_countFits_40 N (f + 1) (nI u) (nI r) (lN (wy w (FT w C ta n v no 1) u r i)) (nI i) z = gM_EachAddsALineModel_countFits_40 N f (nI u) (nI r) (lN (wy w (FT w C ta n v no 1) u r (i + 1))) (nI (i + 1)) z
      have ew : wy w (FT w C ta n v no 1) u r (i + 1) = wy w (FT w C ta n v no 1) u r i + if beg w u r i then FT w C ta n v no 1 i else 0 := rfl
      rw [ew]
      generalize wy w (FT w C ta n v no 1) u r i = y
      rw [gM_EachAddsALineModel_countFits_40]
      by_cases d : beg w u r i
      · rw [if_pos d] at eb ⊢
        simp (disch := omega) only [Option.bind_some, ↓reduceIte, ↓M_1, ↓M_2, L_0, L_1, L_2, L_3, L_4, L_5, L_6, L_7, L_8, L_9, L_10, L_11, L_12, L_13, L_20, L_24, L_26, L_30, L_31, L_32, L_39, L_40, L_48, L_57, L_76, L_80, L_90, L_91, L_97, L_99, L_100, L_255, L_273, L_1000, L_2000, q_ld, q_ldL, q_sto, q_stoL, q_add, q_sub, q_mul, q_dec, q_rem, q_div, q_lt_t, q_lt_f, q_le_t, q_le_f, q_eq_t, q_eq_f, q_em, q_me, q_ml, q_lm, q_mle, q_lem, q_s1, q_s1o, q_s1k, q_s12, q_s2, q_s2o, q_s2k, q_s21, Nat.add_sub_cancel, q_or, q_and, q_shl, true_or, or_true, false_or, or_false, true_and, and_true, false_and, and_false, not_true_eq_false, not_false_eq_true, ne_eq, z3, eb, e1, lN_add, gM_EachAddsALineModel_countFits_76]
      · rw [if_neg d] at eb ⊢
        rw [Nat.add_zero]
        simp (disch := omega) only [Option.bind_some, ↓reduceIte, ↓M_1, ↓M_2, L_0, L_1, L_2, L_3, L_4, L_5, L_6, L_7, L_8, L_9, L_10, L_11, L_12, L_13, L_20, L_24, L_26, L_30, L_31, L_32, L_39, L_40, L_48, L_57, L_76, L_80, L_90, L_91, L_97, L_99, L_100, L_255, L_273, L_1000, L_2000, q_ld, q_ldL, q_sto, q_stoL, q_add, q_sub, q_mul, q_dec, q_rem, q_div, q_lt_t, q_lt_f, q_le_t, q_le_f, q_eq_t, q_eq_f, q_em, q_me, q_ml, q_lm, q_mle, q_lem, q_s1, q_s1o, q_s1k, q_s12, q_s2, q_s2o, q_s2k, q_s21, Nat.add_sub_cancel, q_or, q_and, q_shl, true_or, or_true, false_or, or_false, true_and, and_true, false_and, and_false, not_true_eq_false, not_false_eq_true, ne_eq, z3, eb, gM_EachAddsALineModel_countFits_76]
    · show gM_EachAddsALineModel_countFits_40 N (f + 1) (nI u) (nI r) (lN (wy w (FT w C ta n v no 1) u r (2 * w 5 1))) (nI (2 * w 5 1)) z = _
      rw [gM_EachAddsALineModel_countFits_40]
      simp (disch := omega) only [Option.bind_some, ↓reduceIte, ↓M_1, ↓M_2, L_0, L_1, L_2, L_3, L_4, L_5, L_6, L_7, L_8, L_9, L_10, L_11, L_12, L_13, L_20, L_24, L_26, L_30, L_31, L_32, L_39, L_40, L_48, L_57, L_76, L_80, L_90, L_91, L_97, L_99, L_100, L_255, L_273, L_1000, L_2000, q_ld, q_ldL, q_sto, q_stoL, q_add, q_sub, q_mul, q_dec, q_rem, q_div, q_lt_t, q_lt_f, q_le_t, q_le_f, q_eq_t, q_eq_f, q_em, q_me, q_ml, q_lm, q_mle, q_lem, q_s1, q_s1o, q_s1k, q_s12, q_s2, q_s2o, q_s2k, q_s21, Nat.add_sub_cancel, q_or, q_and, q_shl, true_or, or_true, false_or, or_false, true_and, and_true, false_and, and_false, not_true_eq_false, not_false_eq_true, ne_eq, z3]
end FM
