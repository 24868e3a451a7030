/-! tales: the class' table of the ways, and what it reads of it -/
theorem tab_eq {k k' p p' : Nat} (hp : p < 40) (hp' : p' < 40) (h : k * 40 + p = k' * 40 + p') : k = k' ∧ p = p' := by omega
/-- the class' rows: sides and lengths of a tale -/
def CJ (w : Nat → Nat → Nat) (C : List Nat) (ta : Nat → Nat) (n v : Nat) (s : vSt) : Prop := n ≤ 12 ∧ s.1 46 9 = nI n ∧ s.1 46 10 = nI v ∧ ∀ k a, 0 < k → k < n → a < 2 * w 5 1 → s.1 47 (k * 40 + sw a) = if SO w C ta k a then nI 1 else nI 0
def CN (w : Nat → Nat → Nat) (C : List Nat) (ta : Nat → Nat) (n v : Nat) (s : vSt) : Prop := ∀ k a, 0 < k → k < n → a < 2 * w 5 1 → s.2 48 (k * 40 + sw a) = lN (FT w C ta n v 100 k a)
section TC
variable {N : Nat} {w : Nat → Nat → Nat} {C : List Nat} {x ta G : Nat → Nat} {n u v r no k a q off x0 : Nat} {s t : vSt}
theorem C_isRight (h : CJ w C ta n v s) (hk : 0 < k ∧ k < n) (ha : a < 2 * w 5 1) (hM : w 5 1 ≤ 20) : fC_Tales_isRight N (nI k) (nI (sw a)) s = some (if SO w C ta k a then nI 1 else nI 0, s) := by
  obtain ⟨hn, h9, h10, h47⟩ := h
  have hs := sw_lt ha
  have e := h47 k a hk.1 hk.2 ha
  have hk2 := hk.2
  by_cases c : SO w C ta k a
  · rw [if_pos c] at e ⊢
    simp (disch := omega) only [Option.bind_some, ↓reduceIte, ↓M_1, ↓M_2, L_0, L_1, L_2, L_3, L_4, L_5, L_6, L_7, L_8, L_9, L_10, L_11, L_12, L_13, L_20, L_24, L_26, L_30, L_31, L_32, L_39, L_40, L_48, L_57, L_76, L_80, L_90, L_91, L_97, L_99, L_100, L_255, L_273, L_1000, L_2000, q_ld, q_ldL, q_sto, q_stoL, q_add, q_sub, q_mul, q_dec, q_rem, q_div, q_lt_t, q_lt_f, q_le_t, q_le_f, q_eq_t, q_eq_f, q_em, q_me, q_ml, q_lm, q_mle, q_lem, q_s1, q_s1o, q_s1k, q_s12, q_s2, q_s2o, q_s2k, q_s21, Nat.add_sub_cancel, q_or, q_and, q_shl, true_or, or_true, false_or, or_false, true_and, and_true, false_and, and_false, not_true_eq_false, not_false_eq_true, ne_eq, fC_Tales_isRight, gC_Tales_isRight_0, gC_Tales_isRight_26, h9, e]
  · rw [if_neg c] at e ⊢
    simp (disch := omega) only [Option.bind_some, ↓reduceIte, ↓M_1, ↓M_2, L_0, L_1, L_2, L_3, L_4, L_5, L_6, L_7, L_8, L_9, L_10, L_11, L_12, L_13, L_20, L_24, L_26, L_30, L_31, L_32, L_39, L_40, L_48, L_57, L_76, L_80, L_90, L_91, L_97, L_99, L_100, L_255, L_273, L_1000, L_2000, q_ld, q_ldL, q_sto, q_stoL, q_add, q_sub, q_mul, q_dec, q_rem, q_div, q_lt_t, q_lt_f, q_le_t, q_le_f, q_eq_t, q_eq_f, q_em, q_me, q_ml, q_lm, q_mle, q_lem, q_s1, q_s1o, q_s1k, q_s12, q_s2, q_s2o, q_s2k, q_s21, Nat.add_sub_cancel, q_or, q_and, q_shl, true_or, or_true, false_or, or_false, true_and, and_true, false_and, and_false, not_true_eq_false, not_false_eq_true, ne_eq, fC_Tales_isRight, gC_Tales_isRight_0, gC_Tales_isRight_26, h9, e]
theorem C_nextOf (h : CW w s) (hn : n ≤ 12) (h9 : s.1 46 9 = nI n) (hu : u < w 5 0) (hr : r < 1000) (hk : k < n) {m : Nat} (hm : m < w 5 1) (hG : ∀ o, o < 2 * w 5 1 → s.2 48 (k * 40 + sw o) = lN (G o) ∧ G o < 2 ^ 63) :
    fC_Tales_nextOf N (nI m) (nI u) (nI r) (nI k) s = some (if (w 1 m = u ∨ w 2 m = u) ∧ beg w u r (ix w m u) ∧ 0 < G (ix w m u) then nI (k * 40 + sw (ix w m u)) else mI 1, s) := by
  have hb := h.bd
  have ha := C_isAt (N := N) h hm hu
  have h3 : w 3 m ≤ 99 := (h.ok.2.2.2 m hm).2.2.2.1
  by_cases c : w 1 m = u ∨ w 2 m = u
  · rw [if_pos c] at ha
    by_cases d : r ≤ w 3 m
    · have hbg : beg w u r (ix w m u) := ⟨ix_gv c, by rw [ix_hr]; exact d⟩
      have hi := ix_lt (w := w) u hm
      have hsw := sw_lt hi
      obtain ⟨k1, k2⟩ := hG _ hi
      have ep := C_place (N := N) h hm c hu
      have ec := cmpL_le (a := G (ix w m u)) (b := 0) k2 (by decide)
      by_cases e : G (ix w m u) ≤ 0
      · rw [if_neg (fun z => by have := z.2.2; omega)]
        rw [eq_true e] at ec
        simp (disch := omega) only [Option.bind_some, ↓reduceIte, ↓M_1, ↓M_2, L_0, L_1, L_2, L_3, L_4, L_5, L_6, L_7, L_8, L_9, L_10, L_11, L_12, L_13, L_20, L_24, L_26, L_30, L_31, L_32, L_39, L_40, L_48, L_57, L_76, L_80, L_90, L_91, L_97, L_99, L_100, L_255, L_273, L_1000, L_2000, q_ld, q_ldL, q_sto, q_stoL, q_add, q_sub, q_mul, q_dec, q_rem, q_div, q_lt_t, q_lt_f, q_le_t, q_le_f, q_eq_t, q_eq_f, q_em, q_me, q_ml, q_lm, q_mle, q_lem, q_s1, q_s1o, q_s1k, q_s12, q_s2, q_s2o, q_s2k, q_s21, Nat.add_sub_cancel, q_or, q_and, q_shl, true_or, or_true, false_or, or_false, true_and, and_true, false_and, and_false, not_true_eq_false, not_false_eq_true, ne_eq, fC_Tales_nextOf, gC_Tales_nextOf_0, gC_Tales_nextOf_84, ha, h.h hm, C_otherAt h hm hu, ep, h9, k1, l_0, ec]
      · rw [if_pos ⟨c, hbg, by omega⟩]
        rw [eq_false e] at ec
        simp (disch := omega) only [Option.bind_some, ↓reduceIte, ↓M_1, ↓M_2, L_0, L_1, L_2, L_3, L_4, L_5, L_6, L_7, L_8, L_9, L_10, L_11, L_12, L_13, L_20, L_24, L_26, L_30, L_31, L_32, L_39, L_40, L_48, L_57, L_76, L_80, L_90, L_91, L_97, L_99, L_100, L_255, L_273, L_1000, L_2000, q_ld, q_ldL, q_sto, q_stoL, q_add, q_sub, q_mul, q_dec, q_rem, q_div, q_lt_t, q_lt_f, q_le_t, q_le_f, q_eq_t, q_eq_f, q_em, q_me, q_ml, q_lm, q_mle, q_lem, q_s1, q_s1o, q_s1k, q_s12, q_s2, q_s2o, q_s2k, q_s21, Nat.add_sub_cancel, q_or, q_and, q_shl, true_or, or_true, false_or, or_false, true_and, and_true, false_and, and_false, not_true_eq_false, not_false_eq_true, ne_eq, fC_Tales_nextOf, gC_Tales_nextOf_0, gC_Tales_nextOf_84, ha, h.h hm, C_otherAt h hm hu, ep, h9, k1, l_0, ec]
    · rw [if_neg (fun z => d (by have := z.2.1.2; rw [ix_hr] at this; exact this))]
      simp (disch := omega) only [Option.bind_some, ↓reduceIte, ↓M_1, ↓M_2, L_0, L_1, L_2, L_3, L_4, L_5, L_6, L_7, L_8, L_9, L_10, L_11, L_12, L_13, L_20, L_24, L_26, L_30, L_31, L_32, L_39, L_40, L_48, L_57, L_76, L_80, L_90, L_91, L_97, L_99, L_100, L_255, L_273, L_1000, L_2000, q_ld, q_ldL, q_sto, q_stoL, q_add, q_sub, q_mul, q_dec, q_rem, q_div, q_lt_t, q_lt_f, q_le_t, q_le_f, q_eq_t, q_eq_f, q_em, q_me, q_ml, q_lm, q_mle, q_lem, q_s1, q_s1o, q_s1k, q_s12, q_s2, q_s2o, q_s2k, q_s21, Nat.add_sub_cancel, q_or, q_and, q_shl, true_or, or_true, false_or, or_false, true_and, and_true, false_and, and_false, not_true_eq_false, not_false_eq_true, ne_eq, fC_Tales_nextOf, gC_Tales_nextOf_0, ha, h.h hm]
  · rw [if_neg c] at ha
    rw [if_neg (fun z => c z.1)]
    simp (disch := omega) only [Option.bind_some, ↓reduceIte, ↓M_1, ↓M_2, L_0, L_1, L_2, L_3, L_4, L_5, L_6, L_7, L_8, L_9, L_10, L_11, L_12, L_13, L_20, L_24, L_26, L_30, L_31, L_32, L_39, L_40, L_48, L_57, L_76, L_80, L_90, L_91, L_97, L_99, L_100, L_255, L_273, L_1000, L_2000, q_ld, q_ldL, q_sto, q_stoL, q_add, q_sub, q_mul, q_dec, q_rem, q_div, q_lt_t, q_lt_f, q_le_t, q_le_f, q_eq_t, q_eq_f, q_em, q_me, q_ml, q_lm, q_mle, q_lem, q_s1, q_s1o, q_s1k, q_s12, q_s2, q_s2o, q_s2k, q_s21, Nat.add_sub_cancel, q_or, q_and, q_shl, true_or, or_true, false_or, or_false, true_and, and_true, false_and, and_false, not_true_eq_false, not_false_eq_true, ne_eq, fC_Tales_nextOf, gC_Tales_nextOf_0, ha]
theorem C_waysOnT (h : CW w s) (hN : 60 ≤ N) (hn : n ≤ 12) (h9 : s.1 46 9 = nI n) (hu : u < w 5 0) (hr : r < 1000) (hk : k < n) (hG : ∀ o, o < 2 * w 5 1 → s.2 48 (k * 40 + sw o) = lN (G o) ∧ G o < 2 ^ 63) : fC_Tales_waysOn N (nI u) (nI r) (nI k) s = some (lN (wy w G u r (2 * w 5 1)), s) := by
  have hb := h.bd
  simp (disch := omega) only [Option.bind_some, ↓reduceIte, ↓M_1, ↓M_2, L_0, L_1, L_2, L_3, L_4, L_5, L_6, L_7, L_8, L_9, L_10, L_11, L_12, L_13, L_20, L_24, L_26, L_30, L_31, L_32, L_39, L_40, L_48, L_57, L_76, L_80, L_90, L_91, L_97, L_99, L_100, L_255, L_273, L_1000, L_2000, q_ld, q_ldL, q_sto, q_stoL, q_add, q_sub, q_mul, q_dec, q_rem, q_div, q_lt_t, q_lt_f, q_le_t, q_le_f, q_eq_t, q_eq_f, q_em, q_me, q_ml, q_lm, q_mle, q_lem, q_s1, q_s1o, q_s1k, q_s12, q_s2, q_s2o, q_s2k, q_s21, Nat.add_sub_cancel, q_or, q_and, q_shl, true_or, or_true, false_or, or_false, true_and, and_true, false_and, and_false, not_true_eq_false, not_false_eq_true, ne_eq, fC_Tales_waysOn, gC_Tales_waysOn_0, l_0]
  refine loopS (fun f i (y : Nat) => gC_Tales_waysOn_6 N f (nI u) (nI r) (nI k) (lN y) (nI i) s) (fun i => wy w G u r (2 * i)) (w 5 1) _ (fun f m hm => ?_) (fun f => ?_) N (by omega)
  · have en := C_nextOf (N := N) h hn h9 hu hr hk hm hG
    have es := wy_hop h.ok G u r hm
    have hi := ix_lt (w := w) u hm
    have hsw := sw_lt hi
    obtain ⟨k1, k2⟩ := hG _ hi
    show gC_Tales_waysOn_6 N (f + 1) (nI u) (nI r) (nI k) (lN (wy w G u r (2 * m))) (nI m) s = gC_Tales_waysOn_6 N f (nI u) (nI r) (nI k) (lN (wy w G u r (2 * (m + 1)))) (nI (m + 1)) s
    rw [es]
    generalize wy w G u r (2 * m) = y
    rw [gC_Tales_waysOn_6]
    by_cases c : (w 1 m = u ∨ w 2 m = u) ∧ beg w u r (ix w m u)
    · rw [if_pos c]
      by_cases d : 0 < G (ix w m u)
      · rw [if_pos ⟨c.1, c.2, d⟩] at en
        simp (disch := omega) only [Option.bind_some, ↓reduceIte, ↓M_1, ↓M_2, L_0, L_1, L_2, L_3, L_4, L_5, L_6, L_7, L_8, L_9, L_10, L_11, L_12, L_13, L_20, L_24, L_26, L_30, L_31, L_32, L_39, L_40, L_48, L_57, L_76, L_80, L_90, L_91, L_97, L_99, L_100, L_255, L_273, L_1000, L_2000, q_ld, q_ldL, q_sto, q_stoL, q_add, q_sub, q_mul, q_dec, q_rem, q_div, q_lt_t, q_lt_f, q_le_t, q_le_f, q_eq_t, q_eq_f, q_em, q_me, q_ml, q_lm, q_mle, q_lem, q_s1, q_s1o, q_s1k, q_s12, q_s2, q_s2o, q_s2k, q_s21, Nat.add_sub_cancel, q_or, q_and, q_shl, true_or, or_true, false_or, or_false, true_and, and_true, false_and, and_false, not_true_eq_false, not_false_eq_true, ne_eq, h.m, en, k1, lN_add, gC_Tales_waysOn_47]
      · rw [if_neg (fun z => d z.2.2)] at en
        rw [show G (ix w m u) = 0 by omega, Nat.add_zero]
        simp (disch := omega) only [Option.bind_some, ↓reduceIte, ↓M_1, ↓M_2, L_0, L_1, L_2, L_3, L_4, L_5, L_6, L_7, L_8, L_9, L_10, L_11, L_12, L_13, L_20, L_24, L_26, L_30, L_31, L_32, L_39, L_40, L_48, L_57, L_76, L_80, L_90, L_91, L_97, L_99, L_100, L_255, L_273, L_1000, L_2000, q_ld, q_ldL, q_sto, q_stoL, q_add, q_sub, q_mul, q_dec, q_rem, q_div, q_lt_t, q_lt_f, q_le_t, q_le_f, q_eq_t, q_eq_f, q_em, q_me, q_ml, q_lm, q_mle, q_lem, q_s1, q_s1o, q_s1k, q_s12, q_s2, q_s2o, q_s2k, q_s21, Nat.add_sub_cancel, q_or, q_and, q_shl, true_or, or_true, false_or, or_false, true_and, and_true, false_and, and_false, not_true_eq_false, not_false_eq_true, ne_eq, h.m, en, gC_Tales_waysOn_47]
    · rw [if_neg (fun z => c ⟨z.1, z.2.1⟩)] at en
      rw [if_neg c, Nat.add_zero]
      simp (disch := omega) only [Option.bind_some, ↓reduceIte, ↓M_1, ↓M_2, L_0, L_1, L_2, L_3, L_4, L_5, L_6, L_7, L_8, L_9, L_10, L_11, L_12, L_13, L_20, L_24, L_26, L_30, L_31, L_32, L_39, L_40, L_48, L_57, L_76, L_80, L_90, L_91, L_97, L_99, L_100, L_255, L_273, L_1000, L_2000, q_ld, q_ldL, q_sto, q_stoL, q_add, q_sub, q_mul, q_dec, q_rem, q_div, q_lt_t, q_lt_f, q_le_t, q_le_f, q_eq_t, q_eq_f, q_em, q_me, q_ml, q_lm, q_mle, q_lem, q_s1, q_s1o, q_s1k, q_s12, q_s2, q_s2o, q_s2k, q_s21, Nat.add_sub_cancel, q_or, q_and, q_shl, true_or, or_true, false_or, or_false, true_and, and_true, false_and, and_false, not_true_eq_false, not_false_eq_true, ne_eq, h.m, en, gC_Tales_waysOn_47]
  · show gC_Tales_waysOn_6 N (f + 1) (nI u) (nI r) (nI k) (lN (wy w G u r (2 * w 5 1))) (nI (w 5 1)) s = _
    rw [gC_Tales_waysOn_6]
    simp (disch := omega) only [Option.bind_some, ↓reduceIte, ↓M_1, ↓M_2, L_0, L_1, L_2, L_3, L_4, L_5, L_6, L_7, L_8, L_9, L_10, L_11, L_12, L_13, L_20, L_24, L_26, L_30, L_31, L_32, L_39, L_40, L_48, L_57, L_76, L_80, L_90, L_91, L_97, L_99, L_100, L_255, L_273, L_1000, L_2000, q_ld, q_ldL, q_sto, q_stoL, q_add, q_sub, q_mul, q_dec, q_rem, q_div, q_lt_t, q_lt_f, q_le_t, q_le_f, q_eq_t, q_eq_f, q_em, q_me, q_ml, q_lm, q_mle, q_lem, q_s1, q_s1o, q_s1k, q_s12, q_s2, q_s2o, q_s2k, q_s21, Nat.add_sub_cancel, q_or, q_and, q_shl, true_or, or_true, false_or, or_false, true_and, and_true, false_and, and_false, not_true_eq_false, not_false_eq_true, ne_eq, h.m]
theorem C_numberAt (h : CW w s) (hN : 60 ≤ N) (hJ : CJ w C ta n v s) (hk : 0 < k ∧ k < n) (ha : a < 2 * w 5 1) (hv : v < w 5 0) (hG : k + 1 < n → ∀ o, o < 2 * w 5 1 → s.2 48 ((k + 1) * 40 + sw o) = lN (G o) ∧ G o < 2 ^ 63) :
    fC_Tales_numberAt N (nI k) (nI (sw a)) s = some (lN ((if k + 1 = n ∧ gt w a = v then 1 else 0) + (if k + 1 < n then fb_sm (fun o => if fol w o a then G o else 0) (2 * w 5 1) else 0)), s) := by
  have hb := h.bd
  obtain ⟨hn, h9, h10, h47⟩ := hJ
  have eg := C_getter (N := N) h ha
  have er := C_ready (N := N) h ha
  have hg := gt_lt h.ok ha
  have hrd := rd_le h.ok ha
  have hk2 := hk.2
  by_cases c : k + 1 = n
  · rw [if_neg (show ¬ k + 1 < n by omega), Nat.add_zero]
    by_cases d : gt w a = v
    · rw [if_pos ⟨c, d⟩]
      simp (disch := omega) only [Option.bind_some, ↓reduceIte, ↓M_1, ↓M_2, L_0, L_1, L_2, L_3, L_4, L_5, L_6, L_7, L_8, L_9, L_10, L_11, L_12, L_13, L_20, L_24, L_26, L_30, L_31, L_32, L_39, L_40, L_48, L_57, L_76, L_80, L_90, L_91, L_97, L_99, L_100, L_255, L_273, L_1000, L_2000, q_ld, q_ldL, q_sto, q_stoL, q_add, q_sub, q_mul, q_dec, q_rem, q_div, q_lt_t, q_lt_f, q_le_t, q_le_f, q_eq_t, q_eq_f, q_em, q_me, q_ml, q_lm, q_mle, q_lem, q_s1, q_s1o, q_s1k, q_s12, q_s2, q_s2o, q_s2k, q_s21, Nat.add_sub_cancel, q_or, q_and, q_shl, true_or, or_true, false_or, or_false, true_and, and_true, false_and, and_false, not_true_eq_false, not_false_eq_true, ne_eq, fC_Tales_numberAt, gC_Tales_numberAt_0, eg, h9, h10, d, l_1]
    · rw [if_neg (fun z => d z.2)]
      simp (disch := omega) only [Option.bind_some, ↓reduceIte, ↓M_1, ↓M_2, L_0, L_1, L_2, L_3, L_4, L_5, L_6, L_7, L_8, L_9, L_10, L_11, L_12, L_13, L_20, L_24, L_26, L_30, L_31, L_32, L_39, L_40, L_48, L_57, L_76, L_80, L_90, L_91, L_97, L_99, L_100, L_255, L_273, L_1000, L_2000, q_ld, q_ldL, q_sto, q_stoL, q_add, q_sub, q_mul, q_dec, q_rem, q_div, q_lt_t, q_lt_f, q_le_t, q_le_f, q_eq_t, q_eq_f, q_em, q_me, q_ml, q_lm, q_mle, q_lem, q_s1, q_s1o, q_s1k, q_s12, q_s2, q_s2o, q_s2k, q_s21, Nat.add_sub_cancel, q_or, q_and, q_shl, true_or, or_true, false_or, or_false, true_and, and_true, false_and, and_false, not_true_eq_false, not_false_eq_true, ne_eq, fC_Tales_numberAt, gC_Tales_numberAt_0, eg, h9, h10, l_0]
  · have c2 : k + 1 < n := by omega
    rw [if_neg (fun z => c z.1), if_pos c2, Nat.zero_add, fol_wy]
    have ew := C_waysOnT (N := N) h hN hn h9 hg (show rd w a < 1000 by omega) c2 (hG c2)
    simp (disch := omega) only [Option.bind_some, ↓reduceIte, ↓M_1, ↓M_2, L_0, L_1, L_2, L_3, L_4, L_5, L_6, L_7, L_8, L_9, L_10, L_11, L_12, L_13, L_20, L_24, L_26, L_30, L_31, L_32, L_39, L_40, L_48, L_57, L_76, L_80, L_90, L_91, L_97, L_99, L_100, L_255, L_273, L_1000, L_2000, q_ld, q_ldL, q_sto, q_stoL, q_add, q_sub, q_mul, q_dec, q_rem, q_div, q_lt_t, q_lt_f, q_le_t, q_le_f, q_eq_t, q_eq_f, q_em, q_me, q_ml, q_lm, q_mle, q_lem, q_s1, q_s1o, q_s1k, q_s12, q_s2, q_s2o, q_s2k, q_s21, Nat.add_sub_cancel, q_or, q_and, q_shl, true_or, or_true, false_or, or_false, true_and, and_true, false_and, and_false, not_true_eq_false, not_false_eq_true, ne_eq, fC_Tales_numberAt, gC_Tales_numberAt_0, eg, h9, er, ew]
theorem C_fitting (h : CW w s) (hN : 60 ≤ N) (hJ : CJ w C ta n v s) (hn0 : 0 < n) (hF : CN w C ta n v s) (hu : u < w 5 0) (hv : v < w 5 0) (hr : r < 1000) : fC_Tales_fitting N (nI u) (nI r) s = some (lN (CF w C ta n u v r 100), s) := by
  have hb := h.bd
  obtain ⟨hn, h9, h10, h47⟩ := hJ
  unfold CF
  by_cases c : n = 1
  · rw [if_pos c]
    by_cases d : u = v
    · rw [if_pos ⟨d, by omega⟩]
      simp (disch := omega) only [Option.bind_some, ↓reduceIte, ↓M_1, ↓M_2, L_0, L_1, L_2, L_3, L_4, L_5, L_6, L_7, L_8, L_9, L_10, L_11, L_12, L_13, L_20, L_24, L_26, L_30, L_31, L_32, L_39, L_40, L_48, L_57, L_76, L_80, L_90, L_91, L_97, L_99, L_100, L_255, L_273, L_1000, L_2000, q_ld, q_ldL, q_sto, q_stoL, q_add, q_sub, q_mul, q_dec, q_rem, q_div, q_lt_t, q_lt_f, q_le_t, q_le_f, q_eq_t, q_eq_f, q_em, q_me, q_ml, q_lm, q_mle, q_lem, q_s1, q_s1o, q_s1k, q_s12, q_s2, q_s2o, q_s2k, q_s21, Nat.add_sub_cancel, q_or, q_and, q_shl, true_or, or_true, false_or, or_false, true_and, and_true, false_and, and_false, not_true_eq_false, not_false_eq_true, ne_eq, fC_Tales_fitting, gC_Tales_fitting_0, h9, c, h10, d, l_1]
    · rw [if_neg (fun z => d z.1)]
      simp (disch := omega) only [Option.bind_some, ↓reduceIte, ↓M_1, ↓M_2, L_0, L_1, L_2, L_3, L_4, L_5, L_6, L_7, L_8, L_9, L_10, L_11, L_12, L_13, L_20, L_24, L_26, L_30, L_31, L_32, L_39, L_40, L_48, L_57, L_76, L_80, L_90, L_91, L_97, L_99, L_100, L_255, L_273, L_1000, L_2000, q_ld, q_ldL, q_sto, q_stoL, q_add, q_sub, q_mul, q_dec, q_rem, q_div, q_lt_t, q_lt_f, q_le_t, q_le_f, q_eq_t, q_eq_f, q_em, q_me, q_ml, q_lm, q_mle, q_lem, q_s1, q_s1o, q_s1k, q_s12, q_s2, q_s2o, q_s2k, q_s21, Nat.add_sub_cancel, q_or, q_and, q_shl, true_or, or_true, false_or, or_false, true_and, and_true, false_and, and_false, not_true_eq_false, not_false_eq_true, ne_eq, fC_Tales_fitting, gC_Tales_fitting_0, h9, c, h10, l_0]
  · rw [if_neg c]
    have ew := C_waysOnT (N := N) (k := 1) (G := FT w C ta n v 100 1) h hN hn h9 hu hr (by omega) (fun o ho => ⟨hF 1 o (by omega) (by omega) ho, Nat.lt_trans (FT_lt h.ok hn) (by decide)⟩)
    simp (disch := omega) only [Option.bind_some, ↓reduceIte, ↓M_1, ↓M_2, L_0, L_1, L_2, L_3, L_4, L_5, L_6, L_7, L_8, L_9, L_10, L_11, L_12, L_13, L_20, L_24, L_26, L_30, L_31, L_32, L_39, L_40, L_48, L_57, L_76, L_80, L_90, L_91, L_97, L_99, L_100, L_255, L_273, L_1000, L_2000, q_ld, q_ldL, q_sto, q_stoL, q_add, q_sub, q_mul, q_dec, q_rem, q_div, q_lt_t, q_lt_f, q_le_t, q_le_f, q_eq_t, q_eq_f, q_em, q_me, q_ml, q_lm, q_mle, q_lem, q_s1, q_s1o, q_s1k, q_s12, q_s2, q_s2o, q_s2k, q_s21, Nat.add_sub_cancel, q_or, q_and, q_shl, true_or, or_true, false_or, or_false, true_and, and_true, false_and, and_false, not_true_eq_false, not_false_eq_true, ne_eq, fC_Tales_fitting, gC_Tales_fitting_0, h9, ew]
theorem C_cf21_told (R : Int32 → vSt → Option vSt) (h : CW w s) (hN : 60 ≤ N) (hJ : CJ w C ta n v s) (hv : v < w 5 0) (hk : 0 < k ∧ k < n) (hG : k + 1 < n → ∀ o, o < 2 * w 5 1 → s.2 48 ((k + 1) * 40 + sw o) = lN (FT w C ta n v 100 (k + 1) o)) :
    ∃ z, gC_Tales_countFits_told_21 N R N (nI k) (nI 0) s = R (nI k + mI 1) z ∧ Fr [] [48] s z ∧ (∀ o, o < 2 * w 5 1 → z.2 48 (k * 40 + sw o) = lN (FT w C ta n v 100 k o)) ∧ ∀ j, ¬ (k * 40 ≤ j ∧ j < k * 40 + 40) → z.2 48 j = s.2 48 j := by
  have hb := h.bd
  have hn := hJ.1
  have hk2 := hk.2
  refine loopU (fun f i z => gC_Tales_countFits_told_21 N R f (nI k) (nI i) z) (2 * w 5 1) (fun i z => i ≤ 2 * w 5 1 ∧ Fr [] [48] s z ∧ (∀ o, o < 2 * w 5 1 → sw o < i → z.2 48 (k * 40 + sw o) = lN (FT w C ta n v 100 k o)) ∧ ∀ j, ¬ (k * 40 ≤ j ∧ j < k * 40 + 40) → z.2 48 j = s.2 48 j)
    (fun o => ∃ z, o = R (nI k + mI 1) z ∧ Fr [] [48] s z ∧ (∀ o, o < 2 * w 5 1 → z.2 48 (k * 40 + sw o) = lN (FT w C ta n v 100 k o)) ∧ ∀ j, ¬ (k * 40 ≤ j ∧ j < k * 40 + 40) → z.2 48 j = s.2 48 j) ?_ ?_ (2 * w 5 1) N 0 s (by omega) (by omega) ⟨by omega, Fr.rf, fun o _ h => by omega, fun _ _ => rfl⟩
  · rintro f i z hi ⟨g1, g2, g3, g4⟩
    have hz : CW w z := h.fr g2 (by decide)
    have hJz : CJ w C ta n v z := by
      unfold CJ at hJ ⊢
      rw [g2.1 46 (by decide), g2.1 47 (by decide)]; exact hJ
    have hsi := sw_lt hi
    have ei : nI i = nI (sw (sw i)) := by rw [sw_sw]
    have er := C_isRight (N := N) hJz hk hsi hb.2
    have en := C_numberAt (N := N) (G := FT w C ta n v 100 (k + 1)) hz hN hJz hk hsi hv (fun hk1 o ho => ⟨by rw [g4 _ (by have := sw_lt ho; omega)]; exact hG hk1 o ho, Nat.lt_trans (FT_lt h.ok hn) (by decide)⟩)
    have eFT := FT_eq (w := w) (C := C) (ta := ta) (v := v) (no := 100) (a := sw i) hk.2
    have hfre : fre w 100 100 (sw i) := ⟨by omega, by have := gt_lt h.ok hsi; omega⟩
    rw [← ei] at er en
    refine Or.inl ⟨s2 z 48 (k * 40 + i) (lN (FT w C ta n v 100 k (sw i))), ?_, by omega, g2.tr (Fr.s2 (by decide)), fun o ho hoi => ?_, fun j hj => ?_⟩
    · show gC_Tales_countFits_told_21 N R (f + 1) (nI k) (nI i) z = _
      rw [gC_Tales_countFits_told_21]
      by_cases c : SO w C ta k (sw i)
      · rw [if_pos c] at er
        rw [if_pos ⟨hfre, c⟩] at eFT
        rw [eFT]
        simp (disch := omega) only [Option.bind_some, ↓reduceIte, ↓M_1, ↓M_2, L_0, L_1, L_2, L_3, L_4, L_5, L_6, L_7, L_8, L_9, L_10, L_11, L_12, L_13, L_20, L_24, L_26, L_30, L_31, L_32, L_39, L_40, L_48, L_57, L_76, L_80, L_90, L_91, L_97, L_99, L_100, L_255, L_273, L_1000, L_2000, q_ld, q_ldL, q_sto, q_stoL, q_add, q_sub, q_mul, q_dec, q_rem, q_div, q_lt_t, q_lt_f, q_le_t, q_le_f, q_eq_t, q_eq_f, q_em, q_me, q_ml, q_lm, q_mle, q_lem, q_s1, q_s1o, q_s1k, q_s12, q_s2, q_s2o, q_s2k, q_s21, Nat.add_sub_cancel, q_or, q_and, q_shl, true_or, or_true, false_or, or_false, true_and, and_true, false_and, and_false, not_true_eq_false, not_false_eq_true, ne_eq, hz.m, er, en, gC_Tales_countFits_told_67]
      · rw [if_neg c] at er
        rw [if_neg (fun z => c z.2)] at eFT
        rw [eFT]
        simp (disch := omega) only [Option.bind_some, ↓reduceIte, ↓M_1, ↓M_2, L_0, L_1, L_2, L_3, L_4, L_5, L_6, L_7, L_8, L_9, L_10, L_11, L_12, L_13, L_20, L_24, L_26, L_30, L_31, L_32, L_39, L_40, L_48, L_57, L_76, L_80, L_90, L_91, L_97, L_99, L_100, L_255, L_273, L_1000, L_2000, q_ld, q_ldL, q_sto, q_stoL, q_add, q_sub, q_mul, q_dec, q_rem, q_div, q_lt_t, q_lt_f, q_le_t, q_le_f, q_eq_t, q_eq_f, q_em, q_me, q_ml, q_lm, q_mle, q_lem, q_s1, q_s1o, q_s1k, q_s12, q_s2, q_s2o, q_s2k, q_s21, Nat.add_sub_cancel, q_or, q_and, q_shl, true_or, or_true, false_or, or_false, true_and, and_true, false_and, and_false, not_true_eq_false, not_false_eq_true, ne_eq, hz.m, er, gC_Tales_countFits_told_67, l_0]
    · by_cases c : sw o = i
      · rw [c, q_s2, ← c, sw_sw]
      · rw [q_s2k (by omega)]; exact g3 o ho (by omega)
    · rw [q_s2k (by omega)]; exact g4 j hj
  · rintro f z ⟨g1, g2, g3, g4⟩
    have hz : CW w z := h.fr g2 (by decide)
    refine ⟨z, ?_, g2, fun o ho => g3 o ho (sw_lt ho), g4⟩
    show gC_Tales_countFits_told_21 N R (f + 1) (nI k) (nI (2 * w 5 1)) z = _
    rw [gC_Tales_countFits_told_21]
    simp (disch := omega) only [Option.bind_some, ↓reduceIte, ↓M_1, ↓M_2, L_0, L_1, L_2, L_3, L_4, L_5, L_6, L_7, L_8, L_9, L_10, L_11, L_12, L_13, L_20, L_24, L_26, L_30, L_31, L_32, L_39, L_40, L_48, L_57, L_76, L_80, L_90, L_91, L_97, L_99, L_100, L_255, L_273, L_1000, L_2000, q_ld, q_ldL, q_sto, q_stoL, q_add, q_sub, q_mul, q_rem, q_div, q_lt_t, q_lt_f, q_le_t, q_le_f, q_eq_t, q_eq_f, q_em, q_me, q_ml, q_lm, q_mle, q_lem, q_s1, q_s1o, q_s1k, q_s12, q_s2, q_s2o, q_s2k, q_s21, Nat.add_sub_cancel, q_or, q_and, q_shl, true_or, or_true, false_or, or_false, true_and, and_true, false_and, and_false, not_true_eq_false, not_false_eq_true, ne_eq, hz.m]
theorem C_countFits_told (hN : 100 ≤ N) (h : CW w s) (hU : UC C s) (hn : s.1 5 1 = nI n) (hn0 : 0 < n) (hT : CT 6 n ta s) (hv : v < w 5 0) (hd : ∀ k a, 0 < k → k < n → a < 2 * w 5 1 → C.length = 0 ∨ ∃ v, Den (SOE w ta a k) C v) :
    ∃ z, fC_Tales_countFits_told N (nI v) s = some z ∧ Fr [17, 19, 20, 46, 47] [48] s z ∧ z.1 17 1 = s.1 17 1 ∧ CJ w C ta n v z ∧ CN w C ta n v z := by
  have hb := h.bd
  have hn12 := hT.1
  obtain ⟨s0, a1, a2, a3, a4, a5, a6⟩ := C_judge_told (N := N) (v := v) hN h hU hn hn0 hT hd
  have hJ0 : CJ w C ta n v s0 := ⟨hn12, a4, a5, a6⟩
  have st : fC_Tales_countFits_told N (nI v) s = gC_Tales_countFits_told_13 N N (nI (n - 1)) s0 := by
    simp (disch := omega) only [Option.bind_some, ↓reduceIte, ↓M_1, ↓M_2, L_0, L_1, L_2, L_3, L_4, L_5, L_6, L_7, L_8, L_9, L_10, L_11, L_12, L_13, L_20, L_24, L_26, L_30, L_31, L_32, L_39, L_40, L_48, L_57, L_76, L_80, L_90, L_91, L_97, L_99, L_100, L_255, L_273, L_1000, L_2000, q_ld, q_ldL, q_sto, q_stoL, q_add, q_sub, q_mul, q_dec, q_rem, q_div, q_lt_t, q_lt_f, q_le_t, q_le_f, q_eq_t, q_eq_f, q_em, q_me, q_ml, q_lm, q_mle, q_lem, q_s1, q_s1o, q_s1k, q_s12, q_s2, q_s2o, q_s2k, q_s21, Nat.add_sub_cancel, q_or, q_and, q_shl, true_or, or_true, false_or, or_false, true_and, and_true, false_and, and_false, not_true_eq_false, not_false_eq_true, ne_eq, fC_Tales_countFits_told, gC_Tales_countFits_told_0, a1, a4]
  rw [st]
  refine loopD (fun f i z => gC_Tales_countFits_told_13 N f (nI i) z) (n - 1) (fun i z => i ≤ n - 1 ∧ Fr [] [48] s0 z ∧ ∀ k o, i < k → k < n → o < 2 * w 5 1 → z.2 48 (k * 40 + sw o) = lN (FT w C ta n v 100 k o))
    (fun o => ∃ z, o = some z ∧ Fr [17, 19, 20, 46, 47] [48] s z ∧ z.1 17 1 = s.1 17 1 ∧ CJ w C ta n v z ∧ CN w C ta n v z) ?_ ?_ (n - 1) N s0 (Nat.le_refl _) (by omega) ⟨Nat.le_refl _, Fr.rf, fun k o h1 h2 => by omega⟩
  · rintro f i z hi ⟨g1, g2, g3⟩
    have fz : Fr [17, 19, 20, 46, 47] [48] s z := (a2.mono (by decide) (by decide)).tr (g2.mono (by decide) (by decide))
    have hJz : CJ w C ta n v z := by
      unfold CJ at hJ0 ⊢
      rw [g2.1 46 (by decide), g2.1 47 (by decide)]; exact hJ0
    obtain ⟨y, y1, y2, y3, y4⟩ := C_cf21_told (N := N) (gC_Tales_countFits_told_13 N f) (h.fr fz (by decide)) (show 60 ≤ N by omega) hJz hv (k := i + 1) ⟨by omega, by omega⟩ (fun hk o ho => g3 (i + 1 + 1) o (by omega) (by omega) ho)
    refine Or.inl ⟨y, ?_, by omega, g2.tr y2, fun k o k1 k2 ho => ?_⟩
    · show gC_Tales_countFits_told_13 N (f + 1) (nI (i + 1)) z = _
      rw [gC_Tales_countFits_told_13]
      rw [q_dec (by omega), Nat.add_sub_cancel] at y1
      simp (disch := omega) only [Option.bind_some, ↓reduceIte, ↓M_1, ↓M_2, L_0, L_1, L_2, L_3, L_4, L_5, L_6, L_7, L_8, L_9, L_10, L_11, L_12, L_13, L_20, L_24, L_26, L_30, L_31, L_32, L_39, L_40, L_48, L_57, L_76, L_80, L_90, L_91, L_97, L_99, L_100, L_255, L_273, L_1000, L_2000, q_ld, q_ldL, q_sto, q_stoL, q_add, q_sub, q_mul, q_dec, q_rem, q_div, q_lt_t, q_lt_f, q_le_t, q_le_f, q_eq_t, q_eq_f, q_em, q_me, q_ml, q_lm, q_mle, q_lem, q_s1, q_s1o, q_s1k, q_s12, q_s2, q_s2o, q_s2k, q_s21, Nat.add_sub_cancel, q_or, q_and, q_shl, true_or, or_true, false_or, or_false, true_and, and_true, false_and, and_false, not_true_eq_false, not_false_eq_true, ne_eq, y1]
    · by_cases c : k = i + 1
      · subst c; exact y3 o ho
      · have := sw_lt ho
        rw [y4 _ (by omega)]; exact g3 k o (by omega) k2 ho
  · rintro f z ⟨g1, g2, g3⟩
    have hJz : CJ w C ta n v z := by
      unfold CJ at hJ0 ⊢
      rw [g2.1 46 (by decide), g2.1 47 (by decide)]; exact hJ0
    refine ⟨z, ?_, (a2.mono (by decide) (by decide)).tr (g2.mono (by decide) (by decide)), by rw [g2.1 17 (by decide)]; exact a3, hJz, fun k o k1 k2 ho => g3 k o k1 k2 ho⟩
    show gC_Tales_countFits_told_13 N (f + 1) (nI 0) z = _
    rw [gC_Tales_countFits_told_13]
    simp (disch := omega) only [Option.bind_some, ↓reduceIte, ↓M_1, ↓M_2, L_0, L_1, L_2, L_3, L_4, L_5, L_6, L_7, L_8, L_9, L_10, L_11, L_12, L_13, L_20, L_24, L_26, L_30, L_31, L_32, L_39, L_40, L_48, L_57, L_76, L_80, L_90, L_91, L_97, L_99, L_100, L_255, L_273, L_1000, L_2000, q_ld, q_ldL, q_sto, q_stoL, q_add, q_sub, q_mul, q_dec, q_rem, q_div, q_lt_t, q_lt_f, q_le_t, q_le_f, q_eq_t, q_eq_f, q_em, q_me, q_ml, q_lm, q_mle, q_lem, q_s1, q_s1o, q_s1k, q_s12, q_s2, q_s2o, q_s2k, q_s21, Nat.add_sub_cancel, q_or, q_and, q_shl, true_or, or_true, false_or, or_false, true_and, and_true, false_and, and_false, not_true_eq_false, not_false_eq_true, ne_eq]
theorem C_cf21_laid (R : Int32 → vSt → Option vSt) (h : CW w s) (hN : 60 ≤ N) (hJ : CJ w C ta n v s) (hv : v < w 5 0) (hk : 0 < k ∧ k < n) (hG : k + 1 < n → ∀ o, o < 2 * w 5 1 → s.2 48 ((k + 1) * 40 + sw o) = lN (FT w C ta n v 100 (k + 1) o)) :
    ∃ z, gC_Tales_countFits_laid_21 N R N (nI k) (nI 0) s = R (nI k + mI 1) z ∧ Fr [] [48] s z ∧ (∀ o, o < 2 * w 5 1 → z.2 48 (k * 40 + sw o) = lN (FT w C ta n v 100 k o)) ∧ ∀ j, ¬ (k * 40 ≤ j ∧ j < k * 40 + 40) → z.2 48 j = s.2 48 j := by
  have hb := h.bd
  have hn := hJ.1
  have hk2 := hk.2
  refine loopU (fun f i z => gC_Tales_countFits_laid_21 N R f (nI k) (nI i) z) (2 * w 5 1) (fun i z => i ≤ 2 * w 5 1 ∧ Fr [] [48] s z ∧ (∀ o, o < 2 * w 5 1 → sw o < i → z.2 48 (k * 40 + sw o) = lN (FT w C ta n v 100 k o)) ∧ ∀ j, ¬ (k * 40 ≤ j ∧ j < k * 40 + 40) → z.2 48 j = s.2 48 j)
    (fun o => ∃ z, o = R (nI k + mI 1) z ∧ Fr [] [48] s z ∧ (∀ o, o < 2 * w 5 1 → z.2 48 (k * 40 + sw o) = lN (FT w C ta n v 100 k o)) ∧ ∀ j, ¬ (k * 40 ≤ j ∧ j < k * 40 + 40) → z.2 48 j = s.2 48 j) ?_ ?_ (2 * w 5 1) N 0 s (by omega) (by omega) ⟨by omega, Fr.rf, fun o _ h => by omega, fun _ _ => rfl⟩
  · rintro f i z hi ⟨g1, g2, g3, g4⟩
    have hz : CW w z := h.fr g2 (by decide)
    have hJz : CJ w C ta n v z := by
      unfold CJ at hJ ⊢
      rw [g2.1 46 (by decide), g2.1 47 (by decide)]; exact hJ
    have hsi := sw_lt hi
    have ei : nI i = nI (sw (sw i)) := by rw [sw_sw]
    have er := C_isRight (N := N) hJz hk hsi hb.2
    have en := C_numberAt (N := N) (G := FT w C ta n v 100 (k + 1)) hz hN hJz hk hsi hv (fun hk1 o ho => ⟨by rw [g4 _ (by have := sw_lt ho; omega)]; exact hG hk1 o ho, Nat.lt_trans (FT_lt h.ok hn) (by decide)⟩)
    have eFT := FT_eq (w := w) (C := C) (ta := ta) (v := v) (no := 100) (a := sw i) hk.2
    have hfre : fre w 100 100 (sw i) := ⟨by omega, by have := gt_lt h.ok hsi; omega⟩
    rw [← ei] at er en
    refine Or.inl ⟨s2 z 48 (k * 40 + i) (lN (FT w C ta n v 100 k (sw i))), ?_, by omega, g2.tr (Fr.s2 (by decide)), fun o ho hoi => ?_, fun j hj => ?_⟩
    · show gC_Tales_countFits_laid_21 N R (f + 1) (nI k) (nI i) z = _
      rw [gC_Tales_countFits_laid_21]
      by_cases c : SO w C ta k (sw i)
      · rw [if_pos c] at er
        rw [if_pos ⟨hfre, c⟩] at eFT
        rw [eFT]
        simp (disch := omega) only [Option.bind_some, ↓reduceIte, ↓M_1, ↓M_2, L_0, L_1, L_2, L_3, L_4, L_5, L_6, L_7, L_8, L_9, L_10, L_11, L_12, L_13, L_20, L_24, L_26, L_30, L_31, L_32, L_39, L_40, L_48, L_57, L_76, L_80, L_90, L_91, L_97, L_99, L_100, L_255, L_273, L_1000, L_2000, q_ld, q_ldL, q_sto, q_stoL, q_add, q_sub, q_mul, q_dec, q_rem, q_div, q_lt_t, q_lt_f, q_le_t, q_le_f, q_eq_t, q_eq_f, q_em, q_me, q_ml, q_lm, q_mle, q_lem, q_s1, q_s1o, q_s1k, q_s12, q_s2, q_s2o, q_s2k, q_s21, Nat.add_sub_cancel, q_or, q_and, q_shl, true_or, or_true, false_or, or_false, true_and, and_true, false_and, and_false, not_true_eq_false, not_false_eq_true, ne_eq, hz.m, er, en, gC_Tales_countFits_laid_67]
      · rw [if_neg c] at er
        rw [if_neg (fun z => c z.2)] at eFT
        rw [eFT]
        simp (disch := omega) only [Option.bind_some, ↓reduceIte, ↓M_1, ↓M_2, L_0, L_1, L_2, L_3, L_4, L_5, L_6, L_7, L_8, L_9, L_10, L_11, L_12, L_13, L_20, L_24, L_26, L_30, L_31, L_32, L_39, L_40, L_48, L_57, L_76, L_80, L_90, L_91, L_97, L_99, L_100, L_255, L_273, L_1000, L_2000, q_ld, q_ldL, q_sto, q_stoL, q_add, q_sub, q_mul, q_dec, q_rem, q_div, q_lt_t, q_lt_f, q_le_t, q_le_f, q_eq_t, q_eq_f, q_em, q_me, q_ml, q_lm, q_mle, q_lem, q_s1, q_s1o, q_s1k, q_s12, q_s2, q_s2o, q_s2k, q_s21, Nat.add_sub_cancel, q_or, q_and, q_shl, true_or, or_true, false_or, or_false, true_and, and_true, false_and, and_false, not_true_eq_false, not_false_eq_true, ne_eq, hz.m, er, gC_Tales_countFits_laid_67, l_0]
    · by_cases c : sw o = i
      · rw [c, q_s2, ← c, sw_sw]
      · rw [q_s2k (by omega)]; exact g3 o ho (by omega)
    · rw [q_s2k (by omega)]; exact g4 j hj
  · rintro f z ⟨g1, g2, g3, g4⟩
    have hz : CW w z := h.fr g2 (by decide)
    refine ⟨z, ?_, g2, fun o ho => g3 o ho (sw_lt ho), g4⟩
    show gC_Tales_countFits_laid_21 N R (f + 1) (nI k) (nI (2 * w 5 1)) z = _
    rw [gC_Tales_countFits_laid_21]
    simp (disch := omega) only [Option.bind_some, ↓reduceIte, ↓M_1, ↓M_2, L_0, L_1, L_2, L_3, L_4, L_5, L_6, L_7, L_8, L_9, L_10, L_11, L_12, L_13, L_20, L_24, L_26, L_30, L_31, L_32, L_39, L_40, L_48, L_57, L_76, L_80, L_90, L_91, L_97, L_99, L_100, L_255, L_273, L_1000, L_2000, q_ld, q_ldL, q_sto, q_stoL, q_add, q_sub, q_mul, q_rem, q_div, q_lt_t, q_lt_f, q_le_t, q_le_f, q_eq_t, q_eq_f, q_em, q_me, q_ml, q_lm, q_mle, q_lem, q_s1, q_s1o, q_s1k, q_s12, q_s2, q_s2o, q_s2k, q_s21, Nat.add_sub_cancel, q_or, q_and, q_shl, true_or, or_true, false_or, or_false, true_and, and_true, false_and, and_false, not_true_eq_false, not_false_eq_true, ne_eq, hz.m]
theorem C_countFits_laid (hN : 100 ≤ N) (h : CW w s) (hU : UC C s) (hn : s.1 7 1 = nI n) (hn0 : 0 < n) (hT : CT 8 n ta s) (hv : v < w 5 0) (hd : ∀ k a, 0 < k → k < n → a < 2 * w 5 1 → C.length = 0 ∨ ∃ v, Den (SOE w ta a k) C v) :
    ∃ z, fC_Tales_countFits_laid N (nI v) s = some z ∧ Fr [17, 19, 20, 46, 47] [48] s z ∧ z.1 17 1 = s.1 17 1 ∧ CJ w C ta n v z ∧ CN w C ta n v z := by
  have hb := h.bd
  have hn12 := hT.1
  obtain ⟨s0, a1, a2, a3, a4, a5, a6⟩ := C_judge_laid (N := N) (v := v) hN h hU hn hn0 hT hd
  have hJ0 : CJ w C ta n v s0 := ⟨hn12, a4, a5, a6⟩
  have st : fC_Tales_countFits_laid N (nI v) s = gC_Tales_countFits_laid_13 N N (nI (n - 1)) s0 := by
    simp (disch := omega) only [Option.bind_some, ↓reduceIte, ↓M_1, ↓M_2, L_0, L_1, L_2, L_3, L_4, L_5, L_6, L_7, L_8, L_9, L_10, L_11, L_12, L_13, L_20, L_24, L_26, L_30, L_31, L_32, L_39, L_40, L_48, L_57, L_76, L_80, L_90, L_91, L_97, L_99, L_100, L_255, L_273, L_1000, L_2000, q_ld, q_ldL, q_sto, q_stoL, q_add, q_sub, q_mul, q_dec, q_rem, q_div, q_lt_t, q_lt_f, q_le_t, q_le_f, q_eq_t, q_eq_f, q_em, q_me, q_ml, q_lm, q_mle, q_lem, q_s1, q_s1o, q_s1k, q_s12, q_s2, q_s2o, q_s2k, q_s21, Nat.add_sub_cancel, q_or, q_and, q_shl, true_or, or_true, false_or, or_false, true_and, and_true, false_and, and_false, not_true_eq_false, not_false_eq_true, ne_eq, fC_Tales_countFits_laid, gC_Tales_countFits_laid_0, a1, a4]
  rw [st]
  refine loopD (fun f i z => gC_Tales_countFits_laid_13 N f (nI i) z) (n - 1) (fun i z => i ≤ n - 1 ∧ Fr [] [48] s0 z ∧ ∀ k o, i < k → k < n → o < 2 * w 5 1 → z.2 48 (k * 40 + sw o) = lN (FT w C ta n v 100 k o))
    (fun o => ∃ z, o = some z ∧ Fr [17, 19, 20, 46, 47] [48] s z ∧ z.1 17 1 = s.1 17 1 ∧ CJ w C ta n v z ∧ CN w C ta n v z) ?_ ?_ (n - 1) N s0 (Nat.le_refl _) (by omega) ⟨Nat.le_refl _, Fr.rf, fun k o h1 h2 => by omega⟩
  · rintro f i z hi ⟨g1, g2, g3⟩
    have fz : Fr [17, 19, 20, 46, 47] [48] s z := (a2.mono (by decide) (by decide)).tr (g2.mono (by decide) (by decide))
    have hJz : CJ w C ta n v z := by
      unfold CJ at hJ0 ⊢
      rw [g2.1 46 (by decide), g2.1 47 (by decide)]; exact hJ0
    obtain ⟨y, y1, y2, y3, y4⟩ := C_cf21_laid (N := N) (gC_Tales_countFits_laid_13 N f) (h.fr fz (by decide)) (show 60 ≤ N by omega) hJz hv (k := i + 1) ⟨by omega, by omega⟩ (fun hk o ho => g3 (i + 1 + 1) o (by omega) (by omega) ho)
    refine Or.inl ⟨y, ?_, by omega, g2.tr y2, fun k o k1 k2 ho => ?_⟩
    · show gC_Tales_countFits_laid_13 N (f + 1) (nI (i + 1)) z = _
      rw [gC_Tales_countFits_laid_13]
      rw [q_dec (by omega), Nat.add_sub_cancel] at y1
      simp (disch := omega) only [Option.bind_some, ↓reduceIte, ↓M_1, ↓M_2, L_0, L_1, L_2, L_3, L_4, L_5, L_6, L_7, L_8, L_9, L_10, L_11, L_12, L_13, L_20, L_24, L_26, L_30, L_31, L_32, L_39, L_40, L_48, L_57, L_76, L_80, L_90, L_91, L_97, L_99, L_100, L_255, L_273, L_1000, L_2000, q_ld, q_ldL, q_sto, q_stoL, q_add, q_sub, q_mul, q_dec, q_rem, q_div, q_lt_t, q_lt_f, q_le_t, q_le_f, q_eq_t, q_eq_f, q_em, q_me, q_ml, q_lm, q_mle, q_lem, q_s1, q_s1o, q_s1k, q_s12, q_s2, q_s2o, q_s2k, q_s21, Nat.add_sub_cancel, q_or, q_and, q_shl, true_or, or_true, false_or, or_false, true_and, and_true, false_and, and_false, not_true_eq_false, not_false_eq_true, ne_eq, y1]
    · by_cases c : k = i + 1
      · subst c; exact y3 o ho
      · have := sw_lt ho
        rw [y4 _ (by omega)]; exact g3 k o (by omega) k2 ho
  · rintro f z ⟨g1, g2, g3⟩
    have hJz : CJ w C ta n v z := by
      unfold CJ at hJ0 ⊢
      rw [g2.1 46 (by decide), g2.1 47 (by decide)]; exact hJ0
    refine ⟨z, ?_, (a2.mono (by decide) (by decide)).tr (g2.mono (by decide) (by decide)), by rw [g2.1 17 (by decide)]; exact a3, hJz, fun k o k1 k2 ho => g3 k o k1 k2 ho⟩
    show gC_Tales_countFits_laid_13 N (f + 1) (nI 0) z = _
    rw [gC_Tales_countFits_laid_13]
    simp (disch := omega) only [Option.bind_some, ↓reduceIte, ↓M_1, ↓M_2, L_0, L_1, L_2, L_3, L_4, L_5, L_6, L_7, L_8, L_9, L_10, L_11, L_12, L_13, L_20, L_24, L_26, L_30, L_31, L_32, L_39, L_40, L_48, L_57, L_76, L_80, L_90, L_91, L_97, L_99, L_100, L_255, L_273, L_1000, L_2000, q_ld, q_ldL, q_sto, q_stoL, q_add, q_sub, q_mul, q_dec, q_rem, q_div, q_lt_t, q_lt_f, q_le_t, q_le_f, q_eq_t, q_eq_f, q_em, q_me, q_ml, q_lm, q_mle, q_lem, q_s1, q_s1o, q_s1k, q_s12, q_s2, q_s2o, q_s2k, q_s21, Nat.add_sub_cancel, q_or, q_and, q_shl, true_or, or_true, false_or, or_false, true_and, and_true, false_and, and_false, not_true_eq_false, not_false_eq_true, ne_eq]
end TC
