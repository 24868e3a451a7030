/-! tales: writers, when, copies -/
/-- a tale, ready on both sides -/
theorem tale_den {N : Nat} {w : Nat → Nat → Nat} {C : List Nat} {x ta : Nat → Nat} {n q off : Nat} {t : vSt} (hN : 100 ≤ N) (h : MW w t) (hU : UM N q x C t) (hM : MT off n ta t) (ho : off ≤ 12) : ∀ k a, 0 < k → k < n → a < 2 * w 5 1 → C.length = 0 ∨ ∃ v, Den (SOE w ta a k) C v := fun k a k1 k2 ha => (M_isSo (N := N) hN h hU hM ho ha ⟨k1, k2⟩).choose_spec.2.2
def wrB (P : Nat → Bool) (p : Nat) : Nat := fz (fun i x => if P i = true then x ||| 2 ^ i else x) 0 p
theorem wrB_s (P : Nat → Bool) (p : Nat) : wrB P (p + 1) = if P p = true then wrB P p ||| 2 ^ p else wrB P p := rfl
def ls (y : Nat) : Int32 := if y = 0 then mI 1 else nI (y - 1)
theorem ls_0 : ls 0 = mI 1 := rfl
theorem ls_s (y : Nat) : ls (y + 1) = nI y := rfl
theorem ls_max {y h : Nat} (hy : y < 1000) (hh : h < 1000) : (if ls y < nI h then nI h else ls y) = ls (max y (h + 1)) := by
  cases y with
  | zero =>
    rw [ls_0, show max 0 (h + 1) = h + 1 by omega, ls_s, if_pos (of_eq_true (q_ml (by omega) (by omega) (by omega)))]
  | succ y =>
    rw [ls_s, q_max (by omega) (by omega), show max (y + 1) (h + 1) = max y h + 1 by omega, ls_s]
theorem ls_min {y z : Nat} (hy : y < 1000) (hz : z < 1000) : (if ls y > ls z then ls z else ls y) = ls (min y z) := by
  cases y with
  | zero =>
    rw [show min 0 z = 0 by omega]
    refine if_neg (fun c => ?_)
    cases z with
    | zero => exact absurd c (by rw [gt_iff_lt, Int32.lt_iff_toInt_lt]; omega)
    | succ z =>
      rw [ls_0, ls_s] at c
      exact absurd c (by rw [gt_iff_lt, q_lm (by omega) (by omega)]; exact id)
  | succ y =>
    cases z with
    | zero =>
      rw [show min (y + 1) 0 = 0 by omega]
      refine if_pos ?_
      rw [ls_0, ls_s, gt_iff_lt, q_ml (by omega) (by omega) (by omega)]
      trivial
    | succ z => rw [ls_s, ls_s, q_min (by omega) (by omega), show min (y + 1) (z + 1) = min y z + 1 by omega, ls_s]
theorem ls_m1 {y : Nat} (hy : y < 1000) : (ls y = mI 1) = (y = 0) := by
  cases y with
  | zero => exact propext ⟨fun _ => rfl, fun _ => rfl⟩
  | succ y =>
    rw [ls_s, q_em (by omega) (by decide) (by decide)]
    exact propext ⟨False.elim, fun z => by omega⟩
section HO
variable {N : Nat} {w : Nat → Nat → Nat} {C : List Nat} {x ta tb G : Nat → Nat} {n n' u v v' r k a q y off : Nat} {s t : vSt}
/-- up to which hour it can have been written -/
theorem C_lateT (h : CW w s) (hN : 60 ≤ N) (hJ : CJ w C ta n v s) (hn0 : 0 < n) (hF : CN w C ta n v s) (hu : u < w 5 0) (hv : v < w 5 0) : ∃ y, fC_Tales_latestStart N (nI u) s = some (ls y, s) ∧ y ≤ 100 ∧ ∀ r, r < 100 → (r < y ↔ 0 < CF w C ta n u v r 100) := by
  have hb := h.bd
  obtain ⟨hn, h9, h10, _⟩ := id hJ
  by_cases c : n = 1
  · by_cases d : u = v
    · refine ⟨100, ?_, Nat.le_refl _, fun r hr => ?_⟩
      · simp (disch := omega) only [Option.bind_some, ↓reduceIte, ↓M_1, ↓M_2, L_0, L_1, L_2, L_3, L_4, L_5, L_6, L_7, L_8, L_9, L_10, L_11, L_12, L_13, L_20, L_24, L_26, L_30, L_31, L_32, L_39, L_40, L_48, L_57, L_76, L_80, L_90, L_91, L_97, L_99, L_100, L_255, L_273, L_1000, L_2000, q_ld, q_ldL, q_sto, q_stoL, q_add, q_sub, q_mul, q_dec, q_rem, q_div, q_lt_t, q_lt_f, q_le_t, q_le_f, q_eq_t, q_eq_f, q_em, q_me, q_ml, q_lm, q_mle, q_lem, q_s1, q_s1o, q_s1k, q_s12, q_s2, q_s2o, q_s2k, q_s21, Nat.add_sub_cancel, q_or, q_and, q_shl, true_or, or_true, false_or, or_false, true_and, and_true, false_and, and_false, not_true_eq_false, not_false_eq_true, ne_eq, fC_Tales_latestStart, gC_Tales_latestStart_0, h9, c, h10, d]
        rfl
      · unfold CF
        rw [if_pos c, if_pos ⟨d, by omega⟩]
        omega
    · refine ⟨0, ?_, by omega, fun r hr => ?_⟩
      · simp (disch := omega) only [Option.bind_some, ↓reduceIte, ↓M_1, ↓M_2, L_0, L_1, L_2, L_3, L_4, L_5, L_6, L_7, L_8, L_9, L_10, L_11, L_12, L_13, L_20, L_24, L_26, L_30, L_31, L_32, L_39, L_40, L_48, L_57, L_76, L_80, L_90, L_91, L_97, L_99, L_100, L_255, L_273, L_1000, L_2000, q_ld, q_ldL, q_sto, q_stoL, q_add, q_sub, q_mul, q_dec, q_rem, q_div, q_lt_t, q_lt_f, q_le_t, q_le_f, q_eq_t, q_eq_f, q_em, q_me, q_ml, q_lm, q_mle, q_lem, q_s1, q_s1o, q_s1k, q_s12, q_s2, q_s2o, q_s2k, q_s21, Nat.add_sub_cancel, q_or, q_and, q_shl, true_or, or_true, false_or, or_false, true_and, and_true, false_and, and_false, not_true_eq_false, not_false_eq_true, ne_eq, fC_Tales_latestStart, gC_Tales_latestStart_0, h9, c, h10]
        rfl
      · unfold CF
        rw [if_pos c, if_neg (fun z => d z.1)]
        omega
  · have st : fC_Tales_latestStart N (nI u) s = gC_Tales_latestStart_27 N N (nI u) (ls 0) (nI 0) s := by
      simp (disch := omega) only [Option.bind_some, ↓reduceIte, ↓M_1, ↓M_2, L_0, L_1, L_2, L_3, L_4, L_5, L_6, L_7, L_8, L_9, L_10, L_11, L_12, L_13, L_20, L_24, L_26, L_30, L_31, L_32, L_39, L_40, L_48, L_57, L_76, L_80, L_90, L_91, L_97, L_99, L_100, L_255, L_273, L_1000, L_2000, q_ld, q_ldL, q_sto, q_stoL, q_add, q_sub, q_mul, q_dec, q_rem, q_div, q_lt_t, q_lt_f, q_le_t, q_le_f, q_eq_t, q_eq_f, q_em, q_me, q_ml, q_lm, q_mle, q_lem, q_s1, q_s1o, q_s1k, q_s12, q_s2, q_s2o, q_s2k, q_s21, Nat.add_sub_cancel, q_or, q_and, q_shl, true_or, or_true, false_or, or_false, true_and, and_true, false_and, and_false, not_true_eq_false, not_false_eq_true, ne_eq, fC_Tales_latestStart, gC_Tales_latestStart_0, h9, ls_0]
    rw [st]
    refine loopU (fun f i (y : Nat) => gC_Tales_latestStart_27 N f (nI u) (ls y) (nI i) s) (w 5 1) (fun i y => i ≤ w 5 1 ∧ y ≤ 100 ∧ ∀ r, r < y ↔ ∃ o, o < 2 * i ∧ gv w o = u ∧ r ≤ hr w o ∧ 0 < FT w C ta n v 100 1 o) (fun o => ∃ y, o = some (ls y, s) ∧ y ≤ 100 ∧ ∀ r, r < 100 → (r < y ↔ 0 < CF w C ta n u v r 100)) ?_ ?_ (w 5 1) N 0 0 (by omega) (by omega) ⟨by omega, by omega, fun r => ⟨fun z => by omega, fun ⟨o, o1, _⟩ => by omega⟩⟩
    · rintro f m y hm ⟨g1, g2, g3⟩
      have en := C_nextOf (N := N) (r := 0) (k := 1) (G := FT w C ta n v 100 1) h hn h9 hu (by omega) (by omega) hm (fun o ho => ⟨hF 1 o (by omega) (by omega) ho, Nat.lt_trans (FT_lt h.ok hn) (by decide)⟩)
      have h3 : w 3 m ≤ 99 := (h.ok.2.2.2 m hm).2.2.2.1
      have hi := ix_lt (w := w) u hm
      have hsw := sw_lt hi
      have hh := ix_half w m u
      by_cases d : (w 1 m = u ∨ w 2 m = u) ∧ beg w u 0 (ix w m u) ∧ 0 < FT w C ta n v 100 1 (ix w m u)
      · rw [if_pos d] at en
        refine Or.inl ⟨max y (w 3 m + 1), ?_, by omega, by omega, fun r => ?_⟩
        · rw [gC_Tales_latestStart_27]
          have em := ls_max (y := y) (h := w 3 m) (by omega) (by omega)
          simp (disch := omega) only [Option.bind_some, ↓reduceIte, ↓M_1, ↓M_2, L_0, L_1, L_2, L_3, L_4, L_5, L_6, L_7, L_8, L_9, L_10, L_11, L_12, L_13, L_20, L_24, L_26, L_30, L_31, L_32, L_39, L_40, L_48, L_57, L_76, L_80, L_90, L_91, L_97, L_99, L_100, L_255, L_273, L_1000, L_2000, q_ld, q_ldL, q_sto, q_stoL, q_add, q_sub, q_mul, q_dec, q_rem, q_div, q_lt_t, q_lt_f, q_le_t, q_le_f, q_eq_t, q_eq_f, q_em, q_me, q_ml, q_lm, q_mle, q_lem, q_s1, q_s1o, q_s1k, q_s12, q_s2, q_s2o, q_s2k, q_s21, Nat.add_sub_cancel, q_or, q_and, q_shl, true_or, or_true, false_or, or_false, true_and, and_true, false_and, and_false, not_true_eq_false, not_false_eq_true, ne_eq, h.m, en, h.h hm, em, gC_Tales_latestStart_64]
        · constructor
          · intro hr
            by_cases e : r < y
            · obtain ⟨o, o1, o2⟩ := (g3 r).mp e
              exact ⟨o, by omega, o2⟩
            · exact ⟨ix w m u, by omega, d.2.1.1, by rw [ix_hr]; omega, d.2.2⟩
          · rintro ⟨o, o1, o2, o3, o4⟩
            by_cases e : o < 2 * m
            · have := (g3 r).mpr ⟨o, e, o2, o3, o4⟩
              omega
            · have hr' : hr w o = w 3 m := by unfold hr; rw [show o / 2 = m by omega]
              omega
      · rw [if_neg d] at en
        refine Or.inl ⟨y, ?_, by omega, g2, fun r => ?_⟩
        · rw [gC_Tales_latestStart_27]
          simp (disch := omega) only [Option.bind_some, ↓reduceIte, ↓M_1, ↓M_2, L_0, L_1, L_2, L_3, L_4, L_5, L_6, L_7, L_8, L_9, L_10, L_11, L_12, L_13, L_20, L_24, L_26, L_30, L_31, L_32, L_39, L_40, L_48, L_57, L_76, L_80, L_90, L_91, L_97, L_99, L_100, L_255, L_273, L_1000, L_2000, q_ld, q_ldL, q_sto, q_stoL, q_add, q_sub, q_mul, q_dec, q_rem, q_div, q_lt_t, q_lt_f, q_le_t, q_le_f, q_eq_t, q_eq_f, q_em, q_me, q_ml, q_lm, q_mle, q_lem, q_s1, q_s1o, q_s1k, q_s12, q_s2, q_s2o, q_s2k, q_s21, Nat.add_sub_cancel, q_or, q_and, q_shl, true_or, or_true, false_or, or_false, true_and, and_true, false_and, and_false, not_true_eq_false, not_false_eq_true, ne_eq, h.m, en, gC_Tales_latestStart_64]
        · rw [g3 r]
          refine ⟨fun ⟨o, o1, o2⟩ => ⟨o, by omega, o2⟩, fun ⟨o, o1, o2, o3, o4⟩ => ?_⟩
          by_cases e : o < 2 * m
          · exact ⟨o, e, o2, o3, o4⟩
          · refine absurd ?_ d
            have eo : o / 2 = m := by omega
            have ei : ix w m u = o := by rw [← eo, ← o2, ix_eq h.ok (by omega)]
            rw [ei]
            exact ⟨by have := gv_hop (w := w) o; rw [eo, o2] at this; exact this, ⟨o2, Nat.zero_le _⟩, o4⟩
    · rintro f y ⟨g1, g2, g3⟩
      refine ⟨y, ?_, g2, fun r hr => ?_⟩
      · try simp only
        rw [gC_Tales_latestStart_27]
        simp (disch := omega) only [Option.bind_some, ↓reduceIte, ↓M_1, ↓M_2, L_0, L_1, L_2, L_3, L_4, L_5, L_6, L_7, L_8, L_9, L_10, L_11, L_12, L_13, L_20, L_24, L_26, L_30, L_31, L_32, L_39, L_40, L_48, L_57, L_76, L_80, L_90, L_91, L_97, L_99, L_100, L_255, L_273, L_1000, L_2000, q_ld, q_ldL, q_sto, q_stoL, q_add, q_sub, q_mul, q_dec, q_rem, q_div, q_lt_t, q_lt_f, q_le_t, q_le_f, q_eq_t, q_eq_f, q_em, q_me, q_ml, q_lm, q_mle, q_lem, q_s1, q_s1o, q_s1k, q_s12, q_s2, q_s2o, q_s2k, q_s21, Nat.add_sub_cancel, q_or, q_and, q_shl, true_or, or_true, false_or, or_false, true_and, and_true, false_and, and_false, not_true_eq_false, not_false_eq_true, ne_eq, h.m]
      · rw [g3 r]
        unfold CF
        rw [if_neg c]
        unfold wy
        rw [sm_pos]
        constructor
        · rintro ⟨o, o1, o2, o3, o4⟩
          exact ⟨o, o1, by rw [if_pos ⟨o2, o3⟩]; exact o4⟩
        · rintro ⟨o, o1, o2⟩
          by_cases d : beg w u r o
          · rw [if_pos d] at o2
            exact ⟨o, o1, d.1, d.2, o2⟩
          · rw [if_neg d] at o2
            exact absurd o2 (Nat.lt_irrefl _)
theorem C_tellHours (hy : y ≤ 100) : ∃ z, fC_EachAddsALine_tellHours N (ls y) s = some (nI y, z) ∧ Fr [3, 4] [] s z ∧ z.1 3 1 = nI (if y = 0 then 0 else 2) ∧ (0 < y → z.1 4 0 = nI 0 ∧ z.1 4 1 = nI (y - 1)) := by
  cases y with
  | zero =>
    refine ⟨s1 s 3 1 (nI 0), ?_, Fr.s1 (by decide), q_s1 _ _ _ _, fun z => by omega⟩
    rw [ls_0]
    simp (disch := omega) only [Option.bind_some, ↓reduceIte, ↓M_1, ↓M_2, L_0, L_1, L_2, L_3, L_4, L_5, L_6, L_7, L_8, L_9, L_10, L_11, L_12, L_13, L_20, L_24, L_26, L_30, L_31, L_32, L_39, L_40, L_48, L_57, L_76, L_80, L_90, L_91, L_97, L_99, L_100, L_255, L_273, L_1000, L_2000, q_ld, q_ldL, q_sto, q_stoL, q_add, q_sub, q_mul, q_dec, q_rem, q_div, q_lt_t, q_lt_f, q_le_t, q_le_f, q_eq_t, q_eq_f, q_em, q_me, q_ml, q_lm, q_mle, q_lem, q_s1, q_s1o, q_s1k, q_s12, q_s2, q_s2o, q_s2k, q_s21, Nat.add_sub_cancel, q_or, q_and, q_shl, true_or, or_true, false_or, or_false, true_and, and_true, false_and, and_false, not_true_eq_false, not_false_eq_true, ne_eq, fC_EachAddsALine_tellHours, gC_EachAddsALine_tellHours_0, fC_Numbers_clear_row, gC_Numbers_clear_row_0]
  | succ y =>
    refine ⟨s1 (s1 (s1 (s1 (s1 s 3 1 (nI 0)) 4 0 (nI 0)) 3 1 (nI 1)) 4 1 (nI y)) 3 1 (nI 2), ?_, (Fr.s1 (by decide)).tr ((Fr.s1 (by decide)).tr ((Fr.s1 (by decide)).tr ((Fr.s1 (by decide)).tr (Fr.s1 (by decide))))), ?_, fun _ => ⟨?_, ?_⟩⟩
    · rw [ls_s]
      simp (disch := omega) only [Option.bind_some, ↓reduceIte, ↓M_1, ↓M_2, L_0, L_1, L_2, L_3, L_4, L_5, L_6, L_7, L_8, L_9, L_10, L_11, L_12, L_13, L_20, L_24, L_26, L_30, L_31, L_32, L_39, L_40, L_48, L_57, L_76, L_80, L_90, L_91, L_97, L_99, L_100, L_255, L_273, L_1000, L_2000, q_ld, q_ldL, q_sto, q_stoL, q_add, q_sub, q_mul, q_dec, q_rem, q_div, q_lt_t, q_lt_f, q_le_t, q_le_f, q_eq_t, q_eq_f, q_em, q_me, q_ml, q_lm, q_mle, q_lem, q_s1, q_s1o, q_s1k, q_s12, q_s2, q_s2o, q_s2k, q_s21, Nat.add_sub_cancel, q_or, q_and, q_shl, true_or, or_true, false_or, or_false, true_and, and_true, false_and, and_false, not_true_eq_false, not_false_eq_true, ne_eq, fC_EachAddsALine_tellHours, gC_EachAddsALine_tellHours_0, fC_Numbers_clear_row, gC_Numbers_clear_row_0, fC_Numbers_add_row, gC_Numbers_add_row_0]
    · rw [if_neg (by omega), q_s1]
    · simp (disch := omega) only [Option.bind_some, ↓reduceIte, ↓M_1, ↓M_2, L_0, L_1, L_2, L_3, L_4, L_5, L_6, L_7, L_8, L_9, L_10, L_11, L_12, L_13, L_20, L_24, L_26, L_30, L_31, L_32, L_39, L_40, L_48, L_57, L_76, L_80, L_90, L_91, L_97, L_99, L_100, L_255, L_273, L_1000, L_2000, q_ld, q_ldL, q_sto, q_stoL, q_add, q_sub, q_mul, q_dec, q_rem, q_div, q_lt_t, q_lt_f, q_le_t, q_le_f, q_eq_t, q_eq_f, q_em, q_me, q_ml, q_lm, q_mle, q_lem, q_s1, q_s1o, q_s1k, q_s12, q_s2, q_s2o, q_s2k, q_s21, Nat.add_sub_cancel, q_or, q_and, q_shl, true_or, or_true, false_or, or_false, true_and, and_true, false_and, and_false, not_true_eq_false, not_false_eq_true, ne_eq]
    · rw [Nat.add_sub_cancel]
      simp (disch := omega) only [Option.bind_some, ↓reduceIte, ↓M_1, ↓M_2, L_0, L_1, L_2, L_3, L_4, L_5, L_6, L_7, L_8, L_9, L_10, L_11, L_12, L_13, L_20, L_24, L_26, L_30, L_31, L_32, L_39, L_40, L_48, L_57, L_76, L_80, L_90, L_91, L_97, L_99, L_100, L_255, L_273, L_1000, L_2000, q_ld, q_ldL, q_sto, q_stoL, q_add, q_sub, q_mul, q_dec, q_rem, q_div, q_lt_t, q_lt_f, q_le_t, q_le_f, q_eq_t, q_eq_f, q_em, q_me, q_ml, q_lm, q_mle, q_lem, q_s1, q_s1o, q_s1k, q_s12, q_s2, q_s2o, q_s2k, q_s21, Nat.add_sub_cancel, q_or, q_and, q_shl, true_or, or_true, false_or, or_false, true_and, and_true, false_and, and_false, not_true_eq_false, not_false_eq_true, ne_eq]
/-- what the reference has told of the hours up to i -/
def HT (y i : Nat) (t z : vSt) : Prop := Fm [7, 11] [17] [10, 12, 13, 14, 15, 16, 19, 20, 21, 22, 23, 24, 25, 26, 30] t z ∧ z.1 0 10 = nI (if min i y = 0 then 0 else 1) ∧ (0 < min i y → z.1 7 0 = nI 0)
theorem HT.skip {i : Nat} {t z z' : vSt} (h : HT y i t z) (hi : y ≤ i) (f : Fm [11] [17] [12, 13, 14, 15, 16, 19, 20, 21, 22, 23, 24, 25, 26, 30] z z') : HT y (i + 1) t z' := by
  obtain ⟨h1, h2, h3⟩ := h
  refine ⟨h1.tr (f.mono (by decide) (by decide) (by decide)), ?_, fun hp => ?_⟩
  · rw [f.2.2 10 (by decide), h2, show min (i + 1) y = min i y by omega]
  · rw [f.1 7 (by decide) (by decide)]
    exact h3 (by omega)
theorem HT.next {i : Nat} {t z z' : vSt} (h : HT y i t z) (hi : i < y) (h0 : 0 < i) (f : Fm [11] [17] [12, 13, 14, 15, 16, 19, 20, 21, 22, 23, 24, 25, 26, 30] z z') : HT y (i + 1) t z' := by
  obtain ⟨h1, h2, h3⟩ := h
  refine ⟨h1.tr (f.mono (by decide) (by decide) (by decide)), ?_, fun hp => ?_⟩
  · rw [f.2.2 10 (by decide), h2, if_neg (by omega), if_neg (by omega)]
  · rw [f.1 7 (by decide) (by decide)]
    exact h3 (by omega)
theorem HT.first {t z z' : vSt} (h : HT y 0 t z) (hi : 0 < y) (f : Fm [11] [17] [12, 13, 14, 15, 16, 19, 20, 21, 22, 23, 24, 25, 26, 30] z z') : fM_EachAddsALineModel_tell N (nI 0) z' = some (s1 (s1 z' 7 0 (nI 0)) 0 10 (nI 1)) ∧ HT y 1 t (s1 (s1 z' 7 0 (nI 0)) 0 10 (nI 1)) := by
  obtain ⟨h1, h2, h3⟩ := h
  have e10 : z'.1 0 10 = nI 0 := by rw [f.2.2 10 (by decide), h2, if_pos (by omega)]
  refine ⟨by simp (disch := omega) only [Option.bind_some, ↓reduceIte, ↓M_1, ↓M_2, L_0, L_1, L_2, L_3, L_4, L_5, L_6, L_7, L_8, L_9, L_10, L_11, L_12, L_13, L_20, L_24, L_26, L_30, L_31, L_32, L_39, L_40, L_48, L_57, L_76, L_80, L_90, L_91, L_97, L_99, L_100, L_255, L_273, L_1000, L_2000, q_ld, q_ldL, q_sto, q_stoL, q_add, q_sub, q_mul, q_dec, q_rem, q_div, q_lt_t, q_lt_f, q_le_t, q_le_f, q_eq_t, q_eq_f, q_em, q_me, q_ml, q_lm, q_mle, q_lem, q_s1, q_s1o, q_s1k, q_s12, q_s2, q_s2o, q_s2k, q_s21, Nat.add_sub_cancel, q_or, q_and, q_shl, true_or, or_true, false_or, or_false, true_and, and_true, false_and, and_false, not_true_eq_false, not_false_eq_true, ne_eq, fM_EachAddsALineModel_tell, gM_EachAddsALineModel_tell_0, e10], h1.tr ((f.mono (by decide) (by decide) (by decide)).tr ((Fm.w1 (by decide) (by decide)).tr (Fm.w10 (by decide)))), ?_, fun _ => ?_⟩
  · rw [q_s1, if_neg (by omega)]
  · simp (disch := omega) only [Option.bind_some, ↓reduceIte, ↓M_1, ↓M_2, L_0, L_1, L_2, L_3, L_4, L_5, L_6, L_7, L_8, L_9, L_10, L_11, L_12, L_13, L_20, L_24, L_26, L_30, L_31, L_32, L_39, L_40, L_48, L_57, L_76, L_80, L_90, L_91, L_97, L_99, L_100, L_255, L_273, L_1000, L_2000, q_ld, q_ldL, q_sto, q_stoL, q_add, q_sub, q_mul, q_dec, q_rem, q_div, q_lt_t, q_lt_f, q_le_t, q_le_f, q_eq_t, q_eq_f, q_em, q_me, q_ml, q_lm, q_mle, q_lem, q_s1, q_s1o, q_s1k, q_s12, q_s2, q_s2o, q_s2k, q_s21, Nat.add_sub_cancel, q_or, q_and, q_shl, true_or, or_true, false_or, or_false, true_and, and_true, false_and, and_false, not_true_eq_false, not_false_eq_true, ne_eq]
theorem HT.last {t z : vSt} (h : HT y 100 t z) (hy : y ≤ 100) (h0 : 0 < y) : fM_EachAddsALineModel_tell N (ls y) z = some (s1 (s1 z 7 1 (ls y)) 0 10 (nI 2)) ∧ Fm [7, 11] [17] [10, 12, 13, 14, 15, 16, 19, 20, 21, 22, 23, 24, 25, 26, 30] t (s1 (s1 z 7 1 (ls y)) 0 10 (nI 2)) := by
  obtain ⟨h1, h2, h3⟩ := h
  have e10 : z.1 0 10 = nI 1 := by rw [h2, if_neg (by omega)]
  exact ⟨by simp (disch := omega) only [Option.bind_some, ↓reduceIte, ↓M_1, ↓M_2, L_0, L_1, L_2, L_3, L_4, L_5, L_6, L_7, L_8, L_9, L_10, L_11, L_12, L_13, L_20, L_24, L_26, L_30, L_31, L_32, L_39, L_40, L_48, L_57, L_76, L_80, L_90, L_91, L_97, L_99, L_100, L_255, L_273, L_1000, L_2000, q_ld, q_ldL, q_sto, q_stoL, q_add, q_sub, q_mul, q_dec, q_rem, q_div, q_lt_t, q_lt_f, q_le_t, q_le_f, q_eq_t, q_eq_f, q_em, q_me, q_ml, q_lm, q_mle, q_lem, q_s1, q_s1o, q_s1k, q_s12, q_s2, q_s2o, q_s2k, q_s21, Nat.add_sub_cancel, q_or, q_and, q_shl, true_or, or_true, false_or, or_false, true_and, and_true, false_and, and_false, not_true_eq_false, not_false_eq_true, ne_eq, fM_EachAddsALineModel_tell, gM_EachAddsALineModel_tell_0, e10], h1.tr ((Fm.w1 (by decide) (by decide)).tr (Fm.w10 (by decide)))⟩
theorem HT.ro {t z s' : vSt} (h : HT y 100 t z) (hy : y ≤ 100) (g1 : s'.1 3 1 = nI (if y = 0 then 0 else 2)) (g2 : 0 < y → s'.1 4 0 = nI 0 ∧ s'.1 4 1 = nI (y - 1)) : RO s' (if y = 0 then z else s1 (s1 z 7 1 (ls y)) 0 10 (nI 2)) := by
  obtain ⟨h1, h2, h3⟩ := h
  by_cases c : y = 0
  · rw [if_pos c] at g1 ⊢
    exact ⟨0, by omega, g1, by rw [h2, if_pos (by omega)], fun k hk => by omega⟩
  · rw [if_neg c] at g1 ⊢
    obtain ⟨e1, e2⟩ := g2 (by omega)
    refine ⟨2, by omega, g1, q_s1 _ _ _ _, fun k hk => ?_⟩
    have hk2 : k = 0 ∨ k = 1 := by omega
    rcases hk2 with rfl | rfl
    · rw [e1, q_s1o (by decide), q_s1k (by decide)]; exact (h3 (by omega)).symm
    · rw [e2, q_s1o (by decide), q_s1]; exact (if_neg c).symm
theorem M_when (h : MW w t) (hN : 200 ≤ N) (hU : UM N q x C t) (hT : MT 0 n ta t) (hn0 : 0 < n) (h40 : t.1 0 40 = nI n) (h35 : t.1 0 35 = gI 100) (h37 : t.1 0 37 = gI 100) (hu : u < w 5 0) (hv : v < w 5 0) (hy : y ≤ 100) (hyc : ∀ r, r < 100 → (r < y ↔ 0 < CF w C ta n u v r 100)) :
    ∃ z, gM_EachAddsALineModel_when_46 N N (nI u) (nI v) (nI 0) (mI 1) (nI 0) (s1 t 0 10 (nI 0)) = some (nI y, if y = 0 then z else s1 (s1 z 7 1 (ls y)) 0 10 (nI 2)) ∧ HT y 100 t z := by
  have hb := h.bd
  have e0 : gM_EachAddsALineModel_when_46 N N (nI u) (nI v) (nI 0) (mI 1) (nI 0) (s1 t 0 10 (nI 0)) = gM_EachAddsALineModel_when_46 N N (nI u) (nI v) (nI (min 0 y)) (ls (min 0 y)) (nI 0) (s1 t 0 10 (nI 0)) := by rw [show min 0 y = 0 by omega, ls_0]
  rw [e0]
  refine loopU (fun f i z => gM_EachAddsALineModel_when_46 N f (nI u) (nI v) (nI (min i y)) (ls (min i y)) (nI i) z) 100 (fun i z => i ≤ 100 ∧ HT y i t z) (fun o => ∃ z, o = some (nI y, if y = 0 then z else s1 (s1 z 7 1 (ls y)) 0 10 (nI 2)) ∧ HT y 100 t z) ?_ ?_ 100 N 0 _ (by omega) (by omega) ⟨by omega, Fm.w10 (by decide), by rw [q_s1, if_pos (by omega)], fun z => by omega⟩
  · rintro f i z hi ⟨g1, g2⟩
    have fz := g2.1
    have hz : MW w z := h.fm fz (by decide) (by decide)
    have z40 : z.1 0 40 = nI n := (fz.2.2 40 (by decide)).trans h40
    obtain ⟨z', v1, v2, _⟩ := M_countFits (N := N) (no := 100) (r := i) (u := u) (v := v) hz (by omega) (hU.fm fz (by decide) (by decide)) (hT.fm fz (by decide)) (by omega) hn0 ((fz.2.2 35 (by decide)).trans h35) ((fz.2.2 37 (by decide)).trans h37) (by omega) hu hv (by omega)
    have hA := CF_lt (C := C) (ta := ta) (n := n) (u := u) (v := v) (r := i) (no := 100) h.ok hT.1
    have ec := cmpL (a := CF w C ta n u v i 100) (b := 0) (Nat.lt_trans hA (by decide)) (by decide)
    by_cases c : i < y
    · have hp := (hyc i (by omega)).mp c
      rw [eq_false (show ¬ CF w C ta n u v i 100 = 0 by omega)] at ec
      by_cases ci : i = 0
      · subst ci
        obtain ⟨t1, t2⟩ := g2.first (N := N) c v2
        refine Or.inl ⟨_, ?_, by omega, t2⟩
        show gM_EachAddsALineModel_when_46 N (f + 1) (nI u) (nI v) (nI (min 0 y)) (ls (min 0 y)) (nI 0) z = gM_EachAddsALineModel_when_46 N f (nI u) (nI v) (nI (min (0 + 1) y)) (ls (min (0 + 1) y)) (nI (0 + 1)) _
        rw [show min 0 y = 0 by omega, show min (0 + 1) y = 0 + 1 by omega, ls_s, gM_EachAddsALineModel_when_46]
        simp (disch := omega) only [Option.bind_some, ↓reduceIte, ↓M_1, ↓M_2, L_0, L_1, L_2, L_3, L_4, L_5, L_6, L_7, L_8, L_9, L_10, L_11, L_12, L_13, L_20, L_24, L_26, L_30, L_31, L_32, L_39, L_40, L_48, L_57, L_76, L_80, L_90, L_91, L_97, L_99, L_100, L_255, L_273, L_1000, L_2000, q_ld, q_ldL, q_sto, q_stoL, q_add, q_sub, q_mul, q_dec, q_rem, q_div, q_lt_t, q_lt_f, q_le_t, q_le_f, q_eq_t, q_eq_f, q_em, q_me, q_ml, q_lm, q_mle, q_lem, q_s1, q_s1o, q_s1k, q_s12, q_s2, q_s2o, q_s2k, q_s21, Nat.add_sub_cancel, q_or, q_and, q_shl, true_or, or_true, false_or, or_false, true_and, and_true, false_and, and_false, not_true_eq_false, not_false_eq_true, ne_eq, z40, v1, l_0, ec, t1, gM_EachAddsALineModel_when_84, gM_EachAddsALineModel_when_91]
      · refine Or.inl ⟨z', ?_, by omega, g2.next c (by omega) v2⟩
        show gM_EachAddsALineModel_when_46 N (f + 1) (nI u) (nI v) (nI (min i y)) (ls (min i y)) (nI i) z = gM_EachAddsALineModel_when_46 N f (nI u) (nI v) (nI (min (i + 1) y)) (ls (min (i + 1) y)) (nI (i + 1)) z'
        rw [show min i y = i by omega, show min (i + 1) y = i + 1 by omega, ls_s, gM_EachAddsALineModel_when_46]
        simp (disch := omega) only [Option.bind_some, ↓reduceIte, ↓M_1, ↓M_2, L_0, L_1, L_2, L_3, L_4, L_5, L_6, L_7, L_8, L_9, L_10, L_11, L_12, L_13, L_20, L_24, L_26, L_30, L_31, L_32, L_39, L_40, L_48, L_57, L_76, L_80, L_90, L_91, L_97, L_99, L_100, L_255, L_273, L_1000, L_2000, q_ld, q_ldL, q_sto, q_stoL, q_add, q_sub, q_mul, q_dec, q_rem, q_div, q_lt_t, q_lt_f, q_le_t, q_le_f, q_eq_t, q_eq_f, q_em, q_me, q_ml, q_lm, q_mle, q_lem, q_s1, q_s1o, q_s1k, q_s12, q_s2, q_s2o, q_s2k, q_s21, Nat.add_sub_cancel, q_or, q_and, q_shl, true_or, or_true, false_or, or_false, true_and, and_true, false_and, and_false, not_true_eq_false, not_false_eq_true, ne_eq, z40, v1, l_0, ec, gM_EachAddsALineModel_when_84, gM_EachAddsALineModel_when_91]
    · have hp : CF w C ta n u v i 100 = 0 := by
        have := hyc i (by omega)
        omega
      rw [eq_true hp] at ec
      refine Or.inl ⟨z', ?_, by omega, g2.skip (by omega) v2⟩
      show gM_EachAddsALineModel_when_46 N (f + 1) (nI u) (nI v) (nI (min i y)) (ls (min i y)) (nI i) z = gM_EachAddsALineModel_when_46 N f (nI u) (nI v) (nI (min (i + 1) y)) (ls (min (i + 1) y)) (nI (i + 1)) z'
      rw [show min i y = y by omega, show min (i + 1) y = y by omega, gM_EachAddsALineModel_when_46]
      simp (disch := omega) only [Option.bind_some, ↓reduceIte, ↓M_1, ↓M_2, L_0, L_1, L_2, L_3, L_4, L_5, L_6, L_7, L_8, L_9, L_10, L_11, L_12, L_13, L_20, L_24, L_26, L_30, L_31, L_32, L_39, L_40, L_48, L_57, L_76, L_80, L_90, L_91, L_97, L_99, L_100, L_255, L_273, L_1000, L_2000, q_ld, q_ldL, q_sto, q_stoL, q_add, q_sub, q_mul, q_dec, q_rem, q_div, q_lt_t, q_lt_f, q_le_t, q_le_f, q_eq_t, q_eq_f, q_em, q_me, q_ml, q_lm, q_mle, q_lem, q_s1, q_s1o, q_s1k, q_s12, q_s2, q_s2o, q_s2k, q_s21, Nat.add_sub_cancel, q_or, q_and, q_shl, true_or, or_true, false_or, or_false, true_and, and_true, false_and, and_false, not_true_eq_false, not_false_eq_true, ne_eq, z40, v1, l_0, ec, gM_EachAddsALineModel_when_91]
  · rintro f z ⟨g1, g2⟩
    refine ⟨z, ?_, g2⟩
    show gM_EachAddsALineModel_when_46 N (f + 1) (nI u) (nI v) (nI (min 100 y)) (ls (min 100 y)) (nI 100) z = _
    rw [show min 100 y = y by omega, gM_EachAddsALineModel_when_46]
    by_cases c : y = 0
    · rw [if_pos c]
      simp (disch := omega) only [Option.bind_some, ↓reduceIte, ↓M_1, ↓M_2, L_0, L_1, L_2, L_3, L_4, L_5, L_6, L_7, L_8, L_9, L_10, L_11, L_12, L_13, L_20, L_24, L_26, L_30, L_31, L_32, L_39, L_40, L_48, L_57, L_76, L_80, L_90, L_91, L_97, L_99, L_100, L_255, L_273, L_1000, L_2000, q_ld, q_ldL, q_sto, q_stoL, q_add, q_sub, q_mul, q_dec, q_rem, q_div, q_lt_t, q_lt_f, q_le_t, q_le_f, q_eq_t, q_eq_f, q_em, q_me, q_ml, q_lm, q_mle, q_lem, q_s1, q_s1o, q_s1k, q_s12, q_s2, q_s2o, q_s2k, q_s21, Nat.add_sub_cancel, q_or, q_and, q_shl, true_or, or_true, false_or, or_false, true_and, and_true, false_and, and_false, not_true_eq_false, not_false_eq_true, ne_eq, c]
    · rw [if_neg c]
      simp (disch := omega) only [Option.bind_some, ↓reduceIte, ↓M_1, ↓M_2, L_0, L_1, L_2, L_3, L_4, L_5, L_6, L_7, L_8, L_9, L_10, L_11, L_12, L_13, L_20, L_24, L_26, L_30, L_31, L_32, L_39, L_40, L_48, L_57, L_76, L_80, L_90, L_91, L_97, L_99, L_100, L_255, L_273, L_1000, L_2000, q_ld, q_ldL, q_sto, q_stoL, q_add, q_sub, q_mul, q_dec, q_rem, q_div, q_lt_t, q_lt_f, q_le_t, q_le_f, q_eq_t, q_eq_f, q_em, q_me, q_ml, q_lm, q_mle, q_lem, q_s1, q_s1o, q_s1k, q_s12, q_s2, q_s2o, q_s2k, q_s21, Nat.add_sub_cancel, q_or, q_and, q_shl, true_or, or_true, false_or, or_false, true_and, and_true, false_and, and_false, not_true_eq_false, not_false_eq_true, ne_eq, (g2.last (N := N) hy (by omega)).1]
theorem M_copies (h : MW w t) (hN : 200 ≤ N) (hU : UM N q x C t) (hT : MT 0 n ta t) (hT2 : MT 12 n' tb t) (hn0 : 0 < n) (hn0' : 0 < n') (h40 : t.1 0 40 = nI n) (h41 : t.1 0 41 = nI n') (h35 : t.1 0 35 = gI 100) (h37 : t.1 0 37 = gI 100) (hu : u < w 5 0) (hv : v < w 5 0) (hv' : v' < w 5 0) (he : ta 0 = tb 0) (hy : y ≤ 100) (hyc : ∀ r, r < 100 → (r < y ↔ (0 < CF w C ta n u v r 100 ∧ 0 < CF w C tb n' u v' r 100))) :
    ∃ z, gM_EachAddsALineModel_copies_62 N N (nI u) (nI v) (nI v') (nI 0) (mI 1) (nI 0) (s1 t 0 10 (nI 0)) = some (nI y, if y = 0 then z else s1 (s1 z 7 1 (ls y)) 0 10 (nI 2)) ∧ HT y 100 t z := by
  have hb := h.bd
  have e0 : gM_EachAddsALineModel_copies_62 N N (nI u) (nI v) (nI v') (nI 0) (mI 1) (nI 0) (s1 t 0 10 (nI 0)) = gM_EachAddsALineModel_copies_62 N N (nI u) (nI v) (nI v') (nI (min 0 y)) (ls (min 0 y)) (nI 0) (s1 t 0 10 (nI 0)) := by rw [show min 0 y = 0 by omega, ls_0]
  rw [e0]
  refine loopU (fun f i z => gM_EachAddsALineModel_copies_62 N f (nI u) (nI v) (nI v') (nI (min i y)) (ls (min i y)) (nI i) z) 100 (fun i z => i ≤ 100 ∧ HT y i t z) (fun o => ∃ z, o = some (nI y, if y = 0 then z else s1 (s1 z 7 1 (ls y)) 0 10 (nI 2)) ∧ HT y 100 t z) ?_ ?_ 100 N 0 _ (by omega) (by omega) ⟨by omega, Fm.w10 (by decide), by rw [q_s1, if_pos (by omega)], fun z => by omega⟩
  · rintro f i z hi ⟨g1, g2⟩
    have fz := g2.1
    have hz : MW w z := h.fm fz (by decide) (by decide)
    have z40 : z.1 0 40 = nI n := (fz.2.2 40 (by decide)).trans h40
    have hTz := hT.fm fz (by decide)
    have hT2z := hT2.fm fz (by decide)
    have r0 := (hTz.2 0 hn0).2
    have r12 := (hT2z.2 0 hn0').2
    rw [Nat.zero_add] at r0
    rw [Nat.add_zero] at r12
    rw [← he] at r12
    obtain ⟨z', v1, v2, _⟩ := M_countFits (N := N) (no := 100) (r := i) (u := u) (v := v) hz (by omega) (hU.fm fz (by decide) (by decide)) hTz (by omega) hn0 ((fz.2.2 35 (by decide)).trans h35) ((fz.2.2 37 (by decide)).trans h37) (by omega) hu hv (by omega)
    have f2 := fz.tr (v2.mono (L' := [7, 11]) (K' := [17]) (F' := [10, 12, 13, 14, 15, 16, 19, 20, 21, 22, 23, 24, 25, 26, 30]) (by decide) (by decide) (by decide))
    have z41 : z'.1 0 41 = nI n' := (f2.2.2 41 (by decide)).trans h41
    obtain ⟨z2, w1, w2, _⟩ := M_countFits (N := N) (no := 100) (r := i) (u := u) (v := v') (ta := tb) (n := n') (h.fm f2 (by decide) (by decide)) (by omega) (hU.fm f2 (by decide) (by decide)) (hT2.fm f2 (by decide)) (by omega) hn0' ((f2.2.2 35 (by decide)).trans h35) ((f2.2.2 37 (by decide)).trans h37) (by omega) hu hv' (by omega)
    have v22 := v2.tr w2
    have hA := CF_lt (C := C) (ta := ta) (n := n) (u := u) (v := v) (r := i) (no := 100) h.ok hT.1
    have hB := CF_lt (C := C) (ta := tb) (n := n') (u := u) (v := v') (r := i) (no := 100) h.ok hT2.1
    have ec := cmpL (a := CF w C ta n u v i 100) (b := 0) (Nat.lt_trans hA (by decide)) (by decide)
    have ed := cmpL (a := CF w C tb n' u v' i 100) (b := 0) (Nat.lt_trans hB (by decide)) (by decide)
    by_cases c : i < y
    · have hp := (hyc i (by omega)).mp c
      rw [eq_false (show ¬ CF w C ta n u v i 100 = 0 by omega)] at ec
      rw [eq_false (show ¬ CF w C tb n' u v' i 100 = 0 by omega)] at ed
      by_cases ci : i = 0
      · subst ci
        obtain ⟨t1, t2⟩ := g2.first (N := N) c v22
        refine Or.inl ⟨_, ?_, by omega, t2⟩
        show gM_EachAddsALineModel_copies_62 N (f + 1) (nI u) (nI v) (nI v') (nI (min 0 y)) (ls (min 0 y)) (nI 0) z = gM_EachAddsALineModel_copies_62 N f (nI u) (nI v) (nI v') (nI (min (0 + 1) y)) (ls (min (0 + 1) y)) (nI (0 + 1)) _
        rw [show min 0 y = 0 by omega, show min (0 + 1) y = 0 + 1 by omega, ls_s, gM_EachAddsALineModel_copies_62]
        simp (disch := omega) only [Option.bind_some, ↓reduceIte, ↓M_1, ↓M_2, L_0, L_1, L_2, L_3, L_4, L_5, L_6, L_7, L_8, L_9, L_10, L_11, L_12, L_13, L_20, L_24, L_26, L_30, L_31, L_32, L_39, L_40, L_48, L_57, L_76, L_80, L_90, L_91, L_97, L_99, L_100, L_255, L_273, L_1000, L_2000, q_ld, q_ldL, q_sto, q_stoL, q_add, q_sub, q_mul, q_dec, q_rem, q_div, q_lt_t, q_lt_f, q_le_t, q_le_f, q_eq_t, q_eq_f, q_em, q_me, q_ml, q_lm, q_mle, q_lem, q_s1, q_s1o, q_s1k, q_s12, q_s2, q_s2o, q_s2k, q_s21, Nat.add_sub_cancel, q_or, q_and, q_shl, true_or, or_true, false_or, or_false, true_and, and_true, false_and, and_false, not_true_eq_false, not_false_eq_true, ne_eq, z40, r0, r12, v1, l_0, ec, z41, w1, ed, t1, gM_EachAddsALineModel_copies_136, gM_EachAddsALineModel_copies_143]
      · refine Or.inl ⟨z2, ?_, by omega, g2.next c (by omega) v22⟩
        show gM_EachAddsALineModel_copies_62 N (f + 1) (nI u) (nI v) (nI v') (nI (min i y)) (ls (min i y)) (nI i) z = gM_EachAddsALineModel_copies_62 N f (nI u) (nI v) (nI v') (nI (min (i + 1) y)) (ls (min (i + 1) y)) (nI (i + 1)) z2
        rw [show min i y = i by omega, show min (i + 1) y = i + 1 by omega, ls_s, gM_EachAddsALineModel_copies_62]
        simp (disch := omega) only [Option.bind_some, ↓reduceIte, ↓M_1, ↓M_2, L_0, L_1, L_2, L_3, L_4, L_5, L_6, L_7, L_8, L_9, L_10, L_11, L_12, L_13, L_20, L_24, L_26, L_30, L_31, L_32, L_39, L_40, L_48, L_57, L_76, L_80, L_90, L_91, L_97, L_99, L_100, L_255, L_273, L_1000, L_2000, q_ld, q_ldL, q_sto, q_stoL, q_add, q_sub, q_mul, q_dec, q_rem, q_div, q_lt_t, q_lt_f, q_le_t, q_le_f, q_eq_t, q_eq_f, q_em, q_me, q_ml, q_lm, q_mle, q_lem, q_s1, q_s1o, q_s1k, q_s12, q_s2, q_s2o, q_s2k, q_s21, Nat.add_sub_cancel, q_or, q_and, q_shl, true_or, or_true, false_or, or_false, true_and, and_true, false_and, and_false, not_true_eq_false, not_false_eq_true, ne_eq, z40, r0, r12, v1, l_0, ec, z41, w1, ed, gM_EachAddsALineModel_copies_136, gM_EachAddsALineModel_copies_143]
    · have hp : CF w C ta n u v i 100 = 0 ∨ CF w C tb n' u v' i 100 = 0 := by
        have := hyc i (by omega)
        omega
      by_cases cA : CF w C ta n u v i 100 = 0
      · rw [eq_true cA] at ec
        refine Or.inl ⟨z', ?_, by omega, g2.skip (by omega) v2⟩
        show gM_EachAddsALineModel_copies_62 N (f + 1) (nI u) (nI v) (nI v') (nI (min i y)) (ls (min i y)) (nI i) z = gM_EachAddsALineModel_copies_62 N f (nI u) (nI v) (nI v') (nI (min (i + 1) y)) (ls (min (i + 1) y)) (nI (i + 1)) z'
        rw [show min i y = y by omega, show min (i + 1) y = y by omega, gM_EachAddsALineModel_copies_62]
        simp (disch := omega) only [Option.bind_some, ↓reduceIte, ↓M_1, ↓M_2, L_0, L_1, L_2, L_3, L_4, L_5, L_6, L_7, L_8, L_9, L_10, L_11, L_12, L_13, L_20, L_24, L_26, L_30, L_31, L_32, L_39, L_40, L_48, L_57, L_76, L_80, L_90, L_91, L_97, L_99, L_100, L_255, L_273, L_1000, L_2000, q_ld, q_ldL, q_sto, q_stoL, q_add, q_sub, q_mul, q_dec, q_rem, q_div, q_lt_t, q_lt_f, q_le_t, q_le_f, q_eq_t, q_eq_f, q_em, q_me, q_ml, q_lm, q_mle, q_lem, q_s1, q_s1o, q_s1k, q_s12, q_s2, q_s2o, q_s2k, q_s21, Nat.add_sub_cancel, q_or, q_and, q_shl, true_or, or_true, false_or, or_false, true_and, and_true, false_and, and_false, not_true_eq_false, not_false_eq_true, ne_eq, z40, r0, r12, v1, l_0, ec, gM_EachAddsALineModel_copies_143]
      · rw [eq_false cA] at ec
        rw [eq_true (hp.resolve_left cA)] at ed
        refine Or.inl ⟨z2, ?_, by omega, g2.skip (by omega) v22⟩
        show gM_EachAddsALineModel_copies_62 N (f + 1) (nI u) (nI v) (nI v') (nI (min i y)) (ls (min i y)) (nI i) z = gM_EachAddsALineModel_copies_62 N f (nI u) (nI v) (nI v') (nI (min (i + 1) y)) (ls (min (i + 1) y)) (nI (i + 1)) z2
        rw [show min i y = y by omega, show min (i + 1) y = y by omega, gM_EachAddsALineModel_copies_62]
        simp (disch := omega) only [Option.bind_some, ↓reduceIte, ↓M_1, ↓M_2, L_0, L_1, L_2, L_3, L_4, L_5, L_6, L_7, L_8, L_9, L_10, L_11, L_12, L_13, L_20, L_24, L_26, L_30, L_31, L_32, L_39, L_40, L_48, L_57, L_76, L_80, L_90, L_91, L_97, L_99, L_100, L_255, L_273, L_1000, L_2000, q_ld, q_ldL, q_sto, q_stoL, q_add, q_sub, q_mul, q_dec, q_rem, q_div, q_lt_t, q_lt_f, q_le_t, q_le_f, q_eq_t, q_eq_f, q_em, q_me, q_ml, q_lm, q_mle, q_lem, q_s1, q_s1o, q_s1k, q_s12, q_s2, q_s2o, q_s2k, q_s21, Nat.add_sub_cancel, q_or, q_and, q_shl, true_or, or_true, false_or, or_false, true_and, and_true, false_and, and_false, not_true_eq_false, not_false_eq_true, ne_eq, z40, r0, r12, v1, l_0, ec, z41, w1, ed, gM_EachAddsALineModel_copies_143]
  · rintro f z ⟨g1, g2⟩
    refine ⟨z, ?_, g2⟩
    show gM_EachAddsALineModel_copies_62 N (f + 1) (nI u) (nI v) (nI v') (nI (min 100 y)) (ls (min 100 y)) (nI 100) z = _
    rw [show min 100 y = y by omega, gM_EachAddsALineModel_copies_62]
    by_cases c : y = 0
    · rw [if_pos c]
      simp (disch := omega) only [Option.bind_some, ↓reduceIte, ↓M_1, ↓M_2, L_0, L_1, L_2, L_3, L_4, L_5, L_6, L_7, L_8, L_9, L_10, L_11, L_12, L_13, L_20, L_24, L_26, L_30, L_31, L_32, L_39, L_40, L_48, L_57, L_76, L_80, L_90, L_91, L_97, L_99, L_100, L_255, L_273, L_1000, L_2000, q_ld, q_ldL, q_sto, q_stoL, q_add, q_sub, q_mul, q_dec, q_rem, q_div, q_lt_t, q_lt_f, q_le_t, q_le_f, q_eq_t, q_eq_f, q_em, q_me, q_ml, q_lm, q_mle, q_lem, q_s1, q_s1o, q_s1k, q_s12, q_s2, q_s2o, q_s2k, q_s21, Nat.add_sub_cancel, q_or, q_and, q_shl, true_or, or_true, false_or, or_false, true_and, and_true, false_and, and_false, not_true_eq_false, not_false_eq_true, ne_eq, c, gM_EachAddsALineModel_copies_149]
    · rw [if_neg c]
      simp (disch := omega) only [Option.bind_some, ↓reduceIte, ↓M_1, ↓M_2, L_0, L_1, L_2, L_3, L_4, L_5, L_6, L_7, L_8, L_9, L_10, L_11, L_12, L_13, L_20, L_24, L_26, L_30, L_31, L_32, L_39, L_40, L_48, L_57, L_76, L_80, L_90, L_91, L_97, L_99, L_100, L_255, L_273, L_1000, L_2000, q_ld, q_ldL, q_sto, q_stoL, q_add, q_sub, q_mul, q_dec, q_rem, q_div, q_lt_t, q_lt_f, q_le_t, q_le_f, q_eq_t, q_eq_f, q_em, q_me, q_ml, q_lm, q_mle, q_lem, q_s1, q_s1o, q_s1k, q_s12, q_s2, q_s2o, q_s2k, q_s21, Nat.add_sub_cancel, q_or, q_and, q_shl, true_or, or_true, false_or, or_false, true_and, and_true, false_and, and_false, not_true_eq_false, not_false_eq_true, ne_eq, (g2.last (N := N) hy (by omega)).1, gM_EachAddsALineModel_copies_149]
end HO
