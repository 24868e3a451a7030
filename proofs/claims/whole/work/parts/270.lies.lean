/-! tales: the fewest lines that are false -/
def lw (w : Nat → Nat → Nat) (T : Nat → Nat) (u r n : Nat) : Nat := fz (fun o x => if beg w u r o then min x (T o) else x) 1000000 n
def fl (w : Nat → Nat → Nat) (C : List Nat) (ta : Nat → Nat) (k a : Nat) : Nat := if SO w C ta k a then 0 else 1
def LV (w : Nat → Nat → Nat) (C : List Nat) (ta : Nat → Nat) (n v : Nat) : Nat → Nat → Nat
  | 0 => fun a => min 1000000 ((if gt w a = v then 0 else 1000000) + fl w C ta (n - 1) a)
  | j + 1 => fun a => min 1000000 (lw w (LV w C ta n v j) (gt w a) (rd w a) (2 * w 5 1) + fl w C ta (n - 2 - j) a)
def LT (w : Nat → Nat → Nat) (C : List Nat) (ta : Nat → Nat) (n v k a : Nat) : Nat := LV w C ta n v (n - 1 - k) a
/-- without the step's own line -/
def LB (w : Nat → Nat → Nat) (C : List Nat) (ta : Nat → Nat) (n v k a : Nat) : Nat := if k + 1 = n then (if gt w a = v then 0 else 1000000) else lw w (LT w C ta n v (k + 1)) (gt w a) (rd w a) (2 * w 5 1)
def cv (x : Nat) : Nat := if x < 1000000 then x else 1048576
theorem cv_lt {x : Nat} (h : x < 1000000) : cv x = x := if_pos h
theorem cv_no {x : Nat} (h : ¬ x < 1000000) : cv x = 1048576 := if_neg h
theorem cv_le (x : Nat) : cv x ≤ 1048576 := by unfold cv; split <;> omega
theorem cv_min (x y : Nat) : min (cv x) (cv y) = cv (min x y) := by
  unfold cv
  by_cases a : x < 1000000
  · by_cases b : y < 1000000
    · rw [if_pos a, if_pos b, if_pos (by omega)]
    · rw [if_pos a, if_neg b, if_pos (by omega)]; omega
  · by_cases b : y < 1000000
    · rw [if_neg a, if_pos b, if_pos (by omega)]; omega
    · rw [if_neg a, if_neg b, if_neg (by omega)]; omega
section LW
variable {w : Nat → Nat → Nat} {C : List Nat} {ta T : Nat → Nat} {n u v r k a : Nat}
theorem lw_0 : lw w T u r 0 = 1000000 := rfl
theorem lw_s (m : Nat) : lw w T u r (m + 1) = if beg w u r m then min (lw w T u r m) (T m) else lw w T u r m := rfl
theorem lw_le (m : Nat) : lw w T u r m ≤ 1000000 := fz_min_le _ (fun s x => by split <;> omega) _ _
theorem lw_ub : ∀ {m o : Nat}, o < m → beg w u r o → lw w T u r m ≤ T o := by
  intro m
  induction m with
  | zero => intro o ho; omega
  | succ m ih =>
    intro o ho hb
    rw [lw_s]
    by_cases d : o = m
    · subst d
      rw [if_pos hb]; omega
    · have := ih (show o < m by omega) hb
      split <;> omega
theorem lw_att : ∀ m, lw w T u r m = 1000000 ∨ ∃ o, o < m ∧ beg w u r o ∧ lw w T u r m = T o := by
  intro m
  induction m with
  | zero => exact Or.inl lw_0
  | succ m ih =>
    rw [lw_s]
    by_cases c : beg w u r m
    · rw [if_pos c]
      by_cases d : T m ≤ lw w T u r m
      · exact Or.inr ⟨m, by omega, c, by omega⟩
      · rcases ih with e | ⟨o, o1, o2, o3⟩
        · exact Or.inl (by omega)
        · exact Or.inr ⟨o, by omega, o2, by omega⟩
    · rw [if_neg c]
      rcases ih with e | ⟨o, o1, o2, o3⟩
      · exact Or.inl e
      · exact Or.inr ⟨o, by omega, o2, o3⟩
theorem lw_hop (h : okW w) (T : Nat → Nat) (u r : Nat) {m : Nat} (hm : m < w 5 1) : lw w T u r (2 * (m + 1)) = if (w 1 m = u ∨ w 2 m = u) ∧ beg w u r (ix w m u) then min (lw w T u r (2 * m)) (T (ix w m u)) else lw w T u r (2 * m) := by
  have e : lw w T u r (2 * (m + 1)) = if beg w u r (2 * m + 1) then min (lw w T u r (2 * m + 1)) (T (2 * m + 1)) else lw w T u r (2 * m + 1) := lw_s (2 * m + 1)
  rw [e, lw_s]
  have h12 := (h.2.2.2 m hm).2.2.1
  have g0 := gv_0 w m
  have g1 := gv_1 w m
  have r0 := hr_0 w m
  have r1 := hr_1 w m
  unfold ix
  by_cases c : w 1 m = u
  · have n1 : ¬ beg w u r (2 * m + 1) := fun z => h12 (by rw [c, ← z.1, g1])
    rw [if_neg n1, if_pos c]
    by_cases d : beg w u r (2 * m)
    · rw [if_pos d, if_pos ⟨Or.inl c, d⟩]
    · rw [if_neg d, if_neg (fun z => d z.2)]
  · have n0 : ¬ beg w u r (2 * m) := fun z => c (by rw [← z.1, g0])
    rw [if_neg n0, if_neg c]
    by_cases d : beg w u r (2 * m + 1)
    · rw [if_pos d, if_pos ⟨Or.inr (by rw [← d.1, g1]), d⟩]
    · rw [if_neg d, if_neg (fun z => d z.2)]
theorem fl_le : fl w C ta k a ≤ 1 := by unfold fl; split <;> omega
theorem LT_eq (hk : k < n) : LT w C ta n v k a = min 1000000 (LB w C ta n v k a + fl w C ta k a) := by
  unfold LT LB
  by_cases c : k + 1 = n
  · rw [if_pos c, show n - 1 - k = 0 by omega, show k = n - 1 by omega]
    rfl
  · rw [if_neg c, show n - 1 - k = (n - 1 - (k + 1)) + 1 by omega]
    have e : n - 2 - (n - 1 - (k + 1)) = k := by omega
    show min 1000000 (lw w (LV w C ta n v (n - 1 - (k + 1))) (gt w a) (rd w a) (2 * w 5 1) + fl w C ta (n - 2 - (n - 1 - (k + 1))) a) = _
    rw [e]
    rfl
theorem LB_le (hk : k < n) : LB w C ta n v k a ≤ 1000000 := by
  unfold LB
  split
  · split <;> omega
  · exact lw_le _
theorem LT_le (hk : k < n) : LT w C ta n v k a ≤ 1000000 := by rw [LT_eq hk]; omega
/-- few, or none -/
theorem LT_bd : ∀ j k a, k < n → n - 1 - k = j → LT w C ta n v k a = 1000000 ∨ LT w C ta n v k a ≤ n - k := by
  intro j
  induction j with
  | zero =>
    intro k a hk hj
    have hf := fl_le (w := w) (C := C) (ta := ta) (k := k) (a := a)
    rw [LT_eq hk]
    unfold LB
    rw [if_pos (by omega)]
    split <;> omega
  | succ j ih =>
    intro k a hk hj
    have hf := fl_le (w := w) (C := C) (ta := ta) (k := k) (a := a)
    rw [LT_eq hk]
    unfold LB
    rw [if_neg (by omega)]
    rcases lw_att (w := w) (T := LT w C ta n v (k + 1)) (u := gt w a) (r := rd w a) (2 * w 5 1) with e | ⟨o, o1, o2, o3⟩
    · left; omega
    · rw [o3]
      rcases ih (k + 1) o (by omega) (by omega) with y | y <;> omega
theorem LB_bd (hk : k < n) : LB w C ta n v k a = 1000000 ∨ LB w C ta n v k a + 1 ≤ n - k := by
  unfold LB
  by_cases c : k + 1 = n
  · rw [if_pos c]
    split <;> omega
  · rw [if_neg c]
    rcases lw_att (w := w) (T := LT w C ta n v (k + 1)) (u := gt w a) (r := rd w a) (2 * w 5 1) with e | ⟨o, o1, o2, o3⟩
    · exact Or.inl e
    · rw [o3]
      rcases LT_bd (w := w) (C := C) (ta := ta) (v := v) _ (k + 1) o (show k + 1 < n by omega) rfl with y | y <;> omega
/-- the way: left behind j steps -/
abbrev vL (w : Nat → Nat → Nat) (C : List Nat) (ta : Nat → Nat) (n v : Nat) : Nat → Nat → Nat → Bool := fun j left o => decide (LT w C ta n v (j + 1) o = left)
abbrev xL (w : Nat → Nat → Nat) (C : List Nat) (ta : Nat → Nat) (n v u k : Nat) : Nat → Nat × Nat := trS w u k (vL w C ta n v) (fun j a => fl w C ta (j + 1) a) (lw w (LT w C ta n v 1) u k (2 * w 5 1))
abbrev qL (w : Nat → Nat → Nat) (C : List Nat) (ta : Nat → Nat) (n v u k : Nat) : Nat → Nat := trQ w u k (vL w C ta n v) (fun j a => fl w C ta (j + 1) a) (lw w (LT w C ta n v 1) u k (2 * w 5 1))
theorem xL_0 : xL w C ta n v u k 0 = (100, lw w (LT w C ta n v 1) u k (2 * w 5 1)) := rfl
theorem xL_s (j : Nat) : xL w C ta n v u k (j + 1) = (qL w C ta n v u k j, (xL w C ta n v u k j).2 - fl w C ta (j + 1) (qL w C ta n v u k j)) := rfl
theorem qL_d (j : Nat) : qL w C ta n v u k j = fst1 (trP w u k (vL w C ta n v) j (xL w C ta n v u k j)) (2 * w 5 1) := rfl
theorem qL_ok (h : okW w) (hn : 1 < n) (hp : lw w (LT w C ta n v 1) u k (2 * w 5 1) < 1000000) : ∀ j, j + 1 < n → qL w C ta n v u k j < 2 * w 5 1 ∧ LT w C ta n v (j + 1) (qL w C ta n v u k j) = (xL w C ta n v u k j).2 ∧ (xL w C ta n v u k j).2 < 1000000 := by
  have hM := h.2.1
  have fin : ∀ j o, o < 2 * w 5 1 → trP w u k (vL w C ta n v) j (xL w C ta n v u k j) o = true → (xL w C ta n v u k j).2 < 1000000 → qL w C ta n v u k j < 2 * w 5 1 ∧ LT w C ta n v (j + 1) (qL w C ta n v u k j) = (xL w C ta n v u k j).2 ∧ (xL w C ta n v u k j).2 < 1000000 := fun j o ho hp hl => by
    have hq := fst1_ex ho hp
    have ht := fst1_lt hq
    refine ⟨hq, ?_, hl⟩
    rw [trP_eq, Bool.and_eq_true] at ht
    exact of_decide_eq_true ht.2
  intro j
  induction j with
  | zero =>
    intro hj
    rcases lw_att (w := w) (T := LT w C ta n v 1) (u := u) (r := k) (2 * w 5 1) with e | ⟨o, o1, o2, o3⟩
    · omega
    · refine fin 0 o o1 ?_ hp
      rw [trP_eq, Bool.and_eq_true, xL_0, if_pos rfl]
      exact ⟨decide_eq_true o2, decide_eq_true o3.symm⟩
  | succ j ih =>
    intro hj
    obtain ⟨i1, i2, i3⟩ := ih (by omega)
    rw [LT_eq (by omega)] at i2
    have hl : lw w (LT w C ta n v (j + 1 + 1)) (gt w (qL w C ta n v u k j)) (rd w (qL w C ta n v u k j)) (2 * w 5 1) = (xL w C ta n v u k (j + 1)).2 := by
      rw [xL_s]
      show _ = (xL w C ta n v u k j).2 - fl w C ta (j + 1) (qL w C ta n v u k j)
      unfold LB at i2
      rw [if_neg (by omega)] at i2
      omega
    have hl2 : (xL w C ta n v u k (j + 1)).2 < 1000000 := by
      rw [xL_s]
      show (xL w C ta n v u k j).2 - fl w C ta (j + 1) (qL w C ta n v u k j) < 1000000
      omega
    rcases lw_att (w := w) (T := LT w C ta n v (j + 1 + 1)) (u := gt w (qL w C ta n v u k j)) (r := rd w (qL w C ta n v u k j)) (2 * w 5 1) with e | ⟨o, o1, o2, o3⟩
    · omega
    · refine fin (j + 1) o o1 ?_ hl2
      rw [trP_eq, Bool.and_eq_true]
      refine ⟨?_, decide_eq_true (o3.symm.trans hl)⟩
      show (if qL w C ta n v u k j = 100 then decide (beg w u k o) else decide (fol w o (qL w C ta n v u k j))) = true
      rw [if_neg (show ¬ qL w C ta n v u k j = 100 by omega)]
      exact decide_eq_true o2
end LW
section LM
variable {N : Nat} {w : Nat → Nat → Nat} {C : List Nat} {x ta G : Nat → Nat} {n u v r k a q : Nat} {t : vSt}
theorem M_l170 (R : Int32 → Int32 → Int32 → Int32 → Int32 → vSt → Option (Int32 × vSt)) {a1 a2 a3 : Int32} {b : Nat} (h : MW w t) (hN : 100 ≤ N) (hU : UM N q x C t) (hT : MT 0 n ta t) (hk : 0 < k ∧ k < n) (ha : a < 2 * w 5 1) (hb1 : b ≤ 1000000) :
    ∃ z, gM_EachAddsALineModel_lies_170 N R a1 a2 a3 (nI k) (nI a) (nI b) t = R a1 a2 a3 (nI k) (nI (a + 1)) z ∧ Fm [19] [] [12, 13, 14, 15, 16, 19, 20, 21, 22, 23, 24, 25, 26] t z ∧ z.1 19 (40 * k + a) = nI (min 1000000 (b + fl w C ta k a)) ∧ ∀ j, ¬ j = 40 * k + a → z.1 19 j = t.1 19 j := by
  have hb := h.bd
  have hn := hT.1
  have hk2 := hk.2
  obtain ⟨y, y1, y2, _⟩ := M_isSo (N := N) hN h hU hT (by omega) ha hk
  refine ⟨s1 y 19 (40 * k + a) (nI (min 1000000 (b + fl w C ta k a))), ?_, (y2.mono (by decide) (by decide) (by decide)).tr (Fm.w1 (by decide) (by decide)), q_s1 _ _ _ _, fun j hj => by rw [q_s1k (by omega), y2.1 19 (by decide) (by decide)]⟩
  unfold fl
  by_cases c : SO w C ta k a
  · rw [if_pos c] at y1 ⊢
    simp (disch := omega) only [Option.bind_some, ↓reduceIte, ↓M_1, ↓M_2, L_0, L_1, L_2, L_3, L_4, L_5, L_6, L_7, L_8, L_9, L_10, L_11, L_12, L_13, L_20, L_24, L_26, L_30, L_31, L_32, L_39, L_40, L_48, L_57, L_76, L_80, L_90, L_91, L_97, L_99, L_100, L_255, L_273, L_1000, L_2000, q_ld, q_ldL, q_sto, q_stoL, q_add, q_sub, q_mul, q_dec, q_rem, q_div, q_lt_t, q_lt_f, q_le_t, q_le_f, q_eq_t, q_eq_f, q_em, q_me, q_ml, q_lm, q_mle, q_lem, q_s1, q_s1o, q_s1k, q_s12, q_s2, q_s2o, q_s2k, q_s21, Nat.add_sub_cancel, q_or, q_and, q_shl, true_or, or_true, false_or, or_false, true_and, and_true, false_and, and_false, not_true_eq_false, not_false_eq_true, ne_eq, gM_EachAddsALineModel_lies_170, y1, gM_EachAddsALineModel_lies_203, L_1000000, q_min]
  · rw [if_neg c] at y1 ⊢
    simp (disch := omega) only [Option.bind_some, ↓reduceIte, ↓M_1, ↓M_2, L_0, L_1, L_2, L_3, L_4, L_5, L_6, L_7, L_8, L_9, L_10, L_11, L_12, L_13, L_20, L_24, L_26, L_30, L_31, L_32, L_39, L_40, L_48, L_57, L_76, L_80, L_90, L_91, L_97, L_99, L_100, L_255, L_273, L_1000, L_2000, q_ld, q_ldL, q_sto, q_stoL, q_add, q_sub, q_mul, q_dec, q_rem, q_div, q_lt_t, q_lt_f, q_le_t, q_le_f, q_eq_t, q_eq_f, q_em, q_me, q_ml, q_lm, q_mle, q_lem, q_s1, q_s1o, q_s1k, q_s12, q_s2, q_s2o, q_s2k, q_s21, Nat.add_sub_cancel, q_or, q_and, q_shl, true_or, or_true, false_or, or_false, true_and, and_true, false_and, and_false, not_true_eq_false, not_false_eq_true, ne_eq, gM_EachAddsALineModel_lies_170, y1, gM_EachAddsALineModel_lies_203, L_1000000, q_min]
theorem M_l111 (R : Int32 → Int32 → Int32 → Int32 → Int32 → vSt → Option (Int32 × vSt)) {a1 a2 a3 : Int32} {b : Nat} (h : MW w t) (hN : 100 ≤ N) (hn : n ≤ 12) (hk : 0 < k ∧ k < n) (ha : a < 2 * w 5 1) (h30 : t.1 0 30 = nI (2 * w 5 1)) (h40 : t.1 0 40 = nI n) (hG : k + 1 < n → ∀ o, o < 2 * w 5 1 → t.1 19 (40 * (k + 1) + o) = nI (G o) ∧ G o ≤ 1000000) (hb1 : b = if k + 1 = n then b else 1000000) :
    gM_EachAddsALineModel_lies_111 N R N a1 a2 a3 (nI k) (nI a) (nI b) (nI 0) t = gM_EachAddsALineModel_lies_170 N R a1 a2 a3 (nI k) (nI a) (nI (if k + 1 = n then b else lw w G (gt w a) (rd w a) (2 * w 5 1))) t := by
  have hb := h.bd
  have hk2 := hk.2
  by_cases c : k + 1 = n
  · rw [if_pos c]
    obtain ⟨m, hm⟩ : ∃ m, N = m + 1 := ⟨N - 1, by omega⟩
    have e : gM_EachAddsALineModel_lies_111 N R N a1 a2 a3 (nI k) (nI a) (nI b) (nI 0) t = gM_EachAddsALineModel_lies_111 N R (m + 1) a1 a2 a3 (nI k) (nI a) (nI b) (nI 0) t := by rw [← hm]
    rw [e, gM_EachAddsALineModel_lies_111]
    simp (disch := omega) only [Option.bind_some, ↓reduceIte, ↓M_1, ↓M_2, L_0, L_1, L_2, L_3, L_4, L_5, L_6, L_7, L_8, L_9, L_10, L_11, L_12, L_13, L_20, L_24, L_26, L_30, L_31, L_32, L_39, L_40, L_48, L_57, L_76, L_80, L_90, L_91, L_97, L_99, L_100, L_255, L_273, L_1000, L_2000, q_ld, q_ldL, q_sto, q_stoL, q_add, q_sub, q_mul, q_dec, q_rem, q_div, q_lt_t, q_lt_f, q_le_t, q_le_f, q_eq_t, q_eq_f, q_em, q_me, q_ml, q_lm, q_mle, q_lem, q_s1, q_s1o, q_s1k, q_s12, q_s2, q_s2o, q_s2k, q_s21, Nat.add_sub_cancel, q_or, q_and, q_shl, true_or, or_true, false_or, or_false, true_and, and_true, false_and, and_false, not_true_eq_false, not_false_eq_true, ne_eq, h30, h40]
  · rw [if_neg c] at hb1 ⊢
    subst hb1
    refine loopS (fun f i (y : Nat) => gM_EachAddsALineModel_lies_111 N R f a1 a2 a3 (nI k) (nI a) (nI y) (nI i) t) (fun i => lw w G (gt w a) (rd w a) i) (2 * w 5 1) _ (fun f i hi => ?_) (fun f => ?_) N (by omega)
    · have ef := M_follows (N := N) h hi ha
      obtain ⟨e1, e2⟩ := hG (by omega) i hi
      have el := lw_le (w := w) (T := G) (u := gt w a) (r := rd w a) i
      show gM_EachAddsALineModel_lies_111 N R (f + 1) a1 a2 a3 (nI k) (nI a) (nI (lw w G (gt w a) (rd w a) i)) (nI i) t = gM_EachAddsALineModel_lies_111 N R f a1 a2 a3 (nI k) (nI a) (nI (lw w G (gt w a) (rd w a) (i + 1))) (nI (i + 1)) t
      rw [lw_s]
      generalize lw w G (gt w a) (rd w a) i = y at el
      rw [gM_EachAddsALineModel_lies_111]
      by_cases d : fol w i a
      · rw [if_pos d] at ef
        rw [if_pos (show beg w (gt w a) (rd w a) i from d)]
        simp (disch := omega) only [Option.bind_some, ↓reduceIte, ↓M_1, ↓M_2, L_0, L_1, L_2, L_3, L_4, L_5, L_6, L_7, L_8, L_9, L_10, L_11, L_12, L_13, L_20, L_24, L_26, L_30, L_31, L_32, L_39, L_40, L_48, L_57, L_76, L_80, L_90, L_91, L_97, L_99, L_100, L_255, L_273, L_1000, L_2000, q_ld, q_ldL, q_sto, q_stoL, q_add, q_sub, q_mul, q_dec, q_rem, q_div, q_lt_t, q_lt_f, q_le_t, q_le_f, q_eq_t, q_eq_f, q_em, q_me, q_ml, q_lm, q_mle, q_lem, q_s1, q_s1o, q_s1k, q_s12, q_s2, q_s2o, q_s2k, q_s21, Nat.add_sub_cancel, q_or, q_and, q_shl, true_or, or_true, false_or, or_false, true_and, and_true, false_and, and_false, not_true_eq_false, not_false_eq_true, ne_eq, h30, h40, ef, e1, q_min, gM_EachAddsALineModel_lies_164]
      · rw [if_neg d] at ef
        rw [if_neg (show ¬ beg w (gt w a) (rd w a) i from d)]
        simp (disch := omega) only [Option.bind_some, ↓reduceIte, ↓M_1, ↓M_2, L_0, L_1, L_2, L_3, L_4, L_5, L_6, L_7, L_8, L_9, L_10, L_11, L_12, L_13, L_20, L_24, L_26, L_30, L_31, L_32, L_39, L_40, L_48, L_57, L_76, L_80, L_90, L_91, L_97, L_99, L_100, L_255, L_273, L_1000, L_2000, q_ld, q_ldL, q_sto, q_stoL, q_add, q_sub, q_mul, q_dec, q_rem, q_div, q_lt_t, q_lt_f, q_le_t, q_le_f, q_eq_t, q_eq_f, q_em, q_me, q_ml, q_lm, q_mle, q_lem, q_s1, q_s1o, q_s1k, q_s12, q_s2, q_s2o, q_s2k, q_s21, Nat.add_sub_cancel, q_or, q_and, q_shl, true_or, or_true, false_or, or_false, true_and, and_true, false_and, and_false, not_true_eq_false, not_false_eq_true, ne_eq, h30, h40, ef, gM_EachAddsALineModel_lies_164]
    · show gM_EachAddsALineModel_lies_111 N R (f + 1) a1 a2 a3 (nI k) (nI a) (nI (lw w G (gt w a) (rd w a) (2 * w 5 1))) (nI (2 * w 5 1)) t = _
      rw [gM_EachAddsALineModel_lies_111]
      simp (disch := omega) only [Option.bind_some, ↓reduceIte, ↓M_1, ↓M_2, L_0, L_1, L_2, L_3, L_4, L_5, L_6, L_7, L_8, L_9, L_10, L_11, L_12, L_13, L_20, L_24, L_26, L_30, L_31, L_32, L_39, L_40, L_48, L_57, L_76, L_80, L_90, L_91, L_97, L_99, L_100, L_255, L_273, L_1000, L_2000, q_ld, q_ldL, q_sto, q_stoL, q_add, q_sub, q_mul, q_dec, q_rem, q_div, q_lt_t, q_lt_f, q_le_t, q_le_f, q_eq_t, q_eq_f, q_em, q_me, q_ml, q_lm, q_mle, q_lem, q_s1, q_s1o, q_s1k, q_s12, q_s2, q_s2o, q_s2k, q_s21, Nat.add_sub_cancel, q_or, q_and, q_shl, true_or, or_true, false_or, or_false, true_and, and_true, false_and, and_false, not_true_eq_false, not_false_eq_true, ne_eq, h30, h40]
abbrev MLt (w : Nat → Nat → Nat) (C : List Nat) (ta : Nat → Nat) (n v k : Nat) (t : vSt) : Prop := ∀ o, o < 2 * w 5 1 → t.1 19 (40 * k + o) = nI (LT w C ta n v k o)
theorem M_l70 (R : Int32 → Int32 → Int32 → Int32 → vSt → Option (Int32 × vSt)) {a1 a3 : Int32} (h : MW w t) (hN : 100 ≤ N) (hU : UM N q x C t) (hT : MT 0 n ta t) (hk : 0 < k ∧ k < n) (hv : v < w 5 0) (h30 : t.1 0 30 = nI (2 * w 5 1)) (h40 : t.1 0 40 = nI n) (hG : k + 1 < n → MLt w C ta n v (k + 1) t) :
    ∃ z, gM_EachAddsALineModel_lies_70 N R N a1 (nI v) a3 (nI k) (nI 0) t = R a1 (nI v) a3 (nI (k - 1)) z ∧ Fm [19] [] [12, 13, 14, 15, 16, 19, 20, 21, 22, 23, 24, 25, 26] t z ∧ MLt w C ta n v k z ∧ ∀ j, ¬ (40 * k ≤ j ∧ j < 40 * k + 40) → z.1 19 j = t.1 19 j := by
  have hb := h.bd
  have hn := hT.1
  have hk2 := hk.2
  refine loopU (fun f i z => gM_EachAddsALineModel_lies_70 N R f a1 (nI v) a3 (nI k) (nI i) z) (2 * w 5 1) (fun i z => i ≤ 2 * w 5 1 ∧ Fm [19] [] [12, 13, 14, 15, 16, 19, 20, 21, 22, 23, 24, 25, 26] t z ∧ (∀ o, o < i → z.1 19 (40 * k + o) = nI (LT w C ta n v k o)) ∧ ∀ j, ¬ (40 * k ≤ j ∧ j < 40 * k + 40) → z.1 19 j = t.1 19 j)
    (fun o => ∃ z, o = R a1 (nI v) a3 (nI (k - 1)) z ∧ Fm [19] [] [12, 13, 14, 15, 16, 19, 20, 21, 22, 23, 24, 25, 26] t z ∧ MLt w C ta n v k z ∧ ∀ j, ¬ (40 * k ≤ j ∧ j < 40 * k + 40) → z.1 19 j = t.1 19 j) ?_ ?_ (2 * w 5 1) N 0 t (by omega) (by omega) ⟨by omega, Fm.rf, fun o h => by omega, fun _ _ => rfl⟩
  · rintro f i z hi ⟨g1, g2, g3, g4⟩
    have hz : MW w z := h.fm g2 (by decide) (by decide)
    have z30 : z.1 0 30 = nI (2 * w 5 1) := (g2.2.2 30 (by decide)).trans h30
    have z40 : z.1 0 40 = nI n := (g2.2.2 40 (by decide)).trans h40
    have eg := M_getter (N := N) hz hi
    have hLB := LB_le (w := w) (C := C) (ta := ta) (n := n) (v := v) (a := i) hk.2
    obtain ⟨y, y1, y2, y3, y4⟩ := M_l170 (N := N) (a1 := a1) (a2 := nI v) (a3 := a3) (b := LB w C ta n v k i) (gM_EachAddsALineModel_lies_70 N R f) hz hN (hU.fm g2 (by decide) (by decide)) (hT.fm g2 (by decide)) hk hi hLB
    rw [← LT_eq hk.2] at y3
    refine Or.inl ⟨y, ?_, by omega, g2.tr y2, fun o ho => ?_, fun j hj => ?_⟩
    · show gM_EachAddsALineModel_lies_70 N R (f + 1) a1 (nI v) a3 (nI k) (nI i) z = gM_EachAddsALineModel_lies_70 N R f a1 (nI v) a3 (nI k) (nI (i + 1)) y
      rw [← y1]
      have e111 := fun b hb1 => M_l111 (N := N) (n := n) (a1 := a1) (a2 := nI v) (a3 := a3) (b := b) (G := LT w C ta n v (k + 1)) (gM_EachAddsALineModel_lies_70 N R f) hz hN hn hk hi z30 z40 (fun hk1 o ho => ⟨by rw [g4 _ (by omega)]; exact hG hk1 o ho, LT_le hk1⟩) hb1
      by_cases c : k + 1 = n
      · by_cases d : gt w i = v
        · have e1 := e111 0 (by rw [if_pos c])
          have eL : LB w C ta n v k i = 0 := by unfold LB; rw [if_pos c, if_pos d]
          rw [if_pos c] at e1
          rw [eL, ← e1, gM_EachAddsALineModel_lies_70]
          simp (disch := omega) only [Option.bind_some, ↓reduceIte, ↓M_1, ↓M_2, L_0, L_1, L_2, L_3, L_4, L_5, L_6, L_7, L_8, L_9, L_10, L_11, L_12, L_13, L_20, L_24, L_26, L_30, L_31, L_32, L_39, L_40, L_48, L_57, L_76, L_80, L_90, L_91, L_97, L_99, L_100, L_255, L_273, L_1000, L_2000, q_ld, q_ldL, q_sto, q_stoL, q_add, q_sub, q_mul, q_dec, q_rem, q_div, q_lt_t, q_lt_f, q_le_t, q_le_f, q_eq_t, q_eq_f, q_em, q_me, q_ml, q_lm, q_mle, q_lem, q_s1, q_s1o, q_s1k, q_s12, q_s2, q_s2o, q_s2k, q_s21, Nat.add_sub_cancel, q_or, q_and, q_shl, true_or, or_true, false_or, or_false, true_and, and_true, false_and, and_false, not_true_eq_false, not_false_eq_true, ne_eq, z30, z40, eg, d, gM_EachAddsALineModel_lies_106]
        · have e1 := e111 1000000 (by rw [if_pos c])
          have eL : LB w C ta n v k i = 1000000 := by unfold LB; rw [if_pos c, if_neg d]
          rw [if_pos c] at e1
          rw [eL, ← e1, gM_EachAddsALineModel_lies_70]
          have hg := gt_lt h.ok hi
          simp (disch := omega) only [Option.bind_some, ↓reduceIte, ↓M_1, ↓M_2, L_0, L_1, L_2, L_3, L_4, L_5, L_6, L_7, L_8, L_9, L_10, L_11, L_12, L_13, L_20, L_24, L_26, L_30, L_31, L_32, L_39, L_40, L_48, L_57, L_76, L_80, L_90, L_91, L_97, L_99, L_100, L_255, L_273, L_1000, L_2000, q_ld, q_ldL, q_sto, q_stoL, q_add, q_sub, q_mul, q_dec, q_rem, q_div, q_lt_t, q_lt_f, q_le_t, q_le_f, q_eq_t, q_eq_f, q_em, q_me, q_ml, q_lm, q_mle, q_lem, q_s1, q_s1o, q_s1k, q_s12, q_s2, q_s2o, q_s2k, q_s21, Nat.add_sub_cancel, q_or, q_and, q_shl, true_or, or_true, false_or, or_false, true_and, and_true, false_and, and_false, not_true_eq_false, not_false_eq_true, ne_eq, z30, z40, eg, gM_EachAddsALineModel_lies_104, gM_EachAddsALineModel_lies_106, L_1000000]
      · have e1 := e111 1000000 (by rw [if_neg c])
        have eL : LB w C ta n v k i = lw w (LT w C ta n v (k + 1)) (gt w i) (rd w i) (2 * w 5 1) := by unfold LB; rw [if_neg c]
        rw [if_neg c] at e1
        rw [eL, ← e1, gM_EachAddsALineModel_lies_70]
        simp (disch := omega) only [Option.bind_some, ↓reduceIte, ↓M_1, ↓M_2, L_0, L_1, L_2, L_3, L_4, L_5, L_6, L_7, L_8, L_9, L_10, L_11, L_12, L_13, L_20, L_24, L_26, L_30, L_31, L_32, L_39, L_40, L_48, L_57, L_76, L_80, L_90, L_91, L_97, L_99, L_100, L_255, L_273, L_1000, L_2000, q_ld, q_ldL, q_sto, q_stoL, q_add, q_sub, q_mul, q_dec, q_rem, q_div, q_lt_t, q_lt_f, q_le_t, q_le_f, q_eq_t, q_eq_f, q_em, q_me, q_ml, q_lm, q_mle, q_lem, q_s1, q_s1o, q_s1k, q_s12, q_s2, q_s2o, q_s2k, q_s21, Nat.add_sub_cancel, q_or, q_and, q_shl, true_or, or_true, false_or, or_false, true_and, and_true, false_and, and_false, not_true_eq_false, not_false_eq_true, ne_eq, z30, z40, gM_EachAddsALineModel_lies_104, gM_EachAddsALineModel_lies_106, L_1000000]
    · by_cases d : o = i
      · subst d; exact y3
      · rw [y4 _ (by omega)]; exact g3 o (by omega)
    · rw [y4 _ (by omega)]; exact g4 j hj
  · rintro f z ⟨g1, g2, g3, g4⟩
    have z30 : z.1 0 30 = nI (2 * w 5 1) := (g2.2.2 30 (by decide)).trans h30
    refine ⟨z, ?_, g2, g3, g4⟩
    show gM_EachAddsALineModel_lies_70 N R (f + 1) a1 (nI v) a3 (nI k) (nI (2 * w 5 1)) z = _
    rw [gM_EachAddsALineModel_lies_70]
    simp (disch := omega) only [Option.bind_some, ↓reduceIte, ↓M_1, ↓M_2, L_0, L_1, L_2, L_3, L_4, L_5, L_6, L_7, L_8, L_9, L_10, L_11, L_12, L_13, L_20, L_24, L_26, L_30, L_31, L_32, L_39, L_40, L_48, L_57, L_76, L_80, L_90, L_91, L_97, L_99, L_100, L_255, L_273, L_1000, L_2000, q_ld, q_ldL, q_sto, q_stoL, q_add, q_sub, q_mul, q_dec, q_rem, q_div, q_lt_t, q_lt_f, q_le_t, q_le_f, q_eq_t, q_eq_f, q_em, q_me, q_ml, q_lm, q_mle, q_lem, q_s1, q_s1o, q_s1k, q_s12, q_s2, q_s2o, q_s2k, q_s21, Nat.add_sub_cancel, q_or, q_and, q_shl, true_or, or_true, false_or, or_false, true_and, and_true, false_and, and_false, not_true_eq_false, not_false_eq_true, ne_eq, z30]
theorem M_l62 {a1 a3 : Int32} (h : MW w t) (hN : 100 ≤ N) (hU : UM N q x C t) (hT : MT 0 n ta t) (hn0 : 0 < n) (hv : v < w 5 0) (h30 : t.1 0 30 = nI (2 * w 5 1)) (h40 : t.1 0 40 = nI n) :
    ∃ z, gM_EachAddsALineModel_lies_62 N N a1 (nI v) a3 (nI (n - 1)) t = gM_EachAddsALineModel_lies_227 N N a1 a3 (nI 1000000) (nI 0) z ∧ Fm [19] [] [12, 13, 14, 15, 16, 19, 20, 21, 22, 23, 24, 25, 26] t z ∧ ∀ k, 0 < k → k < n → MLt w C ta n v k z := by
  have hb := h.bd
  have hn := hT.1
  refine loopD (fun f i z => gM_EachAddsALineModel_lies_62 N f a1 (nI v) a3 (nI i) z) (n - 1) (fun i z => i ≤ n - 1 ∧ Fm [19] [] [12, 13, 14, 15, 16, 19, 20, 21, 22, 23, 24, 25, 26] t z ∧ ∀ k, i < k → k < n → MLt w C ta n v k z)
    (fun o => ∃ z, o = gM_EachAddsALineModel_lies_227 N N a1 a3 (nI 1000000) (nI 0) z ∧ Fm [19] [] [12, 13, 14, 15, 16, 19, 20, 21, 22, 23, 24, 25, 26] t z ∧ ∀ k, 0 < k → k < n → MLt w C ta n v k z) ?_ ?_ (n - 1) N t (Nat.le_refl _) (by omega) ⟨Nat.le_refl _, Fm.rf, fun k h1 h2 => by omega⟩
  · rintro f i z hi ⟨g1, g2, g3⟩
    have hz : MW w z := h.fm g2 (by decide) (by decide)
    obtain ⟨y, y1, y2, y3, y4⟩ := M_l70 (N := N) (v := v) (a1 := a1) (a3 := a3) (k := i + 1) (gM_EachAddsALineModel_lies_62 N f) hz hN (hU.fm g2 (by decide) (by decide)) (hT.fm g2 (by decide)) ⟨by omega, by omega⟩ hv ((g2.2.2 30 (by decide)).trans h30) ((g2.2.2 40 (by decide)).trans h40) (fun hk => g3 (i + 1 + 1) (by omega) hk)
    refine Or.inl ⟨y, ?_, by omega, g2.tr y2, fun k k1 k2 => ?_⟩
    · show gM_EachAddsALineModel_lies_62 N (f + 1) a1 (nI v) a3 (nI (i + 1)) z = _
      rw [gM_EachAddsALineModel_lies_62]
      rw [Nat.add_sub_cancel] at y1
      simp (disch := omega) only [Option.bind_some, ↓reduceIte, ↓M_1, ↓M_2, L_0, L_1, L_2, L_3, L_4, L_5, L_6, L_7, L_8, L_9, L_10, L_11, L_12, L_13, L_20, L_24, L_26, L_30, L_31, L_32, L_39, L_40, L_48, L_57, L_76, L_80, L_90, L_91, L_97, L_99, L_100, L_255, L_273, L_1000, L_2000, q_ld, q_ldL, q_sto, q_stoL, q_add, q_sub, q_mul, q_dec, q_rem, q_div, q_lt_t, q_lt_f, q_le_t, q_le_f, q_eq_t, q_eq_f, q_em, q_me, q_ml, q_lm, q_mle, q_lem, q_s1, q_s1o, q_s1k, q_s12, q_s2, q_s2o, q_s2k, q_s21, Nat.add_sub_cancel, q_or, q_and, q_shl, true_or, or_true, false_or, or_false, true_and, and_true, false_and, and_false, not_true_eq_false, not_false_eq_true, ne_eq, y1]
    · by_cases c : k = i + 1
      · subst c; exact y3
      · intro o ho
        rw [y4 _ (by omega)]
        exact g3 k (by omega) k2 o ho
  · rintro f z ⟨g1, g2, g3⟩
    refine ⟨z, ?_, g2, g3⟩
    show gM_EachAddsALineModel_lies_62 N (f + 1) a1 (nI v) a3 (nI 0) z = _
    rw [gM_EachAddsALineModel_lies_62]
    simp (disch := omega) only [Option.bind_some, ↓reduceIte, ↓M_1, ↓M_2, L_0, L_1, L_2, L_3, L_4, L_5, L_6, L_7, L_8, L_9, L_10, L_11, L_12, L_13, L_20, L_24, L_26, L_30, L_31, L_32, L_39, L_40, L_48, L_57, L_76, L_80, L_90, L_91, L_97, L_99, L_100, L_255, L_273, L_1000, L_2000, q_ld, q_ldL, q_sto, q_stoL, q_add, q_sub, q_mul, q_dec, q_rem, q_div, q_lt_t, q_lt_f, q_le_t, q_le_f, q_eq_t, q_eq_f, q_em, q_me, q_ml, q_lm, q_mle, q_lem, q_s1, q_s1o, q_s1k, q_s12, q_s2, q_s2o, q_s2k, q_s21, Nat.add_sub_cancel, q_or, q_and, q_shl, true_or, or_true, false_or, or_false, true_and, and_true, false_and, and_false, not_true_eq_false, not_false_eq_true, ne_eq, L_1000000]
/-- the reference's choice -/
abbrev rL (w : Nat → Nat → Nat) (C : List Nat) (ta : Nat → Nat) (n v u k : Nat) : Nat := lw w (LT w C ta n v 1) u k (2 * w 5 1)
theorem M_l227 (h : MW w t) (hN : 100 ≤ N) (hn : 1 < n) (hu : u < w 5 0) (hk : k < 1000) (h30 : t.1 0 30 = nI (2 * w 5 1)) (hL : MLt w C ta n v 1 t) :
    gM_EachAddsALineModel_lies_227 N N (nI u) (nI k) (nI 1000000) (nI 0) t = if rL w C ta n v u k < 1000000 then gM_EachAddsALineModel_lies_295 N N (nI u) (nI k) (nI (rL w C ta n v u k)) (mI 1) (nI (rL w C ta n v u k)) (nI 1) (s1 t 0 10 (nI 0)) else some (mI 3, t) := by
  have hb := h.bd
  refine loopS (fun f i (y : Nat) => gM_EachAddsALineModel_lies_227 N f (nI u) (nI k) (nI y) (nI i) t) (fun i => lw w (LT w C ta n v 1) u k i) (2 * w 5 1) _ (fun f i hi => ?_) (fun f => ?_) N (by omega)
  · have eb := M_begins (N := N) h hi hu hk
    have e1 := hL i hi
    rw [Nat.mul_one] at e1
    have e2 := LT_le (w := w) (C := C) (ta := ta) (v := v) (a := i) hn
    have el := lw_le (w := w) (T := LT w C ta n v 1) (u := u) (r := k) i
    show gM_EachAddsALineModel_lies_227 N (f + 1) (nI u) (nI k) (nI (lw w (LT w C ta n v 1) u k i)) (nI i) t = gM_EachAddsALineModel_lies_227 N f (nI u) (nI k) (nI (lw w (LT w C ta n v 1) u k (i + 1))) (nI (i + 1)) t
    rw [lw_s]
    generalize lw w (LT w C ta n v 1) u k i = y at el
    rw [gM_EachAddsALineModel_lies_227]
    by_cases d : beg w u k i
    · rw [if_pos d] at eb ⊢
      simp (disch := omega) only [Option.bind_some, ↓reduceIte, ↓M_1, ↓M_2, L_0, L_1, L_2, L_3, L_4, L_5, L_6, L_7, L_8, L_9, L_10, L_11, L_12, L_13, L_20, L_24, L_26, L_30, L_31, L_32, L_39, L_40, L_48, L_57, L_76, L_80, L_90, L_91, L_97, L_99, L_100, L_255, L_273, L_1000, L_2000, q_ld, q_ldL, q_sto, q_stoL, q_add, q_sub, q_mul, q_dec, q_rem, q_div, q_lt_t, q_lt_f, q_le_t, q_le_f, q_eq_t, q_eq_f, q_em, q_me, q_ml, q_lm, q_mle, q_lem, q_s1, q_s1o, q_s1k, q_s12, q_s2, q_s2o, q_s2k, q_s21, Nat.add_sub_cancel, q_or, q_and, q_shl, true_or, or_true, false_or, or_false, true_and, and_true, false_and, and_false, not_true_eq_false, not_false_eq_true, ne_eq, h30, eb, e1, q_min, gM_EachAddsALineModel_lies_264]
    · rw [if_neg d] at eb ⊢
      simp (disch := omega) only [Option.bind_some, ↓reduceIte, ↓M_1, ↓M_2, L_0, L_1, L_2, L_3, L_4, L_5, L_6, L_7, L_8, L_9, L_10, L_11, L_12, L_13, L_20, L_24, L_26, L_30, L_31, L_32, L_39, L_40, L_48, L_57, L_76, L_80, L_90, L_91, L_97, L_99, L_100, L_255, L_273, L_1000, L_2000, q_ld, q_ldL, q_sto, q_stoL, q_add, q_sub, q_mul, q_dec, q_rem, q_div, q_lt_t, q_lt_f, q_le_t, q_le_f, q_eq_t, q_eq_f, q_em, q_me, q_ml, q_lm, q_mle, q_lem, q_s1, q_s1o, q_s1k, q_s12, q_s2, q_s2o, q_s2k, q_s21, Nat.add_sub_cancel, q_or, q_and, q_shl, true_or, or_true, false_or, or_false, true_and, and_true, false_and, and_false, not_true_eq_false, not_false_eq_true, ne_eq, h30, eb, gM_EachAddsALineModel_lies_264]
  · have el : rL w C ta n v u k ≤ 1000000 := lw_le _
    show gM_EachAddsALineModel_lies_227 N (f + 1) (nI u) (nI k) (nI (rL w C ta n v u k)) (nI (2 * w 5 1)) t = _
    generalize rL w C ta n v u k = y at el
    rw [gM_EachAddsALineModel_lies_227]
    by_cases d : y < 1000000
    · rw [if_pos d]
      simp (disch := omega) only [Option.bind_some, ↓reduceIte, ↓M_1, ↓M_2, L_0, L_1, L_2, L_3, L_4, L_5, L_6, L_7, L_8, L_9, L_10, L_11, L_12, L_13, L_20, L_24, L_26, L_30, L_31, L_32, L_39, L_40, L_48, L_57, L_76, L_80, L_90, L_91, L_97, L_99, L_100, L_255, L_273, L_1000, L_2000, q_ld, q_ldL, q_sto, q_stoL, q_add, q_sub, q_mul, q_dec, q_rem, q_div, q_lt_t, q_lt_f, q_le_t, q_le_f, q_eq_t, q_eq_f, q_em, q_me, q_ml, q_lm, q_mle, q_lem, q_s1, q_s1o, q_s1k, q_s12, q_s2, q_s2o, q_s2k, q_s21, Nat.add_sub_cancel, q_or, q_and, q_shl, true_or, or_true, false_or, or_false, true_and, and_true, false_and, and_false, not_true_eq_false, not_false_eq_true, ne_eq, h30, L_1000000]
    · rw [if_neg d]
      simp (disch := omega) only [Option.bind_some, ↓reduceIte, ↓M_1, ↓M_2, L_0, L_1, L_2, L_3, L_4, L_5, L_6, L_7, L_8, L_9, L_10, L_11, L_12, L_13, L_20, L_24, L_26, L_30, L_31, L_32, L_39, L_40, L_48, L_57, L_76, L_80, L_90, L_91, L_97, L_99, L_100, L_255, L_273, L_1000, L_2000, q_ld, q_ldL, q_sto, q_stoL, q_add, q_sub, q_mul, q_dec, q_rem, q_div, q_lt_t, q_lt_f, q_le_t, q_le_f, q_eq_t, q_eq_f, q_em, q_me, q_ml, q_lm, q_mle, q_lem, q_s1, q_s1o, q_s1k, q_s12, q_s2, q_s2o, q_s2k, q_s21, Nat.add_sub_cancel, q_or, q_and, q_shl, true_or, or_true, false_or, or_false, true_and, and_true, false_and, and_false, not_true_eq_false, not_false_eq_true, ne_eq, h30, L_1000000]
      rfl
theorem M_l310Head (R : Int32 → Int32 → Int32 → Int32 → Int32 → Int32 → vSt → Option (Int32 × vSt)) (f : Nat) {a4 a6 a7 c : Int32} {x1 i : Nat} (h : MW w t) (hu : u < w 5 0) (hk : k < 1000) (h30 : t.1 0 30 = nI (2 * w 5 1)) (hi : i < 2 * w 5 1) (hx : x1 = 100 ∨ x1 < 2 * w 5 1) :
    gM_EachAddsALineModel_lies_310 N R (f + 1) (nI u) (nI k) a4 (gI x1) a6 a7 c (nI i) t = if (if x1 = 100 then decide (beg w u k i) else decide (fol w i x1)) = true then gM_EachAddsALineModel_lies_350 N (gM_EachAddsALineModel_lies_310 N R f) (nI u) (nI k) a4 (gI x1) a6 a7 c (nI i) t else gM_EachAddsALineModel_lies_310 N R f (nI u) (nI k) a4 (gI x1) a6 a7 c (nI (i + 1)) t := by
  have hb := h.bd
  rw [gM_EachAddsALineModel_lies_310]
  by_cases d : x1 = 100
  · have e1 := M_begins (N := N) h hi hu hk
    rw [if_pos d, d, gI_no (g := 100) (by decide)]
    by_cases g : beg w u k i
    · rw [if_pos g] at e1
      rw [if_pos (decide_eq_true g)]
      simp (disch := omega) only [Option.bind_some, ↓reduceIte, ↓M_1, ↓M_2, L_0, L_1, L_2, L_3, L_4, L_5, L_6, L_7, L_8, L_9, L_10, L_11, L_12, L_13, L_20, L_24, L_26, L_30, L_31, L_32, L_39, L_40, L_48, L_57, L_76, L_80, L_90, L_91, L_97, L_99, L_100, L_255, L_273, L_1000, L_2000, q_ld, q_ldL, q_sto, q_stoL, q_add, q_sub, q_mul, q_dec, q_rem, q_div, q_lt_t, q_lt_f, q_le_t, q_le_f, q_eq_t, q_eq_f, q_em, q_me, q_ml, q_lm, q_mle, q_lem, q_s1, q_s1o, q_s1k, q_s12, q_s2, q_s2o, q_s2k, q_s21, Nat.add_sub_cancel, q_or, q_and, q_shl, true_or, or_true, false_or, or_false, true_and, and_true, false_and, and_false, not_true_eq_false, not_false_eq_true, ne_eq, h30, e1]
    · rw [if_neg g] at e1
      rw [if_neg (show ¬ decide (beg w u k i) = true by rw [decide_eq_false g]; decide)]
      simp (disch := omega) only [Option.bind_some, ↓reduceIte, ↓M_1, ↓M_2, L_0, L_1, L_2, L_3, L_4, L_5, L_6, L_7, L_8, L_9, L_10, L_11, L_12, L_13, L_20, L_24, L_26, L_30, L_31, L_32, L_39, L_40, L_48, L_57, L_76, L_80, L_90, L_91, L_97, L_99, L_100, L_255, L_273, L_1000, L_2000, q_ld, q_ldL, q_sto, q_stoL, q_add, q_sub, q_mul, q_dec, q_rem, q_div, q_lt_t, q_lt_f, q_le_t, q_le_f, q_eq_t, q_eq_f, q_em, q_me, q_ml, q_lm, q_mle, q_lem, q_s1, q_s1o, q_s1k, q_s12, q_s2, q_s2o, q_s2k, q_s21, Nat.add_sub_cancel, q_or, q_and, q_shl, true_or, or_true, false_or, or_false, true_and, and_true, false_and, and_false, not_true_eq_false, not_false_eq_true, ne_eq, h30, e1, gM_EachAddsALineModel_lies_389]
  · have hx1 : x1 < 2 * w 5 1 := hx.elim (fun z => absurd z d) id
    have e1 := M_follows (N := N) h hi hx1
    rw [if_neg d, gI_nI (g := x1) (by omega)]
    by_cases g : fol w i x1
    · rw [if_pos g] at e1
      rw [if_pos (decide_eq_true g)]
      simp (disch := omega) only [Option.bind_some, ↓reduceIte, ↓M_1, ↓M_2, L_0, L_1, L_2, L_3, L_4, L_5, L_6, L_7, L_8, L_9, L_10, L_11, L_12, L_13, L_20, L_24, L_26, L_30, L_31, L_32, L_39, L_40, L_48, L_57, L_76, L_80, L_90, L_91, L_97, L_99, L_100, L_255, L_273, L_1000, L_2000, q_ld, q_ldL, q_sto, q_stoL, q_add, q_sub, q_mul, q_dec, q_rem, q_div, q_lt_t, q_lt_f, q_le_t, q_le_f, q_eq_t, q_eq_f, q_em, q_me, q_ml, q_lm, q_mle, q_lem, q_s1, q_s1o, q_s1k, q_s12, q_s2, q_s2o, q_s2k, q_s21, Nat.add_sub_cancel, q_or, q_and, q_shl, true_or, or_true, false_or, or_false, true_and, and_true, false_and, and_false, not_true_eq_false, not_false_eq_true, ne_eq, h30, e1]
    · rw [if_neg g] at e1
      rw [if_neg (show ¬ decide (fol w i x1) = true by rw [decide_eq_false g]; decide)]
      simp (disch := omega) only [Option.bind_some, ↓reduceIte, ↓M_1, ↓M_2, L_0, L_1, L_2, L_3, L_4, L_5, L_6, L_7, L_8, L_9, L_10, L_11, L_12, L_13, L_20, L_24, L_26, L_30, L_31, L_32, L_39, L_40, L_48, L_57, L_76, L_80, L_90, L_91, L_97, L_99, L_100, L_255, L_273, L_1000, L_2000, q_ld, q_ldL, q_sto, q_stoL, q_add, q_sub, q_mul, q_dec, q_rem, q_div, q_lt_t, q_lt_f, q_le_t, q_le_f, q_eq_t, q_eq_f, q_em, q_me, q_ml, q_lm, q_mle, q_lem, q_s1, q_s1o, q_s1k, q_s12, q_s2, q_s2o, q_s2k, q_s21, Nat.add_sub_cancel, q_or, q_and, q_shl, true_or, or_true, false_or, or_false, true_and, and_true, false_and, and_false, not_true_eq_false, not_false_eq_true, ne_eq, h30, e1, gM_EachAddsALineModel_lies_389]
theorem M_l350 (R : Int32 → Int32 → Int32 → Int32 → Int32 → Int32 → Int32 → Int32 → vSt → Option (Int32 × vSt)) {a1 a3 a4 a5 c : Int32} {L j i : Nat} (hj : j < 12) (hi : i < 40) (hG : t.1 19 (40 * j + i) = nI (G i)) (hG2 : G i ≤ 1000000) (hL : L ≤ 1000000) :
    gM_EachAddsALineModel_lies_350 N R a1 a3 a4 a5 (nI L) (nI j) c (nI i) t = if G i = L then (if c = mI 1 then R a1 a3 a4 a5 (nI L) (nI j) (nI i) (nI (i + 1)) t else if c / nI 2 ≤ nI (i / 2) then R a1 a3 a4 a5 (nI L) (nI j) c (nI (i + 1)) t else R a1 a3 a4 a5 (nI L) (nI j) (nI i) (nI (i + 1)) t) else R a1 a3 a4 a5 (nI L) (nI j) c (nI (i + 1)) t := by
  by_cases d : G i = L
  · rw [if_pos d]
    simp (disch := omega) only [Option.bind_some, ↓reduceIte, ↓M_1, ↓M_2, L_0, L_1, L_2, L_3, L_4, L_5, L_6, L_7, L_8, L_9, L_10, L_11, L_12, L_13, L_20, L_24, L_26, L_30, L_31, L_32, L_39, L_40, L_48, L_57, L_76, L_80, L_90, L_91, L_97, L_99, L_100, L_255, L_273, L_1000, L_2000, q_ld, q_ldL, q_sto, q_stoL, q_add, q_sub, q_mul, q_dec, q_rem, q_div, q_lt_t, q_lt_f, q_le_t, q_le_f, q_eq_t, q_eq_f, q_em, q_me, q_ml, q_lm, q_mle, q_lem, q_s1, q_s1o, q_s1k, q_s12, q_s2, q_s2o, q_s2k, q_s21, Nat.add_sub_cancel, q_or, q_and, q_shl, true_or, or_true, false_or, or_false, true_and, and_true, false_and, and_false, not_true_eq_false, not_false_eq_true, ne_eq, gM_EachAddsALineModel_lies_350, hG, d, gM_EachAddsALineModel_lies_385, gM_EachAddsALineModel_lies_389]
  · rw [if_neg d]
    simp (disch := omega) only [Option.bind_some, ↓reduceIte, ↓M_1, ↓M_2, L_0, L_1, L_2, L_3, L_4, L_5, L_6, L_7, L_8, L_9, L_10, L_11, L_12, L_13, L_20, L_24, L_26, L_30, L_31, L_32, L_39, L_40, L_48, L_57, L_76, L_80, L_90, L_91, L_97, L_99, L_100, L_255, L_273, L_1000, L_2000, q_ld, q_ldL, q_sto, q_stoL, q_add, q_sub, q_mul, q_dec, q_rem, q_div, q_lt_t, q_lt_f, q_le_t, q_le_f, q_eq_t, q_eq_f, q_em, q_me, q_ml, q_lm, q_mle, q_lem, q_s1, q_s1o, q_s1k, q_s12, q_s2, q_s2o, q_s2k, q_s21, Nat.add_sub_cancel, q_or, q_and, q_shl, true_or, or_true, false_or, or_false, true_and, and_true, false_and, and_false, not_true_eq_false, not_false_eq_true, ne_eq, gM_EachAddsALineModel_lies_350, hG, gM_EachAddsALineModel_lies_389]
theorem M_l310 (R : Int32 → Int32 → Int32 → Int32 → Int32 → Int32 → vSt → Option (Int32 × vSt)) {a4 : Int32} {V : Nat → Nat → Nat → Bool} {j : Nat} {X : Nat × Nat} (h : MW w t) (hN : 60 ≤ N) (hu : u < w 5 0) (hk : k < 1000) (h30 : t.1 0 30 = nI (2 * w 5 1)) (hj : j + 1 < 12) (hG : ∀ o, o < 2 * w 5 1 → t.1 19 (40 * (j + 1) + o) = nI (G o) ∧ G o ≤ 1000000) (hV : ∀ o, V j X.2 o = decide (G o = X.2)) (hx : X.1 = 100 ∨ X.1 < 2 * w 5 1) (hX2 : X.2 ≤ 1000000)
    (hq : fst1 (trP w u k V j X) (2 * w 5 1) < 2 * w 5 1) :
    gM_EachAddsALineModel_lies_310 N R N (nI u) (nI k) a4 (gI X.1) (nI X.2) (nI (j + 1)) (mI 1) (nI 0) t = (fM_EachAddsALineModel_tell N (nI (fst1 (trP w u k V j X) (2 * w 5 1) / 2)) t).bind fun z1 => (fM_EachAddsALineModel_isSo N (nI (fst1 (trP w u k V j X) (2 * w 5 1))) (nI 0) (nI (j + 1)) z1).bind fun p2 => if p2.1 = 0 then gM_EachAddsALineModel_lies_422 N R (nI u) (nI k) a4 (nI (j + 1)) (nI (fst1 (trP w u k V j X) (2 * w 5 1))) (nI X.2) (nI 1) p2.2 else gM_EachAddsALineModel_lies_422 N R (nI u) (nI k) a4 (nI (j + 1)) (nI (fst1 (trP w u k V j X) (2 * w 5 1))) (nI X.2) (nI 0) p2.2 := by
  have hb := h.bd
  have e0 : mI 1 = gI (if fst1 (trP w u k V j X) 0 < 0 then fst1 (trP w u k V j X) 0 else 100) := by rw [if_neg (Nat.not_lt_zero _), gI_no (by decide)]
  rw [e0]
  refine loopS (fun f i (c : Int32) => gM_EachAddsALineModel_lies_310 N R f (nI u) (nI k) a4 (gI X.1) (nI X.2) (nI (j + 1)) c (nI i) t) (fun i => gI (if fst1 (trP w u k V j X) i < i then fst1 (trP w u k V j X) i else 100)) (2 * w 5 1) _ (fun f i hi => ?_) (fun f => ?_) N (by omega)
  · have hle := fst1_le (trP w u k V j X) i
    have e1 := M_l310Head (N := N) R f (a4 := a4) (a6 := nI X.2) (a7 := nI (j + 1)) (c := gI (if fst1 (trP w u k V j X) i < i then fst1 (trP w u k V j X) i else 100)) h hu hk h30 hi hx
    have e2 := M_l350 (N := N) (gM_EachAddsALineModel_lies_310 N R f) (a4 := a4) (a1 := nI u) (a3 := nI k) (a5 := gI X.1) (c := gI (if fst1 (trP w u k V j X) i < i then fst1 (trP w u k V j X) i else 100)) (L := X.2) (j := j + 1) (i := i) (by omega) (by omega) (hG i hi).1 (hG i hi).2 hX2
    have ep := trP_eq w u k V j X i
    rw [hV] at ep
    show gM_EachAddsALineModel_lies_310 N R (f + 1) (nI u) (nI k) a4 (gI X.1) (nI X.2) (nI (j + 1)) (gI (if fst1 (trP w u k V j X) i < i then fst1 (trP w u k V j X) i else 100)) (nI i) t = gM_EachAddsALineModel_lies_310 N R f (nI u) (nI k) a4 (gI X.1) (nI X.2) (nI (j + 1)) (gI (if fst1 (trP w u k V j X) (i + 1) < i + 1 then fst1 (trP w u k V j X) (i + 1) else 100)) (nI (i + 1)) t
    rw [fst1_next, e1, e2]
    generalize fst1 (trP w u k V j X) i = c at hle
    generalize (if X.1 = 100 then decide (beg w u k i) else decide (fol w i X.1)) = ab at ep
    by_cases d1 : ab = true
    · rw [if_pos d1]
      by_cases d2 : G i = X.2
      · rw [if_pos d2]
        have d3 : trP w u k V j X i = true := by rw [ep, d1, decide_eq_true d2]; rfl
        by_cases d : c < i
        · rw [if_pos d, if_pos d, gI_nI (g := c) (by omega)]
          have hh : c / 2 ≤ i / 2 := by omega
          simp (disch := omega) only [Option.bind_some, ↓reduceIte, ↓M_1, ↓M_2, L_0, L_1, L_2, L_3, L_4, L_5, L_6, L_7, L_8, L_9, L_10, L_11, L_12, L_13, L_20, L_24, L_26, L_30, L_31, L_32, L_39, L_40, L_48, L_57, L_76, L_80, L_90, L_91, L_97, L_99, L_100, L_255, L_273, L_1000, L_2000, q_ld, q_ldL, q_sto, q_stoL, q_add, q_sub, q_mul, q_dec, q_rem, q_div, q_lt_t, q_lt_f, q_le_t, q_le_f, q_eq_t, q_eq_f, q_em, q_me, q_ml, q_lm, q_mle, q_lem, q_s1, q_s1o, q_s1k, q_s12, q_s2, q_s2o, q_s2k, q_s21, Nat.add_sub_cancel, q_or, q_and, q_shl, true_or, or_true, false_or, or_false, true_and, and_true, false_and, and_false, not_true_eq_false, not_false_eq_true, ne_eq]
        · rw [if_neg d, if_neg d, if_pos d3, gI_no (g := 100) (by decide), gI_nI (g := i) (by omega), if_pos rfl]
      · rw [if_neg d2]
        have d3 : ¬ trP w u k V j X i = true := fun z => d2 (by
          rw [ep, Bool.and_eq_true] at z
          exact of_decide_eq_true z.2)
        rw [if_neg d3]
    · rw [if_neg d1]
      have d3 : ¬ trP w u k V j X i = true := fun z => d1 (by
        rw [ep, Bool.and_eq_true] at z
        exact z.1)
      rw [if_neg d3]
  · show gM_EachAddsALineModel_lies_310 N R (f + 1) (nI u) (nI k) a4 (gI X.1) (nI X.2) (nI (j + 1)) (gI (if fst1 (trP w u k V j X) (2 * w 5 1) < 2 * w 5 1 then fst1 (trP w u k V j X) (2 * w 5 1) else 100)) (nI (2 * w 5 1)) t = _
    rw [if_pos hq, gI_nI (g := fst1 (trP w u k V j X) (2 * w 5 1)) (by omega), gM_EachAddsALineModel_lies_310, h30, if_pos (Int32.le_refl _)]
    generalize fst1 (trP w u k V j X) (2 * w 5 1) = q at hq
    rw [show nI q / 2 = nI (q / 2) from q_div (by omega) (by decide) (by decide)]
    simp (disch := omega) only [Option.bind_some, ↓reduceIte, ↓M_1, ↓M_2, L_0, L_1, L_2, L_3, L_4, L_5, L_6, L_7, L_8, L_9, L_10, L_11, L_12, L_13, L_20, L_24, L_26, L_30, L_31, L_32, L_39, L_40, L_48, L_57, L_76, L_80, L_90, L_91, L_97, L_99, L_100, L_255, L_273, L_1000, L_2000, q_ld, q_ldL, q_sto, q_stoL, q_add, q_sub, q_mul, q_dec, q_rem, q_div, q_lt_t, q_lt_f, q_le_t, q_le_f, q_eq_t, q_eq_f, q_em, q_me, q_ml, q_lm, q_mle, q_lem, q_s1, q_s1o, q_s1k, q_s12, q_s2, q_s2o, q_s2k, q_s21, Nat.add_sub_cancel, q_or, q_and, q_shl, true_or, or_true, false_or, or_false, true_and, and_true, false_and, and_false, not_true_eq_false, not_false_eq_true, ne_eq]
theorem M_l295 (h : MW w t) (hN : 100 ≤ N) (hU : UM N q x C t) (hT : MT 0 n ta t) (hn1 : 1 < n) (hu : u < w 5 0) (hk : k < 1000) (h40 : t.1 0 40 = nI n) (h30 : t.1 0 30 = nI (2 * w 5 1)) (hL : ∀ k, 0 < k → k < n → MLt w C ta n v k t) (hp : rL w C ta n v u k < 1000000) :
    ∃ t', gM_EachAddsALineModel_lies_295 N N (nI u) (nI k) (nI (rL w C ta n v u k)) (mI 1) (nI (rL w C ta n v u k)) (nI 1) (s1 t 0 10 (nI 0)) = some (nI (rL w C ta n v u k), t') ∧ Fm [7] [] [10, 12, 13, 14, 15, 16, 19, 20, 21, 22, 23, 24, 25, 26] t t' ∧ t'.1 0 10 = nI (n - 1) ∧ ∀ j, j < n - 1 → t'.1 7 j = nI (qL w C ta n v u k j / 2) := by
  have hb := h.bd
  have hn := hT.1
  have hok := qL_ok (w := w) (C := C) (ta := ta) (n := n) (v := v) (u := u) (k := k) h.ok hn1 hp
  have e0 : gM_EachAddsALineModel_lies_295 N N (nI u) (nI k) (nI (rL w C ta n v u k)) (mI 1) (nI (rL w C ta n v u k)) (nI 1) (s1 t 0 10 (nI 0)) = gM_EachAddsALineModel_lies_295 N N (nI u) (nI k) (nI (rL w C ta n v u k)) (gI (xL w C ta n v u k 0).1) (nI (xL w C ta n v u k 0).2) (nI (0 + 1)) (s1 t 0 10 (nI 0)) := rfl
  rw [e0]
  refine loopU (fun f j z => gM_EachAddsALineModel_lies_295 N f (nI u) (nI k) (nI (rL w C ta n v u k)) (gI (xL w C ta n v u k j).1) (nI (xL w C ta n v u k j).2) (nI (j + 1)) z) (n - 1) (fun j z => j ≤ n - 1 ∧ Fm [7] [] [10, 12, 13, 14, 15, 16, 19, 20, 21, 22, 23, 24, 25, 26] t z ∧ z.1 0 10 = nI j ∧ ∀ i, i < j → z.1 7 i = nI (qL w C ta n v u k i / 2))
    (fun o => ∃ t', o = some (nI (rL w C ta n v u k), t') ∧ Fm [7] [] [10, 12, 13, 14, 15, 16, 19, 20, 21, 22, 23, 24, 25, 26] t t' ∧ t'.1 0 10 = nI (n - 1) ∧ ∀ j, j < n - 1 → t'.1 7 j = nI (qL w C ta n v u k j / 2)) ?_ ?_ (n - 1) N 0 _ (by omega) (by omega) ⟨by omega, Fm.w10 (by decide), q_s1 _ _ _ _, fun i hi => by omega⟩
  · rintro f j z hj ⟨g1, g2, g3, g4⟩
    have hz : MW w z := h.fm g2 (by decide) (by decide)
    have z40 : z.1 0 40 = nI n := (g2.2.2 40 (by decide)).trans h40
    have z30 : z.1 0 30 = nI (2 * w 5 1) := (g2.2.2 30 (by decide)).trans h30
    obtain ⟨o1, o2, o3⟩ := hok j (by omega)
    have hX : (xL w C ta n v u k j).1 = 100 ∨ (xL w C ta n v u k j).1 < 2 * w 5 1 := by
      cases j with
      | zero => exact Or.inl rfl
      | succ j => exact Or.inr (hok j (by omega)).1
    have st := M_l310 (N := N) (gM_EachAddsALineModel_lies_295 N f) (a4 := nI (rL w C ta n v u k)) (V := vL w C ta n v) (j := j) (X := xL w C ta n v u k j) (G := LT w C ta n v (j + 1)) hz (by omega) hu hk z30 (by omega) (fun o ho => ⟨by rw [g2.1 19 (by decide) (by decide)]; exact hL (j + 1) (by omega) (by omega) o ho, LT_le (by omega)⟩) (fun o => rfl) hX (by omega) o1
    rw [← qL_d] at st
    obtain ⟨z2, hz2⟩ : ∃ z2, z2 = s1 (s1 z 7 j (nI (qL w C ta n v u k j / 2))) 0 10 (nI (j + 1)) := ⟨_, rfl⟩
    have f2 : Fm [7] [] [10] z z2 := by rw [hz2]; exact (Fm.w1 (by decide) (by decide)).tr (Fm.w10 (by decide))
    have et : fM_EachAddsALineModel_tell N (nI (qL w C ta n v u k j / 2)) z = some z2 := by
      rw [hz2]
      simp (disch := omega) only [Option.bind_some, ↓reduceIte, ↓M_1, ↓M_2, L_0, L_1, L_2, L_3, L_4, L_5, L_6, L_7, L_8, L_9, L_10, L_11, L_12, L_13, L_20, L_24, L_26, L_30, L_31, L_32, L_39, L_40, L_48, L_57, L_76, L_80, L_90, L_91, L_97, L_99, L_100, L_255, L_273, L_1000, L_2000, q_ld, q_ldL, q_sto, q_stoL, q_add, q_sub, q_mul, q_dec, q_rem, q_div, q_lt_t, q_lt_f, q_le_t, q_le_f, q_eq_t, q_eq_f, q_em, q_me, q_ml, q_lm, q_mle, q_lem, q_s1, q_s1o, q_s1k, q_s12, q_s2, q_s2o, q_s2k, q_s21, Nat.add_sub_cancel, q_or, q_and, q_shl, true_or, or_true, false_or, or_false, true_and, and_true, false_and, and_false, not_true_eq_false, not_false_eq_true, ne_eq, fM_EachAddsALineModel_tell, gM_EachAddsALineModel_tell_0, g3]
    have f3 : Fm [7] [] [10, 12, 13, 14, 15, 16, 19, 20, 21, 22, 23, 24, 25, 26] t z2 := g2.tr (f2.mono (by decide) (by decide) (by decide))
    obtain ⟨y, y1, y2, _⟩ := M_isSo (N := N) (n := n) (ta := ta) (a := qL w C ta n v u k j) (k := j + 1) hN (hz.fm f2 (by decide) (by decide)) (hU.fm f3 (by decide) (by decide)) (hT.fm f3 (by decide)) (by omega) o1 ⟨by omega, by omega⟩
    rw [et, Option.bind_some, y1, Option.bind_some] at st
    have hf := fl_le (w := w) (C := C) (ta := ta) (k := j + 1) (a := qL w C ta n v u k j)
    have hfx : fl w C ta (j + 1) (qL w C ta n v u k j) ≤ (xL w C ta n v u k j).2 := by
      have e := LT_eq (w := w) (C := C) (ta := ta) (v := v) (a := qL w C ta n v u k j) (show j + 1 < n by omega)
      omega
    refine Or.inl ⟨y, ?_, by omega, f3.tr (y2.mono (by decide) (by decide) (by decide)), ?_, fun i hi => ?_⟩
    · show gM_EachAddsALineModel_lies_295 N (f + 1) (nI u) (nI k) (nI (rL w C ta n v u k)) (gI (xL w C ta n v u k j).1) (nI (xL w C ta n v u k j).2) (nI (j + 1)) z = gM_EachAddsALineModel_lies_295 N f (nI u) (nI k) (nI (rL w C ta n v u k)) (gI (qL w C ta n v u k j)) (nI ((xL w C ta n v u k j).2 - fl w C ta (j + 1) (qL w C ta n v u k j))) (nI (j + 1 + 1)) y
      have e1 : gM_EachAddsALineModel_lies_295 N (f + 1) (nI u) (nI k) (nI (rL w C ta n v u k)) (gI (xL w C ta n v u k j).1) (nI (xL w C ta n v u k j).2) (nI (j + 1)) z = gM_EachAddsALineModel_lies_310 N (gM_EachAddsALineModel_lies_295 N f) N (nI u) (nI k) (nI (rL w C ta n v u k)) (gI (xL w C ta n v u k j).1) (nI (xL w C ta n v u k j).2) (nI (j + 1)) (mI 1) (nI 0) z := by
        rw [gM_EachAddsALineModel_lies_295]
        simp (disch := omega) only [Option.bind_some, ↓reduceIte, ↓M_1, ↓M_2, L_0, L_1, L_2, L_3, L_4, L_5, L_6, L_7, L_8, L_9, L_10, L_11, L_12, L_13, L_20, L_24, L_26, L_30, L_31, L_32, L_39, L_40, L_48, L_57, L_76, L_80, L_90, L_91, L_97, L_99, L_100, L_255, L_273, L_1000, L_2000, q_ld, q_ldL, q_sto, q_stoL, q_add, q_sub, q_mul, q_dec, q_rem, q_div, q_lt_t, q_lt_f, q_le_t, q_le_f, q_eq_t, q_eq_f, q_em, q_me, q_ml, q_lm, q_mle, q_lem, q_s1, q_s1o, q_s1k, q_s12, q_s2, q_s2o, q_s2k, q_s21, Nat.add_sub_cancel, q_or, q_and, q_shl, true_or, or_true, false_or, or_false, true_and, and_true, false_and, and_false, not_true_eq_false, not_false_eq_true, ne_eq, z40]
      rw [e1, st, gI_nI (g := qL w C ta n v u k j) (by omega)]
      generalize (xL w C ta n v u k j).2 = L at hfx o3
      unfold fl at hfx ⊢
      by_cases c : SO w C ta (j + 1) (qL w C ta n v u k j)
      · rw [if_pos c, if_pos c]
        simp (disch := omega) only [Option.bind_some, ↓reduceIte, ↓M_1, ↓M_2, L_0, L_1, L_2, L_3, L_4, L_5, L_6, L_7, L_8, L_9, L_10, L_11, L_12, L_13, L_20, L_24, L_26, L_30, L_31, L_32, L_39, L_40, L_48, L_57, L_76, L_80, L_90, L_91, L_97, L_99, L_100, L_255, L_273, L_1000, L_2000, q_ld, q_ldL, q_sto, q_stoL, q_add, q_sub, q_mul, q_dec, q_rem, q_div, q_lt_t, q_lt_f, q_le_t, q_le_f, q_eq_t, q_eq_f, q_em, q_me, q_ml, q_lm, q_mle, q_lem, q_s1, q_s1o, q_s1k, q_s12, q_s2, q_s2o, q_s2k, q_s21, Nat.add_sub_cancel, q_or, q_and, q_shl, true_or, or_true, false_or, or_false, true_and, and_true, false_and, and_false, not_true_eq_false, not_false_eq_true, ne_eq, gM_EachAddsALineModel_lies_422]
      · rw [if_neg c] at hfx
        rw [if_neg c, if_neg c]
        simp (disch := omega) only [Option.bind_some, ↓reduceIte, ↓M_1, ↓M_2, L_0, L_1, L_2, L_3, L_4, L_5, L_6, L_7, L_8, L_9, L_10, L_11, L_12, L_13, L_20, L_24, L_26, L_30, L_31, L_32, L_39, L_40, L_48, L_57, L_76, L_80, L_90, L_91, L_97, L_99, L_100, L_255, L_273, L_1000, L_2000, q_ld, q_ldL, q_sto, q_stoL, q_add, q_sub, q_mul, q_dec, q_rem, q_div, q_lt_t, q_lt_f, q_le_t, q_le_f, q_eq_t, q_eq_f, q_em, q_me, q_ml, q_lm, q_mle, q_lem, q_s1, q_s1o, q_s1k, q_s12, q_s2, q_s2o, q_s2k, q_s21, Nat.add_sub_cancel, q_or, q_and, q_shl, true_or, or_true, false_or, or_false, true_and, and_true, false_and, and_false, not_true_eq_false, not_false_eq_true, ne_eq, gM_EachAddsALineModel_lies_422]
    · rw [y2.2.2 10 (by decide), hz2, q_s1]
    · rw [y2.1 7 (by decide) (by decide), hz2, q_s1o (by decide)]
      by_cases c : i = j
      · subst c; rw [q_s1]
      · rw [q_s1k (by omega)]; exact g4 i (by omega)
  · rintro f z ⟨g1, g2, g3, g4⟩
    have z40 : z.1 0 40 = nI n := (g2.2.2 40 (by decide)).trans h40
    refine ⟨z, ?_, g2, g3, g4⟩
    try simp only
    rw [gM_EachAddsALineModel_lies_295, z40, show n - 1 + 1 = n by omega, if_pos (Int32.le_refl _)]
end LM
section LC
variable {N : Nat} {w : Nat → Nat → Nat} {C : List Nat} {x ta : Nat → Nat} {Q : Nat → Nat} {n u v r k a q L : Nat} {s t : vSt}
def CL1 (w : Nat → Nat → Nat) (C : List Nat) (ta : Nat → Nat) (n v k : Nat) (s : vSt) : Prop := ∀ o, o < 2 * w 5 1 → s.1 51 (k * 40 + sw o) = nI (cv (LB w C ta n v k o))
theorem C_liesBy (h : CW w s) (hJ : CJ w C ta n v s) (hu : u < w 5 0) (hr : r < 1000) (hk : 0 < k ∧ k < n) {m : Nat} (hm : m < w 5 1) (hB : CL1 w C ta n v k s) :
    fC_Tales_liesBy N (nI m) (nI u) (nI r) (nI k) s = some (nI (cv (if (w 1 m = u ∨ w 2 m = u) ∧ beg w u r (ix w m u) then LT w C ta n v k (ix w m u) else 1000000)), s) := by
  have hb := h.bd
  have hn := hJ.1
  have hk2 := hk.2
  have ha := C_isAt (N := N) h hm hu
  have h3 : w 3 m ≤ 99 := (h.ok.2.2.2 m hm).2.2.2.1
  by_cases c : w 1 m = u ∨ w 2 m = u
  · rw [if_pos c] at ha
    by_cases d : r ≤ w 3 m
    · have hbg : beg w u r (ix w m u) := ⟨ix_gv c, by rw [ix_hr]; exact d⟩
      have hi := ix_lt (w := w) u hm
      have hsw := sw_lt hi
      have k1 := hB _ hi
      have ep := C_place (N := N) h hm c hu
      have er := C_isRight (N := N) hJ hk hi hb.2
      have eL := LT_eq (w := w) (C := C) (ta := ta) (v := v) (a := ix w m u) hk.2
      have hf := fl_le (w := w) (C := C) (ta := ta) (k := k) (a := ix w m u)
      rw [if_pos ⟨c, hbg⟩]
      rcases LB_bd (w := w) (C := C) (ta := ta) (v := v) (a := ix w m u) hk.2 with e | e
      · rw [e, cv_no (by omega)] at k1
        rw [e] at eL
        rw [cv_no (by omega)]
        simp (disch := omega) only [Option.bind_some, ↓reduceIte, ↓M_1, ↓M_2, L_0, L_1, L_2, L_3, L_4, L_5, L_6, L_7, L_8, L_9, L_10, L_11, L_12, L_13, L_20, L_24, L_26, L_30, L_31, L_32, L_39, L_40, L_48, L_57, L_76, L_80, L_90, L_91, L_97, L_99, L_100, L_255, L_273, L_1000, L_2000, q_ld, q_ldL, q_sto, q_stoL, q_add, q_sub, q_mul, q_dec, q_rem, q_div, q_lt_t, q_lt_f, q_le_t, q_le_f, q_eq_t, q_eq_f, q_em, q_me, q_ml, q_lm, q_mle, q_lem, q_s1, q_s1o, q_s1k, q_s12, q_s2, q_s2o, q_s2k, q_s21, Nat.add_sub_cancel, q_or, q_and, q_shl, true_or, or_true, false_or, or_false, true_and, and_true, false_and, and_false, not_true_eq_false, not_false_eq_true, ne_eq, fC_Tales_liesBy, gC_Tales_liesBy_0, ha, h.h hm, C_otherAt h hm hu, ep, k1, L_1048576]
      · have e1 : LT w C ta n v k (ix w m u) = LB w C ta n v k (ix w m u) + fl w C ta k (ix w m u) := by omega
        rw [cv_lt (by omega)] at k1
        rw [cv_lt (by omega), e1]
        generalize LB w C ta n v k (ix w m u) = y at e k1
        unfold fl
        by_cases f : SO w C ta k (ix w m u)
        · rw [if_pos f] at er
          rw [if_pos f]
          simp (disch := omega) only [Option.bind_some, ↓reduceIte, ↓M_1, ↓M_2, L_0, L_1, L_2, L_3, L_4, L_5, L_6, L_7, L_8, L_9, L_10, L_11, L_12, L_13, L_20, L_24, L_26, L_30, L_31, L_32, L_39, L_40, L_48, L_57, L_76, L_80, L_90, L_91, L_97, L_99, L_100, L_255, L_273, L_1000, L_2000, q_ld, q_ldL, q_sto, q_stoL, q_add, q_sub, q_mul, q_dec, q_rem, q_div, q_lt_t, q_lt_f, q_le_t, q_le_f, q_eq_t, q_eq_f, q_em, q_me, q_ml, q_lm, q_mle, q_lem, q_s1, q_s1o, q_s1k, q_s12, q_s2, q_s2o, q_s2k, q_s21, Nat.add_sub_cancel, q_or, q_and, q_shl, true_or, or_true, false_or, or_false, true_and, and_true, false_and, and_false, not_true_eq_false, not_false_eq_true, ne_eq, fC_Tales_liesBy, gC_Tales_liesBy_0, ha, h.h hm, C_otherAt h hm hu, ep, k1, L_1048576, er, gC_Tales_liesBy_92]
        · rw [if_neg f] at er
          rw [if_neg f]
          simp (disch := omega) only [Option.bind_some, ↓reduceIte, ↓M_1, ↓M_2, L_0, L_1, L_2, L_3, L_4, L_5, L_6, L_7, L_8, L_9, L_10, L_11, L_12, L_13, L_20, L_24, L_26, L_30, L_31, L_32, L_39, L_40, L_48, L_57, L_76, L_80, L_90, L_91, L_97, L_99, L_100, L_255, L_273, L_1000, L_2000, q_ld, q_ldL, q_sto, q_stoL, q_add, q_sub, q_mul, q_dec, q_rem, q_div, q_lt_t, q_lt_f, q_le_t, q_le_f, q_eq_t, q_eq_f, q_em, q_me, q_ml, q_lm, q_mle, q_lem, q_s1, q_s1o, q_s1k, q_s12, q_s2, q_s2o, q_s2k, q_s21, Nat.add_sub_cancel, q_or, q_and, q_shl, true_or, or_true, false_or, or_false, true_and, and_true, false_and, and_false, not_true_eq_false, not_false_eq_true, ne_eq, fC_Tales_liesBy, gC_Tales_liesBy_0, ha, h.h hm, C_otherAt h hm hu, ep, k1, L_1048576, er, gC_Tales_liesBy_92]
    · rw [if_neg (fun z => d (by have := z.2.2; rw [ix_hr] at this; exact this)), cv_no (by omega)]
      simp (disch := omega) only [Option.bind_some, ↓reduceIte, ↓M_1, ↓M_2, L_0, L_1, L_2, L_3, L_4, L_5, L_6, L_7, L_8, L_9, L_10, L_11, L_12, L_13, L_20, L_24, L_26, L_30, L_31, L_32, L_39, L_40, L_48, L_57, L_76, L_80, L_90, L_91, L_97, L_99, L_100, L_255, L_273, L_1000, L_2000, q_ld, q_ldL, q_sto, q_stoL, q_add, q_sub, q_mul, q_dec, q_rem, q_div, q_lt_t, q_lt_f, q_le_t, q_le_f, q_eq_t, q_eq_f, q_em, q_me, q_ml, q_lm, q_mle, q_lem, q_s1, q_s1o, q_s1k, q_s12, q_s2, q_s2o, q_s2k, q_s21, Nat.add_sub_cancel, q_or, q_and, q_shl, true_or, or_true, false_or, or_false, true_and, and_true, false_and, and_false, not_true_eq_false, not_false_eq_true, ne_eq, fC_Tales_liesBy, gC_Tales_liesBy_0, ha, h.h hm, L_1048576]
  · rw [if_neg c] at ha
    rw [if_neg (fun z => c z.1), cv_no (by omega)]
    simp (disch := omega) only [Option.bind_some, ↓reduceIte, ↓M_1, ↓M_2, L_0, L_1, L_2, L_3, L_4, L_5, L_6, L_7, L_8, L_9, L_10, L_11, L_12, L_13, L_20, L_24, L_26, L_30, L_31, L_32, L_39, L_40, L_48, L_57, L_76, L_80, L_90, L_91, L_97, L_99, L_100, L_255, L_273, L_1000, L_2000, q_ld, q_ldL, q_sto, q_stoL, q_add, q_sub, q_mul, q_dec, q_rem, q_div, q_lt_t, q_lt_f, q_le_t, q_le_f, q_eq_t, q_eq_f, q_em, q_me, q_ml, q_lm, q_mle, q_lem, q_s1, q_s1o, q_s1k, q_s12, q_s2, q_s2o, q_s2k, q_s21, Nat.add_sub_cancel, q_or, q_and, q_shl, true_or, or_true, false_or, or_false, true_and, and_true, false_and, and_false, not_true_eq_false, not_false_eq_true, ne_eq, fC_Tales_liesBy, gC_Tales_liesBy_0, ha, L_1048576]
theorem C_fewestFrom (h : CW w s) (hN : 60 ≤ N) (hJ : CJ w C ta n v s) (hu : u < w 5 0) (hr : r < 1000) (hk : 0 < k ∧ k < n) (hB : CL1 w C ta n v k s) : fC_Tales_fewestFrom N (nI u) (nI r) (nI k) s = some (nI (cv (lw w (LT w C ta n v k) u r (2 * w 5 1))), s) := by
  have hb := h.bd
  have st : fC_Tales_fewestFrom N (nI u) (nI r) (nI k) s = gC_Tales_fewestFrom_7 N N (nI u) (nI r) (nI k) (nI (cv (lw w (LT w C ta n v k) u r (2 * 0)))) (nI 0) s := by
    simp (disch := omega) only [Option.bind_some, ↓reduceIte, ↓M_1, ↓M_2, L_0, L_1, L_2, L_3, L_4, L_5, L_6, L_7, L_8, L_9, L_10, L_11, L_12, L_13, L_20, L_24, L_26, L_30, L_31, L_32, L_39, L_40, L_48, L_57, L_76, L_80, L_90, L_91, L_97, L_99, L_100, L_255, L_273, L_1000, L_2000, q_ld, q_ldL, q_sto, q_stoL, q_add, q_sub, q_mul, q_dec, q_rem, q_div, q_lt_t, q_lt_f, q_le_t, q_le_f, q_eq_t, q_eq_f, q_em, q_me, q_ml, q_lm, q_mle, q_lem, q_s1, q_s1o, q_s1k, q_s12, q_s2, q_s2o, q_s2k, q_s21, Nat.add_sub_cancel, q_or, q_and, q_shl, true_or, or_true, false_or, or_false, true_and, and_true, false_and, and_false, not_true_eq_false, not_false_eq_true, ne_eq, fC_Tales_fewestFrom, gC_Tales_fewestFrom_0, L_1048576]
    rfl
  rw [st]
  refine loopS (fun f i (y : Nat) => gC_Tales_fewestFrom_7 N f (nI u) (nI r) (nI k) (nI y) (nI i) s) (fun i => cv (lw w (LT w C ta n v k) u r (2 * i))) (w 5 1) _ (fun f m hm => ?_) (fun f => ?_) N (by omega)
  · have en := C_liesBy (N := N) h hJ hu hr hk hm hB
    have es := lw_hop h.ok (LT w C ta n v k) u r hm
    have hle := lw_le (w := w) (T := LT w C ta n v k) (u := u) (r := r) (2 * m)
    show gC_Tales_fewestFrom_7 N (f + 1) (nI u) (nI r) (nI k) (nI (cv (lw w (LT w C ta n v k) u r (2 * m)))) (nI m) s = gC_Tales_fewestFrom_7 N f (nI u) (nI r) (nI k) (nI (cv (lw w (LT w C ta n v k) u r (2 * (m + 1))))) (nI (m + 1)) s
    have e2 : lw w (LT w C ta n v k) u r (2 * (m + 1)) = min (lw w (LT w C ta n v k) u r (2 * m)) (if (w 1 m = u ∨ w 2 m = u) ∧ beg w u r (ix w m u) then LT w C ta n v k (ix w m u) else 1000000) := by
      rw [es]
      by_cases c : (w 1 m = u ∨ w 2 m = u) ∧ beg w u r (ix w m u)
      · rw [if_pos c, if_pos c]
      · rw [if_neg c, if_neg c]; omega
    rw [e2, ← cv_min]
    generalize (if (w 1 m = u ∨ w 2 m = u) ∧ beg w u r (ix w m u) then LT w C ta n v k (ix w m u) else 1000000) = y at en
    generalize lw w (LT w C ta n v k) u r (2 * m) = y2
    have c1 := cv_le y
    have c2 := cv_le y2
    rw [gC_Tales_fewestFrom_7]
    simp (disch := omega) only [Option.bind_some, ↓reduceIte, ↓M_1, ↓M_2, L_0, L_1, L_2, L_3, L_4, L_5, L_6, L_7, L_8, L_9, L_10, L_11, L_12, L_13, L_20, L_24, L_26, L_30, L_31, L_32, L_39, L_40, L_48, L_57, L_76, L_80, L_90, L_91, L_97, L_99, L_100, L_255, L_273, L_1000, L_2000, q_ld, q_ldL, q_sto, q_stoL, q_add, q_sub, q_mul, q_dec, q_rem, q_div, q_lt_t, q_lt_f, q_le_t, q_le_f, q_eq_t, q_eq_f, q_em, q_me, q_ml, q_lm, q_mle, q_lem, q_s1, q_s1o, q_s1k, q_s12, q_s2, q_s2o, q_s2k, q_s21, Nat.add_sub_cancel, q_or, q_and, q_shl, true_or, or_true, false_or, or_false, true_and, and_true, false_and, and_false, not_true_eq_false, not_false_eq_true, ne_eq, h.m, en, q_min]
  · show gC_Tales_fewestFrom_7 N (f + 1) (nI u) (nI r) (nI k) (nI (cv (lw w (LT w C ta n v k) u r (2 * w 5 1)))) (nI (w 5 1)) s = _
    rw [gC_Tales_fewestFrom_7]
    simp (disch := omega) only [Option.bind_some, ↓reduceIte, ↓M_1, ↓M_2, L_0, L_1, L_2, L_3, L_4, L_5, L_6, L_7, L_8, L_9, L_10, L_11, L_12, L_13, L_20, L_24, L_26, L_30, L_31, L_32, L_39, L_40, L_48, L_57, L_76, L_80, L_90, L_91, L_97, L_99, L_100, L_255, L_273, L_1000, L_2000, q_ld, q_ldL, q_sto, q_stoL, q_add, q_sub, q_mul, q_dec, q_rem, q_div, q_lt_t, q_lt_f, q_le_t, q_le_f, q_eq_t, q_eq_f, q_em, q_me, q_ml, q_lm, q_mle, q_lem, q_s1, q_s1o, q_s1k, q_s12, q_s2, q_s2o, q_s2k, q_s21, Nat.add_sub_cancel, q_or, q_and, q_shl, true_or, or_true, false_or, or_false, true_and, and_true, false_and, and_false, not_true_eq_false, not_false_eq_true, ne_eq, h.m]
theorem C_liesAt (h : CW w s) (hN : 60 ≤ N) (hJ : CJ w C ta n v s) (hk : 0 < k ∧ k < n) (hv : v < w 5 0) (ha : a < 2 * w 5 1) (hB : k + 1 < n → CL1 w C ta n v (k + 1) s) : fC_Tales_liesAt N (nI k) (nI (sw a)) s = some (nI (cv (LB w C ta n v k a)), s) := by
  have hb := h.bd
  have hn := hJ.1
  have h9 := hJ.2.1
  have h10 := hJ.2.2.1
  have eg := C_getter (N := N) h ha
  have er := C_ready (N := N) h ha
  have hg := gt_lt h.ok ha
  have hrd := rd_le h.ok ha
  have hk2 := hk.2
  unfold LB
  by_cases c : k + 1 = n
  · rw [if_pos c]
    by_cases d : gt w a = v
    · rw [if_pos d, cv_lt (by omega)]
      simp (disch := omega) only [Option.bind_some, ↓reduceIte, ↓M_1, ↓M_2, L_0, L_1, L_2, L_3, L_4, L_5, L_6, L_7, L_8, L_9, L_10, L_11, L_12, L_13, L_20, L_24, L_26, L_30, L_31, L_32, L_39, L_40, L_48, L_57, L_76, L_80, L_90, L_91, L_97, L_99, L_100, L_255, L_273, L_1000, L_2000, q_ld, q_ldL, q_sto, q_stoL, q_add, q_sub, q_mul, q_dec, q_rem, q_div, q_lt_t, q_lt_f, q_le_t, q_le_f, q_eq_t, q_eq_f, q_em, q_me, q_ml, q_lm, q_mle, q_lem, q_s1, q_s1o, q_s1k, q_s12, q_s2, q_s2o, q_s2k, q_s21, Nat.add_sub_cancel, q_or, q_and, q_shl, true_or, or_true, false_or, or_false, true_and, and_true, false_and, and_false, not_true_eq_false, not_false_eq_true, ne_eq, fC_Tales_liesAt, gC_Tales_liesAt_0, eg, h9, h10, d]
    · rw [if_neg d, cv_no (by omega)]
      simp (disch := omega) only [Option.bind_some, ↓reduceIte, ↓M_1, ↓M_2, L_0, L_1, L_2, L_3, L_4, L_5, L_6, L_7, L_8, L_9, L_10, L_11, L_12, L_13, L_20, L_24, L_26, L_30, L_31, L_32, L_39, L_40, L_48, L_57, L_76, L_80, L_90, L_91, L_97, L_99, L_100, L_255, L_273, L_1000, L_2000, q_ld, q_ldL, q_sto, q_stoL, q_add, q_sub, q_mul, q_dec, q_rem, q_div, q_lt_t, q_lt_f, q_le_t, q_le_f, q_eq_t, q_eq_f, q_em, q_me, q_ml, q_lm, q_mle, q_lem, q_s1, q_s1o, q_s1k, q_s12, q_s2, q_s2o, q_s2k, q_s21, Nat.add_sub_cancel, q_or, q_and, q_shl, true_or, or_true, false_or, or_false, true_and, and_true, false_and, and_false, not_true_eq_false, not_false_eq_true, ne_eq, fC_Tales_liesAt, gC_Tales_liesAt_0, eg, h9, h10, L_1048576]
  · rw [if_neg c]
    have ew := C_fewestFrom (N := N) h hN hJ hg (show rd w a < 1000 by omega) (k := k + 1) ⟨by omega, by omega⟩ (hB (by omega))
    simp (disch := omega) only [Option.bind_some, ↓reduceIte, ↓M_1, ↓M_2, L_0, L_1, L_2, L_3, L_4, L_5, L_6, L_7, L_8, L_9, L_10, L_11, L_12, L_13, L_20, L_24, L_26, L_30, L_31, L_32, L_39, L_40, L_48, L_57, L_76, L_80, L_90, L_91, L_97, L_99, L_100, L_255, L_273, L_1000, L_2000, q_ld, q_ldL, q_sto, q_stoL, q_add, q_sub, q_mul, q_dec, q_rem, q_div, q_lt_t, q_lt_f, q_le_t, q_le_f, q_eq_t, q_eq_f, q_em, q_me, q_ml, q_lm, q_mle, q_lem, q_s1, q_s1o, q_s1k, q_s12, q_s2, q_s2o, q_s2k, q_s21, Nat.add_sub_cancel, q_or, q_and, q_shl, true_or, or_true, false_or, or_false, true_and, and_true, false_and, and_false, not_true_eq_false, not_false_eq_true, ne_eq, fC_Tales_liesAt, gC_Tales_liesAt_0, eg, h9, er, ew]
theorem C_wl21 (R : Int32 → vSt → Option vSt) (h : CW w s) (hN : 60 ≤ N) (hJ : CJ w C ta n v s) (hv : v < w 5 0) (hk : 0 < k ∧ k < n) (hG : k + 1 < n → CL1 w C ta n v (k + 1) s) :
    ∃ z, gC_Tales_weighLies_told_21 N R N (nI k) (nI 0) s = R (nI (k - 1)) z ∧ Fr [51] [] s z ∧ CL1 w C ta n v k z ∧ ∀ j, ¬ (k * 40 ≤ j ∧ j < k * 40 + 40) → z.1 51 j = s.1 51 j := by
  have hb := h.bd
  have hn := hJ.1
  have hk2 := hk.2
  refine loopU (fun f i z => gC_Tales_weighLies_told_21 N R f (nI k) (nI i) z) (2 * w 5 1) (fun i z => i ≤ 2 * w 5 1 ∧ Fr [51] [] s z ∧ (∀ o, o < 2 * w 5 1 → sw o < i → z.1 51 (k * 40 + sw o) = nI (cv (LB w C ta n v k o))) ∧ ∀ j, ¬ (k * 40 ≤ j ∧ j < k * 40 + 40) → z.1 51 j = s.1 51 j)
    (fun o => ∃ z, o = R (nI (k - 1)) z ∧ Fr [51] [] s z ∧ CL1 w C ta n v k z ∧ ∀ j, ¬ (k * 40 ≤ j ∧ j < k * 40 + 40) → z.1 51 j = s.1 51 j) ?_ ?_ (2 * w 5 1) N 0 s (by omega) (by omega) ⟨by omega, Fr.rf, fun o _ h => by omega, fun _ _ => rfl⟩
  · rintro f i z hi ⟨g1, g2, g3, g4⟩
    have hz : CW w z := h.fr g2 (by decide)
    have hJz : CJ w C ta n v z := by
      unfold CJ at hJ ⊢
      rw [g2.1 46 (by decide), g2.1 47 (by decide)]; exact hJ
    have hsi := sw_lt hi
    have en := C_liesAt (N := N) hz hN hJz hk hv hsi (fun hk1 o ho => by rw [g4 _ (by have := sw_lt ho; omega)]; exact hG hk1 o ho)
    rw [sw_sw] at en
    refine Or.inl ⟨s1 z 51 (k * 40 + i) (nI (cv (LB w C ta n v k (sw i)))), ?_, by omega, g2.tr (Fr.s1 (by decide)), fun o ho hoi => ?_, fun j hj => ?_⟩
    · show gC_Tales_weighLies_told_21 N R (f + 1) (nI k) (nI i) z = _
      rw [gC_Tales_weighLies_told_21]
      simp (disch := omega) only [Option.bind_some, ↓reduceIte, ↓M_1, ↓M_2, L_0, L_1, L_2, L_3, L_4, L_5, L_6, L_7, L_8, L_9, L_10, L_11, L_12, L_13, L_20, L_24, L_26, L_30, L_31, L_32, L_39, L_40, L_48, L_57, L_76, L_80, L_90, L_91, L_97, L_99, L_100, L_255, L_273, L_1000, L_2000, q_ld, q_ldL, q_sto, q_stoL, q_add, q_sub, q_mul, q_dec, q_rem, q_div, q_lt_t, q_lt_f, q_le_t, q_le_f, q_eq_t, q_eq_f, q_em, q_me, q_ml, q_lm, q_mle, q_lem, q_s1, q_s1o, q_s1k, q_s12, q_s2, q_s2o, q_s2k, q_s21, Nat.add_sub_cancel, q_or, q_and, q_shl, true_or, or_true, false_or, or_false, true_and, and_true, false_and, and_false, not_true_eq_false, not_false_eq_true, ne_eq, hz.m, en]
    · by_cases c : sw o = i
      · rw [c, q_s1, ← c, sw_sw]
      · rw [q_s1k (by omega)]; exact g3 o ho (by omega)
    · rw [q_s1k (by omega)]; exact g4 j hj
  · rintro f z ⟨g1, g2, g3, g4⟩
    have hz : CW w z := h.fr g2 (by decide)
    refine ⟨z, ?_, g2, fun o ho => g3 o ho (sw_lt ho), g4⟩
    show gC_Tales_weighLies_told_21 N R (f + 1) (nI k) (nI (2 * w 5 1)) z = _
    rw [gC_Tales_weighLies_told_21]
    simp (disch := omega) only [Option.bind_some, ↓reduceIte, ↓M_1, ↓M_2, L_0, L_1, L_2, L_3, L_4, L_5, L_6, L_7, L_8, L_9, L_10, L_11, L_12, L_13, L_20, L_24, L_26, L_30, L_31, L_32, L_39, L_40, L_48, L_57, L_76, L_80, L_90, L_91, L_97, L_99, L_100, L_255, L_273, L_1000, L_2000, q_ld, q_ldL, q_sto, q_stoL, q_add, q_sub, q_mul, q_dec, q_rem, q_div, q_lt_t, q_lt_f, q_le_t, q_le_f, q_eq_t, q_eq_f, q_em, q_me, q_ml, q_lm, q_mle, q_lem, q_s1, q_s1o, q_s1k, q_s12, q_s2, q_s2o, q_s2k, q_s21, Nat.add_sub_cancel, q_or, q_and, q_shl, true_or, or_true, false_or, or_false, true_and, and_true, false_and, and_false, not_true_eq_false, not_false_eq_true, ne_eq, hz.m]
theorem C_weighLies (hN : 100 ≤ N) (h : CW w s) (hU : UC C s) (hn : s.1 5 1 = nI n) (hn0 : 0 < n) (hT : CT 6 n ta s) (hv : v < w 5 0) (hd : ∀ k a, 0 < k → k < n → a < 2 * w 5 1 → C.length = 0 ∨ ∃ v, Den (SOE w ta a k) C v) :
    ∃ z, fC_Tales_weighLies_told N (nI v) s = some z ∧ Fr [17, 19, 20, 46, 47, 51] [] s z ∧ z.1 17 1 = s.1 17 1 ∧ CJ w C ta n v z ∧ ∀ k, 0 < k → k < n → CL1 w C ta n v k z := by
  have hb := h.bd
  have hn12 := hT.1
  obtain ⟨s0, a1, a2, a3, a4, a5, a6⟩ := C_judge_told (N := N) (v := v) hN h hU hn hn0 hT hd
  have hJ0 : CJ w C ta n v s0 := ⟨hn12, a4, a5, a6⟩
  have st : fC_Tales_weighLies_told N (nI v) s = gC_Tales_weighLies_told_13 N N (nI (n - 1)) s0 := by
    simp (disch := omega) only [Option.bind_some, ↓reduceIte, ↓M_1, ↓M_2, L_0, L_1, L_2, L_3, L_4, L_5, L_6, L_7, L_8, L_9, L_10, L_11, L_12, L_13, L_20, L_24, L_26, L_30, L_31, L_32, L_39, L_40, L_48, L_57, L_76, L_80, L_90, L_91, L_97, L_99, L_100, L_255, L_273, L_1000, L_2000, q_ld, q_ldL, q_sto, q_stoL, q_add, q_sub, q_mul, q_dec, q_rem, q_div, q_lt_t, q_lt_f, q_le_t, q_le_f, q_eq_t, q_eq_f, q_em, q_me, q_ml, q_lm, q_mle, q_lem, q_s1, q_s1o, q_s1k, q_s12, q_s2, q_s2o, q_s2k, q_s21, Nat.add_sub_cancel, q_or, q_and, q_shl, true_or, or_true, false_or, or_false, true_and, and_true, false_and, and_false, not_true_eq_false, not_false_eq_true, ne_eq, fC_Tales_weighLies_told, gC_Tales_weighLies_told_0, a1, a4]
  rw [st]
  refine loopD (fun f i z => gC_Tales_weighLies_told_13 N f (nI i) z) (n - 1) (fun i z => i ≤ n - 1 ∧ Fr [51] [] s0 z ∧ ∀ k, i < k → k < n → CL1 w C ta n v k z)
    (fun o => ∃ z, o = some z ∧ Fr [17, 19, 20, 46, 47, 51] [] s z ∧ z.1 17 1 = s.1 17 1 ∧ CJ w C ta n v z ∧ ∀ k, 0 < k → k < n → CL1 w C ta n v k z) ?_ ?_ (n - 1) N s0 (Nat.le_refl _) (by omega) ⟨Nat.le_refl _, Fr.rf, fun k h1 h2 => by omega⟩
  · rintro f i z hi ⟨g1, g2, g3⟩
    have fz : Fr [17, 19, 20, 46, 47, 51] [] s z := (a2.mono (by decide) (by decide)).tr (g2.mono (by decide) (by decide))
    have hJz : CJ w C ta n v z := by
      unfold CJ at hJ0 ⊢
      rw [g2.1 46 (by decide), g2.1 47 (by decide)]; exact hJ0
    obtain ⟨y, y1, y2, y3, y4⟩ := C_wl21 (N := N) (gC_Tales_weighLies_told_13 N f) (h.fr fz (by decide)) (show 60 ≤ N by omega) hJz hv (k := i + 1) ⟨by omega, by omega⟩ (fun hk => g3 (i + 1 + 1) (by omega) hk)
    refine Or.inl ⟨y, ?_, by omega, g2.tr y2, fun k k1 k2 => ?_⟩
    · show gC_Tales_weighLies_told_13 N (f + 1) (nI (i + 1)) z = _
      rw [gC_Tales_weighLies_told_13]
      rw [Nat.add_sub_cancel] at y1
      simp (disch := omega) only [Option.bind_some, ↓reduceIte, ↓M_1, ↓M_2, L_0, L_1, L_2, L_3, L_4, L_5, L_6, L_7, L_8, L_9, L_10, L_11, L_12, L_13, L_20, L_24, L_26, L_30, L_31, L_32, L_39, L_40, L_48, L_57, L_76, L_80, L_90, L_91, L_97, L_99, L_100, L_255, L_273, L_1000, L_2000, q_ld, q_ldL, q_sto, q_stoL, q_add, q_sub, q_mul, q_dec, q_rem, q_div, q_lt_t, q_lt_f, q_le_t, q_le_f, q_eq_t, q_eq_f, q_em, q_me, q_ml, q_lm, q_mle, q_lem, q_s1, q_s1o, q_s1k, q_s12, q_s2, q_s2o, q_s2k, q_s21, Nat.add_sub_cancel, q_or, q_and, q_shl, true_or, or_true, false_or, or_false, true_and, and_true, false_and, and_false, not_true_eq_false, not_false_eq_true, ne_eq, y1]
    · by_cases c : k = i + 1
      · subst c; exact y3
      · intro o ho
        have := sw_lt ho
        rw [y4 _ (by omega)]; exact g3 k (by omega) k2 o ho
  · rintro f z ⟨g1, g2, g3⟩
    have hJz : CJ w C ta n v z := by
      unfold CJ at hJ0 ⊢
      rw [g2.1 46 (by decide), g2.1 47 (by decide)]; exact hJ0
    refine ⟨z, ?_, (a2.mono (by decide) (by decide)).tr (g2.mono (by decide) (by decide)), by rw [g2.1 17 (by decide)]; exact a3, hJz, fun k k1 k2 => g3 k k1 k2⟩
    show gC_Tales_weighLies_told_13 N (f + 1) (nI 0) z = _
    rw [gC_Tales_weighLies_told_13]
    simp (disch := omega) only [Option.bind_some, ↓reduceIte, ↓M_1, ↓M_2, L_0, L_1, L_2, L_3, L_4, L_5, L_6, L_7, L_8, L_9, L_10, L_11, L_12, L_13, L_20, L_24, L_26, L_30, L_31, L_32, L_39, L_40, L_48, L_57, L_76, L_80, L_90, L_91, L_97, L_99, L_100, L_255, L_273, L_1000, L_2000, q_ld, q_ldL, q_sto, q_stoL, q_add, q_sub, q_mul, q_dec, q_rem, q_div, q_lt_t, q_lt_f, q_le_t, q_le_f, q_eq_t, q_eq_f, q_em, q_me, q_ml, q_lm, q_mle, q_lem, q_s1, q_s1o, q_s1k, q_s12, q_s2, q_s2o, q_s2k, q_s21, Nat.add_sub_cancel, q_or, q_and, q_shl, true_or, or_true, false_or, or_false, true_and, and_true, false_and, and_false, not_true_eq_false, not_false_eq_true, ne_eq]
theorem C_stepLies_t (h : CW w s) (hN : 60 ≤ N) (hJ : CJ w C ta n v s) (hu : u < w 5 0) (hr : r < 1000) (hk : 0 < k ∧ k < n) (hB : CL1 w C ta n v k s) (hL : L < 1000000) (hq : q < 2 * w 5 1) (hq1 : beg w u r q) (hq2 : LT w C ta n v k q = L) (hq3 : ∀ o, o < q → beg w u r o → ¬ LT w C ta n v k o = L) : fC_Tales_stepLies N (nI u) (nI r) (nI k) (nI L) s = some (nI (q / 2), s) := by
  have hb := h.bd
  have ei : ix w (q / 2) u = q := by rw [← hq1.1, ix_eq h.ok hq]
  simp (disch := omega) only [Option.bind_some, ↓reduceIte, ↓M_1, ↓M_2, L_0, L_1, L_2, L_3, L_4, L_5, L_6, L_7, L_8, L_9, L_10, L_11, L_12, L_13, L_20, L_24, L_26, L_30, L_31, L_32, L_39, L_40, L_48, L_57, L_76, L_80, L_90, L_91, L_97, L_99, L_100, L_255, L_273, L_1000, L_2000, q_ld, q_ldL, q_sto, q_stoL, q_add, q_sub, q_mul, q_dec, q_rem, q_div, q_lt_t, q_lt_f, q_le_t, q_le_f, q_eq_t, q_eq_f, q_em, q_me, q_ml, q_lm, q_mle, q_lem, q_s1, q_s1o, q_s1k, q_s12, q_s2, q_s2o, q_s2k, q_s21, Nat.add_sub_cancel, q_or, q_and, q_shl, true_or, or_true, false_or, or_false, true_and, and_true, false_and, and_false, not_true_eq_false, not_false_eq_true, ne_eq, fC_Tales_stepLies, gC_Tales_stepLies_0]
  refine loopU (fun f i (_ : Unit) => gC_Tales_stepLies_3 N f (nI u) (nI r) (nI k) (nI L) (nI i) s) (w 5 1) (fun i _ => i ≤ q / 2) (fun o => o = some (nI (q / 2), s)) ?_ ?_ (w 5 1) N 0 () (by omega) (by omega) (by omega)
  · rintro f m _ hm hle
    have en := C_liesBy (N := N) h hJ hu hr hk hm hB
    try simp only
    rw [gC_Tales_stepLies_3]
    by_cases c : m = q / 2
    · subst c
      rw [ei, if_pos ⟨by have := gv_hop (w := w) q; rw [hq1.1] at this; exact this, hq1⟩, hq2, cv_lt hL] at en
      refine Or.inr ?_
      simp (disch := omega) only [Option.bind_some, ↓reduceIte, ↓M_1, ↓M_2, L_0, L_1, L_2, L_3, L_4, L_5, L_6, L_7, L_8, L_9, L_10, L_11, L_12, L_13, L_20, L_24, L_26, L_30, L_31, L_32, L_39, L_40, L_48, L_57, L_76, L_80, L_90, L_91, L_97, L_99, L_100, L_255, L_273, L_1000, L_2000, q_ld, q_ldL, q_sto, q_stoL, q_add, q_sub, q_mul, q_dec, q_rem, q_div, q_lt_t, q_lt_f, q_le_t, q_le_f, q_eq_t, q_eq_f, q_em, q_me, q_ml, q_lm, q_mle, q_lem, q_s1, q_s1o, q_s1k, q_s12, q_s2, q_s2o, q_s2k, q_s21, Nat.add_sub_cancel, q_or, q_and, q_shl, true_or, or_true, false_or, or_false, true_and, and_true, false_and, and_false, not_true_eq_false, not_false_eq_true, ne_eq, h.m, en]
    · refine Or.inl ⟨(), ?_, by omega⟩
      have hno : ¬ cv (if (w 1 m = u ∨ w 2 m = u) ∧ beg w u r (ix w m u) then LT w C ta n v k (ix w m u) else 1000000) = L := fun z => by
        have hh := ix_half w m u
        by_cases d : (w 1 m = u ∨ w 2 m = u) ∧ beg w u r (ix w m u)
        · rw [if_pos d] at z
          refine hq3 (ix w m u) (by omega) d.2 ?_
          unfold cv at z
          split at z <;> omega
        · rw [if_neg d, cv_no (by omega)] at z
          omega
      have hc := cv_le (if (w 1 m = u ∨ w 2 m = u) ∧ beg w u r (ix w m u) then LT w C ta n v k (ix w m u) else 1000000)
      generalize cv (if (w 1 m = u ∨ w 2 m = u) ∧ beg w u r (ix w m u) then LT w C ta n v k (ix w m u) else 1000000) = y at en hno hc
      simp (disch := omega) only [Option.bind_some, ↓reduceIte, ↓M_1, ↓M_2, L_0, L_1, L_2, L_3, L_4, L_5, L_6, L_7, L_8, L_9, L_10, L_11, L_12, L_13, L_20, L_24, L_26, L_30, L_31, L_32, L_39, L_40, L_48, L_57, L_76, L_80, L_90, L_91, L_97, L_99, L_100, L_255, L_273, L_1000, L_2000, q_ld, q_ldL, q_sto, q_stoL, q_add, q_sub, q_mul, q_dec, q_rem, q_div, q_lt_t, q_lt_f, q_le_t, q_le_f, q_eq_t, q_eq_f, q_em, q_me, q_ml, q_lm, q_mle, q_lem, q_s1, q_s1o, q_s1k, q_s12, q_s2, q_s2o, q_s2k, q_s21, Nat.add_sub_cancel, q_or, q_and, q_shl, true_or, or_true, false_or, or_false, true_and, and_true, false_and, and_false, not_true_eq_false, not_false_eq_true, ne_eq, h.m, en]
  · rintro f _ hle
    omega
theorem C_tl71 (h : CW w s) (hN : 100 ≤ N) (hJ : CJ w C ta n v s) (hB : ∀ k, 0 < k → k < n → CL1 w C ta n v k s) (hn1 : 1 < n) (hu : u < w 5 0) (hk : k < 1000) (hp : rL w C ta n v u k < 1000000) :
    ∃ s0 s', fC_Numbers_clear_row N s = some s0 ∧ gC_Tales_traceLies_71 N N (nI (rL w C ta n v u k)) (nI (rL w C ta n v u k)) (nI u) (nI k) (nI 1) s0 = some (nI (rL w C ta n v u k), s') ∧ Rw (fun j => nI (qL w C ta n v u k j / 2)) (n - 1) s s' := by
  have hb := h.bd
  have hn := hJ.1
  have hok := qL_ok (w := w) (C := C) (ta := ta) (n := n) (v := v) (u := u) (k := k) h.ok hn1 hp
  obtain ⟨s0, x1, x2⟩ := C_clear_row (N := N) (q := fun j => nI (qL w C ta n v u k j / 2)) (s := s)
  have hle : ∀ j, qL w C ta n v u k j < 100 := fun j => by
    have : qL w C ta n v u k j ≤ 2 * w 5 1 := fst1_le _ _
    omega
  have eg : ∀ j o, trP w u k (vL w C ta n v) j (xL w C ta n v u k j) o = (decide (beg w (grC w u k (qL w C ta n v u k) j).1 (grC w u k (qL w C ta n v u k) j).2 o) && decide (LT w C ta n v (j + 1) o = (xL w C ta n v u k j).2)) := fun j o => trP_gr rfl (fun _ => rfl) hle j o
  have gok : ∀ j, j + 1 ≤ n → (grC w u k (qL w C ta n v u k) j).1 < w 5 0 ∧ (grC w u k (qL w C ta n v u k) j).2 < 1000 := fun j hj => by
    cases j with
    | zero => exact ⟨hu, hk⟩
    | succ j =>
      have hqj := (hok j (by omega)).1
      have := rd_le h.ok hqj
      exact ⟨gt_lt h.ok hqj, by show rd w (qL w C ta n v u k j) < 1000; omega⟩
  refine ⟨s0, ?_⟩
  have e0 : gC_Tales_traceLies_71 N N (nI (rL w C ta n v u k)) (nI (rL w C ta n v u k)) (nI u) (nI k) (nI 1) s0 = gC_Tales_traceLies_71 N N (nI (rL w C ta n v u k)) (nI (xL w C ta n v u k 0).2) (nI (grC w u k (qL w C ta n v u k) 0).1) (nI (grC w u k (qL w C ta n v u k) 0).2) (nI (0 + 1)) s0 := rfl
  rw [e0]
  have go : ∃ s', gC_Tales_traceLies_71 N N (nI (rL w C ta n v u k)) (nI (xL w C ta n v u k 0).2) (nI (grC w u k (qL w C ta n v u k) 0).1) (nI (grC w u k (qL w C ta n v u k) 0).2) (nI (0 + 1)) s0 = some (nI (rL w C ta n v u k), s') ∧ Rw (fun j => nI (qL w C ta n v u k j / 2)) (n - 1) s s' := by
    refine loopU (fun f j z => gC_Tales_traceLies_71 N f (nI (rL w C ta n v u k)) (nI (xL w C ta n v u k j).2) (nI (grC w u k (qL w C ta n v u k) j).1) (nI (grC w u k (qL w C ta n v u k) j).2) (nI (j + 1)) z) (n - 1) (fun j z => j ≤ n - 1 ∧ Rw (fun j => nI (qL w C ta n v u k j / 2)) j s z) (fun o => ∃ s', o = some (nI (rL w C ta n v u k), s') ∧ Rw (fun j => nI (qL w C ta n v u k j / 2)) (n - 1) s s') ?_ ?_ (n - 1) N 0 s0 (by omega) (by omega) ⟨by omega, x2⟩
    · rintro f j z hj ⟨g1, g2⟩
      have hz : CW w z := h.fr g2.1 (by decide)
      have hJz : CJ w C ta n v z := by
        unfold CJ at hJ ⊢
        rw [g2.1.1 46 (by decide), g2.1.1 47 (by decide)]; exact hJ
      have z9 : z.1 46 9 = nI n := hJz.2.1
      obtain ⟨y1, y2⟩ := gok j (by omega)
      obtain ⟨o1, o2, o3⟩ := hok j (by omega)
      have ht := fst1_lt (show fst1 (trP w u k (vL w C ta n v) j (xL w C ta n v u k j)) (2 * w 5 1) < 2 * w 5 1 from o1)
      rw [← qL_d, eg, Bool.and_eq_true] at ht
      have q2 := of_decide_eq_true ht.1
      have es := C_stepLies_t (N := N) (k := j + 1) hz (by omega) hJz y1 y2 ⟨by omega, by omega⟩ (fun o ho => by rw [g2.1.1 51 (by decide)]; exact hB (j + 1) (by omega) (by omega) o ho) o3 o1 q2 o2 (fun o ho hbg hp => by
        have hn' := fst1_not (p := trP w u k (vL w C ta n v) j (xL w C ta n v u k j)) (n := 2 * w 5 1) ho
        rw [eg, decide_eq_true hbg, decide_eq_true hp] at hn'
        cases hn')
      obtain ⟨z2, v1, v2⟩ := C_add_row (N := N) g2 (x := nI (qL w C ta n v u k j / 2)) rfl
      have hz2 : CW w z2 := h.fr v2.1 (by decide)
      have hJ2 : CJ w C ta n v z2 := by
        unfold CJ at hJ ⊢
        rw [v2.1.1 46 (by decide), v2.1.1 47 (by decide)]; exact hJ
      have eot := C_otherAt (N := N) hz2 (m := qL w C ta n v u k j / 2) (u := (grC w u k (qL w C ta n v u k) j).1) (by omega) y1
      have epl := C_place (N := N) hz2 (m := qL w C ta n v u k j / 2) (u := (grC w u k (qL w C ta n v u k) j).1) (by omega) (by have := gv_hop (w := w) (qL w C ta n v u k j); rw [q2.1] at this; exact this) y1
      rw [← q2.1, oth_ix h.ok o1] at eot
      rw [← q2.1, oth_ix h.ok o1, ix_eq h.ok o1] at epl
      have erd := C_ready (N := N) hz2 o1
      have eri := C_isRight (N := N) hJ2 (k := j + 1) ⟨by omega, by omega⟩ o1 hb.2
      have hfx : fl w C ta (j + 1) (qL w C ta n v u k j) ≤ (xL w C ta n v u k j).2 := by
        have e := LT_eq (w := w) (C := C) (ta := ta) (v := v) (a := qL w C ta n v u k j) (show j + 1 < n by omega)
        omega
      refine Or.inl ⟨z2, ?_, by omega, v2⟩
      show gC_Tales_traceLies_71 N (f + 1) (nI (rL w C ta n v u k)) (nI (xL w C ta n v u k j).2) (nI (grC w u k (qL w C ta n v u k) j).1) (nI (grC w u k (qL w C ta n v u k) j).2) (nI (j + 1)) z = gC_Tales_traceLies_71 N f (nI (rL w C ta n v u k)) (nI ((xL w C ta n v u k j).2 - fl w C ta (j + 1) (qL w C ta n v u k j))) (nI (gt w (qL w C ta n v u k j))) (nI (rd w (qL w C ta n v u k j))) (nI (j + 1 + 1)) z2
      rw [gC_Tales_traceLies_71]
      rw [← q2.1] at es ⊢
      generalize (xL w C ta n v u k j).2 = L at hfx o3 es
      unfold fl at hfx ⊢
      by_cases c : SO w C ta (j + 1) (qL w C ta n v u k j)
      · rw [if_pos c] at eri
        rw [if_pos c]
        simp (disch := omega) only [Option.bind_some, ↓reduceIte, ↓M_1, ↓M_2, L_0, L_1, L_2, L_3, L_4, L_5, L_6, L_7, L_8, L_9, L_10, L_11, L_12, L_13, L_20, L_24, L_26, L_30, L_31, L_32, L_39, L_40, L_48, L_57, L_76, L_80, L_90, L_91, L_97, L_99, L_100, L_255, L_273, L_1000, L_2000, q_ld, q_ldL, q_sto, q_stoL, q_add, q_sub, q_mul, q_dec, q_rem, q_div, q_lt_t, q_lt_f, q_le_t, q_le_f, q_eq_t, q_eq_f, q_em, q_me, q_ml, q_lm, q_mle, q_lem, q_s1, q_s1o, q_s1k, q_s12, q_s2, q_s2o, q_s2k, q_s21, Nat.add_sub_cancel, q_or, q_and, q_shl, true_or, or_true, false_or, or_false, true_and, and_true, false_and, and_false, not_true_eq_false, not_false_eq_true, ne_eq, z9, es, v1, eot, epl, erd, eri, gC_Tales_traceLies_164]
      · rw [if_neg c] at eri hfx
        rw [if_neg c]
        simp (disch := omega) only [Option.bind_some, ↓reduceIte, ↓M_1, ↓M_2, L_0, L_1, L_2, L_3, L_4, L_5, L_6, L_7, L_8, L_9, L_10, L_11, L_12, L_13, L_20, L_24, L_26, L_30, L_31, L_32, L_39, L_40, L_48, L_57, L_76, L_80, L_90, L_91, L_97, L_99, L_100, L_255, L_273, L_1000, L_2000, q_ld, q_ldL, q_sto, q_stoL, q_add, q_sub, q_mul, q_dec, q_rem, q_div, q_lt_t, q_lt_f, q_le_t, q_le_f, q_eq_t, q_eq_f, q_em, q_me, q_ml, q_lm, q_mle, q_lem, q_s1, q_s1o, q_s1k, q_s12, q_s2, q_s2o, q_s2k, q_s21, Nat.add_sub_cancel, q_or, q_and, q_shl, true_or, or_true, false_or, or_false, true_and, and_true, false_and, and_false, not_true_eq_false, not_false_eq_true, ne_eq, z9, es, v1, eot, epl, erd, eri, gC_Tales_traceLies_164]
    · rintro f z ⟨g1, g2⟩
      have z9 : z.1 46 9 = nI n := by rw [g2.1.1 46 (by decide)]; exact hJ.2.1
      refine ⟨z, ?_, g2⟩
      try simp only
      rw [gC_Tales_traceLies_71, z9, show n - 1 + 1 = n by omega, if_pos (Int32.le_refl _)]
  obtain ⟨s', y1, y2⟩ := go
  exact ⟨s', x1, y1, y2⟩
theorem k_lies (hN : 200 ≤ N) : keeps3 N (RR (UR N)) fC_EachAddsALine_lies fM_EachAddsALineModel_lies := by
  refine keeps3_trip (okUR N) (fun w s a b c hw e => by simp (disch := omega) only [Option.bind_some, ↓reduceIte, ↓M_1, ↓M_2, L_0, L_1, L_2, L_3, L_4, L_5, L_6, L_7, L_8, L_9, L_10, L_11, L_12, L_13, L_20, L_24, L_26, L_30, L_31, L_32, L_39, L_40, L_48, L_57, L_76, L_80, L_90, L_91, L_97, L_99, L_100, L_255, L_273, L_1000, L_2000, q_ld, q_ldL, q_sto, q_stoL, q_add, q_sub, q_mul, q_dec, q_rem, q_div, q_lt_t, q_lt_f, q_le_t, q_le_f, q_eq_t, q_eq_f, q_em, q_me, q_ml, q_lm, q_mle, q_lem, q_s1, q_s1o, q_s1k, q_s12, q_s2, q_s2o, q_s2k, q_s21, Nat.add_sub_cancel, q_or, q_and, q_shl, true_or, or_true, false_or, or_false, true_and, and_true, false_and, and_false, not_true_eq_false, not_false_eq_true, ne_eq, fC_EachAddsALine_lies, gC_EachAddsALine_lies_0, e]) (fun w t a b c hw e => by simp (disch := omega) only [Option.bind_some, ↓reduceIte, ↓M_1, ↓M_2, L_0, L_1, L_2, L_3, L_4, L_5, L_6, L_7, L_8, L_9, L_10, L_11, L_12, L_13, L_20, L_24, L_26, L_30, L_31, L_32, L_39, L_40, L_48, L_57, L_76, L_80, L_90, L_91, L_97, L_99, L_100, L_255, L_273, L_1000, L_2000, q_ld, q_ldL, q_sto, q_stoL, q_add, q_sub, q_mul, q_dec, q_rem, q_div, q_lt_t, q_lt_f, q_le_t, q_le_f, q_eq_t, q_eq_f, q_em, q_me, q_ml, q_lm, q_mle, q_lem, q_s1, q_s1o, q_s1k, q_s12, q_s2, q_s2o, q_s2k, q_s21, Nat.add_sub_cancel, q_or, q_and, q_shl, true_or, or_true, false_or, or_false, true_and, and_true, false_and, and_false, not_true_eq_false, not_false_eq_true, ne_eq, fM_EachAddsALineModel_lies, gM_EachAddsALineModel_lies_0, e]) (fun s t w u v k hr h1 h2 hu hv hk ec em => ?_)
  have hb := h1.bd
  have hmc := hr.mc.r
  have h2' := M_rd0 h2 (nI 0)
  obtain ⟨_, _, _, _, _, h5, _, _, h8, _⟩ := id hr
  obtain ⟨n, ta, hn1, hn2, hC, hM⟩ := h5.get
  have hn := hC.1
  have f11 : Fm [] [] [11] t (s1 t 0 11 (nI 0)) := Fm.w10 (by decide)
  have t40 : (s1 t 0 11 (nI 0)).1 0 40 = nI n := by rw [f11.2.2 40 (by decide)]; exact hn2
  by_cases c0 : n = 0
  · subst c0
    refine ⟨mI 2, s, s1 t 0 11 (nI 0), ?_, ?_, hr.k0 (okUR N)⟩
    · simp (disch := omega) only [Option.bind_some, ↓reduceIte, ↓M_1, ↓M_2, L_0, L_1, L_2, L_3, L_4, L_5, L_6, L_7, L_8, L_9, L_10, L_11, L_12, L_13, L_20, L_24, L_26, L_30, L_31, L_32, L_39, L_40, L_48, L_57, L_76, L_80, L_90, L_91, L_97, L_99, L_100, L_255, L_273, L_1000, L_2000, q_ld, q_ldL, q_sto, q_stoL, q_add, q_sub, q_mul, q_dec, q_rem, q_div, q_lt_t, q_lt_f, q_le_t, q_le_f, q_eq_t, q_eq_f, q_em, q_me, q_ml, q_lm, q_mle, q_lem, q_s1, q_s1o, q_s1k, q_s12, q_s2, q_s2o, q_s2k, q_s21, Nat.add_sub_cancel, q_or, q_and, q_shl, true_or, or_true, false_or, or_false, true_and, and_true, false_and, and_false, not_true_eq_false, not_false_eq_true, ne_eq, fC_EachAddsALine_lies, gC_EachAddsALine_lies_0, ec, hn1]
    · simp (disch := omega) only [Option.bind_some, ↓reduceIte, ↓M_1, ↓M_2, L_0, L_1, L_2, L_3, L_4, L_5, L_6, L_7, L_8, L_9, L_10, L_11, L_12, L_13, L_20, L_24, L_26, L_30, L_31, L_32, L_39, L_40, L_48, L_57, L_76, L_80, L_90, L_91, L_97, L_99, L_100, L_255, L_273, L_1000, L_2000, q_ld, q_ldL, q_sto, q_stoL, q_add, q_sub, q_mul, q_dec, q_rem, q_div, q_lt_t, q_lt_f, q_le_t, q_le_f, q_eq_t, q_eq_f, q_em, q_me, q_ml, q_lm, q_mle, q_lem, q_s1, q_s1o, q_s1k, q_s12, q_s2, q_s2o, q_s2k, q_s21, Nat.add_sub_cancel, q_or, q_and, q_shl, true_or, or_true, false_or, or_false, true_and, and_true, false_and, and_false, not_true_eq_false, not_false_eq_true, ne_eq, fM_EachAddsALineModel_lies, gM_EachAddsALineModel_lies_0, em, hn2]
  · obtain ⟨q, x, C, u1, u2⟩ := h8.get
    have hU' := u1.fm f11 (by decide) (by decide)
    have hM' := hM.fm f11 (by decide)
    have hd := tale_den (N := N) (by omega) h2' hU' hM' (by omega)
    obtain ⟨y, y1, y2, y3, y4, y5⟩ := C_weighLies (N := N) (v := v) (by omega) h1 u2 hn1 (by omega) hC hv hd
    have hy : CW w y := h1.fr y2 (by decide)
    have y9 : y.1 46 9 = nI n := y4.2.1
    have y10 : y.1 46 10 = nI v := y4.2.2.1
    by_cases c1 : n = 1
    · by_cases d : u = v
      · subst d
        have fM : Fm [] [] [10, 11] t (s1 (s1 t 0 11 (nI 0)) 0 10 (nI 0)) := (Fm.w10 (by decide)).tr (Fm.w10 (by decide))
        have fC : Fr [3, 17, 19, 20, 46, 47, 51] [] s (s1 y 3 1 (nI 0)) := (y2.mono (by decide) (by decide)).tr (Fr.s1 (by decide))
        refine ⟨nI 0, s1 y 3 1 (nI 0), s1 (s1 t 0 11 (nI 0)) 0 10 (nI 0), ?_, ?_, hr.rm ⟨0, by omega, q_s1 _ _ _ _, q_s1 _ _ _ _, fun k hk => by omega⟩ (UR.put (u1.fm fM (by decide) (by decide)) (u2.fr fC (by rw [q_s1o (by decide)]; exact y3) (by decide))) (hr.mc.fr fM (by decide)) fC fM (by decide) (by decide) (by decide)⟩
        · simp (disch := omega) only [Option.bind_some, ↓reduceIte, ↓M_1, ↓M_2, L_0, L_1, L_2, L_3, L_4, L_5, L_6, L_7, L_8, L_9, L_10, L_11, L_12, L_13, L_20, L_24, L_26, L_30, L_31, L_32, L_39, L_40, L_48, L_57, L_76, L_80, L_90, L_91, L_97, L_99, L_100, L_255, L_273, L_1000, L_2000, q_ld, q_ldL, q_sto, q_stoL, q_add, q_sub, q_mul, q_dec, q_rem, q_div, q_lt_t, q_lt_f, q_le_t, q_le_f, q_eq_t, q_eq_f, q_em, q_me, q_ml, q_lm, q_mle, q_lem, q_s1, q_s1o, q_s1k, q_s12, q_s2, q_s2o, q_s2k, q_s21, Nat.add_sub_cancel, q_or, q_and, q_shl, true_or, or_true, false_or, or_false, true_and, and_true, false_and, and_false, not_true_eq_false, not_false_eq_true, ne_eq, fC_EachAddsALine_lies, gC_EachAddsALine_lies_0, ec, hn1, c1, y1, fC_Tales_traceLies, gC_Tales_traceLies_0, y9, y10, fC_Numbers_clear_row, gC_Numbers_clear_row_0]
        · simp (disch := omega) only [Option.bind_some, ↓reduceIte, ↓M_1, ↓M_2, L_0, L_1, L_2, L_3, L_4, L_5, L_6, L_7, L_8, L_9, L_10, L_11, L_12, L_13, L_20, L_24, L_26, L_30, L_31, L_32, L_39, L_40, L_48, L_57, L_76, L_80, L_90, L_91, L_97, L_99, L_100, L_255, L_273, L_1000, L_2000, q_ld, q_ldL, q_sto, q_stoL, q_add, q_sub, q_mul, q_dec, q_rem, q_div, q_lt_t, q_lt_f, q_le_t, q_le_f, q_eq_t, q_eq_f, q_em, q_me, q_ml, q_lm, q_mle, q_lem, q_s1, q_s1o, q_s1k, q_s12, q_s2, q_s2o, q_s2k, q_s21, Nat.add_sub_cancel, q_or, q_and, q_shl, true_or, or_true, false_or, or_false, true_and, and_true, false_and, and_false, not_true_eq_false, not_false_eq_true, ne_eq, fM_EachAddsALineModel_lies, gM_EachAddsALineModel_lies_0, em, hn2, c1]
      · refine ⟨mI 3, y, s1 t 0 11 (nI 0), ?_, ?_, hr.rm (hr.ron.fr y2 f11 (by decide) (by decide)) (UR.put (u1.fm f11 (by decide) (by decide)) (u2.fr y2 y3 (by decide))) (hr.mc.fr f11 (by decide)) y2 f11 (by decide) (by decide) (by decide)⟩
        · simp (disch := omega) only [Option.bind_some, ↓reduceIte, ↓M_1, ↓M_2, L_0, L_1, L_2, L_3, L_4, L_5, L_6, L_7, L_8, L_9, L_10, L_11, L_12, L_13, L_20, L_24, L_26, L_30, L_31, L_32, L_39, L_40, L_48, L_57, L_76, L_80, L_90, L_91, L_97, L_99, L_100, L_255, L_273, L_1000, L_2000, q_ld, q_ldL, q_sto, q_stoL, q_add, q_sub, q_mul, q_dec, q_rem, q_div, q_lt_t, q_lt_f, q_le_t, q_le_f, q_eq_t, q_eq_f, q_em, q_me, q_ml, q_lm, q_mle, q_lem, q_s1, q_s1o, q_s1k, q_s12, q_s2, q_s2o, q_s2k, q_s21, Nat.add_sub_cancel, q_or, q_and, q_shl, true_or, or_true, false_or, or_false, true_and, and_true, false_and, and_false, not_true_eq_false, not_false_eq_true, ne_eq, fC_EachAddsALine_lies, gC_EachAddsALine_lies_0, ec, hn1, c1, y1, fC_Tales_traceLies, gC_Tales_traceLies_0, y9, y10, gC_Tales_traceLies_22, gC_Tales_traceLies_42]
          rfl
        · simp (disch := omega) only [Option.bind_some, ↓reduceIte, ↓M_1, ↓M_2, L_0, L_1, L_2, L_3, L_4, L_5, L_6, L_7, L_8, L_9, L_10, L_11, L_12, L_13, L_20, L_24, L_26, L_30, L_31, L_32, L_39, L_40, L_48, L_57, L_76, L_80, L_90, L_91, L_97, L_99, L_100, L_255, L_273, L_1000, L_2000, q_ld, q_ldL, q_sto, q_stoL, q_add, q_sub, q_mul, q_dec, q_rem, q_div, q_lt_t, q_lt_f, q_le_t, q_le_f, q_eq_t, q_eq_f, q_em, q_me, q_ml, q_lm, q_mle, q_lem, q_s1, q_s1o, q_s1k, q_s12, q_s2, q_s2o, q_s2k, q_s21, Nat.add_sub_cancel, q_or, q_and, q_shl, true_or, or_true, false_or, or_false, true_and, and_true, false_and, and_false, not_true_eq_false, not_false_eq_true, ne_eq, fM_EachAddsALineModel_lies, gM_EachAddsALineModel_lies_0, em, hn2, c1]
          rfl
    · have hn1' : 1 < n := by omega
      obtain ⟨t0, e, a1, a2, a3, a4, a5⟩ := M_findOrder (N := N) h2' (show 60 ≤ N by omega)
      have h0 : MW w t0 := h2'.fm a2 (by decide) (by decide)
      obtain ⟨z, z1, z2, z3⟩ := M_l62 (N := N) (v := v) (a1 := nI u) (a3 := nI k) h0 (by omega) (hU'.fm a2 (by decide) (by decide)) (hM'.fm a2 (by decide)) (by omega) hv a3 ((a2.2.2 40 (by decide)).trans t40)
      have hz : MW w z := h0.fm z2 (by decide) (by decide)
      have z30 : z.1 0 30 = nI (2 * w 5 1) := (z2.2.2 30 (by decide)).trans a3
      have t040 : t0.1 0 40 = nI n := (a2.2.2 40 (by decide)).trans t40
      have z40 : z.1 0 40 = nI n := (z2.2.2 40 (by decide)).trans t040
      have e227 := M_l227 (N := N) (C := C) (ta := ta) (v := v) hz (by omega) hn1' hu (show k < 1000 by omega) z30 (z3 1 (by omega) hn1')
      have f1 : Fm [11, 19] [] [11, 12, 13, 14, 15, 16, 19, 20, 21, 22, 23, 24, 25, 26, 30] t z := (f11.mono (by decide) (by decide) (by decide)).tr ((a2.mono (by decide) (by decide) (by decide)).tr (z2.mono (by decide) (by decide) (by decide)))
      have eM : fM_EachAddsALineModel_lies N (nI u) (nI v) (nI k) t = gM_EachAddsALineModel_lies_227 N N (nI u) (nI k) (nI 1000000) (nI 0) z := by
        rw [← z1]
        simp (disch := omega) only [Option.bind_some, ↓reduceIte, ↓M_1, ↓M_2, L_0, L_1, L_2, L_3, L_4, L_5, L_6, L_7, L_8, L_9, L_10, L_11, L_12, L_13, L_20, L_24, L_26, L_30, L_31, L_32, L_39, L_40, L_48, L_57, L_76, L_80, L_90, L_91, L_97, L_99, L_100, L_255, L_273, L_1000, L_2000, q_ld, q_ldL, q_sto, q_stoL, q_add, q_sub, q_mul, q_dec, q_rem, q_div, q_lt_t, q_lt_f, q_le_t, q_le_f, q_eq_t, q_eq_f, q_em, q_me, q_ml, q_lm, q_mle, q_lem, q_s1, q_s1o, q_s1k, q_s12, q_s2, q_s2o, q_s2k, q_s21, Nat.add_sub_cancel, q_or, q_and, q_shl, true_or, or_true, false_or, or_false, true_and, and_true, false_and, and_false, not_true_eq_false, not_false_eq_true, ne_eq, fM_EachAddsALineModel_lies, gM_EachAddsALineModel_lies_0, em, hn2, a1, t040]
      have ew := C_fewestFrom (N := N) hy (by omega) y4 hu (show k < 1000 by omega) (k := 1) ⟨by omega, hn1'⟩ (y5 1 (by omega) hn1')
      by_cases cp : rL w C ta n v u k < 1000000
      · rw [if_pos cp] at e227
        rw [cv_lt cp] at ew
        obtain ⟨t', t1, t2, t3, t4⟩ := M_l295 (N := N) (C := C) (ta := ta) (v := v) hz (by omega) ((hU'.fm a2 (by decide) (by decide)).fm z2 (by decide) (by decide)) ((hM'.fm a2 (by decide)).fm z2 (by decide)) hn1' hu (show k < 1000 by omega) z40 z30 z3 cp
        obtain ⟨s0, s', b1, b2, b3⟩ := C_tl71 (N := N) hy (by omega) y4 y5 hn1' hu (show k < 1000 by omega) cp
        have fC : Fr [3, 4, 17, 19, 20, 46, 47, 51] [] s s' := (y2.mono (by decide) (by decide)).tr (b3.1.mono (by decide) (by decide))
        have fM : Fm [7, 11, 19] [] [10, 11, 12, 13, 14, 15, 16, 19, 20, 21, 22, 23, 24, 25, 26, 30] t t' := (f1.mono (by decide) (by decide) (by decide)).tr (t2.mono (by decide) (by decide) (by decide))
        have h17 : s'.1 17 1 = s.1 17 1 := by rw [b3.1.1 17 (by decide)]; exact y3
        have hm : min (n - 1) 12 = n - 1 := by omega
        have r1 := b3.2.1
        have r2 := b3.2.2
        rw [hm] at r1 r2
        refine ⟨nI (rL w C ta n v u k), s', t', ?_, eM.trans (e227.trans t1), hr.rm ⟨n - 1, by omega, r1, t3, fun j hj => (r2 j hj).trans (t4 j hj).symm⟩ (UR.put (u1.fm fM (by decide) (by decide)) (u2.fr fC h17 (by decide))) (hr.mc.fr fM (by decide)) fC fM (by decide) (by decide) (by decide)⟩
        simp (disch := omega) only [Option.bind_some, ↓reduceIte, ↓M_1, ↓M_2, L_0, L_1, L_2, L_3, L_4, L_5, L_6, L_7, L_8, L_9, L_10, L_11, L_12, L_13, L_20, L_24, L_26, L_30, L_31, L_32, L_39, L_40, L_48, L_57, L_76, L_80, L_90, L_91, L_97, L_99, L_100, L_255, L_273, L_1000, L_2000, q_ld, q_ldL, q_sto, q_stoL, q_add, q_sub, q_mul, q_dec, q_rem, q_div, q_lt_t, q_lt_f, q_le_t, q_le_f, q_eq_t, q_eq_f, q_em, q_me, q_ml, q_lm, q_mle, q_lem, q_s1, q_s1o, q_s1k, q_s12, q_s2, q_s2o, q_s2k, q_s21, Nat.add_sub_cancel, q_or, q_and, q_shl, true_or, or_true, false_or, or_false, true_and, and_true, false_and, and_false, not_true_eq_false, not_false_eq_true, ne_eq, fC_EachAddsALine_lies, gC_EachAddsALine_lies_0, ec, hn1, y1, fC_Tales_traceLies, gC_Tales_traceLies_0, y9, gC_Tales_traceLies_22, ew, gC_Tales_traceLies_42, L_1048576, b1, b2]
      · rw [if_neg cp] at e227
        rw [cv_no cp] at ew
        refine ⟨mI 3, y, z, ?_, eM.trans e227, hr.rm (hr.ron.fr y2 f1 (by decide) (by decide)) (UR.put (u1.fm f1 (by decide) (by decide)) (u2.fr y2 y3 (by decide))) (hr.mc.fr f1 (by decide)) y2 f1 (by decide) (by decide) (by decide)⟩
        simp (disch := omega) only [Option.bind_some, ↓reduceIte, ↓M_1, ↓M_2, L_0, L_1, L_2, L_3, L_4, L_5, L_6, L_7, L_8, L_9, L_10, L_11, L_12, L_13, L_20, L_24, L_26, L_30, L_31, L_32, L_39, L_40, L_48, L_57, L_76, L_80, L_90, L_91, L_97, L_99, L_100, L_255, L_273, L_1000, L_2000, q_ld, q_ldL, q_sto, q_stoL, q_add, q_sub, q_mul, q_dec, q_rem, q_div, q_lt_t, q_lt_f, q_le_t, q_le_f, q_eq_t, q_eq_f, q_em, q_me, q_ml, q_lm, q_mle, q_lem, q_s1, q_s1o, q_s1k, q_s12, q_s2, q_s2o, q_s2k, q_s21, Nat.add_sub_cancel, q_or, q_and, q_shl, true_or, or_true, false_or, or_false, true_and, and_true, false_and, and_false, not_true_eq_false, not_false_eq_true, ne_eq, fC_EachAddsALine_lies, gC_EachAddsALine_lies_0, ec, hn1, y1, fC_Tales_traceLies, gC_Tales_traceLies_0, y9, gC_Tales_traceLies_22, ew, gC_Tales_traceLies_42, L_1048576]
        rfl
end LC
