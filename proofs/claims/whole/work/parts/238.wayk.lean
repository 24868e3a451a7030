/-! way, letter by letter -/
section WK
variable {N : Nat} {U : vSt → vSt → Prop} {w : Nat → Nat → Nat} {s t z : vSt} {n u k : Nat} {x : Nat → Nat}
/-- who has it, from when on, since when -/
def wst (w : Nat → Nat → Nat) (u k : Nat) (x : Nat → Nat) : Nat → Nat × Nat × Nat
  | 0 => (u, k, k)
  | j + 1 => (x j - 97, w 3 (mb w (wst w u k x j).1 (x j - 97) (wst w u k x j).2.1) + w 0 (x j - 97), w 3 (mb w (wst w u k x j).1 (x j - 97) (wst w u k x j).2.1))
def wm (w : Nat → Nat → Nat) (u k : Nat) (x : Nat → Nat) (j : Nat) : Nat := mb w (wst w u k x j).1 (x j - 97) (wst w u k x j).2.1
theorem wst_s (j : Nat) : wst w u k x (j + 1) = (x j - 97, w 3 (wm w u k x j) + w 0 (x j - 97), w 3 (wm w u k x j)) := rfl
theorem wst_ok (h : okW w) (ho : okO w) (hu : u < w 5 0) (hk : k < 100) (hx : ∀ j, j < n → 97 ≤ x j ∧ x j < 97 + w 5 0) : ∀ j, j ≤ n → (∀ i, i < j → ¬ wm w u k x i = 100) → (wst w u k x j).1 < w 5 0 ∧ (wst w u k x j).2.1 < 500 ∧ (wst w u k x j).2.2 ≤ 99 := by
  intro j
  cases j with
  | zero => exact fun _ _ => ⟨hu, by show k < 500; omega, by show k ≤ 99; omega⟩
  | succ j =>
    intro hj hm
    have h1 := hx j (by omega)
    have hR := h.2.2.1 (x j - 97) (by omega)
    have h2 := (mb_ok (g := (wst w u k x j).1) (y := x j - 97) (r := (wst w u k x j).2.1) h ho).resolve_left (fun q => hm j (by omega) q.1)
    have h3 : wm w u k x j < w 5 1 := h2.1
    have h4 := (h.2.2.2 _ h3).2.2.2.1
    rw [wst_s]
    exact ⟨by show x j - 97 < w 5 0; omega, by show w 3 (wm w u k x j) + w 0 (x j - 97) < 500; omega, h4⟩
theorem C_wstep (h : CW w s) {g y r : Nat} (hg : g < w 5 0) (hm : ¬ mb w g y r = 100) : fC_Roads_placeOf N (nI (mb w g y r)) (nI y) s = some (nI (sw (ix w (mb w g y r) g)), s) ∧ fC_Roads_readyAt N (nI (sw (ix w (mb w g y r) g))) s = some (nI (w 3 (mb w g y r) + w 0 y), s) := by
  have h2 := (mb_ok (g := g) (y := y) (r := r) h.ok h.or).resolve_left (fun q => hm q.1)
  have hq := h.ok.2.2.2 _ h2.1
  have hop' : hop w (mb w g y r) g := by have := h2.2.1.2; unfold hop; omega
  have ho : oth w (mb w g y r) g = y := by
    unfold oth
    have := h2.2.1.2
    split <;> omega
  have e1 := C_place (N := N) h h2.1 hop' hg
  rw [ho] at e1
  have e2 := C_ready (N := N) h (ix_lt (w := w) g h2.1)
  have e3 : rd w (ix w (mb w g y r) g) = w 3 (mb w g y r) + w 0 y := by
    unfold rd
    rw [ix_hr, ix_gt, ho]
  rw [e3] at e2
  exact ⟨e1, e2⟩
theorem C_tellFollowed (h : CW w s) (hN : 100 ≤ N) (hu : u < w 5 0) (hk : k < 100) (h1 : s.1 1 1 = nI n) (hn : n ≤ 30) (hs : ∀ j, j < n → s.1 2 j = nI (x j)) (hx : ∀ j, j < n → 97 ≤ x j ∧ x j < 97 + w 5 0) (hm : ∀ i, i < n → ¬ wm w u k x i = 100) : ∃ z, fC_Paths_tellFollowed N (nI u) (nI k) s = some z ∧ Rw (fun j => nI (wm w u k x j)) n s z := by
  have hb := h.bd
  obtain ⟨s0, v1, v2⟩ := C_clear_row (N := N) (q := fun j => nI (wm w u k x j)) (s := s)
  simp (disch := omega) only [Option.bind_some, ↓reduceIte, ↓M_1, ↓M_2, L_0, L_1, L_2, L_3, L_4, L_5, L_6, L_7, L_8, L_9, L_10, L_11, L_12, L_13, L_20, L_24, L_26, L_30, L_31, L_32, L_39, L_40, L_48, L_57, L_76, L_80, L_90, L_91, L_97, L_99, L_100, L_255, L_273, L_1000, L_2000, q_ld, q_ldL, q_sto, q_stoL, q_add, q_sub, q_mul, q_dec, q_rem, q_div, q_lt_t, q_lt_f, q_le_t, q_le_f, q_eq_t, q_eq_f, q_em, q_me, q_ml, q_lm, q_mle, q_lem, q_s1, q_s1o, q_s1k, q_s12, q_s2, q_s2o, q_s2k, q_s21, Nat.add_sub_cancel, q_or, q_and, q_shl, true_or, or_true, false_or, or_false, true_and, and_true, false_and, and_false, not_true_eq_false, not_false_eq_true, ne_eq, fC_Paths_tellFollowed, gC_Paths_tellFollowed_0, v1]
  refine loopU (fun f j z => gC_Paths_tellFollowed_14 N f (nI (wst w u k x j).1) (nI (wst w u k x j).2.1) (nI j) z) n (fun j z => j ≤ n ∧ Rw (fun j => nI (wm w u k x j)) j s z) (fun o => ∃ z, o = some z ∧ Rw (fun j => nI (wm w u k x j)) n s z) ?_ ?_ n N 0 s0 (by omega) (by omega) ⟨by omega, v2⟩
  · rintro f j z hj ⟨g1, g2⟩
    have hz : CW w z := h.fr g2.1 (by decide)
    have z1 : z.1 1 1 = nI n := by rw [g2.1.1 1 (by decide)]; exact h1
    obtain ⟨o1, o2, o3⟩ := wst_ok h.ok h.or hu hk hx j (by omega) (fun i hi => hm i (by omega))
    have es := C_signAt (N := N) z1 (by omega) hj
    rw [g2.1.1 2 (by decide), hs j hj] at es
    have hxj := hx j hj
    have emt := C_meetingOf (N := N) (y := x j - 97) hz (by omega) o1 (by omega) (show (wst w u k x j).2.1 < 1000 by omega)
    have hmj := hm j hj
    have hlt := ((mb_ok (g := (wst w u k x j).1) (y := x j - 97) (r := (wst w u k x j).2.1) h.ok h.or).resolve_left (fun q => hmj q.1)).1
    have ewm : mb w (wst w u k x j).1 (x j - 97) (wst w u k x j).2.1 = wm w u k x j := rfl
    rw [gI_nI (g := mb w (wst w u k x j).1 (x j - 97) (wst w u k x j).2.1) (by omega), ewm] at emt
    obtain ⟨z', y1, y2⟩ := C_add_row (N := N) g2 (x := nI (wm w u k x j)) rfl
    have hz' : CW w z' := h.fr y2.1 (by decide)
    obtain ⟨e1, e2⟩ := C_wstep (N := N) (y := x j - 97) hz' o1 hmj
    rw [ewm] at e1 e2 hlt
    refine Or.inl ⟨z', ?_, by omega, y2⟩
    try simp only
    rw [wst_s, gC_Paths_tellFollowed_14]
    simp (disch := omega) only [Option.bind_some, ↓reduceIte, ↓M_1, ↓M_2, L_0, L_1, L_2, L_3, L_4, L_5, L_6, L_7, L_8, L_9, L_10, L_11, L_12, L_13, L_20, L_24, L_26, L_30, L_31, L_32, L_39, L_40, L_48, L_57, L_76, L_80, L_90, L_91, L_97, L_99, L_100, L_255, L_273, L_1000, L_2000, q_ld, q_ldL, q_sto, q_stoL, q_add, q_sub, q_mul, q_dec, q_rem, q_div, q_lt_t, q_lt_f, q_le_t, q_le_f, q_eq_t, q_eq_f, q_em, q_me, q_ml, q_lm, q_mle, q_lem, q_s1, q_s1o, q_s1k, q_s12, q_s2, q_s2o, q_s2k, q_s21, Nat.add_sub_cancel, q_or, q_and, q_shl, true_or, or_true, false_or, or_false, true_and, and_true, false_and, and_false, not_true_eq_false, not_false_eq_true, ne_eq, z1, es, emt, y1, e1, e2]
  · rintro f z ⟨g1, g2⟩
    have z1 : z.1 1 1 = nI n := by rw [g2.1.1 1 (by decide)]; exact h1
    refine ⟨z, ?_, g2⟩
    try simp only
    rw [gC_Paths_tellFollowed_14]
    simp (disch := omega) only [Option.bind_some, ↓reduceIte, ↓M_1, ↓M_2, L_0, L_1, L_2, L_3, L_4, L_5, L_6, L_7, L_8, L_9, L_10, L_11, L_12, L_13, L_20, L_24, L_26, L_30, L_31, L_32, L_39, L_40, L_48, L_57, L_76, L_80, L_90, L_91, L_97, L_99, L_100, L_255, L_273, L_1000, L_2000, q_ld, q_ldL, q_sto, q_stoL, q_add, q_sub, q_mul, q_dec, q_rem, q_div, q_lt_t, q_lt_f, q_le_t, q_le_f, q_eq_t, q_eq_f, q_em, q_me, q_ml, q_lm, q_mle, q_lem, q_s1, q_s1o, q_s1k, q_s12, q_s2, q_s2o, q_s2k, q_s21, Nat.add_sub_cancel, q_or, q_and, q_shl, true_or, or_true, false_or, or_false, true_and, and_true, false_and, and_false, not_true_eq_false, not_false_eq_true, ne_eq, z1]
/-- the first letter that can't get it so -/
def wf (w : Nat → Nat → Nat) (u k : Nat) (x : Nat → Nat) (n : Nat) : Nat := fst1 (fun j => decide (wm w u k x j = 100)) n
theorem C_follow (h : CW w s) (hN : 100 ≤ N) (hu : u < w 5 0) (hk : k < 100) (h1 : s.1 1 1 = nI n) (hn : n ≤ 30) (hs : ∀ j, j < n → s.1 2 j = nI (x j)) (hx : ∀ j, j < n → 97 ≤ x j ∧ x j < 97 + w 5 0) :
    (wf w u k x n < n → fC_Paths_follow N (nI u) (nI k) s = some (mI (100 + wf w u k x n), s)) ∧ (¬ wf w u k x n < n → ∃ z, fC_Paths_follow N (nI u) (nI k) s = some (nI (wst w u k x n).2.2, z) ∧ Rw (fun j => nI (wm w u k x j)) n s z) := by
  have hb := h.bd
  have main : (wf w u k x n < n ∧ fC_Paths_follow N (nI u) (nI k) s = some (mI (100 + wf w u k x n), s)) ∨ (¬ wf w u k x n < n ∧ ∃ z, fC_Paths_follow N (nI u) (nI k) s = some (nI (wst w u k x n).2.2, z) ∧ Rw (fun j => nI (wm w u k x j)) n s z) := by
    simp (disch := omega) only [Option.bind_some, ↓reduceIte, ↓M_1, ↓M_2, L_0, L_1, L_2, L_3, L_4, L_5, L_6, L_7, L_8, L_9, L_10, L_11, L_12, L_13, L_20, L_24, L_26, L_30, L_31, L_32, L_39, L_40, L_48, L_57, L_76, L_80, L_90, L_91, L_97, L_99, L_100, L_255, L_273, L_1000, L_2000, q_ld, q_ldL, q_sto, q_stoL, q_add, q_sub, q_mul, q_dec, q_rem, q_div, q_lt_t, q_lt_f, q_le_t, q_le_f, q_eq_t, q_eq_f, q_em, q_me, q_ml, q_lm, q_mle, q_lem, q_s1, q_s1o, q_s1k, q_s12, q_s2, q_s2o, q_s2k, q_s21, Nat.add_sub_cancel, q_or, q_and, q_shl, true_or, or_true, false_or, or_false, true_and, and_true, false_and, and_false, not_true_eq_false, not_false_eq_true, ne_eq, fC_Paths_follow, gC_Paths_follow_0]
    refine loopU (fun f j (_ : Unit) => gC_Paths_follow_12 N f (nI u) (nI k) (nI (wst w u k x j).1) (nI (wst w u k x j).2.1) (nI (wst w u k x j).2.2) (nI j) s) n (fun j _ => j ≤ n ∧ ∀ i, i < j → ¬ wm w u k x i = 100) (fun o => (wf w u k x n < n ∧ o = some (mI (100 + wf w u k x n), s)) ∨ (¬ wf w u k x n < n ∧ ∃ z, o = some (nI (wst w u k x n).2.2, z) ∧ Rw (fun j => nI (wm w u k x j)) n s z)) ?_ ?_ n N 0 () (by omega) (by omega) ⟨by omega, fun i hi => by omega⟩
    · rintro f j _ hj ⟨g1, g2⟩
      obtain ⟨o1, o2, o3⟩ := wst_ok h.ok h.or hu hk hx j (by omega) g2
      have es := C_signAt (N := N) h1 (by omega) hj
      rw [hs j hj] at es
      have hxj := hx j hj
      have emt := C_meetingOf (N := N) (y := x j - 97) h (by omega) o1 (by omega) (show (wst w u k x j).2.1 < 1000 by omega)
      have ewm : mb w (wst w u k x j).1 (x j - 97) (wst w u k x j).2.1 = wm w u k x j := rfl
      by_cases hmj : wm w u k x j = 100
      · have hf : wf w u k x n = j := fst1_of hj (decide_eq_true hmj) (fun i hi => decide_eq_false (g2 i hi))
        rw [ewm, hmj, gI_no (g := 100) (by decide)] at emt
        refine Or.inr (Or.inl ⟨by omega, ?_⟩)
        rw [hf]
        try simp only
        rw [gC_Paths_follow_12]
        simp (disch := omega) only [Option.bind_some, ↓reduceIte, ↓M_1, ↓M_2, L_0, L_1, L_2, L_3, L_4, L_5, L_6, L_7, L_8, L_9, L_10, L_11, L_12, L_13, L_20, L_24, L_26, L_30, L_31, L_32, L_39, L_40, L_48, L_57, L_76, L_80, L_90, L_91, L_97, L_99, L_100, L_255, L_273, L_1000, L_2000, q_ld, q_ldL, q_sto, q_stoL, q_add, q_sub, q_mul, q_dec, q_rem, q_div, q_lt_t, q_lt_f, q_le_t, q_le_f, q_eq_t, q_eq_f, q_em, q_me, q_ml, q_lm, q_mle, q_lem, q_s1, q_s1o, q_s1k, q_s12, q_s2, q_s2o, q_s2k, q_s21, Nat.add_sub_cancel, q_or, q_and, q_shl, true_or, or_true, false_or, or_false, true_and, and_true, false_and, and_false, not_true_eq_false, not_false_eq_true, ne_eq, h1, es, emt, ↓M_100, q_ms]
      · have hlt := ((mb_ok (g := (wst w u k x j).1) (y := x j - 97) (r := (wst w u k x j).2.1) h.ok h.or).resolve_left (fun q => hmj q.1)).1
        rw [gI_nI (g := mb w (wst w u k x j).1 (x j - 97) (wst w u k x j).2.1) (by omega), ewm] at emt
        obtain ⟨e1, e2⟩ := C_wstep (N := N) (y := x j - 97) h o1 hmj
        rw [ewm] at e1 e2 hlt
        refine Or.inl ⟨(), ?_, by omega, fun i hi => ?_⟩
        · rw [wst_s, gC_Paths_follow_12]
          simp (disch := omega) only [Option.bind_some, ↓reduceIte, ↓M_1, ↓M_2, L_0, L_1, L_2, L_3, L_4, L_5, L_6, L_7, L_8, L_9, L_10, L_11, L_12, L_13, L_20, L_24, L_26, L_30, L_31, L_32, L_39, L_40, L_48, L_57, L_76, L_80, L_90, L_91, L_97, L_99, L_100, L_255, L_273, L_1000, L_2000, q_ld, q_ldL, q_sto, q_stoL, q_add, q_sub, q_mul, q_dec, q_rem, q_div, q_lt_t, q_lt_f, q_le_t, q_le_f, q_eq_t, q_eq_f, q_em, q_me, q_ml, q_lm, q_mle, q_lem, q_s1, q_s1o, q_s1k, q_s12, q_s2, q_s2o, q_s2k, q_s21, Nat.add_sub_cancel, q_or, q_and, q_shl, true_or, or_true, false_or, or_false, true_and, and_true, false_and, and_false, not_true_eq_false, not_false_eq_true, ne_eq, h1, es, emt, h.h hlt, e1, e2]
        · by_cases e : i = j
          · rw [e]; exact hmj
          · exact g2 i (by omega)
    · rintro f _ ⟨g1, g2⟩
      have hf : ¬ wf w u k x n < n := fun q => g2 _ q (of_decide_eq_true (fst1_lt q))
      obtain ⟨z, e1, e2⟩ := C_tellFollowed (N := N) h hN hu hk h1 hn hs hx g2
      refine Or.inr ⟨hf, z, ?_, e2⟩
      try simp only
      rw [gC_Paths_follow_12]
      simp (disch := omega) only [Option.bind_some, ↓reduceIte, ↓M_1, ↓M_2, L_0, L_1, L_2, L_3, L_4, L_5, L_6, L_7, L_8, L_9, L_10, L_11, L_12, L_13, L_20, L_24, L_26, L_30, L_31, L_32, L_39, L_40, L_48, L_57, L_76, L_80, L_90, L_91, L_97, L_99, L_100, L_255, L_273, L_1000, L_2000, q_ld, q_ldL, q_sto, q_stoL, q_add, q_sub, q_mul, q_dec, q_rem, q_div, q_lt_t, q_lt_f, q_le_t, q_le_f, q_eq_t, q_eq_f, q_em, q_me, q_ml, q_lm, q_mle, q_lem, q_s1, q_s1o, q_s1k, q_s12, q_s2, q_s2o, q_s2k, q_s21, Nat.add_sub_cancel, q_or, q_and, q_shl, true_or, or_true, false_or, or_false, true_and, and_true, false_and, and_false, not_true_eq_false, not_false_eq_true, ne_eq, h1, e1]
  exact ⟨fun q => (main.resolve_right (fun p => p.1 q)).2, fun q => (main.resolve_left (fun p => q p.1)).2⟩
/-- the reference's reading of a way -/
theorem M_letter (hP : z.1 0 12 = nI 6) {P cap a y : Nat} (hP9 : P ≤ 9) (h13 : z.1 0 13 = nI n) (h14 : z.1 0 14 = nI cap) (h15 : z.1 0 15 = nI a) (h16 : z.1 0 16 = mI 1) (hn : n ≤ 80) (hc : cap ≤ 80) (ha : a < n) (ha2 : a < cap) (hy : y < 256) (h6 : z.1 6 a = byteI y) :
    fM_EachAddsALineModel_letter N (nI P) z = if 97 ≤ y ∧ y < 97 + P then some (nI (y - 97), s1 z 0 15 (nI (a + 1))) else some (nI 0, s1 z 0 16 (nI a)) := by
  have eh := M_here6 (N := N) hP h13 h14 h15 hn hc ha ha2
  rw [h6] at eh
  have ef := M_fine_t (N := N) h16
  have ei := by_in (y := y) (a := 97) (b := 97 + P - 1) hy (by decide) (by omega)
  have eft := M_fault_t (N := N) (v := nI a) h16
  by_cases c : 97 ≤ y ∧ y < 97 + P
  · rw [if_pos c]
    have c2 : 97 ≤ y ∧ y ≤ 97 + P - 1 := by omega
    have e128 := by_n (y := y) (by omega)
    rw [e128] at h6
    simp (disch := omega) only [Option.bind_some, ↓reduceIte, ↓M_1, ↓M_2, L_0, L_1, L_2, L_3, L_4, L_5, L_6, L_7, L_8, L_9, L_10, L_11, L_12, L_13, L_20, L_24, L_26, L_30, L_31, L_32, L_39, L_40, L_48, L_57, L_76, L_80, L_90, L_91, L_97, L_99, L_100, L_255, L_273, L_1000, L_2000, q_ld, q_ldL, q_sto, q_stoL, q_add, q_sub, q_mul, q_dec, q_rem, q_div, q_lt_t, q_lt_f, q_le_t, q_le_f, q_eq_t, q_eq_f, q_em, q_me, q_ml, q_lm, q_mle, q_lem, q_s1, q_s1o, q_s1k, q_s12, q_s2, q_s2o, q_s2k, q_s21, Nat.add_sub_cancel, q_or, q_and, q_shl, true_or, or_true, false_or, or_false, true_and, and_true, false_and, and_false, not_true_eq_false, not_false_eq_true, ne_eq, fM_EachAddsALineModel_letter, gM_EachAddsALineModel_letter_0, ef, eh, M_in_any, ei, eq_true c2, h15, hP, h6]
  · rw [if_neg c]
    have c2 : ¬ (97 ≤ y ∧ y ≤ 97 + P - 1) := by omega
    simp (disch := omega) only [Option.bind_some, ↓reduceIte, ↓M_1, ↓M_2, L_0, L_1, L_2, L_3, L_4, L_5, L_6, L_7, L_8, L_9, L_10, L_11, L_12, L_13, L_20, L_24, L_26, L_30, L_31, L_32, L_39, L_40, L_48, L_57, L_76, L_80, L_90, L_91, L_97, L_99, L_100, L_255, L_273, L_1000, L_2000, q_ld, q_ldL, q_sto, q_stoL, q_add, q_sub, q_mul, q_dec, q_rem, q_div, q_lt_t, q_lt_f, q_le_t, q_le_f, q_eq_t, q_eq_f, q_em, q_me, q_ml, q_lm, q_mle, q_lem, q_s1, q_s1o, q_s1k, q_s12, q_s2, q_s2o, q_s2k, q_s21, Nat.add_sub_cancel, q_or, q_and, q_shl, true_or, or_true, false_or, or_false, true_and, and_true, false_and, and_false, not_true_eq_false, not_false_eq_true, ne_eq, fM_EachAddsALineModel_letter, gM_EachAddsALineModel_letter_0, ef, eh, M_in_any, ei, eq_false c2, h15, eft]
end WK
