/-! tales: the first way; fits -/
abbrev vF (w : Nat → Nat → Nat) (C : List Nat) (ta : Nat → Nat) (n v : Nat) : Nat → Nat → Nat → Bool := fun j _ o => decide (0 < FT w C ta n v 100 (j + 1) o)
abbrev xF (w : Nat → Nat → Nat) (C : List Nat) (ta : Nat → Nat) (n v u k : Nat) : Nat → Nat × Nat := trS w u k (vF w C ta n v) (fun _ _ => 0) 0
abbrev qF (w : Nat → Nat → Nat) (C : List Nat) (ta : Nat → Nat) (n v u k : Nat) : Nat → Nat := trQ w u k (vF w C ta n v) (fun _ _ => 0) 0
/-- the row and the rule's workspace -/
theorem RR.rm {U : vSt → vSt → Prop} {s s' t t' : vSt} {L K L' K' F : List Nat} (h : RR U s t) (h4 : RO s' t') (h8 : U s' t') (h9 : MC t') (f : Fr L K s s') (g : Fm L' K' F t t') (hL : ∀ o, o ∈ L → o = 3 ∨ o = 4 ∨ (16 ≤ o ∧ o ≤ 24) ∨ 41 ≤ o)
    (hM : ∀ o, o ∈ L' → o = 7 ∨ (10 ≤ o ∧ o ≤ 15) ∨ (17 ≤ o ∧ o ≤ 21)) (hF : ∀ o, o ∈ F → (10 ≤ o ∧ o ≤ 39) ∨ (42 ≤ o)) : RR U s' t' := by
  obtain ⟨w, h1, h2, h3, _, h5, h6, h7, _, _⟩ := h
  have a : ∀ o, (o < 3 ∨ (4 < o ∧ o < 16) ∨ (24 < o ∧ o < 41)) → o ∉ L := fun o ho z => by have := hL o z; omega
  have b : ∀ o, (o < 7 ∨ (7 < o ∧ o < 10) ∨ o = 16 ∨ 21 < o) → o ∉ L' := fun o ho z => by have := hM o z; omega
  have c : ∀ o, (o < 10 ∨ o = 40 ∨ o = 41) → o ∉ F := fun o ho z => by have := hF o z; omega
  exact ⟨w, h1.fr f ⟨a _ (by decide), a _ (by decide), a _ (by decide), a _ (by decide), a _ (by decide), a _ (by decide), a _ (by decide)⟩,
    h2.fm g ⟨c _ (by decide), c _ (by decide)⟩ ⟨b _ (by decide), b _ (by decide), b _ (by decide), b _ (by decide), b _ (by decide)⟩,
    h3.fr f g ⟨a _ (by decide), a _ (by decide)⟩ ⟨b _ (by decide), c _ (by decide)⟩, h4,
    h5.fr f g ⟨a _ (by decide), a _ (by decide)⟩ ⟨b _ (by decide), c _ (by decide)⟩, h6.fr f g ⟨a _ (by decide), a _ (by decide)⟩ ⟨b _ (by decide), c _ (by decide)⟩,
    h7.fr f g (fun o ho z => a o (by omega) ho) ⟨b _ (by decide), b _ (by decide), b _ (by decide)⟩, h8, h9⟩
section FQ
variable {w : Nat → Nat → Nat} {C : List Nat} {ta : Nat → Nat} {n u v k : Nat}
theorem xF_0 : xF w C ta n v u k 0 = (100, 0) := rfl
theorem xF_s (j : Nat) : (xF w C ta n v u k (j + 1)).1 = qF w C ta n v u k j := rfl
theorem qF_d (j : Nat) : qF w C ta n v u k j = fst1 (trP w u k (vF w C ta n v) j (xF w C ta n v u k j)) (2 * w 5 1) := rfl
/-- a way that there is goes on -/
theorem qF_ok (h : okW w) (hn : 1 < n) (hp : 0 < CF w C ta n u v k 100) : ∀ j, j + 1 < n → qF w C ta n v u k j < 2 * w 5 1 ∧ 0 < FT w C ta n v 100 (j + 1) (qF w C ta n v u k j) := by
  have hM := h.2.1
  have fin : ∀ j o, o < 2 * w 5 1 → trP w u k (vF w C ta n v) j (xF w C ta n v u k j) o = true → qF w C ta n v u k j < 2 * w 5 1 ∧ 0 < FT w C ta n v 100 (j + 1) (qF w C ta n v u k j) := fun j o ho hp => by
    have hq := fst1_ex ho hp
    have ht := fst1_lt hq
    refine ⟨hq, ?_⟩
    rw [trP_eq, Bool.and_eq_true] at ht
    exact of_decide_eq_true ht.2
  intro j
  induction j with
  | zero =>
    intro hj
    unfold CF at hp
    rw [if_neg (by omega)] at hp
    unfold wy at hp
    obtain ⟨o, o1, o2⟩ := sm_pos.mp hp
    by_cases c : beg w u k o
    · rw [if_pos c] at o2
      refine fin 0 o o1 ?_
      rw [trP_eq, Bool.and_eq_true, xF_0, if_pos rfl]
      exact ⟨decide_eq_true c, decide_eq_true o2⟩
    · rw [if_neg c] at o2
      exact absurd o2 (Nat.lt_irrefl _)
  | succ j ih =>
    intro hj
    obtain ⟨i1, i2⟩ := ih (by omega)
    rw [FT_next (by omega)] at i2
    by_cases c : fre w 100 100 (qF w C ta n v u k j) ∧ SO w C ta (j + 1) (qF w C ta n v u k j)
    · rw [if_pos c] at i2
      obtain ⟨o, o1, o2⟩ := sm_pos.mp i2
      by_cases d : fol w o (qF w C ta n v u k j)
      · rw [if_pos d] at o2
        refine fin (j + 1) o o1 ?_
        rw [trP_eq, Bool.and_eq_true, xF_s, if_neg (by omega)]
        exact ⟨decide_eq_true d, decide_eq_true o2⟩
      · rw [if_neg d] at o2
        exact absurd o2 (Nat.lt_irrefl _)
    · rw [if_neg c] at i2
      exact absurd i2 (Nat.lt_irrefl _)
/-- the same as givers and hours -/
theorem trP_gr {V : Nat → Nat → Nat → Bool} {X : Nat → Nat × Nat} {Q : Nat → Nat} (hX0 : (X 0).1 = 100) (hXs : ∀ j, (X (j + 1)).1 = Q j) (hQ : ∀ j, Q j < 100) (j o : Nat) : trP w u k V j (X j) o = (decide (beg w (grC w u k Q j).1 (grC w u k Q j).2 o) && V j (X j).2 o) := by
  rw [trP_eq]
  cases j with
  | zero => rw [hX0, if_pos rfl]; rfl
  | succ j =>
    have := hQ j
    rw [hXs, if_neg (by omega)]; rfl
theorem qF_lt (h : okW w) (j : Nat) : qF w C ta n v u k j < 100 := by
  have hM := h.2.1
  have : qF w C ta n v u k j ≤ 2 * w 5 1 := fst1_le _ _
  omega
end FQ
section FK
variable {N : Nat} {w : Nat → Nat → Nat} {C : List Nat} {x ta G Q : Nat → Nat} {n u v r k a q : Nat} {s t : vSt}
/-- the class' next meeting of the way -/
theorem C_stepFit_t (h : CW w s) (hN : 60 ≤ N) (hn : n ≤ 12) (h9 : s.1 46 9 = nI n) (hu : u < w 5 0) (hr : r < 1000) (hk : k < n) (hG : ∀ o, o < 2 * w 5 1 → s.2 48 (k * 40 + sw o) = lN (G o) ∧ G o < 2 ^ 63) (hq : q < 2 * w 5 1) (hq1 : beg w u r q) (hq2 : 0 < G q) (hq3 : ∀ o, o < q → beg w u r o → ¬ 0 < G o) : fC_Tales_stepFit N (nI u) (nI r) (nI k) s = some (nI (q / 2), s) := by
  have hb := h.bd
  have ei : ix w (q / 2) u = q := by rw [← hq1.1, ix_eq h.ok hq]
  simp (disch := omega) only [Option.bind_some, ↓reduceIte, ↓M_1, ↓M_2, L_0, L_1, L_2, L_3, L_4, L_5, L_6, L_7, L_8, L_9, L_10, L_11, L_12, L_13, L_20, L_24, L_26, L_30, L_31, L_32, L_39, L_40, L_48, L_57, L_76, L_80, L_90, L_91, L_97, L_99, L_100, L_255, L_273, L_1000, L_2000, q_ld, q_ldL, q_sto, q_stoL, q_add, q_sub, q_mul, q_dec, q_rem, q_div, q_lt_t, q_lt_f, q_le_t, q_le_f, q_eq_t, q_eq_f, q_em, q_me, q_ml, q_lm, q_mle, q_lem, q_s1, q_s1o, q_s1k, q_s12, q_s2, q_s2o, q_s2k, q_s21, Nat.add_sub_cancel, q_or, q_and, q_shl, true_or, or_true, false_or, or_false, true_and, and_true, false_and, and_false, not_true_eq_false, not_false_eq_true, ne_eq, fC_Tales_stepFit, gC_Tales_stepFit_0]
  refine loopU (fun f i (_ : Unit) => gC_Tales_stepFit_3 N f (nI u) (nI r) (nI k) (nI i) s) (w 5 1) (fun i _ => i ≤ q / 2) (fun o => o = some (nI (q / 2), s)) ?_ ?_ (w 5 1) N 0 () (by omega) (by omega) (by omega)
  · rintro f m _ hm hle
    have en := C_nextOf (N := N) h hn h9 hu hr hk hm hG
    try simp only
    rw [gC_Tales_stepFit_3]
    by_cases c : m = q / 2
    · subst c
      have hs := sw_lt hq
      rw [ei, if_pos ⟨by have := gv_hop (w := w) q; rw [hq1.1] at this; exact this, hq1, hq2⟩] at en
      refine Or.inr ?_
      simp (disch := omega) only [Option.bind_some, ↓reduceIte, ↓M_1, ↓M_2, L_0, L_1, L_2, L_3, L_4, L_5, L_6, L_7, L_8, L_9, L_10, L_11, L_12, L_13, L_20, L_24, L_26, L_30, L_31, L_32, L_39, L_40, L_48, L_57, L_76, L_80, L_90, L_91, L_97, L_99, L_100, L_255, L_273, L_1000, L_2000, q_ld, q_ldL, q_sto, q_stoL, q_add, q_sub, q_mul, q_dec, q_rem, q_div, q_lt_t, q_lt_f, q_le_t, q_le_f, q_eq_t, q_eq_f, q_em, q_me, q_ml, q_lm, q_mle, q_lem, q_s1, q_s1o, q_s1k, q_s12, q_s2, q_s2o, q_s2k, q_s21, Nat.add_sub_cancel, q_or, q_and, q_shl, true_or, or_true, false_or, or_false, true_and, and_true, false_and, and_false, not_true_eq_false, not_false_eq_true, ne_eq, h.m, en]
    · refine Or.inl ⟨(), ?_, by omega⟩
      have hno : ¬ ((w 1 m = u ∨ w 2 m = u) ∧ beg w u r (ix w m u) ∧ 0 < G (ix w m u)) := fun z => by
        have hh := ix_half w m u
        exact hq3 (ix w m u) (by omega) z.2.1 z.2.2
      rw [if_neg hno] at en
      simp (disch := omega) only [Option.bind_some, ↓reduceIte, ↓M_1, ↓M_2, L_0, L_1, L_2, L_3, L_4, L_5, L_6, L_7, L_8, L_9, L_10, L_11, L_12, L_13, L_20, L_24, L_26, L_30, L_31, L_32, L_39, L_40, L_48, L_57, L_76, L_80, L_90, L_91, L_97, L_99, L_100, L_255, L_273, L_1000, L_2000, q_ld, q_ldL, q_sto, q_stoL, q_add, q_sub, q_mul, q_dec, q_rem, q_div, q_lt_t, q_lt_f, q_le_t, q_le_f, q_eq_t, q_eq_f, q_em, q_me, q_ml, q_lm, q_mle, q_lem, q_s1, q_s1o, q_s1k, q_s12, q_s2, q_s2o, q_s2k, q_s21, Nat.add_sub_cancel, q_or, q_and, q_shl, true_or, or_true, false_or, or_false, true_and, and_true, false_and, and_false, not_true_eq_false, not_false_eq_true, ne_eq, h.m, en]
  · rintro f _ hle
    omega
theorem C_stepFit_f (h : CW w s) (hN : 60 ≤ N) (hn : n ≤ 12) (h9 : s.1 46 9 = nI n) (hu : u < w 5 0) (hr : r < 1000) (hk : k < n) (hG : ∀ o, o < 2 * w 5 1 → s.2 48 (k * 40 + sw o) = lN (G o) ∧ G o < 2 ^ 63) (hq3 : ∀ o, o < 2 * w 5 1 → beg w u r o → ¬ 0 < G o) : fC_Tales_stepFit N (nI u) (nI r) (nI k) s = some (mI 1, s) := by
  have hb := h.bd
  simp (disch := omega) only [Option.bind_some, ↓reduceIte, ↓M_1, ↓M_2, L_0, L_1, L_2, L_3, L_4, L_5, L_6, L_7, L_8, L_9, L_10, L_11, L_12, L_13, L_20, L_24, L_26, L_30, L_31, L_32, L_39, L_40, L_48, L_57, L_76, L_80, L_90, L_91, L_97, L_99, L_100, L_255, L_273, L_1000, L_2000, q_ld, q_ldL, q_sto, q_stoL, q_add, q_sub, q_mul, q_dec, q_rem, q_div, q_lt_t, q_lt_f, q_le_t, q_le_f, q_eq_t, q_eq_f, q_em, q_me, q_ml, q_lm, q_mle, q_lem, q_s1, q_s1o, q_s1k, q_s12, q_s2, q_s2o, q_s2k, q_s21, Nat.add_sub_cancel, q_or, q_and, q_shl, true_or, or_true, false_or, or_false, true_and, and_true, false_and, and_false, not_true_eq_false, not_false_eq_true, ne_eq, fC_Tales_stepFit, gC_Tales_stepFit_0]
  refine loopU (fun f i (_ : Unit) => gC_Tales_stepFit_3 N f (nI u) (nI r) (nI k) (nI i) s) (w 5 1) (fun i _ => i ≤ w 5 1) (fun o => o = some (mI 1, s)) ?_ ?_ (w 5 1) N 0 () (by omega) (by omega) (by omega)
  · rintro f m _ hm hle
    have en := C_nextOf (N := N) h hn h9 hu hr hk hm hG
    try simp only
    rw [gC_Tales_stepFit_3]
    refine Or.inl ⟨(), ?_, by omega⟩
    have hno : ¬ ((w 1 m = u ∨ w 2 m = u) ∧ beg w u r (ix w m u) ∧ 0 < G (ix w m u)) := fun z => hq3 (ix w m u) (ix_lt u hm) z.2.1 z.2.2
    rw [if_neg hno] at en
    simp (disch := omega) only [Option.bind_some, ↓reduceIte, ↓M_1, ↓M_2, L_0, L_1, L_2, L_3, L_4, L_5, L_6, L_7, L_8, L_9, L_10, L_11, L_12, L_13, L_20, L_24, L_26, L_30, L_31, L_32, L_39, L_40, L_48, L_57, L_76, L_80, L_90, L_91, L_97, L_99, L_100, L_255, L_273, L_1000, L_2000, q_ld, q_ldL, q_sto, q_stoL, q_add, q_sub, q_mul, q_dec, q_rem, q_div, q_lt_t, q_lt_f, q_le_t, q_le_f, q_eq_t, q_eq_f, q_em, q_me, q_ml, q_lm, q_mle, q_lem, q_s1, q_s1o, q_s1k, q_s12, q_s2, q_s2o, q_s2k, q_s21, Nat.add_sub_cancel, q_or, q_and, q_shl, true_or, or_true, false_or, or_false, true_and, and_true, false_and, and_false, not_true_eq_false, not_false_eq_true, ne_eq, h.m, en]
  · rintro f _ hle
    try simp only
    rw [gC_Tales_stepFit_3]
    simp (disch := omega) only [Option.bind_some, ↓reduceIte, ↓M_1, ↓M_2, L_0, L_1, L_2, L_3, L_4, L_5, L_6, L_7, L_8, L_9, L_10, L_11, L_12, L_13, L_20, L_24, L_26, L_30, L_31, L_32, L_39, L_40, L_48, L_57, L_76, L_80, L_90, L_91, L_97, L_99, L_100, L_255, L_273, L_1000, L_2000, q_ld, q_ldL, q_sto, q_stoL, q_add, q_sub, q_mul, q_dec, q_rem, q_div, q_lt_t, q_lt_f, q_le_t, q_le_f, q_eq_t, q_eq_f, q_em, q_me, q_ml, q_lm, q_mle, q_lem, q_s1, q_s1o, q_s1k, q_s12, q_s2, q_s2o, q_s2k, q_s21, Nat.add_sub_cancel, q_or, q_and, q_shl, true_or, or_true, false_or, or_false, true_and, and_true, false_and, and_false, not_true_eq_false, not_false_eq_true, ne_eq, h.m]
theorem C_traceFit_t (h : CW w s) (hN : 100 ≤ N) (hJ : CJ w C ta n v s) (hF : CN w C ta n v s) (hn0 : 0 < n) (hu : u < w 5 0) (hk : k < 1000)
    (hq : ∀ j, j + 1 < n → Q j < 2 * w 5 1 ∧ beg w (grC w u k Q j).1 (grC w u k Q j).2 (Q j) ∧ 0 < FT w C ta n v 100 (j + 1) (Q j) ∧ ∀ o, o < Q j → beg w (grC w u k Q j).1 (grC w u k Q j).2 o → ¬ 0 < FT w C ta n v 100 (j + 1) o) :
    ∃ s', fC_Tales_traceFit N (nI u) (nI k) s = some s' ∧ Rw (fun j => nI (Q j / 2)) (n - 1) s s' := by
  have hb := h.bd
  have hn := hJ.1
  obtain ⟨s0, x1, x2⟩ := C_clear_row (N := N) (q := fun j => nI (Q j / 2)) (s := s)
  have gok : ∀ j, j + 1 ≤ n → (grC w u k Q j).1 < w 5 0 ∧ (grC w u k Q j).2 < 1000 := fun j hj => by
    cases j with
    | zero => exact ⟨hu, hk⟩
    | succ j =>
      have hqj := (hq j (by omega)).1
      have := rd_le h.ok hqj
      exact ⟨gt_lt h.ok hqj, by show rd w (Q j) < 1000; omega⟩
  simp (disch := omega) only [Option.bind_some, ↓reduceIte, ↓M_1, ↓M_2, L_0, L_1, L_2, L_3, L_4, L_5, L_6, L_7, L_8, L_9, L_10, L_11, L_12, L_13, L_20, L_24, L_26, L_30, L_31, L_32, L_39, L_40, L_48, L_57, L_76, L_80, L_90, L_91, L_97, L_99, L_100, L_255, L_273, L_1000, L_2000, q_ld, q_ldL, q_sto, q_stoL, q_add, q_sub, q_mul, q_dec, q_rem, q_div, q_lt_t, q_lt_f, q_le_t, q_le_f, q_eq_t, q_eq_f, q_em, q_me, q_ml, q_lm, q_mle, q_lem, q_s1, q_s1o, q_s1k, q_s12, q_s2, q_s2o, q_s2k, q_s21, Nat.add_sub_cancel, q_or, q_and, q_shl, true_or, or_true, false_or, or_false, true_and, and_true, false_and, and_false, not_true_eq_false, not_false_eq_true, ne_eq, fC_Tales_traceFit, gC_Tales_traceFit_0, x1]
  refine loopU (fun f j z => gC_Tales_traceFit_13 N f (nI (grC w u k Q j).1) (nI (grC w u k Q j).2) (nI (j + 1)) z) (n - 1) (fun j z => j ≤ n - 1 ∧ Rw (fun j => nI (Q j / 2)) j s z) (fun o => ∃ s', o = some s' ∧ Rw (fun j => nI (Q j / 2)) (n - 1) s s') ?_ ?_ (n - 1) N 0 s0 (by omega) (by omega) ⟨by omega, x2⟩
  · rintro f j z hj ⟨g1, g2⟩
    have hz : CW w z := h.fr g2.1 (by decide)
    have z9 : z.1 46 9 = nI n := by rw [g2.1.1 46 (by decide)]; exact hJ.2.1
    obtain ⟨y1, y2⟩ := gok j (by omega)
    obtain ⟨q1, q2, q3, q4⟩ := hq j (by omega)
    have es := C_stepFit_t (N := N) (k := j + 1) (G := FT w C ta n v 100 (j + 1)) hz (by omega) hn z9 y1 y2 (by omega) (fun o ho => ⟨by rw [g2.1.2 48 (by decide)]; exact hF (j + 1) o (by omega) (by omega) ho, Nat.lt_trans (FT_lt h.ok hn) (by decide)⟩) q1 q2 q3 q4
    obtain ⟨z2, v1, v2⟩ := C_add_row (N := N) g2 (x := nI (Q j / 2)) rfl
    have hz2 : CW w z2 := h.fr v2.1 (by decide)
    have eot := C_otherAt (N := N) hz2 (m := Q j / 2) (u := (grC w u k Q j).1) (by omega) y1
    have epl := C_place (N := N) hz2 (m := Q j / 2) (u := (grC w u k Q j).1) (by omega) (by have := gv_hop (w := w) (Q j); rw [q2.1] at this; exact this) y1
    rw [← q2.1, oth_ix h.ok q1] at eot
    rw [← q2.1, oth_ix h.ok q1, ix_eq h.ok q1] at epl
    have erd := C_ready (N := N) hz2 q1
    refine Or.inl ⟨z2, ?_, by omega, v2⟩
    show gC_Tales_traceFit_13 N (f + 1) (nI (grC w u k Q j).1) (nI (grC w u k Q j).2) (nI (j + 1)) z = gC_Tales_traceFit_13 N f (nI (gt w (Q j))) (nI (rd w (Q j))) (nI (j + 1 + 1)) z2
    rw [gC_Tales_traceFit_13]
    rw [← q2.1] at es ⊢
    simp (disch := omega) only [Option.bind_some, ↓reduceIte, ↓M_1, ↓M_2, L_0, L_1, L_2, L_3, L_4, L_5, L_6, L_7, L_8, L_9, L_10, L_11, L_12, L_13, L_20, L_24, L_26, L_30, L_31, L_32, L_39, L_40, L_48, L_57, L_76, L_80, L_90, L_91, L_97, L_99, L_100, L_255, L_273, L_1000, L_2000, q_ld, q_ldL, q_sto, q_stoL, q_add, q_sub, q_mul, q_dec, q_rem, q_div, q_lt_t, q_lt_f, q_le_t, q_le_f, q_eq_t, q_eq_f, q_em, q_me, q_ml, q_lm, q_mle, q_lem, q_s1, q_s1o, q_s1k, q_s12, q_s2, q_s2o, q_s2k, q_s21, Nat.add_sub_cancel, q_or, q_and, q_shl, true_or, or_true, false_or, or_false, true_and, and_true, false_and, and_false, not_true_eq_false, not_false_eq_true, ne_eq, z9, es, v1, eot, epl, erd]
  · rintro f z ⟨g1, g2⟩
    have z9 : z.1 46 9 = nI n := by rw [g2.1.1 46 (by decide)]; exact hJ.2.1
    refine ⟨z, ?_, g2⟩
    try simp only
    rw [gC_Tales_traceFit_13, z9, show n - 1 + 1 = n by omega, if_pos (Int32.le_refl _)]
theorem C_traceFit_f (h : CW w s) (hN : 100 ≤ N) (hJ : CJ w C ta n v s) (hF : CN w C ta n v s) (hn1 : 1 < n) (hu : u < w 5 0) (hk : k < 1000) (h0 : CF w C ta n u v k 100 = 0) : ∃ s', fC_Tales_traceFit N (nI u) (nI k) s = some s' ∧ Rw (fun _ => nI 0) 0 s s' := by
  have hb := h.bd
  have hn := hJ.1
  obtain ⟨s0, x1, x2⟩ := C_clear_row (N := N) (q := fun _ => nI 0) (s := s)
  have hz : CW w s0 := h.fr x2.1 (by decide)
  have z9 : s0.1 46 9 = nI n := by rw [x2.1.1 46 (by decide)]; exact hJ.2.1
  have es := C_stepFit_f (N := N) (k := 1) (G := FT w C ta n v 100 1) hz (by omega) hn z9 hu hk (by omega) (fun o ho => ⟨by rw [x2.1.2 48 (by decide)]; exact hF 1 o (by omega) (by omega) ho, Nat.lt_trans (FT_lt h.ok hn) (by decide)⟩) (fun o ho hbg hp => by
    unfold CF at h0
    rw [if_neg (by omega)] at h0
    have := fb_sm_zero h0 o ho
    rw [if_pos hbg] at this
    omega)
  refine ⟨s0, ?_, x2⟩
  obtain ⟨m, hm⟩ : ∃ m, N = m + 1 := ⟨N - 1, by omega⟩
  have e : gC_Tales_traceFit_13 N N (nI u) (nI k) (nI 1) s0 = gC_Tales_traceFit_13 N (m + 1) (nI u) (nI k) (nI 1) s0 := by rw [← hm]
  simp (disch := omega) only [Option.bind_some, ↓reduceIte, ↓M_1, ↓M_2, L_0, L_1, L_2, L_3, L_4, L_5, L_6, L_7, L_8, L_9, L_10, L_11, L_12, L_13, L_20, L_24, L_26, L_30, L_31, L_32, L_39, L_40, L_48, L_57, L_76, L_80, L_90, L_91, L_97, L_99, L_100, L_255, L_273, L_1000, L_2000, q_ld, q_ldL, q_sto, q_stoL, q_add, q_sub, q_mul, q_dec, q_rem, q_div, q_lt_t, q_lt_f, q_le_t, q_le_f, q_eq_t, q_eq_f, q_em, q_me, q_ml, q_lm, q_mle, q_lem, q_s1, q_s1o, q_s1k, q_s12, q_s2, q_s2o, q_s2k, q_s21, Nat.add_sub_cancel, q_or, q_and, q_shl, true_or, or_true, false_or, or_false, true_and, and_true, false_and, and_false, not_true_eq_false, not_false_eq_true, ne_eq, fC_Tales_traceFit, gC_Tales_traceFit_0, x1]
  rw [e, gC_Tales_traceFit_13]
  simp (disch := omega) only [Option.bind_some, ↓reduceIte, ↓M_1, ↓M_2, L_0, L_1, L_2, L_3, L_4, L_5, L_6, L_7, L_8, L_9, L_10, L_11, L_12, L_13, L_20, L_24, L_26, L_30, L_31, L_32, L_39, L_40, L_48, L_57, L_76, L_80, L_90, L_91, L_97, L_99, L_100, L_255, L_273, L_1000, L_2000, q_ld, q_ldL, q_sto, q_stoL, q_add, q_sub, q_mul, q_dec, q_rem, q_div, q_lt_t, q_lt_f, q_le_t, q_le_f, q_eq_t, q_eq_f, q_em, q_me, q_ml, q_lm, q_mle, q_lem, q_s1, q_s1o, q_s1k, q_s12, q_s2, q_s2o, q_s2k, q_s21, Nat.add_sub_cancel, q_or, q_and, q_shl, true_or, or_true, false_or, or_false, true_and, and_true, false_and, and_false, not_true_eq_false, not_false_eq_true, ne_eq, z9, es]
/-- the reference's next step of the way -/
theorem M_f77Head (R : Int32 → Int32 → Int64 → Int32 → Int32 → vSt → Option (Int64 × vSt)) (f : Nat) {A : Int64} {a7 c : Int32} {x1 i : Nat} (h : MW w t) (hu : u < w 5 0) (hk : k < 1000) (h30 : t.1 0 30 = nI (2 * w 5 1)) (hi : i < 2 * w 5 1) (hx : x1 = 100 ∨ x1 < 2 * w 5 1) :
    gM_EachAddsALineModel_fits_77 N R (f + 1) (nI u) (nI k) A (gI x1) a7 c (nI i) t = if (if x1 = 100 then decide (beg w u k i) else decide (fol w i x1)) = true then gM_EachAddsALineModel_fits_117 N (gM_EachAddsALineModel_fits_77 N R f) (nI u) (nI k) A (gI x1) a7 c (nI i) t else gM_EachAddsALineModel_fits_77 N R f (nI u) (nI k) A (gI x1) a7 c (nI (i + 1)) t := by
  have hb := h.bd
  rw [gM_EachAddsALineModel_fits_77]
  by_cases d : x1 = 100
  · have e1 := M_begins (N := N) h hi hu hk
    rw [if_pos d, d, gI_no (g := 100) (by decide)]
    by_cases g : beg w u k i
    · rw [if_pos g] at e1
      rw [if_pos (decide_eq_true g)]
      simp (disch := omega) only [Option.bind_some, ↓reduceIte, ↓M_1, ↓M_2, L_0, L_1, L_2, L_3, L_4, L_5, L_6, L_7, L_8, L_9, L_10, L_11, L_12, L_13, L_20, L_24, L_26, L_30, L_31, L_32, L_39, L_40, L_48, L_57, L_76, L_80, L_90, L_91, L_97, L_99, L_100, L_255, L_273, L_1000, L_2000, q_ld, q_ldL, q_sto, q_stoL, q_add, q_sub, q_mul, q_dec, q_rem, q_div, q_lt_t, q_lt_f, q_le_t, q_le_f, q_eq_t, q_eq_f, q_em, q_me, q_ml, q_lm, q_mle, q_lem, q_s1, q_s1o, q_s1k, q_s12, q_s2, q_s2o, q_s2k, q_s21, Nat.add_sub_cancel, q_or, q_and, q_shl, true_or, or_true, false_or, or_false, true_and, and_true, false_and, and_false, not_true_eq_false, not_false_eq_true, ne_eq, h30, e1]
    · rw [if_neg g] at e1
      rw [if_neg (show ¬ decide (beg w u k i) = true by rw [decide_eq_false g]; decide)]
      simp (disch := omega) only [Option.bind_some, ↓reduceIte, ↓M_1, ↓M_2, L_0, L_1, L_2, L_3, L_4, L_5, L_6, L_7, L_8, L_9, L_10, L_11, L_12, L_13, L_20, L_24, L_26, L_30, L_31, L_32, L_39, L_40, L_48, L_57, L_76, L_80, L_90, L_91, L_97, L_99, L_100, L_255, L_273, L_1000, L_2000, q_ld, q_ldL, q_sto, q_stoL, q_add, q_sub, q_mul, q_dec, q_rem, q_div, q_lt_t, q_lt_f, q_le_t, q_le_f, q_eq_t, q_eq_f, q_em, q_me, q_ml, q_lm, q_mle, q_lem, q_s1, q_s1o, q_s1k, q_s12, q_s2, q_s2o, q_s2k, q_s21, Nat.add_sub_cancel, q_or, q_and, q_shl, true_or, or_true, false_or, or_false, true_and, and_true, false_and, and_false, not_true_eq_false, not_false_eq_true, ne_eq, h30, e1, gM_EachAddsALineModel_fits_156]
  · have hx1 : x1 < 2 * w 5 1 := hx.elim (fun z => absurd z d) id
    have e1 := M_follows (N := N) h hi hx1
    rw [if_neg d, gI_nI (g := x1) (by omega)]
    by_cases g : fol w i x1
    · rw [if_pos g] at e1
      rw [if_pos (decide_eq_true g)]
      simp (disch := omega) only [Option.bind_some, ↓reduceIte, ↓M_1, ↓M_2, L_0, L_1, L_2, L_3, L_4, L_5, L_6, L_7, L_8, L_9, L_10, L_11, L_12, L_13, L_20, L_24, L_26, L_30, L_31, L_32, L_39, L_40, L_48, L_57, L_76, L_80, L_90, L_91, L_97, L_99, L_100, L_255, L_273, L_1000, L_2000, q_ld, q_ldL, q_sto, q_stoL, q_add, q_sub, q_mul, q_dec, q_rem, q_div, q_lt_t, q_lt_f, q_le_t, q_le_f, q_eq_t, q_eq_f, q_em, q_me, q_ml, q_lm, q_mle, q_lem, q_s1, q_s1o, q_s1k, q_s12, q_s2, q_s2o, q_s2k, q_s21, Nat.add_sub_cancel, q_or, q_and, q_shl, true_or, or_true, false_or, or_false, true_and, and_true, false_and, and_false, not_true_eq_false, not_false_eq_true, ne_eq, h30, e1]
    · rw [if_neg g] at e1
      rw [if_neg (show ¬ decide (fol w i x1) = true by rw [decide_eq_false g]; decide)]
      simp (disch := omega) only [Option.bind_some, ↓reduceIte, ↓M_1, ↓M_2, L_0, L_1, L_2, L_3, L_4, L_5, L_6, L_7, L_8, L_9, L_10, L_11, L_12, L_13, L_20, L_24, L_26, L_30, L_31, L_32, L_39, L_40, L_48, L_57, L_76, L_80, L_90, L_91, L_97, L_99, L_100, L_255, L_273, L_1000, L_2000, q_ld, q_ldL, q_sto, q_stoL, q_add, q_sub, q_mul, q_dec, q_rem, q_div, q_lt_t, q_lt_f, q_le_t, q_le_f, q_eq_t, q_eq_f, q_em, q_me, q_ml, q_lm, q_mle, q_lem, q_s1, q_s1o, q_s1k, q_s12, q_s2, q_s2o, q_s2k, q_s21, Nat.add_sub_cancel, q_or, q_and, q_shl, true_or, or_true, false_or, or_false, true_and, and_true, false_and, and_false, not_true_eq_false, not_false_eq_true, ne_eq, h30, e1, gM_EachAddsALineModel_fits_156]
theorem M_f117 (R : Int32 → Int32 → Int64 → Int32 → Int32 → Int32 → Int32 → vSt → Option (Int64 × vSt)) {A : Int64} {a1 a3 a6 c : Int32} {j i : Nat} (hj : j < 12) (hi : i < 40) (hG : t.2 17 (40 * j + i) = lN (G i) ∧ G i < 2 ^ 63) :
    gM_EachAddsALineModel_fits_117 N R a1 a3 A a6 (nI j) c (nI i) t = if 0 < G i then (if c = mI 1 then R a1 a3 A a6 (nI j) (nI i) (nI (i + 1)) t else if c / nI 2 ≤ nI (i / 2) then R a1 a3 A a6 (nI j) c (nI (i + 1)) t else R a1 a3 A a6 (nI j) (nI i) (nI (i + 1)) t) else R a1 a3 A a6 (nI j) c (nI (i + 1)) t := by
  obtain ⟨e1, e2⟩ := hG
  have ec := cmpL_le (a := G i) (b := 0) e2 (by decide)
  by_cases d : 0 < G i
  · rw [eq_false (show ¬ G i ≤ 0 by omega)] at ec
    rw [if_pos d]
    simp (disch := omega) only [Option.bind_some, ↓reduceIte, ↓M_1, ↓M_2, L_0, L_1, L_2, L_3, L_4, L_5, L_6, L_7, L_8, L_9, L_10, L_11, L_12, L_13, L_20, L_24, L_26, L_30, L_31, L_32, L_39, L_40, L_48, L_57, L_76, L_80, L_90, L_91, L_97, L_99, L_100, L_255, L_273, L_1000, L_2000, q_ld, q_ldL, q_sto, q_stoL, q_add, q_sub, q_mul, q_dec, q_rem, q_div, q_lt_t, q_lt_f, q_le_t, q_le_f, q_eq_t, q_eq_f, q_em, q_me, q_ml, q_lm, q_mle, q_lem, q_s1, q_s1o, q_s1k, q_s12, q_s2, q_s2o, q_s2k, q_s21, Nat.add_sub_cancel, q_or, q_and, q_shl, true_or, or_true, false_or, or_false, true_and, and_true, false_and, and_false, not_true_eq_false, not_false_eq_true, ne_eq, gM_EachAddsALineModel_fits_117, e1, l_0, ec, gM_EachAddsALineModel_fits_152, gM_EachAddsALineModel_fits_156]
  · rw [eq_true (show G i ≤ 0 by omega)] at ec
    rw [if_neg d]
    simp (disch := omega) only [Option.bind_some, ↓reduceIte, ↓M_1, ↓M_2, L_0, L_1, L_2, L_3, L_4, L_5, L_6, L_7, L_8, L_9, L_10, L_11, L_12, L_13, L_20, L_24, L_26, L_30, L_31, L_32, L_39, L_40, L_48, L_57, L_76, L_80, L_90, L_91, L_97, L_99, L_100, L_255, L_273, L_1000, L_2000, q_ld, q_ldL, q_sto, q_stoL, q_add, q_sub, q_mul, q_dec, q_rem, q_div, q_lt_t, q_lt_f, q_le_t, q_le_f, q_eq_t, q_eq_f, q_em, q_me, q_ml, q_lm, q_mle, q_lem, q_s1, q_s1o, q_s1k, q_s12, q_s2, q_s2o, q_s2k, q_s21, Nat.add_sub_cancel, q_or, q_and, q_shl, true_or, or_true, false_or, or_false, true_and, and_true, false_and, and_false, not_true_eq_false, not_false_eq_true, ne_eq, gM_EachAddsALineModel_fits_117, e1, l_0, ec, gM_EachAddsALineModel_fits_156]
theorem M_f77 (R : Int32 → Int32 → Int64 → Int32 → Int32 → vSt → Option (Int64 × vSt)) {A : Int64} {V : Nat → Nat → Nat → Bool} {j : Nat} {X : Nat × Nat} (h : MW w t) (hN : 60 ≤ N) (hu : u < w 5 0) (hk : k < 1000) (h30 : t.1 0 30 = nI (2 * w 5 1)) (hj : j + 1 < 12) (hG : ∀ o, o < 2 * w 5 1 → t.2 17 (40 * (j + 1) + o) = lN (G o) ∧ G o < 2 ^ 63) (hV : ∀ o, V j X.2 o = decide (0 < G o)) (hx : X.1 = 100 ∨ X.1 < 2 * w 5 1)
    (hq : fst1 (trP w u k V j X) (2 * w 5 1) < 2 * w 5 1) :
    gM_EachAddsALineModel_fits_77 N R N (nI u) (nI k) A (gI X.1) (nI (j + 1)) (mI 1) (nI 0) t = (fM_EachAddsALineModel_tell N (nI (fst1 (trP w u k V j X) (2 * w 5 1) / 2)) t).bind fun z1 => R (nI u) (nI k) A (nI (fst1 (trP w u k V j X) (2 * w 5 1))) (nI (j + 2)) z1 := by
  have hb := h.bd
  have e0 : mI 1 = gI (if fst1 (trP w u k V j X) 0 < 0 then fst1 (trP w u k V j X) 0 else 100) := by rw [if_neg (Nat.not_lt_zero _), gI_no (by decide)]
  rw [e0]
  refine loopS (fun f i (c : Int32) => gM_EachAddsALineModel_fits_77 N R f (nI u) (nI k) A (gI X.1) (nI (j + 1)) c (nI i) t) (fun i => gI (if fst1 (trP w u k V j X) i < i then fst1 (trP w u k V j X) i else 100)) (2 * w 5 1) _ (fun f i hi => ?_) (fun f => ?_) N (by omega)
  · have hle := fst1_le (trP w u k V j X) i
    have e1 := M_f77Head (N := N) R f (A := A) (a7 := nI (j + 1)) (c := gI (if fst1 (trP w u k V j X) i < i then fst1 (trP w u k V j X) i else 100)) h hu hk h30 hi hx
    have e2 := M_f117 (N := N) (gM_EachAddsALineModel_fits_77 N R f) (A := A) (a1 := nI u) (a3 := nI k) (a6 := gI X.1) (c := gI (if fst1 (trP w u k V j X) i < i then fst1 (trP w u k V j X) i else 100)) (j := j + 1) (i := i) (by omega) (by omega) (hG i hi)
    have ep := trP_eq w u k V j X i
    rw [hV] at ep
    show gM_EachAddsALineModel_fits_77 N R (f + 1) (nI u) (nI k) A (gI X.1) (nI (j + 1)) (gI (if fst1 (trP w u k V j X) i < i then fst1 (trP w u k V j X) i else 100)) (nI i) t = gM_EachAddsALineModel_fits_77 N R f (nI u) (nI k) A (gI X.1) (nI (j + 1)) (gI (if fst1 (trP w u k V j X) (i + 1) < i + 1 then fst1 (trP w u k V j X) (i + 1) else 100)) (nI (i + 1)) t
    rw [fst1_next, e1, e2]
    generalize fst1 (trP w u k V j X) i = c at hle
    generalize (if X.1 = 100 then decide (beg w u k i) else decide (fol w i X.1)) = ab at ep
    by_cases d1 : ab = true
    · rw [if_pos d1]
      by_cases d2 : 0 < G i
      · rw [if_pos d2]
        have d3 : trP w u k V j X i = true := by rw [ep, d1, decide_eq_true d2]; rfl
        by_cases d : c < i
        · rw [if_pos d, if_pos d, gI_nI (g := c) (by omega)]
          have hh : c / 2 ≤ i / 2 := by omega
          simp (disch := omega) only [Option.bind_some, ↓reduceIte, ↓M_1, ↓M_2, L_0, L_1, L_2, L_3, L_4, L_5, L_6, L_7, L_8, L_9, L_10, L_11, L_12, L_13, L_20, L_24, L_26, L_30, L_31, L_32, L_39, L_40, L_48, L_57, L_76, L_80, L_90, L_91, L_97, L_99, L_100, L_255, L_273, L_1000, L_2000, q_ld, q_ldL, q_sto, q_stoL, q_add, q_sub, q_mul, q_dec, q_rem, q_div, q_lt_t, q_lt_f, q_le_t, q_le_f, q_eq_t, q_eq_f, q_em, q_me, q_ml, q_lm, q_mle, q_lem, q_s1, q_s1o, q_s1k, q_s12, q_s2, q_s2o, q_s2k, q_s21, Nat.add_sub_cancel, q_or, q_and, q_shl, true_or, or_true, false_or, or_false, true_and, and_true, false_and, and_false, not_true_eq_false, not_false_eq_true, ne_eq]
        · rw [if_neg d, if_neg d, if_pos d3, gI_no (g := 100) (by decide), gI_nI (g := i) (by omega), if_pos rfl]
      · rw [if_neg d2]
        have d3 : ¬ trP w u k V j X i = true := fun z => d2 (by
          rw [ep, Bool.and_eq_true] at z
          exact of_decide_eq_true z.2)
        rw [if_neg d3]
    · rw [if_neg d1]
      have d3 : ¬ trP w u k V j X i = true := fun z => d1 (by
        rw [ep, Bool.and_eq_true] at z
        exact z.1)
      rw [if_neg d3]
  · show gM_EachAddsALineModel_fits_77 N R (f + 1) (nI u) (nI k) A (gI X.1) (nI (j + 1)) (gI (if fst1 (trP w u k V j X) (2 * w 5 1) < 2 * w 5 1 then fst1 (trP w u k V j X) (2 * w 5 1) else 100)) (nI (2 * w 5 1)) t = _
    rw [if_pos hq, gI_nI (g := fst1 (trP w u k V j X) (2 * w 5 1)) (by omega), gM_EachAddsALineModel_fits_77, h30, if_pos (Int32.le_refl _)]
    generalize fst1 (trP w u k V j X) (2 * w 5 1) = q at hq
    rw [show nI q / 2 = nI (q / 2) from q_div (by omega) (by decide) (by decide)]
    simp (disch := omega) only [Option.bind_some, ↓reduceIte, ↓M_1, ↓M_2, L_0, L_1, L_2, L_3, L_4, L_5, L_6, L_7, L_8, L_9, L_10, L_11, L_12, L_13, L_20, L_24, L_26, L_30, L_31, L_32, L_39, L_40, L_48, L_57, L_76, L_80, L_90, L_91, L_97, L_99, L_100, L_255, L_273, L_1000, L_2000, q_ld, q_ldL, q_sto, q_stoL, q_add, q_sub, q_mul, q_dec, q_rem, q_div, q_lt_t, q_lt_f, q_le_t, q_le_f, q_eq_t, q_eq_f, q_em, q_me, q_ml, q_lm, q_mle, q_lem, q_s1, q_s1o, q_s1k, q_s12, q_s2, q_s2o, q_s2k, q_s21, Nat.add_sub_cancel, q_or, q_and, q_shl, true_or, or_true, false_or, or_false, true_and, and_true, false_and, and_false, not_true_eq_false, not_false_eq_true, ne_eq]
theorem M_f55 (h : MW w t) (hN : 100 ≤ N) (hn : n ≤ 12) (hn1 : 1 < n) (hu : u < w 5 0) (hk : k < 1000) (h40 : t.1 0 40 = nI n) (h30 : t.1 0 30 = nI (2 * w 5 1)) (hF : ∀ k o, 0 < k → k < n → o < 2 * w 5 1 → t.2 17 (40 * k + o) = lN (FT w C ta n v 100 k o)) {A : Nat} (hA : 0 < A) (hA2 : A < 2 ^ 63) (hok : ∀ j, j + 1 < n → qF w C ta n v u k j < 2 * w 5 1) :
    ∃ t', gM_EachAddsALineModel_fits_55 N N (nI u) (nI k) (lN A) (mI 1) (nI 1) (s1 t 0 10 (nI 0)) = some (lN A, t') ∧ Rm (fun j => nI (qF w C ta n v u k j / 2)) (n - 1) t t' := by
  have hb := h.bd
  have ec := cmpL_le (a := A) (b := 0) hA2 (by decide)
  rw [eq_false (show ¬ A ≤ 0 by omega)] at ec
  have e0 : mI 1 = gI (xF w C ta n v u k 0).1 := rfl
  rw [e0]
  refine loopU (fun f j z => gM_EachAddsALineModel_fits_55 N f (nI u) (nI k) (lN A) (gI (xF w C ta n v u k j).1) (nI (j + 1)) z) (n - 1) (fun j z => j ≤ n - 1 ∧ Rm (fun j => nI (qF w C ta n v u k j / 2)) j t z) (fun o => ∃ t', o = some (lN A, t') ∧ Rm (fun j => nI (qF w C ta n v u k j / 2)) (n - 1) t t') ?_ ?_ (n - 1) N 0 _ (by omega) (by omega) ⟨by omega, Rm.nil⟩
  · rintro f j z hj ⟨g1, g2⟩
    have hz : MW w z := h.fm g2.1 (by decide) (by decide)
    have z40 : z.1 0 40 = nI n := (g2.1.2.2 40 (by decide)).trans h40
    have z30 : z.1 0 30 = nI (2 * w 5 1) := (g2.1.2.2 30 (by decide)).trans h30
    have hq := hok j (by omega)
    have hX : (xF w C ta n v u k j).1 = 100 ∨ (xF w C ta n v u k j).1 < 2 * w 5 1 := by
      cases j with
      | zero => exact Or.inl rfl
      | succ j => exact Or.inr (hok j (by omega))
    have st := M_f77 (N := N) (gM_EachAddsALineModel_fits_55 N f) (A := lN A) (V := vF w C ta n v) (j := j) (X := xF w C ta n v u k j) (G := FT w C ta n v 100 (j + 1)) hz (by omega) hu hk z30 (by omega) (fun o ho => ⟨by rw [g2.1.2.1 17 (by decide)]; exact hF (j + 1) o (by omega) (by omega) ho, Nat.lt_trans (FT_lt h.ok hn) (by decide)⟩) (fun o => rfl) hX hq
    rw [← qF_d] at st
    obtain ⟨z2, v1, v2⟩ := M_tell (N := N) g2 (by omega) (x := nI (qF w C ta n v u k j / 2)) rfl
    rw [v1, Option.bind_some] at st
    refine Or.inl ⟨z2, ?_, by omega, v2⟩
    show gM_EachAddsALineModel_fits_55 N (f + 1) (nI u) (nI k) (lN A) (gI (xF w C ta n v u k j).1) (nI (j + 1)) z = gM_EachAddsALineModel_fits_55 N f (nI u) (nI k) (lN A) (gI (qF w C ta n v u k j)) (nI (j + 1 + 1)) z2
    rw [gI_nI (g := qF w C ta n v u k j) (by omega), ← st, gM_EachAddsALineModel_fits_55]
    simp (disch := omega) only [Option.bind_some, ↓reduceIte, ↓M_1, ↓M_2, L_0, L_1, L_2, L_3, L_4, L_5, L_6, L_7, L_8, L_9, L_10, L_11, L_12, L_13, L_20, L_24, L_26, L_30, L_31, L_32, L_39, L_40, L_48, L_57, L_76, L_80, L_90, L_91, L_97, L_99, L_100, L_255, L_273, L_1000, L_2000, q_ld, q_ldL, q_sto, q_stoL, q_add, q_sub, q_mul, q_dec, q_rem, q_div, q_lt_t, q_lt_f, q_le_t, q_le_f, q_eq_t, q_eq_f, q_em, q_me, q_ml, q_lm, q_mle, q_lem, q_s1, q_s1o, q_s1k, q_s12, q_s2, q_s2o, q_s2k, q_s21, Nat.add_sub_cancel, q_or, q_and, q_shl, true_or, or_true, false_or, or_false, true_and, and_true, false_and, and_false, not_true_eq_false, not_false_eq_true, ne_eq, z40, l_0, ec]
  · rintro f z ⟨g1, g2⟩
    have z40 : z.1 0 40 = nI n := (g2.1.2.2 40 (by decide)).trans h40
    refine ⟨z, ?_, g2⟩
    try simp only
    rw [gM_EachAddsALineModel_fits_55, z40, show n - 1 + 1 = n by omega, if_pos (Int32.le_refl _)]
theorem k_fits (hN : 200 ≤ N) : keeps3L N (RR (UR N)) fC_EachAddsALine_fits fM_EachAddsALineModel_fits := by
  refine keeps3L_trip (okUR N) (fun w s a b c hw e => by simp (disch := omega) only [Option.bind_some, ↓reduceIte, ↓M_1, ↓M_2, L_0, L_1, L_2, L_3, L_4, L_5, L_6, L_7, L_8, L_9, L_10, L_11, L_12, L_13, L_20, L_24, L_26, L_30, L_31, L_32, L_39, L_40, L_48, L_57, L_76, L_80, L_90, L_91, L_97, L_99, L_100, L_255, L_273, L_1000, L_2000, q_ld, q_ldL, q_sto, q_stoL, q_add, q_sub, q_mul, q_dec, q_rem, q_div, q_lt_t, q_lt_f, q_le_t, q_le_f, q_eq_t, q_eq_f, q_em, q_me, q_ml, q_lm, q_mle, q_lem, q_s1, q_s1o, q_s1k, q_s12, q_s2, q_s2o, q_s2k, q_s21, Nat.add_sub_cancel, q_or, q_and, q_shl, true_or, or_true, false_or, or_false, true_and, and_true, false_and, and_false, not_true_eq_false, not_false_eq_true, ne_eq, fC_EachAddsALine_fits, gC_EachAddsALine_fits_0, e]) (fun w t a b c hw e => by simp (disch := omega) only [Option.bind_some, ↓reduceIte, ↓M_1, ↓M_2, L_0, L_1, L_2, L_3, L_4, L_5, L_6, L_7, L_8, L_9, L_10, L_11, L_12, L_13, L_20, L_24, L_26, L_30, L_31, L_32, L_39, L_40, L_48, L_57, L_76, L_80, L_90, L_91, L_97, L_99, L_100, L_255, L_273, L_1000, L_2000, q_ld, q_ldL, q_sto, q_stoL, q_add, q_sub, q_mul, q_dec, q_rem, q_div, q_lt_t, q_lt_f, q_le_t, q_le_f, q_eq_t, q_eq_f, q_em, q_me, q_ml, q_lm, q_mle, q_lem, q_s1, q_s1o, q_s1k, q_s12, q_s2, q_s2o, q_s2k, q_s21, Nat.add_sub_cancel, q_or, q_and, q_shl, true_or, or_true, false_or, or_false, true_and, and_true, false_and, and_false, not_true_eq_false, not_false_eq_true, ne_eq, fM_EachAddsALineModel_fits, gM_EachAddsALineModel_fits_0, e]) (fun s t w u v k hr h1 h2 hu hv hk ec em => ?_)
  have hb := h1.bd
  have hmc := hr.mc.r
  have h2' := M_rd0 h2 (nI 0)
  obtain ⟨_, _, _, _, _, h5, _, _, h8, _⟩ := id hr
  obtain ⟨n, ta, hn1, hn2, hC, hM⟩ := h5.get
  have hn := hC.1
  have f11 : Fm [] [] [11] t (s1 t 0 11 (nI 0)) := Fm.w10 (by decide)
  have t40 : (s1 t 0 11 (nI 0)).1 0 40 = nI n := by rw [f11.2.2 40 (by decide)]; exact hn2
  by_cases c0 : n = 0
  · subst c0
    refine ⟨(-2 : Int64), s, s1 t 0 11 (nI 0), ?_, ?_, hr.k0 (okUR N)⟩
    · simp (disch := omega) only [Option.bind_some, ↓reduceIte, ↓M_1, ↓M_2, L_0, L_1, L_2, L_3, L_4, L_5, L_6, L_7, L_8, L_9, L_10, L_11, L_12, L_13, L_20, L_24, L_26, L_30, L_31, L_32, L_39, L_40, L_48, L_57, L_76, L_80, L_90, L_91, L_97, L_99, L_100, L_255, L_273, L_1000, L_2000, q_ld, q_ldL, q_sto, q_stoL, q_add, q_sub, q_mul, q_dec, q_rem, q_div, q_lt_t, q_lt_f, q_le_t, q_le_f, q_eq_t, q_eq_f, q_em, q_me, q_ml, q_lm, q_mle, q_lem, q_s1, q_s1o, q_s1k, q_s12, q_s2, q_s2o, q_s2k, q_s21, Nat.add_sub_cancel, q_or, q_and, q_shl, true_or, or_true, false_or, or_false, true_and, and_true, false_and, and_false, not_true_eq_false, not_false_eq_true, ne_eq, fC_EachAddsALine_fits, gC_EachAddsALine_fits_0, ec, hn1]
    · simp (disch := omega) only [Option.bind_some, ↓reduceIte, ↓M_1, ↓M_2, L_0, L_1, L_2, L_3, L_4, L_5, L_6, L_7, L_8, L_9, L_10, L_11, L_12, L_13, L_20, L_24, L_26, L_30, L_31, L_32, L_39, L_40, L_48, L_57, L_76, L_80, L_90, L_91, L_97, L_99, L_100, L_255, L_273, L_1000, L_2000, q_ld, q_ldL, q_sto, q_stoL, q_add, q_sub, q_mul, q_dec, q_rem, q_div, q_lt_t, q_lt_f, q_le_t, q_le_f, q_eq_t, q_eq_f, q_em, q_me, q_ml, q_lm, q_mle, q_lem, q_s1, q_s1o, q_s1k, q_s12, q_s2, q_s2o, q_s2k, q_s21, Nat.add_sub_cancel, q_or, q_and, q_shl, true_or, or_true, false_or, or_false, true_and, and_true, false_and, and_false, not_true_eq_false, not_false_eq_true, ne_eq, fM_EachAddsALineModel_fits, gM_EachAddsALineModel_fits_0, em, hn2]
  · obtain ⟨q, x, C, u1, u2⟩ := h8.get
    have hU' := u1.fm f11 (by decide) (by decide)
    have hM' := hM.fm f11 (by decide)
    have hd : ∀ k a, 0 < k → k < n → a < 2 * w 5 1 → C.length = 0 ∨ ∃ v, Den (SOE w ta a k) C v := fun k a k1 k2 ha => (M_isSo (N := N) (by omega) h2' hU' hM' (by omega) ha ⟨k1, k2⟩).choose_spec.2.2
    obtain ⟨z, z1, z2, z3⟩ := M_countFits (N := N) (no := 100) (r := k) (by exact h2') (by omega) hU' hM' (by omega) (by omega) (by rw [f11.2.2 35 (by decide)]; exact hmc.2.1) (by rw [f11.2.2 37 (by decide)]; exact hmc.2.2.1) (by omega) hu hv (by omega)
    obtain ⟨y, y1, y2, y3, y4, y5⟩ := C_countFits_told (N := N) (v := v) (by omega) h1 u2 hn1 (by omega) hC hv hd
    have hy : CW w y := h1.fr y2 (by decide)
    have hz : MW w z := h2'.fm z2 (by decide) (by decide)
    have hA := CF_lt (C := C) (ta := ta) (u := u) (v := v) (r := k) (no := 100) h1.ok hn
    have hne : ¬ nI n = nI 0 := fun e => c0 ((nI_eq (by omega) (by omega)).mp e)
    have fM : ∀ z', Rm (fun j => nI (qF w C ta n v u k j / 2)) (if 0 < CF w C ta n u v k 100 then n - 1 else 0) z z' → fM_EachAddsALineModel_fits N (nI u) (nI v) (nI k) t = some (lN (CF w C ta n u v k 100), z') → ∀ y', Rw (fun j => nI (qF w C ta n v u k j / 2)) (if 0 < CF w C ta n u v k 100 then n - 1 else 0) y y' → fC_Tales_traceFit N (nI u) (nI k) y = some y' → ∃ r s' t', fC_EachAddsALine_fits N (nI u) (nI v) (nI k) s = some (r, s') ∧ fM_EachAddsALineModel_fits N (nI u) (nI v) (nI k) t = some (r, t') ∧ RR (UR N) s' t' := by
      intro z' r1 e1 y' r2 e2
      have hy' : CW w y' := hy.fr r2.1 (by decide)
      have hJ' : CJ w C ta n v y' := by
        unfold CJ at y4 ⊢
        rw [r2.1.1 46 (by decide), r2.1.1 47 (by decide)]; exact y4
      have hN' : CN w C ta n v y' := fun k a k1 k2 ha => by rw [r2.1.2 48 (by decide)]; exact y5 k a k1 k2 ha
      have ef := C_fitting (N := N) hy' (by omega) hJ' (by omega) hN' hu hv (show k < 1000 by omega)
      have fC : Fr [3, 4, 17, 19, 20, 46, 47] [48] s y' := (y2.mono (by decide) (by decide)).tr (r2.1.mono (by decide) (by decide))
      have fM : Fm [7, 11] [17] [10, 11, 12, 13, 14, 15, 16, 19, 20, 21, 22, 23, 24, 25, 26, 30] t z' := (f11.mono (by decide) (by decide) (by decide)).tr ((z2.mono (by decide) (by decide) (by decide)).tr (r1.1.mono (by decide) (by decide) (by decide)))
      have h17 : y'.1 17 1 = s.1 17 1 := by rw [r2.1.1 17 (by decide)]; exact y3
      have hle : (if 0 < CF w C ta n u v k 100 then n - 1 else 0) ≤ 12 := by split <;> omega
      refine ⟨_, y', z', ?_, e1, hr.rm ⟨_, hle, by have := r2.2.1; rw [show min (if 0 < CF w C ta n u v k 100 then n - 1 else 0) 12 = (if 0 < CF w C ta n u v k 100 then n - 1 else 0) by omega] at this; exact this, r1.2.1, fun j hj => (r2.2.2 j (by omega)).trans (r1.2.2 j hj).symm⟩ (UR.put (u1.fm fM (by decide) (by decide)) (u2.fr fC h17 (by decide))) (hr.mc.fr fM (by decide)) fC fM (by decide) (by decide) (by decide)⟩
      simp (disch := omega) only [Option.bind_some, ↓reduceIte, ↓M_1, ↓M_2, L_0, L_1, L_2, L_3, L_4, L_5, L_6, L_7, L_8, L_9, L_10, L_11, L_12, L_13, L_20, L_24, L_26, L_30, L_31, L_32, L_39, L_40, L_48, L_57, L_76, L_80, L_90, L_91, L_97, L_99, L_100, L_255, L_273, L_1000, L_2000, q_ld, q_ldL, q_sto, q_stoL, q_add, q_sub, q_mul, q_dec, q_rem, q_div, q_lt_t, q_lt_f, q_le_t, q_le_f, q_eq_t, q_eq_f, q_em, q_me, q_ml, q_lm, q_mle, q_lem, q_s1, q_s1o, q_s1k, q_s12, q_s2, q_s2o, q_s2k, q_s21, Nat.add_sub_cancel, q_or, q_and, q_shl, true_or, or_true, false_or, or_false, true_and, and_true, false_and, and_false, not_true_eq_false, not_false_eq_true, ne_eq, fC_EachAddsALine_fits, gC_EachAddsALine_fits_0, ec, hn1, y1, e2, ef]
    by_cases cA : 0 < CF w C ta n u v k 100
    · rw [if_pos cA] at fM
      have ft : ∃ y', fC_Tales_traceFit N (nI u) (nI k) y = some y' ∧ Rw (fun j => nI (qF w C ta n v u k j / 2)) (n - 1) y y' := by
        refine C_traceFit_t hy (by omega) y4 y5 (by omega) hu (by omega) (fun j hj => ?_)
        obtain ⟨o1, o2⟩ := qF_ok h1.ok (by omega) cA j hj
        have eg : ∀ o, trP w u k (vF w C ta n v) j (xF w C ta n v u k j) o = (decide (beg w (grC w u k (qF w C ta n v u k) j).1 (grC w u k (qF w C ta n v u k) j).2 o) && decide (0 < FT w C ta n v 100 (j + 1) o)) := fun o => trP_gr rfl (fun _ => rfl) (fun i => qF_lt h1.ok i) j o
        have ht := fst1_lt (show fst1 (trP w u k (vF w C ta n v) j (xF w C ta n v u k j)) (2 * w 5 1) < 2 * w 5 1 from o1)
        rw [← qF_d, eg, Bool.and_eq_true] at ht
        refine ⟨o1, of_decide_eq_true ht.1, o2, fun o ho hbg hp => ?_⟩
        have hn' := fst1_not (p := trP w u k (vF w C ta n v) j (xF w C ta n v u k j)) (n := 2 * w 5 1) ho
        rw [eg, decide_eq_true hbg, decide_eq_true hp] at hn'
        cases hn'
      obtain ⟨y', e1, e2⟩ := ft
      by_cases c1 : n = 1
      · have em1 : fM_EachAddsALineModel_fits N (nI u) (nI v) (nI k) t = some (lN (CF w C ta n u v k 100), s1 z 0 10 (nI 0)) := by
          have z40 : (s1 z 0 10 (nI 0)).1 0 40 = nI n := by rw [q_s1k (by decide), z2.2.2 40 (by decide)]; exact t40
          have st : fM_EachAddsALineModel_fits N (nI u) (nI v) (nI k) t = gM_EachAddsALineModel_fits_55 N N (nI u) (nI k) (lN (CF w C ta n u v k 100)) (mI 1) (nI 1) (s1 z 0 10 (nI 0)) := by
            simp (disch := omega) only [Option.bind_some, ↓reduceIte, ↓M_1, ↓M_2, L_0, L_1, L_2, L_3, L_4, L_5, L_6, L_7, L_8, L_9, L_10, L_11, L_12, L_13, L_20, L_24, L_26, L_30, L_31, L_32, L_39, L_40, L_48, L_57, L_76, L_80, L_90, L_91, L_97, L_99, L_100, L_255, L_273, L_1000, L_2000, q_ld, q_ldL, q_sto, q_stoL, q_add, q_sub, q_mul, q_dec, q_rem, q_div, q_lt_t, q_lt_f, q_le_t, q_le_f, q_eq_t, q_eq_f, q_em, q_me, q_ml, q_lm, q_mle, q_lem, q_s1, q_s1o, q_s1k, q_s12, q_s2, q_s2o, q_s2k, q_s21, Nat.add_sub_cancel, q_or, q_and, q_shl, true_or, or_true, false_or, or_false, true_and, and_true, false_and, and_false, not_true_eq_false, not_false_eq_true, ne_eq, fM_EachAddsALineModel_fits, gM_EachAddsALineModel_fits_0, em, hn2, z1]
          obtain ⟨m, hm⟩ : ∃ m, N = m + 1 := ⟨N - 1, by omega⟩
          have e : gM_EachAddsALineModel_fits_55 N N (nI u) (nI k) (lN (CF w C ta n u v k 100)) (mI 1) (nI 1) (s1 z 0 10 (nI 0)) = gM_EachAddsALineModel_fits_55 N (m + 1) (nI u) (nI k) (lN (CF w C ta n u v k 100)) (mI 1) (nI 1) (s1 z 0 10 (nI 0)) := by rw [← hm]
          rw [st, e, gM_EachAddsALineModel_fits_55, z40, c1, if_pos (Int32.le_refl _)]
        refine fM _ ?_ em1 y' e2 e1
        rw [show n - 1 = 0 by omega]; exact Rm.nil
      · obtain ⟨z3a, z3b⟩ := z3 (by omega)
        obtain ⟨z', r1, r2⟩ := M_f55 (N := N) (A := CF w C ta n u v k 100) hz (by omega) hn (by omega) hu (show k < 1000 by omega) ((z2.2.2 40 (by decide)).trans t40) z3a z3b cA (Nat.lt_trans hA (by decide)) (fun j hj => (qF_ok h1.ok (by omega) cA j hj).1)
        refine fM z' r2 ?_ y' e2 e1
        rw [← r1]
        simp (disch := omega) only [Option.bind_some, ↓reduceIte, ↓M_1, ↓M_2, L_0, L_1, L_2, L_3, L_4, L_5, L_6, L_7, L_8, L_9, L_10, L_11, L_12, L_13, L_20, L_24, L_26, L_30, L_31, L_32, L_39, L_40, L_48, L_57, L_76, L_80, L_90, L_91, L_97, L_99, L_100, L_255, L_273, L_1000, L_2000, q_ld, q_ldL, q_sto, q_stoL, q_add, q_sub, q_mul, q_dec, q_rem, q_div, q_lt_t, q_lt_f, q_le_t, q_le_f, q_eq_t, q_eq_f, q_em, q_me, q_ml, q_lm, q_mle, q_lem, q_s1, q_s1o, q_s1k, q_s12, q_s2, q_s2o, q_s2k, q_s21, Nat.add_sub_cancel, q_or, q_and, q_shl, true_or, or_true, false_or, or_false, true_and, and_true, false_and, and_false, not_true_eq_false, not_false_eq_true, ne_eq, fM_EachAddsALineModel_fits, gM_EachAddsALineModel_fits_0, em, hn2, z1]
    · rw [if_neg cA] at fM
      have cA0 : CF w C ta n u v k 100 = 0 := by omega
      have ft : ∃ y', fC_Tales_traceFit N (nI u) (nI k) y = some y' ∧ Rw (fun j => nI (qF w C ta n v u k j / 2)) 0 y y' := by
        by_cases c1 : n = 1
        · have := C_traceFit_t (N := N) (Q := qF w C ta n v u k) hy (by omega) y4 y5 (by omega) hu (show k < 1000 by omega) (fun j hj => by omega)
          rw [show n - 1 = 0 by omega] at this
          exact this
        · obtain ⟨y', e1, e2⟩ := C_traceFit_f (N := N) hy (by omega) y4 y5 (by omega) hu (show k < 1000 by omega) cA0
          exact ⟨y', e1, e2.1, e2.2.1, fun j hj => by omega⟩
      obtain ⟨y', e1, e2⟩ := ft
      refine fM (s1 z 0 10 (nI 0)) Rm.nil ?_ y' e2 e1
      have z40 : (s1 z 0 10 (nI 0)).1 0 40 = nI n := by rw [q_s1k (by decide), z2.2.2 40 (by decide)]; exact t40
      have ecm := cmpL_le (a := 0) (b := 0) (by decide) (by decide)
      rw [eq_true (Nat.le_refl 0)] at ecm
      have st : fM_EachAddsALineModel_fits N (nI u) (nI v) (nI k) t = gM_EachAddsALineModel_fits_55 N N (nI u) (nI k) (lN (CF w C ta n u v k 100)) (mI 1) (nI 1) (s1 z 0 10 (nI 0)) := by
        simp (disch := omega) only [Option.bind_some, ↓reduceIte, ↓M_1, ↓M_2, L_0, L_1, L_2, L_3, L_4, L_5, L_6, L_7, L_8, L_9, L_10, L_11, L_12, L_13, L_20, L_24, L_26, L_30, L_31, L_32, L_39, L_40, L_48, L_57, L_76, L_80, L_90, L_91, L_97, L_99, L_100, L_255, L_273, L_1000, L_2000, q_ld, q_ldL, q_sto, q_stoL, q_add, q_sub, q_mul, q_dec, q_rem, q_div, q_lt_t, q_lt_f, q_le_t, q_le_f, q_eq_t, q_eq_f, q_em, q_me, q_ml, q_lm, q_mle, q_lem, q_s1, q_s1o, q_s1k, q_s12, q_s2, q_s2o, q_s2k, q_s21, Nat.add_sub_cancel, q_or, q_and, q_shl, true_or, or_true, false_or, or_false, true_and, and_true, false_and, and_false, not_true_eq_false, not_false_eq_true, ne_eq, fM_EachAddsALineModel_fits, gM_EachAddsALineModel_fits_0, em, hn2, z1]
      obtain ⟨m, hm⟩ : ∃ m, N = m + 1 := ⟨N - 1, by omega⟩
      have e : gM_EachAddsALineModel_fits_55 N N (nI u) (nI k) (lN (CF w C ta n u v k 100)) (mI 1) (nI 1) (s1 z 0 10 (nI 0)) = gM_EachAddsALineModel_fits_55 N (m + 1) (nI u) (nI k) (lN (CF w C ta n u v k 100)) (mI 1) (nI 1) (s1 z 0 10 (nI 0)) := by rw [← hm]
      rw [st, e, gM_EachAddsALineModel_fits_55, z40, cA0]
      by_cases c1 : nI n ≤ nI 1
      · rw [if_pos c1]
      · rw [if_neg c1, l_0, if_pos (show lg_cmp (lN 0) (lN 0) ≤ (0 : Int32) from of_eq_true ecm)]
end FK
