/-! tales: who must have had it -/
noncomputable def wrP (P : Nat → Prop) (p : Nat) : Nat := wrB (fun i => @decide (P i) (Classical.propDecidable _)) p
theorem wrP_t {P : Nat → Prop} {p : Nat} (h : P p) : wrP P (p + 1) = wrP P p ||| 2 ^ p := by
  unfold wrP
  rw [wrB_s, if_pos (@decide_eq_true _ (Classical.propDecidable _) h)]
theorem wrP_f {P : Nat → Prop} {p : Nat} (h : ¬ P p) : wrP P (p + 1) = wrP P p := by
  unfold wrP
  rw [wrB_s, if_neg (fun z => h (@of_decide_eq_true _ (Classical.propDecidable _) z))]
theorem wrP_0 {P : Nat → Prop} : wrP P 0 = 0 := rfl
theorem wrP_bit {P : Nat → Prop} {i : Nat} : ∀ {p : Nat}, (wrP P p).testBit i = true ↔ i < p ∧ P i := by
  intro p
  induction p with
  | zero =>
    rw [wrP_0, Nat.zero_testBit]
    exact ⟨fun h => absurd h (by decide), fun h => absurd h.1 (Nat.not_lt_zero _)⟩
  | succ p ih =>
    by_cases c : P p
    · rw [wrP_t c, Nat.testBit_or, Bool.or_eq_true, ih, Nat.testBit_two_pow, decide_eq_true_eq]
      constructor
      · rintro (⟨h1, h2⟩ | h)
        · exact ⟨by omega, h2⟩
        · subst h; exact ⟨by omega, c⟩
      · rintro ⟨h1, h2⟩
        by_cases d : i = p
        · exact Or.inr d.symm
        · exact Or.inl ⟨by omega, h2⟩
    · rw [wrP_f c, ih]
      constructor
      · rintro ⟨h1, h2⟩
        exact ⟨by omega, h2⟩
      · rintro ⟨h1, h2⟩
        refine ⟨?_, h2⟩
        by_cases d : i = p
        · exact absurd (d ▸ h2) c
        · omega
theorem tb_ext {a b : Nat} (h : ∀ i, a.testBit i = true ↔ b.testBit i = true) : a = b := Nat.eq_of_testBit_eq fun i => Bool.eq_iff_iff.mpr (h i)
theorem wrP_eq {P Q : Nat → Prop} {p : Nat} (h : ∀ i, i < p → (P i ↔ Q i)) : wrP P p = wrP Q p := tb_ext fun i => by
  rw [wrP_bit, wrP_bit]
  exact ⟨fun z => ⟨z.1, (h i z.1).mp z.2⟩, fun z => ⟨z.1, (h i z.1).mpr z.2⟩⟩
theorem wrP_or {P Q : Nat → Prop} {p : Nat} : wrP P p ||| wrP Q p = wrP (fun i => P i ∨ Q i) p := tb_ext fun i => by
  rw [Nat.testBit_or, Bool.or_eq_true, wrP_bit, wrP_bit, wrP_bit]
  exact ⟨fun z => z.elim (fun y => ⟨y.1, Or.inl y.2⟩) (fun y => ⟨y.1, Or.inr y.2⟩), fun z => z.2.imp (fun y => ⟨z.1, y⟩) (fun y => ⟨z.1, y⟩)⟩
theorem wrP_and {P Q : Nat → Prop} {p : Nat} : wrP P p &&& wrP Q p = wrP (fun i => P i ∧ Q i) p := tb_ext fun i => by
  rw [Nat.testBit_and, Bool.and_eq_true, wrP_bit, wrP_bit, wrP_bit]
  exact ⟨fun z => ⟨z.1.1, z.1.2, z.2.2⟩, fun z => ⟨⟨z.1, z.2.1⟩, z.1, z.2.2⟩⟩
theorem wrP_two {g p : Nat} (h : g < p) : 2 ^ g = wrP (fun i => i = g) p := tb_ext fun i => by
  rw [Nat.testBit_two_pow, decide_eq_true_eq, wrP_bit]
  exact ⟨fun z => ⟨by omega, z.symm⟩, fun z => z.2.symm⟩
theorem wrP_all {p : Nat} : 2 ^ p - 1 = wrP (fun _ => True) p := tb_ext fun i => by
  rw [Nat.testBit_two_pow_sub_one, decide_eq_true_eq, wrP_bit]
  exact ⟨fun z => ⟨z, trivial⟩, fun z => z.1⟩
theorem wrP_no {p : Nat} {P : Nat → Prop} (h : ∀ i, i < p → ¬ P i) : 0 = wrP P p := tb_ext fun i => by
  rw [Nat.zero_testBit, wrP_bit]
  exact ⟨fun z => absurd z (by decide), fun z => absurd z.2 (h i z.1)⟩
theorem sm_lt {f g : Nat → Nat} {n : Nat} (h : ∀ k, k < n → f k ≤ g k) : fb_sm f n < fb_sm g n ↔ ∃ k, k < n ∧ f k < g k := by
  constructor
  · intro hl
    refine Classical.byContradiction fun hno => ?_
    have e : fb_sm f n = fb_sm g n := fb_sm_cong fun k hk => by
      have h1 := h k hk
      have h2 : ¬ f k < g k := fun z => hno ⟨k, hk, z⟩
      omega
    omega
  · rintro ⟨k, hk, hl⟩
    have h1 := fb_sm_le h
    by_cases c : fb_sm f n = fb_sm g n
    · have := sm_term h c k hk
      omega
    · omega
section SU
variable {w : Nat → Nat → Nat} {C : List Nat} {ta F G : Nat → Nat} {n u v r no k a i : Nat}
theorem wy_lt {m : Nat} (hFG : ∀ o, o < m → F o ≤ G o) : (wy w F u r m < wy w G u r m ↔ ∃ o, o < m ∧ beg w u r o ∧ 0 < G o ∧ F o < G o) ∧ (wy w F u r m = 0 ↔ ∀ o, o < m → beg w u r o → 0 < G o → F o = 0) := by
  unfold wy
  constructor
  · rw [sm_lt (fun o ho => by split <;> first | exact hFG o ho | exact Nat.le_refl _)]
    constructor
    · rintro ⟨o, o1, o2⟩
      by_cases c : beg w u r o
      · rw [if_pos c, if_pos c] at o2
        exact ⟨o, o1, c, by omega, o2⟩
      · rw [if_neg c, if_neg c] at o2
        omega
    · rintro ⟨o, o1, o2, o3, o4⟩
      exact ⟨o, o1, by rw [if_pos o2, if_pos o2]; exact o4⟩
  · constructor
    · intro h o o1 o2 o3
      have := fb_sm_zero h o o1
      rw [if_pos o2] at this
      exact this
    · intro h
      have e : fb_sm (fun s => if beg w u r s then F s else 0) m = fb_sm (fun _ => 0) m := fb_sm_cong fun o ho => by
        by_cases c : beg w u r o
        · rw [if_pos c]
          by_cases d : 0 < G o
          · exact h o ho c d
          · have := hFG o ho
            omega
        · rw [if_neg c]
      rw [e, fb_sm_const, Nat.mul_zero]
theorem fre_of (h : okW w) (ha : a < 2 * w 5 1) : fre w 100 100 a := by
  have hM := h.2.1
  have := h.1
  have := gt_lt h ha
  exact ⟨by omega, by omega⟩
theorem fre_i (h : okW w) (ha : a < 2 * w 5 1) : fre w 100 i a ↔ ¬ i = gt w a := by
  have hM := h.2.1
  exact ⟨fun z e => z.2 e.symm, fun z => ⟨by omega, fun e => z e.symm⟩⟩
theorem TF_mon (h : okW w) : ∀ j a, a < 2 * w 5 1 → TF w C ta n v i j a ≤ TF w C ta n v 100 j a := by
  intro j
  induction j with
  | zero =>
    intro a ha
    rw [TF_0, TF_0]
    by_cases c : fre w 100 i a ∧ SO w C ta (n - 1) a
    · rw [if_pos c, if_pos (show fre w 100 100 a ∧ SO w C ta (n - 1) a from ⟨fre_of h ha, c.2⟩)]
      exact Nat.le_refl _
    · rw [if_neg c]
      exact Nat.zero_le _
  | succ j ih =>
    intro a ha
    rw [TF_s, TF_s]
    by_cases c : fre w 100 i a ∧ SO w C ta (n - 2 - j) a
    · rw [if_pos c, if_pos (show fre w 100 100 a ∧ SO w C ta (n - 2 - j) a from ⟨fre_of h ha, c.2⟩)]
      refine fb_sm_le fun o ho => ?_
      split
      · exact ih o ho
      · exact Nat.le_refl _
    · rw [if_neg c]
      exact Nat.zero_le _
theorem FT_mon (h : okW w) (ha : a < 2 * w 5 1) : FT w C ta n v i k a ≤ FT w C ta n v 100 k a := TF_mon h _ a ha
abbrev pS (w : Nat → Nat → Nat) (C : List Nat) (ta : Nat → Nat) (n v k a : Nat) : Nat → Prop := fun i => FT w C ta n v i k a < FT w C ta n v 100 k a
abbrev pE (w : Nat → Nat → Nat) (C : List Nat) (ta : Nat → Nat) (n v k a : Nat) : Nat → Prop := fun i => FT w C ta n v i k a = 0
theorem FT_l (h : okW w) (ha : a < 2 * w 5 1) (hk : k + 1 = n) (hp : 0 < FT w C ta n v 100 k a) : (pS w C ta n v k a i ↔ i = gt w a) ∧ (pE w C ta n v k a i ↔ i = gt w a) := by
  have hi := fre_i (i := i) h ha
  have e1 := FT_last (w := w) (C := C) (ta := ta) (v := v) (no := 100) (a := a) hk
  have e2 := FT_last (w := w) (C := C) (ta := ta) (v := v) (no := i) (a := a) hk
  show (FT w C ta n v i k a < FT w C ta n v 100 k a ↔ _) ∧ (FT w C ta n v i k a = 0 ↔ _)
  by_cases c : SO w C ta k a
  · rw [if_pos (show fre w 100 100 a ∧ SO w C ta k a from ⟨fre_of h ha, c⟩)] at e1
    by_cases d : gt w a = v
    · rw [if_pos d] at e1
      by_cases e : i = gt w a
      · rw [if_neg (show ¬ (fre w 100 i a ∧ SO w C ta k a) from fun z => (hi.mp z.1) e)] at e2
        exact ⟨⟨fun _ => e, fun _ => by omega⟩, ⟨fun _ => e, fun _ => e2⟩⟩
      · rw [if_pos (show fre w 100 i a ∧ SO w C ta k a from ⟨hi.mpr e, c⟩), if_pos d] at e2
        exact ⟨⟨fun z => by omega, fun z => absurd z e⟩, ⟨fun z => by omega, fun z => absurd z e⟩⟩
    · rw [if_neg d] at e1
      omega
  · rw [if_neg (show ¬ (fre w 100 100 a ∧ SO w C ta k a) from fun z => c z.2)] at e1
    omega
theorem FT_n (h : okW w) (ha : a < 2 * w 5 1) (hk : k + 1 < n) (hp : 0 < FT w C ta n v 100 k a) :
    (pS w C ta n v k a i ↔ (∃ o, o < 2 * w 5 1 ∧ beg w (gt w a) (rd w a) o ∧ 0 < FT w C ta n v 100 (k + 1) o ∧ pS w C ta n v (k + 1) o i) ∨ i = gt w a) ∧
    (pE w C ta n v k a i ↔ (∀ o, o < 2 * w 5 1 → beg w (gt w a) (rd w a) o → 0 < FT w C ta n v 100 (k + 1) o → pE w C ta n v (k + 1) o i) ∨ i = gt w a) := by
  have hi := fre_i (i := i) h ha
  obtain ⟨y1, y2⟩ := wy_lt (w := w) (u := gt w a) (r := rd w a) (F := FT w C ta n v i (k + 1)) (G := FT w C ta n v 100 (k + 1)) (m := 2 * w 5 1) (fun o ho => FT_mon h ho)
  have e1 := FT_next (w := w) (C := C) (ta := ta) (v := v) (no := 100) (a := a) hk
  have e2 := FT_next (w := w) (C := C) (ta := ta) (v := v) (no := i) (a := a) hk
  show (FT w C ta n v i k a < FT w C ta n v 100 k a ↔ _) ∧ (FT w C ta n v i k a = 0 ↔ _)
  by_cases c : SO w C ta k a
  · rw [if_pos (show fre w 100 100 a ∧ SO w C ta k a from ⟨fre_of h ha, c⟩), fol_wy] at e1
    by_cases e : i = gt w a
    · rw [if_neg (show ¬ (fre w 100 i a ∧ SO w C ta k a) from fun z => (hi.mp z.1) e)] at e2
      exact ⟨⟨fun _ => Or.inr e, fun _ => by omega⟩, ⟨fun _ => Or.inr e, fun _ => e2⟩⟩
    · rw [if_pos (show fre w 100 i a ∧ SO w C ta k a from ⟨hi.mpr e, c⟩), fol_wy] at e2
      rw [e1, e2, y1, y2]
      exact ⟨⟨fun z => Or.inl z, fun z => z.resolve_right e⟩, ⟨fun z => Or.inl z, fun z => z.resolve_right e⟩⟩
  · rw [if_neg (show ¬ (fre w 100 100 a ∧ SO w C ta k a) from fun z => c z.2)] at e1
    omega
theorem CF_n (h : okW w) (hn : 1 < n) :
    (CF w C ta n u v r i < CF w C ta n u v r 100 ↔ ∃ o, o < 2 * w 5 1 ∧ beg w u r o ∧ 0 < FT w C ta n v 100 1 o ∧ pS w C ta n v 1 o i) ∧
    (CF w C ta n u v r i = 0 ↔ ∀ o, o < 2 * w 5 1 → beg w u r o → 0 < FT w C ta n v 100 1 o → pE w C ta n v 1 o i) := by
  unfold CF
  rw [if_neg (by omega), if_neg (by omega)]
  exact wy_lt (fun o ho => FT_mon h ho)
/-- whom some ways, whom each way needs -/
abbrev qS (w : Nat → Nat → Nat) (C : List Nat) (ta : Nat → Nat) (n u v r : Nat) : Nat → Prop := fun i => i = u ∨ CF w C ta n u v r i < CF w C ta n u v r 100
abbrev qE (w : Nat → Nat → Nat) (C : List Nat) (ta : Nat → Nat) (n u v r : Nat) : Nat → Prop := fun i => i = u ∨ CF w C ta n u v r i = 0
end SU
section SC
variable {N : Nat} {w : Nat → Nat → Nat} {C : List Nat} {x ta G : Nat → Nat} {S E : Nat → Nat → Prop} {n u v r k a q : Nat} {s t : vSt}
theorem C_nextOf_n (h : CW w s) (hn : n ≤ 12) (h9 : s.1 46 9 = nI n) (hu : u < w 5 0) (hr : r < 1000) {m : Nat} (hm : m < w 5 1) : fC_Tales_nextOf N (nI m) (nI u) (nI r) (nI n) s = some (mI 1, s) := by
  have hb := h.bd
  have ha := C_isAt (N := N) h hm hu
  have h3 : w 3 m ≤ 99 := (h.ok.2.2.2 m hm).2.2.2.1
  by_cases c : w 1 m = u ∨ w 2 m = u
  · rw [if_pos c] at ha
    by_cases d : r ≤ w 3 m
    · have ep := C_place (N := N) h hm c hu
      simp (disch := omega) only [Option.bind_some, ↓reduceIte, ↓M_1, ↓M_2, L_0, L_1, L_2, L_3, L_4, L_5, L_6, L_7, L_8, L_9, L_10, L_11, L_12, L_13, L_20, L_24, L_26, L_30, L_31, L_32, L_39, L_40, L_48, L_57, L_76, L_80, L_90, L_91, L_97, L_99, L_100, L_255, L_273, L_1000, L_2000, q_ld, q_ldL, q_sto, q_stoL, q_add, q_sub, q_mul, q_dec, q_rem, q_div, q_lt_t, q_lt_f, q_le_t, q_le_f, q_eq_t, q_eq_f, q_em, q_me, q_ml, q_lm, q_mle, q_lem, q_s1, q_s1o, q_s1k, q_s12, q_s2, q_s2o, q_s2k, q_s21, Nat.add_sub_cancel, q_or, q_and, q_shl, true_or, or_true, false_or, or_false, true_and, and_true, false_and, and_false, not_true_eq_false, not_false_eq_true, ne_eq, fC_Tales_nextOf, gC_Tales_nextOf_0, gC_Tales_nextOf_84, ha, h.h hm, C_otherAt h hm hu, ep, h9]
    · simp (disch := omega) only [Option.bind_some, ↓reduceIte, ↓M_1, ↓M_2, L_0, L_1, L_2, L_3, L_4, L_5, L_6, L_7, L_8, L_9, L_10, L_11, L_12, L_13, L_20, L_24, L_26, L_30, L_31, L_32, L_39, L_40, L_48, L_57, L_76, L_80, L_90, L_91, L_97, L_99, L_100, L_255, L_273, L_1000, L_2000, q_ld, q_ldL, q_sto, q_stoL, q_add, q_sub, q_mul, q_dec, q_rem, q_div, q_lt_t, q_lt_f, q_le_t, q_le_f, q_eq_t, q_eq_f, q_em, q_me, q_ml, q_lm, q_mle, q_lem, q_s1, q_s1o, q_s1k, q_s12, q_s2, q_s2o, q_s2k, q_s21, Nat.add_sub_cancel, q_or, q_and, q_shl, true_or, or_true, false_or, or_false, true_and, and_true, false_and, and_false, not_true_eq_false, not_false_eq_true, ne_eq, fC_Tales_nextOf, gC_Tales_nextOf_0, ha, h.h hm]
  · rw [if_neg c] at ha
    simp (disch := omega) only [Option.bind_some, ↓reduceIte, ↓M_1, ↓M_2, L_0, L_1, L_2, L_3, L_4, L_5, L_6, L_7, L_8, L_9, L_10, L_11, L_12, L_13, L_20, L_24, L_26, L_30, L_31, L_32, L_39, L_40, L_48, L_57, L_76, L_80, L_90, L_91, L_97, L_99, L_100, L_255, L_273, L_1000, L_2000, q_ld, q_ldL, q_sto, q_stoL, q_add, q_sub, q_mul, q_dec, q_rem, q_div, q_lt_t, q_lt_f, q_le_t, q_le_f, q_eq_t, q_eq_f, q_em, q_me, q_ml, q_lm, q_mle, q_lem, q_s1, q_s1o, q_s1k, q_s12, q_s2, q_s2o, q_s2k, q_s21, Nat.add_sub_cancel, q_or, q_and, q_shl, true_or, or_true, false_or, or_false, true_and, and_true, false_and, and_false, not_true_eq_false, not_false_eq_true, ne_eq, fC_Tales_nextOf, gC_Tales_nextOf_0, ha]
theorem C_gather (h : CW w s) (hN : 60 ≤ N) (hn : n ≤ 12) (h9 : s.1 46 9 = nI n) (hu : u < w 5 0) (hr : r < 1000) (hk : k < n) (hG : ∀ o, o < 2 * w 5 1 → s.2 48 (k * 40 + sw o) = lN (G o) ∧ G o < 2 ^ 63)
    (hS : ∀ o, o < 2 * w 5 1 → 0 < G o → s.1 49 (k * 40 + sw o) = nI (wrP (S o) (w 5 0)) ∧ s.1 50 (k * 40 + sw o) = nI (wrP (E o) (w 5 0))) :
    ∃ z, fC_Tales_gather N (nI u) (nI r) (nI k) s = some z ∧ Fr [46] [] s z ∧ (∀ j, 2 ≤ j → z.1 46 j = s.1 46 j) ∧ z.1 46 0 = nI (wrP (fun i => ∃ o, o < 2 * w 5 1 ∧ beg w u r o ∧ 0 < G o ∧ S o i) (w 5 0)) ∧ z.1 46 1 = nI (wrP (fun i => ∀ o, o < 2 * w 5 1 → beg w u r o → 0 < G o → E o i) (w 5 0)) := by
  have hb := h.bd
  have h2 : 1 ≤ 2 ^ w 5 0 := Nat.one_le_two_pow
  have st : fC_Tales_gather N (nI u) (nI r) (nI k) s = gC_Tales_gather_31 N N (nI u) (nI r) (nI k) (nI 0) (s1 (s1 s 46 0 (nI 0)) 46 1 (nI (2 ^ w 5 0 - 1))) := by
    simp (disch := omega) only [Option.bind_some, ↓reduceIte, ↓M_1, ↓M_2, L_0, L_1, L_2, L_3, L_4, L_5, L_6, L_7, L_8, L_9, L_10, L_11, L_12, L_13, L_20, L_24, L_26, L_30, L_31, L_32, L_39, L_40, L_48, L_57, L_76, L_80, L_90, L_91, L_97, L_99, L_100, L_255, L_273, L_1000, L_2000, q_ld, q_ldL, q_sto, q_stoL, q_add, q_sub, q_mul, q_dec, q_rem, q_div, q_lt_t, q_lt_f, q_le_t, q_le_f, q_eq_t, q_eq_f, q_em, q_me, q_ml, q_lm, q_mle, q_lem, q_s1, q_s1o, q_s1k, q_s12, q_s2, q_s2o, q_s2k, q_s21, Nat.add_sub_cancel, q_or, q_and, q_shl, true_or, or_true, false_or, or_false, true_and, and_true, false_and, and_false, not_true_eq_false, not_false_eq_true, ne_eq, fC_Tales_gather, gC_Tales_gather_0, h9, fC_Roads_everybody, gC_Roads_everybody_0, h.p, q_shl, gC_Tales_gather_25]
  rw [st]
  refine loopU (fun f m z => gC_Tales_gather_31 N f (nI u) (nI r) (nI k) (nI m) z) (w 5 1)
    (fun m z => m ≤ w 5 1 ∧ Fr [46] [] s z ∧ (∀ j, 2 ≤ j → z.1 46 j = s.1 46 j) ∧ z.1 46 0 = nI (wrP (fun i => ∃ o, o < 2 * m ∧ beg w u r o ∧ 0 < G o ∧ S o i) (w 5 0)) ∧ z.1 46 1 = nI (wrP (fun i => ∀ o, o < 2 * m → beg w u r o → 0 < G o → E o i) (w 5 0)))
    (fun o => ∃ z, o = some z ∧ Fr [46] [] s z ∧ (∀ j, 2 ≤ j → z.1 46 j = s.1 46 j) ∧ z.1 46 0 = nI (wrP (fun i => ∃ o, o < 2 * w 5 1 ∧ beg w u r o ∧ 0 < G o ∧ S o i) (w 5 0)) ∧ z.1 46 1 = nI (wrP (fun i => ∀ o, o < 2 * w 5 1 → beg w u r o → 0 < G o → E o i) (w 5 0))) ?_ ?_ (w 5 1) N 0 _ (by omega) (by omega)
    ⟨by omega, (Fr.s1 (by decide)).tr (Fr.s1 (by decide)), fun j hj => by rw [q_s1k (by omega), q_s1k (by omega)], ?_, ?_⟩
  · rintro f m z hm ⟨g1, g2, g3, g4, g5⟩
    have hz : CW w z := h.fr g2 (by decide)
    have z9 : z.1 46 9 = nI n := (g3 9 (by decide)).trans h9
    have en := C_nextOf (N := N) (u := u) (r := r) (k := k) (G := G) hz hn z9 hu hr hk hm (fun o ho => by rw [g2.2 48 (by decide)]; exact hG o ho)
    have hi := ix_lt (w := w) u hm
    have hsw := sw_lt hi
    have hh := ix_half w m u
    have only : ∀ o, o < 2 * (m + 1) → ¬ o < 2 * m → beg w u r o → o = ix w m u := fun o o1 o2 o3 => by
      have e := ix_eq h.ok (s := o) (by omega)
      rw [show o / 2 = m by omega, o3.1] at e
      exact e.symm
    by_cases c : (w 1 m = u ∨ w 2 m = u) ∧ beg w u r (ix w m u) ∧ 0 < G (ix w m u)
    · rw [if_pos c] at en
      obtain ⟨k1, k2⟩ := hS _ hi c.2.2
      have f49 : z.1 49 (k * 40 + sw (ix w m u)) = nI (wrP (S (ix w m u)) (w 5 0)) := by rw [g2.1 49 (by decide)]; exact k1
      have f50 : z.1 50 (k * 40 + sw (ix w m u)) = nI (wrP (E (ix w m u)) (w 5 0)) := by rw [g2.1 50 (by decide)]; exact k2
      have e1 : wrP (fun i => ∃ o, o < 2 * m ∧ beg w u r o ∧ 0 < G o ∧ S o i) (w 5 0) ||| wrP (S (ix w m u)) (w 5 0) = wrP (fun i => ∃ o, o < 2 * (m + 1) ∧ beg w u r o ∧ 0 < G o ∧ S o i) (w 5 0) := by
        rw [wrP_or]
        refine wrP_eq fun i _ => ⟨fun y => ?_, fun ⟨o, o1, o2, o3, o4⟩ => ?_⟩
        · rcases y with ⟨o, o1, o2⟩ | y
          · exact ⟨o, by omega, o2⟩
          · exact ⟨ix w m u, by omega, c.2.1, c.2.2, y⟩
        · by_cases d : o < 2 * m
          · exact Or.inl ⟨o, d, o2, o3, o4⟩
          · exact Or.inr (only o o1 d o2 ▸ o4)
      have e2 : wrP (fun i => ∀ o, o < 2 * m → beg w u r o → 0 < G o → E o i) (w 5 0) &&& wrP (E (ix w m u)) (w 5 0) = wrP (fun i => ∀ o, o < 2 * (m + 1) → beg w u r o → 0 < G o → E o i) (w 5 0) := by
        rw [wrP_and]
        refine wrP_eq fun i _ => ⟨fun ⟨y1, y2⟩ o o1 o2 o3 => ?_, fun y => ⟨fun o o1 o2 o3 => y o (by omega) o2 o3, y _ (by omega) c.2.1 c.2.2⟩⟩
        by_cases d : o < 2 * m
        · exact y1 o d o2 o3
        · exact only o o1 d o2 ▸ y2
      refine Or.inl ⟨s1 (s1 z 46 0 (nI (wrP (fun i => ∃ o, o < 2 * (m + 1) ∧ beg w u r o ∧ 0 < G o ∧ S o i) (w 5 0)))) 46 1 (nI (wrP (fun i => ∀ o, o < 2 * (m + 1) → beg w u r o → 0 < G o → E o i) (w 5 0))), ?_, by omega, g2.tr ((Fr.s1 (by decide)).tr (Fr.s1 (by decide))), fun j hj => by rw [q_s1k (by omega), q_s1k (by omega)]; exact g3 j hj, ?_, q_s1 _ _ _ _⟩
      · show gC_Tales_gather_31 N (f + 1) (nI u) (nI r) (nI k) (nI m) z = _
        rw [gC_Tales_gather_31]
        rw [← e1, ← e2]
        simp (disch := omega) only [Option.bind_some, ↓reduceIte, ↓M_1, ↓M_2, L_0, L_1, L_2, L_3, L_4, L_5, L_6, L_7, L_8, L_9, L_10, L_11, L_12, L_13, L_20, L_24, L_26, L_30, L_31, L_32, L_39, L_40, L_48, L_57, L_76, L_80, L_90, L_91, L_97, L_99, L_100, L_255, L_273, L_1000, L_2000, q_ld, q_ldL, q_sto, q_stoL, q_add, q_sub, q_mul, q_dec, q_rem, q_div, q_lt_t, q_lt_f, q_le_t, q_le_f, q_eq_t, q_eq_f, q_em, q_me, q_ml, q_lm, q_mle, q_lem, q_s1, q_s1o, q_s1k, q_s12, q_s2, q_s2o, q_s2k, q_s21, Nat.add_sub_cancel, q_or, q_and, q_shl, true_or, or_true, false_or, or_false, true_and, and_true, false_and, and_false, not_true_eq_false, not_false_eq_true, ne_eq, hz.m, en, f49, f50, g4, g5, q_or, q_and, gC_Tales_gather_92]
      · rw [q_s1k (by decide), q_s1]
    · rw [if_neg c] at en
      have hop : ∀ o, o < 2 * (m + 1) → ¬ o < 2 * m → beg w u r o → ¬ 0 < G o := fun o o1 o2 o3 o4 => by
        have e := only o o1 o2 o3
        have hg := gv_hop (w := w) o
        rw [show o / 2 = m by omega, o3.1] at hg
        exact c ⟨hg, e ▸ o3, e ▸ o4⟩
      have e1 : wrP (fun i => ∃ o, o < 2 * m ∧ beg w u r o ∧ 0 < G o ∧ S o i) (w 5 0) = wrP (fun i => ∃ o, o < 2 * (m + 1) ∧ beg w u r o ∧ 0 < G o ∧ S o i) (w 5 0) := by
        refine wrP_eq fun i _ => ⟨fun ⟨o, o1, o2⟩ => ⟨o, by omega, o2⟩, fun ⟨o, o1, o2, o3, o4⟩ => ?_⟩
        by_cases d : o < 2 * m
        · exact ⟨o, d, o2, o3, o4⟩
        · exact absurd o3 (hop o o1 d o2)
      have e2 : wrP (fun i => ∀ o, o < 2 * m → beg w u r o → 0 < G o → E o i) (w 5 0) = wrP (fun i => ∀ o, o < 2 * (m + 1) → beg w u r o → 0 < G o → E o i) (w 5 0) := by
        refine wrP_eq fun i _ => ⟨fun y o o1 o2 o3 => ?_, fun y o o1 o2 o3 => y o (by omega) o2 o3⟩
        by_cases d : o < 2 * m
        · exact y o d o2 o3
        · exact absurd o3 (hop o o1 d o2)
      refine Or.inl ⟨z, ?_, by omega, g2, g3, by rw [g4, e1], by rw [g5, e2]⟩
      show gC_Tales_gather_31 N (f + 1) (nI u) (nI r) (nI k) (nI m) z = _
      rw [gC_Tales_gather_31]
      simp (disch := omega) only [Option.bind_some, ↓reduceIte, ↓M_1, ↓M_2, L_0, L_1, L_2, L_3, L_4, L_5, L_6, L_7, L_8, L_9, L_10, L_11, L_12, L_13, L_20, L_24, L_26, L_30, L_31, L_32, L_39, L_40, L_48, L_57, L_76, L_80, L_90, L_91, L_97, L_99, L_100, L_255, L_273, L_1000, L_2000, q_ld, q_ldL, q_sto, q_stoL, q_add, q_sub, q_mul, q_dec, q_rem, q_div, q_lt_t, q_lt_f, q_le_t, q_le_f, q_eq_t, q_eq_f, q_em, q_me, q_ml, q_lm, q_mle, q_lem, q_s1, q_s1o, q_s1k, q_s12, q_s2, q_s2o, q_s2k, q_s21, Nat.add_sub_cancel, q_or, q_and, q_shl, true_or, or_true, false_or, or_false, true_and, and_true, false_and, and_false, not_true_eq_false, not_false_eq_true, ne_eq, hz.m, en, gC_Tales_gather_92]
  · rintro f z ⟨_, g2, g3, g4, g5⟩
    have hz : CW w z := h.fr g2 (by decide)
    refine ⟨z, ?_, g2, g3, g4, g5⟩
    show gC_Tales_gather_31 N (f + 1) (nI u) (nI r) (nI k) (nI (w 5 1)) z = _
    rw [gC_Tales_gather_31]
    simp (disch := omega) only [Option.bind_some, ↓reduceIte, ↓M_1, ↓M_2, L_0, L_1, L_2, L_3, L_4, L_5, L_6, L_7, L_8, L_9, L_10, L_11, L_12, L_13, L_20, L_24, L_26, L_30, L_31, L_32, L_39, L_40, L_48, L_57, L_76, L_80, L_90, L_91, L_97, L_99, L_100, L_255, L_273, L_1000, L_2000, q_ld, q_ldL, q_sto, q_stoL, q_add, q_sub, q_mul, q_dec, q_rem, q_div, q_lt_t, q_lt_f, q_le_t, q_le_f, q_eq_t, q_eq_f, q_em, q_me, q_ml, q_lm, q_mle, q_lem, q_s1, q_s1o, q_s1k, q_s12, q_s2, q_s2o, q_s2k, q_s21, Nat.add_sub_cancel, q_or, q_and, q_shl, true_or, or_true, false_or, or_false, true_and, and_true, false_and, and_false, not_true_eq_false, not_false_eq_true, ne_eq, hz.m]
  · rw [q_s1k (by decide), q_s1]
    exact congrArg nI (wrP_no fun i _ ⟨o, o1, _⟩ => absurd o1 (by omega))
  · rw [q_s1]
    exact congrArg nI (wrP_all.trans (wrP_eq fun i _ => ⟨fun _ o o1 => absurd o1 (by omega), fun _ => trivial⟩))
theorem C_gather_n (h : CW w s) (hN : 60 ≤ N) (hn : n ≤ 12) (h9 : s.1 46 9 = nI n) (hu : u < w 5 0) (hr : r < 1000) : ∃ z, fC_Tales_gather N (nI u) (nI r) (nI n) s = some z ∧ Fr [46] [] s z ∧ (∀ j, 2 ≤ j → z.1 46 j = s.1 46 j) ∧ z.1 46 0 = nI 0 ∧ z.1 46 1 = nI 0 := by
  have hb := h.bd
  have st : fC_Tales_gather N (nI u) (nI r) (nI n) s = gC_Tales_gather_31 N N (nI u) (nI r) (nI n) (nI 0) (s1 (s1 s 46 0 (nI 0)) 46 1 (nI 0)) := by
    simp (disch := omega) only [Option.bind_some, ↓reduceIte, ↓M_1, ↓M_2, L_0, L_1, L_2, L_3, L_4, L_5, L_6, L_7, L_8, L_9, L_10, L_11, L_12, L_13, L_20, L_24, L_26, L_30, L_31, L_32, L_39, L_40, L_48, L_57, L_76, L_80, L_90, L_91, L_97, L_99, L_100, L_255, L_273, L_1000, L_2000, q_ld, q_ldL, q_sto, q_stoL, q_add, q_sub, q_mul, q_dec, q_rem, q_div, q_lt_t, q_lt_f, q_le_t, q_le_f, q_eq_t, q_eq_f, q_em, q_me, q_ml, q_lm, q_mle, q_lem, q_s1, q_s1o, q_s1k, q_s12, q_s2, q_s2o, q_s2k, q_s21, Nat.add_sub_cancel, q_or, q_and, q_shl, true_or, or_true, false_or, or_false, true_and, and_true, false_and, and_false, not_true_eq_false, not_false_eq_true, ne_eq, fC_Tales_gather, gC_Tales_gather_0, h9, gC_Tales_gather_25]
  refine ⟨s1 (s1 s 46 0 (nI 0)) 46 1 (nI 0), ?_, (Fr.s1 (by decide)).tr (Fr.s1 (by decide)), fun j hj => by rw [q_s1k (by omega), q_s1k (by omega)], by rw [q_s1k (by decide), q_s1], q_s1 _ _ _ _⟩
  have fz : Fr [46] [] s (s1 (s1 s 46 0 (nI 0)) 46 1 (nI 0)) := (Fr.s1 (by decide)).tr (Fr.s1 (by decide))
  have z9 : (s1 (s1 s 46 0 (nI 0)) 46 1 (nI 0)).1 46 9 = nI n := by rw [q_s1k (by omega), q_s1k (by omega)]; exact h9
  rw [st]
  generalize s1 (s1 s 46 0 (nI 0)) 46 1 (nI 0) = z at fz z9
  have hz : CW w z := h.fr fz (by decide)
  refine loopS (fun f m (_ : Unit) => gC_Tales_gather_31 N f (nI u) (nI r) (nI n) (nI m) z) (fun _ => ()) (w 5 1) _ (fun f m hm => ?_) (fun f => ?_) N (by omega)
  · have en := C_nextOf_n (N := N) hz hn z9 hu hr hm
    show gC_Tales_gather_31 N (f + 1) (nI u) (nI r) (nI n) (nI m) z = gC_Tales_gather_31 N f (nI u) (nI r) (nI n) (nI (m + 1)) z
    rw [gC_Tales_gather_31]
    simp (disch := omega) only [Option.bind_some, ↓reduceIte, ↓M_1, ↓M_2, L_0, L_1, L_2, L_3, L_4, L_5, L_6, L_7, L_8, L_9, L_10, L_11, L_12, L_13, L_20, L_24, L_26, L_30, L_31, L_32, L_39, L_40, L_48, L_57, L_76, L_80, L_90, L_91, L_97, L_99, L_100, L_255, L_273, L_1000, L_2000, q_ld, q_ldL, q_sto, q_stoL, q_add, q_sub, q_mul, q_dec, q_rem, q_div, q_lt_t, q_lt_f, q_le_t, q_le_f, q_eq_t, q_eq_f, q_em, q_me, q_ml, q_lm, q_mle, q_lem, q_s1, q_s1o, q_s1k, q_s12, q_s2, q_s2o, q_s2k, q_s21, Nat.add_sub_cancel, q_or, q_and, q_shl, true_or, or_true, false_or, or_false, true_and, and_true, false_and, and_false, not_true_eq_false, not_false_eq_true, ne_eq, hz.m, en, gC_Tales_gather_92]
  · show gC_Tales_gather_31 N (f + 1) (nI u) (nI r) (nI n) (nI (w 5 1)) z = _
    rw [gC_Tales_gather_31]
    simp (disch := omega) only [Option.bind_some, ↓reduceIte, ↓M_1, ↓M_2, L_0, L_1, L_2, L_3, L_4, L_5, L_6, L_7, L_8, L_9, L_10, L_11, L_12, L_13, L_20, L_24, L_26, L_30, L_31, L_32, L_39, L_40, L_48, L_57, L_76, L_80, L_90, L_91, L_97, L_99, L_100, L_255, L_273, L_1000, L_2000, q_ld, q_ldL, q_sto, q_stoL, q_add, q_sub, q_mul, q_dec, q_rem, q_div, q_lt_t, q_lt_f, q_le_t, q_le_f, q_eq_t, q_eq_f, q_em, q_me, q_ml, q_lm, q_mle, q_lem, q_s1, q_s1o, q_s1k, q_s12, q_s2, q_s2o, q_s2k, q_s21, Nat.add_sub_cancel, q_or, q_and, q_shl, true_or, or_true, false_or, or_false, true_and, and_true, false_and, and_false, not_true_eq_false, not_false_eq_true, ne_eq, hz.m]
/-- behind a step of a way -/
theorem C_gatherK (h : CW w s) (hN : 60 ≤ N) (hn : n ≤ 12) (h9 : s.1 46 9 = nI n) (hk : k < n) (ha : a < 2 * w 5 1) (hp : 0 < FT w C ta n v 100 k a) (hF : k + 1 < n → ∀ o, o < 2 * w 5 1 → s.2 48 ((k + 1) * 40 + sw o) = lN (FT w C ta n v 100 (k + 1) o))
    (hS : k + 1 < n → ∀ o, o < 2 * w 5 1 → 0 < FT w C ta n v 100 (k + 1) o → s.1 49 ((k + 1) * 40 + sw o) = nI (wrP (pS w C ta n v (k + 1) o) (w 5 0)) ∧ s.1 50 ((k + 1) * 40 + sw o) = nI (wrP (pE w C ta n v (k + 1) o) (w 5 0))) :
    ∃ z X Y, fC_Tales_gather N (nI (gt w a)) (nI (rd w a)) (nI (k + 1)) s = some z ∧ Fr [46] [] s z ∧ (∀ j, 2 ≤ j → z.1 46 j = s.1 46 j) ∧ z.1 46 0 = nI X ∧ z.1 46 1 = nI Y ∧ X ||| 2 ^ gt w a = wrP (pS w C ta n v k a) (w 5 0) ∧ Y ||| 2 ^ gt w a = wrP (pE w C ta n v k a) (w 5 0) := by
  have hb := h.bd
  have hg := gt_lt h.ok ha
  have hrd := rd_le h.ok ha
  by_cases c : k + 1 < n
  · obtain ⟨z, z1, z2, z3, z4, z5⟩ := C_gather (N := N) (G := FT w C ta n v 100 (k + 1)) (S := pS w C ta n v (k + 1)) (E := pE w C ta n v (k + 1)) h hN hn h9 hg (show rd w a < 1000 by omega) c (fun o ho => ⟨hF c o ho, Nat.lt_trans (FT_lt h.ok hn) (by decide)⟩) (hS c)
    refine ⟨z, _, _, z1, z2, z3, z4, z5, ?_, ?_⟩
    · rw [wrP_two hg, wrP_or]
      exact wrP_eq fun i _ => ((FT_n h.ok ha c hp).1).symm
    · rw [wrP_two hg, wrP_or]
      exact wrP_eq fun i _ => ((FT_n h.ok ha c hp).2).symm
  · have e : k + 1 = n := by omega
    obtain ⟨z, z1, z2, z3, z4, z5⟩ := C_gather_n (N := N) h hN hn h9 hg (show rd w a < 1000 by omega)
    rw [← e] at z1
    refine ⟨z, 0, 0, z1, z2, z3, z4, z5, ?_, ?_⟩
    · rw [Nat.zero_or, wrP_two hg]
      exact wrP_eq fun i _ => ((FT_l h.ok ha e hp).1).symm
    · rw [Nat.zero_or, wrP_two hg]
      exact wrP_eq fun i _ => ((FT_l h.ok ha e hp).2).symm
def CS (w : Nat → Nat → Nat) (C : List Nat) (ta : Nat → Nat) (n v k : Nat) (s : vSt) : Prop := ∀ o, o < 2 * w 5 1 → 0 < FT w C ta n v 100 k o → s.1 49 (k * 40 + sw o) = nI (wrP (pS w C ta n v k o) (w 5 0)) ∧ s.1 50 (k * 40 + sw o) = nI (wrP (pE w C ta n v k o) (w 5 0))
theorem C_gg34 (R : Int32 → Int32 → Int32 → Int32 → vSt → Option vSt) {c1 : Int32} (h : CW w s) (hN : 60 ≤ N) (hn : n ≤ 12) (h9 : s.1 46 9 = nI n) (hF : CN w C ta n v s) (hk : 0 < k ∧ k < n) (hS : k + 1 < n → CS w C ta n v (k + 1) s) :
    ∃ z, gC_Tales_gatherGetters_34 N R N (nI u) (nI r) c1 (nI k) (nI 0) s = R (nI u) (nI r) c1 (nI (k - 1)) z ∧ Fr [46, 49, 50] [] s z ∧ (∀ j, 2 ≤ j → z.1 46 j = s.1 46 j) ∧ CS w C ta n v k z ∧ ∀ j, ¬ (k * 40 ≤ j ∧ j < k * 40 + 40) → z.1 49 j = s.1 49 j ∧ z.1 50 j = s.1 50 j := by
  have hb := h.bd
  have hk2 := hk.2
  refine loopU (fun f i z => gC_Tales_gatherGetters_34 N R f (nI u) (nI r) c1 (nI k) (nI i) z) (2 * w 5 1)
    (fun i z => i ≤ 2 * w 5 1 ∧ Fr [46, 49, 50] [] s z ∧ (∀ j, 2 ≤ j → z.1 46 j = s.1 46 j) ∧ (∀ o, o < 2 * w 5 1 → sw o < i → 0 < FT w C ta n v 100 k o → z.1 49 (k * 40 + sw o) = nI (wrP (pS w C ta n v k o) (w 5 0)) ∧ z.1 50 (k * 40 + sw o) = nI (wrP (pE w C ta n v k o) (w 5 0))) ∧ ∀ j, ¬ (k * 40 ≤ j ∧ j < k * 40 + 40) → z.1 49 j = s.1 49 j ∧ z.1 50 j = s.1 50 j)
    (fun o => ∃ z, o = R (nI u) (nI r) c1 (nI (k - 1)) z ∧ Fr [46, 49, 50] [] s z ∧ (∀ j, 2 ≤ j → z.1 46 j = s.1 46 j) ∧ CS w C ta n v k z ∧ ∀ j, ¬ (k * 40 ≤ j ∧ j < k * 40 + 40) → z.1 49 j = s.1 49 j ∧ z.1 50 j = s.1 50 j) ?_ ?_ (2 * w 5 1) N 0 s (by omega) (by omega) ⟨by omega, Fr.rf, fun _ _ => rfl, fun o _ h => by omega, fun _ _ => ⟨rfl, rfl⟩⟩
  · rintro f i z hi ⟨g1, g2, g3, g4, g5⟩
    have hz : CW w z := h.fr g2 (by decide)
    have z9 : z.1 46 9 = nI n := (g3 9 (by decide)).trans h9
    have hsi := sw_lt hi
    have e48 : z.2 48 (k * 40 + i) = lN (FT w C ta n v 100 k (sw i)) := by
      rw [g2.2 48 (by decide)]
      have := hF k (sw i) hk.1 hk.2 hsi
      rw [sw_sw] at this
      exact this
    have ec := cmpL (a := FT w C ta n v 100 k (sw i)) (b := 0) (Nat.lt_trans (FT_lt h.ok hn) (by decide)) (by decide)
    by_cases c : 0 < FT w C ta n v 100 k (sw i)
    · rw [eq_false (show ¬ FT w C ta n v 100 k (sw i) = 0 by omega)] at ec
      have eg := C_getter (N := N) hz hsi
      have er := C_ready (N := N) hz hsi
      rw [sw_sw] at eg er
      have hg := gt_lt h.ok hsi
      obtain ⟨y, X, Y, y1, y2, y3, y4, y5, y6, y7⟩ := C_gatherK (N := N) (C := C) (ta := ta) (v := v) hz hN hn z9 hk.2 hsi c (fun hk1 o ho => by rw [g2.2 48 (by decide)]; exact hF (k + 1) o (by omega) hk1 ho) (fun hk1 o ho hp => by
        have hs := sw_lt ho
        have := g5 ((k + 1) * 40 + sw o) (by omega)
        rw [this.1, this.2]
        exact hS hk1 o ho hp)
      have y9 : y.1 46 9 = nI n := (y3 9 (by decide)).trans z9
      refine Or.inl ⟨s1 (s1 y 49 (k * 40 + i) (nI (wrP (pS w C ta n v k (sw i)) (w 5 0)))) 50 (k * 40 + i) (nI (wrP (pE w C ta n v k (sw i)) (w 5 0))), ?_, by omega, g2.tr ((y2.mono (by decide) (by decide)).tr ((Fr.s1 (by decide)).tr (Fr.s1 (by decide)))), fun j hj => ?_, fun o ho hoi hp => ?_, fun j hj => ?_⟩
      · show gC_Tales_gatherGetters_34 N R (f + 1) (nI u) (nI r) c1 (nI k) (nI i) z = _
        rw [gC_Tales_gatherGetters_34, ← y6, ← y7]
        simp (disch := omega) only [Option.bind_some, ↓reduceIte, ↓M_1, ↓M_2, L_0, L_1, L_2, L_3, L_4, L_5, L_6, L_7, L_8, L_9, L_10, L_11, L_12, L_13, L_20, L_24, L_26, L_30, L_31, L_32, L_39, L_40, L_48, L_57, L_76, L_80, L_90, L_91, L_97, L_99, L_100, L_255, L_273, L_1000, L_2000, q_ld, q_ldL, q_sto, q_stoL, q_add, q_sub, q_mul, q_dec, q_rem, q_div, q_lt_t, q_lt_f, q_le_t, q_le_f, q_eq_t, q_eq_f, q_em, q_me, q_ml, q_lm, q_mle, q_lem, q_s1, q_s1o, q_s1k, q_s12, q_s2, q_s2o, q_s2k, q_s21, Nat.add_sub_cancel, q_or, q_and, q_shl, true_or, or_true, false_or, or_false, true_and, and_true, false_and, and_false, not_true_eq_false, not_false_eq_true, ne_eq, hz.m, e48, l_0, ec, eg, er, y1, y4, y5, q_or, q_shl, gC_Tales_gatherGetters_143]
      · rw [q_s1o (by decide), q_s1o (by decide), y3 j hj, g3 j hj]
      · by_cases d : sw o = i
        · have eo : o = sw i := by rw [← d, sw_sw]
          subst eo
          rw [d, q_s1, q_s1o (by decide), q_s1]
          exact ⟨rfl, rfl⟩
        · rw [q_s1o (by decide), q_s1k (by omega), q_s1k (by omega), q_s1o (by decide), y2.1 49 (by decide), y2.1 50 (by decide)]
          exact g4 o ho (by omega) hp
      · rw [q_s1o (by decide), q_s1k (by omega), q_s1k (by omega), q_s1o (by decide), y2.1 49 (by decide), y2.1 50 (by decide)]
        exact g5 j hj
    · rw [eq_true (show FT w C ta n v 100 k (sw i) = 0 by omega)] at ec
      refine Or.inl ⟨z, ?_, by omega, g2, g3, fun o ho hoi hp => ?_, g5⟩
      · show gC_Tales_gatherGetters_34 N R (f + 1) (nI u) (nI r) c1 (nI k) (nI i) z = _
        rw [gC_Tales_gatherGetters_34]
        simp (disch := omega) only [Option.bind_some, ↓reduceIte, ↓M_1, ↓M_2, L_0, L_1, L_2, L_3, L_4, L_5, L_6, L_7, L_8, L_9, L_10, L_11, L_12, L_13, L_20, L_24, L_26, L_30, L_31, L_32, L_39, L_40, L_48, L_57, L_76, L_80, L_90, L_91, L_97, L_99, L_100, L_255, L_273, L_1000, L_2000, q_ld, q_ldL, q_sto, q_stoL, q_add, q_sub, q_mul, q_dec, q_rem, q_div, q_lt_t, q_lt_f, q_le_t, q_le_f, q_eq_t, q_eq_f, q_em, q_me, q_ml, q_lm, q_mle, q_lem, q_s1, q_s1o, q_s1k, q_s12, q_s2, q_s2o, q_s2k, q_s21, Nat.add_sub_cancel, q_or, q_and, q_shl, true_or, or_true, false_or, or_false, true_and, and_true, false_and, and_false, not_true_eq_false, not_false_eq_true, ne_eq, hz.m, e48, l_0, ec, gC_Tales_gatherGetters_143]
      · by_cases d : sw o = i
        · rw [← d, sw_sw] at c
          exact absurd hp c
        · exact g4 o ho (by omega) hp
  · rintro f z ⟨g1, g2, g3, g4, g5⟩
    have hz : CW w z := h.fr g2 (by decide)
    refine ⟨z, ?_, g2, g3, fun o ho hp => g4 o ho (sw_lt ho) hp, g5⟩
    show gC_Tales_gatherGetters_34 N R (f + 1) (nI u) (nI r) c1 (nI k) (nI (2 * w 5 1)) z = _
    rw [gC_Tales_gatherGetters_34]
    simp (disch := omega) only [Option.bind_some, ↓reduceIte, ↓M_1, ↓M_2, L_0, L_1, L_2, L_3, L_4, L_5, L_6, L_7, L_8, L_9, L_10, L_11, L_12, L_13, L_20, L_24, L_26, L_30, L_31, L_32, L_39, L_40, L_48, L_57, L_76, L_80, L_90, L_91, L_97, L_99, L_100, L_255, L_273, L_1000, L_2000, q_ld, q_ldL, q_sto, q_stoL, q_add, q_sub, q_mul, q_dec, q_rem, q_div, q_lt_t, q_lt_f, q_le_t, q_le_f, q_eq_t, q_eq_f, q_em, q_me, q_ml, q_lm, q_mle, q_lem, q_s1, q_s1o, q_s1k, q_s12, q_s2, q_s2o, q_s2k, q_s21, Nat.add_sub_cancel, q_or, q_and, q_shl, true_or, or_true, false_or, or_false, true_and, and_true, false_and, and_false, not_true_eq_false, not_false_eq_true, ne_eq, hz.m]
theorem C_gatherGetters (h : CW w s) (hN : 100 ≤ N) (hJ : CJ w C ta n v s) (hn0 : 0 < n) (hF : CN w C ta n v s) (hu : u < w 5 0) (hv : v < w 5 0) (hr : r < 1000) :
    ∃ z, fC_Tales_gatherGetters N (nI u) (nI r) s = some z ∧ Fr [46, 49, 50] [] s z ∧ (∀ j, 2 ≤ j → z.1 46 j = s.1 46 j) ∧ z.1 46 0 = nI (if 0 < CF w C ta n u v r 100 then wrP (qS w C ta n u v r) (w 5 0) else 0) ∧ z.1 46 1 = nI (if 0 < CF w C ta n u v r 100 then wrP (qE w C ta n u v r) (w 5 0) else 0) := by
  have hb := h.bd
  have hn := hJ.1
  have h9 := hJ.2.1
  have ef := C_fitting (N := N) h (by omega) hJ hn0 hF hu hv hr
  have hA := CF_lt (C := C) (ta := ta) (n := n) (u := u) (v := v) (r := r) (no := 100) h.ok hn
  have ec := cmpL_le (a := CF w C ta n u v r 100) (b := 0) (Nat.lt_trans hA (by decide)) (by decide)
  obtain ⟨fl, hfl⟩ : ∃ fl, fl = if 0 < CF w C ta n u v r 100 then 1 else 0 := ⟨_, rfl⟩
  have st : fC_Tales_gatherGetters N (nI u) (nI r) s = gC_Tales_gatherGetters_25 N N (nI u) (nI r) (nI fl) (nI (n - 1)) s := by
    by_cases c : 0 < CF w C ta n u v r 100
    · rw [eq_false (show ¬ CF w C ta n u v r 100 ≤ 0 by omega)] at ec
      rw [if_pos c] at hfl
      rw [hfl]
      simp (disch := omega) only [Option.bind_some, ↓reduceIte, ↓M_1, ↓M_2, L_0, L_1, L_2, L_3, L_4, L_5, L_6, L_7, L_8, L_9, L_10, L_11, L_12, L_13, L_20, L_24, L_26, L_30, L_31, L_32, L_39, L_40, L_48, L_57, L_76, L_80, L_90, L_91, L_97, L_99, L_100, L_255, L_273, L_1000, L_2000, q_ld, q_ldL, q_sto, q_stoL, q_add, q_sub, q_mul, q_dec, q_rem, q_div, q_lt_t, q_lt_f, q_le_t, q_le_f, q_eq_t, q_eq_f, q_em, q_me, q_ml, q_lm, q_mle, q_lem, q_s1, q_s1o, q_s1k, q_s12, q_s2, q_s2o, q_s2k, q_s21, Nat.add_sub_cancel, q_or, q_and, q_shl, true_or, or_true, false_or, or_false, true_and, and_true, false_and, and_false, not_true_eq_false, not_false_eq_true, ne_eq, fC_Tales_gatherGetters, gC_Tales_gatherGetters_0, ef, l_0, ec, gC_Tales_gatherGetters_16, h9]
    · rw [eq_true (show CF w C ta n u v r 100 ≤ 0 by omega)] at ec
      rw [if_neg c] at hfl
      rw [hfl]
      simp (disch := omega) only [Option.bind_some, ↓reduceIte, ↓M_1, ↓M_2, L_0, L_1, L_2, L_3, L_4, L_5, L_6, L_7, L_8, L_9, L_10, L_11, L_12, L_13, L_20, L_24, L_26, L_30, L_31, L_32, L_39, L_40, L_48, L_57, L_76, L_80, L_90, L_91, L_97, L_99, L_100, L_255, L_273, L_1000, L_2000, q_ld, q_ldL, q_sto, q_stoL, q_add, q_sub, q_mul, q_dec, q_rem, q_div, q_lt_t, q_lt_f, q_le_t, q_le_f, q_eq_t, q_eq_f, q_em, q_me, q_ml, q_lm, q_mle, q_lem, q_s1, q_s1o, q_s1k, q_s12, q_s2, q_s2o, q_s2k, q_s21, Nat.add_sub_cancel, q_or, q_and, q_shl, true_or, or_true, false_or, or_false, true_and, and_true, false_and, and_false, not_true_eq_false, not_false_eq_true, ne_eq, fC_Tales_gatherGetters, gC_Tales_gatherGetters_0, ef, l_0, ec, gC_Tales_gatherGetters_16, h9]
  rw [st]
  refine loopD (fun f i z => gC_Tales_gatherGetters_25 N f (nI u) (nI r) (nI fl) (nI i) z) (n - 1) (fun i z => i ≤ n - 1 ∧ Fr [46, 49, 50] [] s z ∧ (∀ j, 2 ≤ j → z.1 46 j = s.1 46 j) ∧ ∀ k, i < k → k < n → CS w C ta n v k z)
    (fun o => ∃ z, o = some z ∧ Fr [46, 49, 50] [] s z ∧ (∀ j, 2 ≤ j → z.1 46 j = s.1 46 j) ∧ z.1 46 0 = nI (if 0 < CF w C ta n u v r 100 then wrP (qS w C ta n u v r) (w 5 0) else 0) ∧ z.1 46 1 = nI (if 0 < CF w C ta n u v r 100 then wrP (qE w C ta n u v r) (w 5 0) else 0)) ?_ ?_ (n - 1) N s (Nat.le_refl _) (by omega) ⟨Nat.le_refl _, Fr.rf, fun _ _ => rfl, fun k h1 h2 => by omega⟩
  · rintro f i z hi ⟨g1, g2, g3, g4⟩
    have hz : CW w z := h.fr g2 (by decide)
    have z9 : z.1 46 9 = nI n := (g3 9 (by decide)).trans h9
    obtain ⟨y, y1, y2, y3, y4, y5⟩ := C_gg34 (N := N) (u := u) (r := r) (C := C) (ta := ta) (v := v) (c1 := nI fl) (k := i + 1) (gC_Tales_gatherGetters_25 N f) hz (by omega) hn z9 (fun k a k1 k2 ha => by rw [g2.2 48 (by decide)]; exact hF k a k1 k2 ha) ⟨by omega, by omega⟩ (fun hk => g4 (i + 1 + 1) (by omega) hk)
    refine Or.inl ⟨y, ?_, by omega, g2.tr y2, fun j hj => (y3 j hj).trans (g3 j hj), fun k k1 k2 => ?_⟩
    · show gC_Tales_gatherGetters_25 N (f + 1) (nI u) (nI r) (nI fl) (nI (i + 1)) z = _
      rw [gC_Tales_gatherGetters_25]
      rw [Nat.add_sub_cancel] at y1
      simp (disch := omega) only [Option.bind_some, ↓reduceIte, ↓M_1, ↓M_2, L_0, L_1, L_2, L_3, L_4, L_5, L_6, L_7, L_8, L_9, L_10, L_11, L_12, L_13, L_20, L_24, L_26, L_30, L_31, L_32, L_39, L_40, L_48, L_57, L_76, L_80, L_90, L_91, L_97, L_99, L_100, L_255, L_273, L_1000, L_2000, q_ld, q_ldL, q_sto, q_stoL, q_add, q_sub, q_mul, q_dec, q_rem, q_div, q_lt_t, q_lt_f, q_le_t, q_le_f, q_eq_t, q_eq_f, q_em, q_me, q_ml, q_lm, q_mle, q_lem, q_s1, q_s1o, q_s1k, q_s12, q_s2, q_s2o, q_s2k, q_s21, Nat.add_sub_cancel, q_or, q_and, q_shl, true_or, or_true, false_or, or_false, true_and, and_true, false_and, and_false, not_true_eq_false, not_false_eq_true, ne_eq, y1]
    · by_cases c : k = i + 1
      · subst c; exact y4
      · intro o ho hp
        have hs := sw_lt ho
        have := y5 (k * 40 + sw o) (by omega)
        rw [this.1, this.2]
        exact g4 k (by omega) k2 o ho hp
  · rintro f z ⟨g1, g2, g3, g4⟩
    have hz : CW w z := h.fr g2 (by decide)
    have z9 : z.1 46 9 = nI n := (g3 9 (by decide)).trans h9
    have top : ∃ y X Y, fC_Tales_gather N (nI u) (nI r) (nI 1) z = some y ∧ Fr [46] [] z y ∧ (∀ j, 2 ≤ j → y.1 46 j = z.1 46 j) ∧ y.1 46 0 = nI X ∧ y.1 46 1 = nI Y ∧ (0 < CF w C ta n u v r 100 → X ||| 2 ^ u = wrP (qS w C ta n u v r) (w 5 0) ∧ Y ||| 2 ^ u = wrP (qE w C ta n u v r) (w 5 0)) := by
      by_cases c : n = 1
      · obtain ⟨y, y1, y2, y3, y4, y5⟩ := C_gather_n (N := N) (u := u) (r := r) hz (by omega) hn z9 hu hr
        rw [c] at y1
        refine ⟨y, 0, 0, y1, y2, y3, y4, y5, fun hp => ?_⟩
        unfold CF at hp
        rw [if_pos c] at hp
        by_cases d : u = v ∧ ¬ 100 = v
        · rw [Nat.zero_or, wrP_two hu]
          have e100 : CF w C ta n u v r 100 = 1 := by unfold CF; rw [if_pos c, if_pos d]
          have ei : ∀ i, CF w C ta n u v r i = if i = v then 0 else 1 := fun i => by
            unfold CF
            rw [if_pos c]
            by_cases e : i = v
            · rw [if_pos e, if_neg (fun z => z.2 e)]
            · rw [if_neg e, if_pos ⟨d.1, e⟩]
          constructor
          · refine wrP_eq fun i _ => ⟨fun z => Or.inl z, fun z => z.elim id fun z => ?_⟩
            rw [e100, ei] at z
            by_cases e : i = v
            · exact e.trans d.1.symm
            · rw [if_neg e] at z
              exact absurd z (Nat.lt_irrefl _)
          · refine wrP_eq fun i _ => ⟨fun z => Or.inl z, fun z => z.elim id fun z => ?_⟩
            rw [ei] at z
            by_cases e : i = v
            · exact e.trans d.1.symm
            · rw [if_neg e] at z
              exact absurd z (by decide)
        · rw [if_neg d] at hp
          exact absurd hp (Nat.lt_irrefl _)
      · obtain ⟨y, y1, y2, y3, y4, y5⟩ := C_gather (N := N) (u := u) (r := r) (k := 1) (G := FT w C ta n v 100 1) (S := pS w C ta n v 1) (E := pE w C ta n v 1) hz (by omega) hn z9 hu hr (by omega) (fun o ho => ⟨by rw [g2.2 48 (by decide)]; exact hF 1 o (by omega) (by omega) ho, Nat.lt_trans (FT_lt h.ok hn) (by decide)⟩) (g4 1 (by omega) (by omega))
        refine ⟨y, _, _, y1, y2, y3, y4, y5, fun hp => ⟨?_, ?_⟩⟩
        · rw [wrP_two hu, wrP_or]
          refine wrP_eq fun i _ => ?_
          show _ ∨ i = u ↔ i = u ∨ CF w C ta n u v r i < CF w C ta n u v r 100
          rw [(CF_n h.ok (show 1 < n by omega)).1]
          exact or_comm
        · rw [wrP_two hu, wrP_or]
          refine wrP_eq fun i _ => ?_
          show _ ∨ i = u ↔ i = u ∨ CF w C ta n u v r i = 0
          rw [(CF_n h.ok (show 1 < n by omega)).2]
          exact or_comm
    obtain ⟨y, X, Y, y1, y2, y3, y4, y5, y6⟩ := top
    by_cases c : 0 < CF w C ta n u v r 100
    · rw [if_pos c] at hfl ⊢
      rw [if_pos c]
      obtain ⟨y7, y8⟩ := y6 c
      refine ⟨s1 (s1 y 46 0 (nI (wrP (qS w C ta n u v r) (w 5 0)))) 46 1 (nI (wrP (qE w C ta n u v r) (w 5 0))), ?_, g2.tr ((y2.mono (by decide) (by decide)).tr ((Fr.s1 (by decide)).tr (Fr.s1 (by decide)))), fun j hj => by rw [q_s1k (by omega), q_s1k (by omega), y3 j hj]; exact g3 j hj, by rw [q_s1k (by decide), q_s1], q_s1 _ _ _ _⟩
      show gC_Tales_gatherGetters_25 N (f + 1) (nI u) (nI r) (nI fl) (nI 0) z = _
      rw [hfl, gC_Tales_gatherGetters_25, ← y7, ← y8]
      simp (disch := omega) only [Option.bind_some, ↓reduceIte, ↓M_1, ↓M_2, L_0, L_1, L_2, L_3, L_4, L_5, L_6, L_7, L_8, L_9, L_10, L_11, L_12, L_13, L_20, L_24, L_26, L_30, L_31, L_32, L_39, L_40, L_48, L_57, L_76, L_80, L_90, L_91, L_97, L_99, L_100, L_255, L_273, L_1000, L_2000, q_ld, q_ldL, q_sto, q_stoL, q_add, q_sub, q_mul, q_dec, q_rem, q_div, q_lt_t, q_lt_f, q_le_t, q_le_f, q_eq_t, q_eq_f, q_em, q_me, q_ml, q_lm, q_mle, q_lem, q_s1, q_s1o, q_s1k, q_s12, q_s2, q_s2o, q_s2k, q_s21, Nat.add_sub_cancel, q_or, q_and, q_shl, true_or, or_true, false_or, or_false, true_and, and_true, false_and, and_false, not_true_eq_false, not_false_eq_true, ne_eq, y1, y4, y5, q_or, q_shl, gC_Tales_gatherGetters_179]
    · rw [if_neg c] at hfl ⊢
      rw [if_neg c]
      refine ⟨s1 (s1 y 46 0 (nI 0)) 46 1 (nI 0), ?_, g2.tr ((y2.mono (by decide) (by decide)).tr ((Fr.s1 (by decide)).tr (Fr.s1 (by decide)))), fun j hj => by rw [q_s1k (by omega), q_s1k (by omega), y3 j hj]; exact g3 j hj, by rw [q_s1k (by decide), q_s1], q_s1 _ _ _ _⟩
      show gC_Tales_gatherGetters_25 N (f + 1) (nI u) (nI r) (nI fl) (nI 0) z = _
      rw [hfl, gC_Tales_gatherGetters_25]
      simp (disch := omega) only [Option.bind_some, ↓reduceIte, ↓M_1, ↓M_2, L_0, L_1, L_2, L_3, L_4, L_5, L_6, L_7, L_8, L_9, L_10, L_11, L_12, L_13, L_20, L_24, L_26, L_30, L_31, L_32, L_39, L_40, L_48, L_57, L_76, L_80, L_90, L_91, L_97, L_99, L_100, L_255, L_273, L_1000, L_2000, q_ld, q_ldL, q_sto, q_stoL, q_add, q_sub, q_mul, q_dec, q_rem, q_div, q_lt_t, q_lt_f, q_le_t, q_le_f, q_eq_t, q_eq_f, q_em, q_me, q_ml, q_lm, q_mle, q_lem, q_s1, q_s1o, q_s1k, q_s12, q_s2, q_s2o, q_s2k, q_s21, Nat.add_sub_cancel, q_or, q_and, q_shl, true_or, or_true, false_or, or_false, true_and, and_true, false_and, and_false, not_true_eq_false, not_false_eq_true, ne_eq, y1, gC_Tales_gatherGetters_179]
theorem M_sure (h : MW w t) (hN : 200 ≤ N) (hU : UM N q x C t) (hT : MT 0 n ta t) (hn0 : 0 < n) (h40 : t.1 0 40 = nI n) (h35 : t.1 0 35 = gI 100) (h37 : t.1 0 37 = gI 100) (hu : u < w 5 0) (hv : v < w 5 0) (hr : r < 1000) (hp : 0 < CF w C ta n u v r 100) :
    ∃ z, gM_EachAddsALineModel_sure_50 N N (nI u) (nI v) (nI r) (lN (CF w C ta n u v r 100)) (nI 0) (nI 0) (nI 0) t = gM_EachAddsALineModel_sure_147 N (nI (wrP (qE w C ta n u v r) (w 5 0))) (nI (wrP (qS w C ta n u v r) (w 5 0))) z ∧ Fm [11] [17] [12, 13, 14, 15, 16, 19, 20, 21, 22, 23, 24, 25, 26, 30, 37] t z ∧ z.1 0 37 = gI 100 := by
  have hb := h.bd
  have hA := CF_lt (C := C) (ta := ta) (n := n) (u := u) (v := v) (r := r) (no := 100) h.ok hT.1
  have e0 : nI 0 = nI (wrP (qE w C ta n u v r) 0) := rfl
  refine loopU (fun f i z => gM_EachAddsALineModel_sure_50 N f (nI u) (nI v) (nI r) (lN (CF w C ta n u v r 100)) (nI (wrP (qE w C ta n u v r) i)) (nI (wrP (qS w C ta n u v r) i)) (nI i) z) (w 5 0) (fun i z => i ≤ w 5 0 ∧ Fm [11] [17] [12, 13, 14, 15, 16, 19, 20, 21, 22, 23, 24, 25, 26, 30, 37] t z ∧ z.1 0 37 = gI 100)
    (fun o => ∃ z, o = gM_EachAddsALineModel_sure_147 N (nI (wrP (qE w C ta n u v r) (w 5 0))) (nI (wrP (qS w C ta n u v r) (w 5 0))) z ∧ Fm [11] [17] [12, 13, 14, 15, 16, 19, 20, 21, 22, 23, 24, 25, 26, 30, 37] t z ∧ z.1 0 37 = gI 100) ?_ ?_ (w 5 0) N 0 t (by omega) (by omega) ⟨by omega, Fm.rf, h37⟩
  · rintro f i z hi ⟨g1, g2, g3⟩
    have hz : MW w z := h.fm g2 (by decide) (by decide)
    have z40 : z.1 0 40 = nI n := (g2.2.2 40 (by decide)).trans h40
    have ec0 := cmpL_le (a := CF w C ta n u v r 100) (b := 0) (Nat.lt_trans hA (by decide)) (by decide)
    rw [eq_false (show ¬ CF w C ta n u v r 100 ≤ 0 by omega)] at ec0
    -- what a person adds
    have add : ∀ (B : Nat) (y : vSt), B < 2 ^ 55 → (B = 0 ↔ qE w C ta n u v r i) → (B < CF w C ta n u v r 100 ↔ qS w C ta n u v r i) → gM_EachAddsALineModel_sure_100 N (gM_EachAddsALineModel_sure_50 N f) (nI u) (nI v) (nI r) (lN (CF w C ta n u v r 100)) (nI (wrP (qE w C ta n u v r) i)) (nI (wrP (qS w C ta n u v r) i)) (nI i) (lN B) y = gM_EachAddsALineModel_sure_50 N f (nI u) (nI v) (nI r) (lN (CF w C ta n u v r 100)) (nI (wrP (qE w C ta n u v r) (i + 1))) (nI (wrP (qS w C ta n u v r) (i + 1))) (nI (i + 1)) y := by
      intro B y hB h1 h2
      have ec := cmpL (a := B) (b := 0) (Nat.lt_trans hB (by decide)) (by decide)
      have ed := cmpL_ge (a := B) (b := CF w C ta n u v r 100) (Nat.lt_trans hB (by decide)) (Nat.lt_trans hA (by decide))
      have p117 : ∀ (k0 k1 : Nat), gM_EachAddsALineModel_sure_117 N (gM_EachAddsALineModel_sure_50 N f) (nI u) (nI v) (nI r) (lN (CF w C ta n u v r 100)) (nI (wrP (qS w C ta n u v r) i)) (nI i) (lN B) (nI k0) (nI k1) y = gM_EachAddsALineModel_sure_50 N f (nI u) (nI v) (nI r) (lN (CF w C ta n u v r 100)) (nI (k0 ||| k1)) (nI (wrP (qS w C ta n u v r) (i + 1))) (nI (i + 1)) y := by
        intro k0 k1
        by_cases c : B < CF w C ta n u v r 100
        · rw [wrP_t (h2.mp c)]
          rw [eq_false (show ¬ CF w C ta n u v r 100 ≤ B by omega)] at ed
          simp (disch := omega) only [Option.bind_some, ↓reduceIte, ↓M_1, ↓M_2, L_0, L_1, L_2, L_3, L_4, L_5, L_6, L_7, L_8, L_9, L_10, L_11, L_12, L_13, L_20, L_24, L_26, L_30, L_31, L_32, L_39, L_40, L_48, L_57, L_76, L_80, L_90, L_91, L_97, L_99, L_100, L_255, L_273, L_1000, L_2000, q_ld, q_ldL, q_sto, q_stoL, q_add, q_sub, q_mul, q_dec, q_rem, q_div, q_lt_t, q_lt_f, q_le_t, q_le_f, q_eq_t, q_eq_f, q_em, q_me, q_ml, q_lm, q_mle, q_lem, q_s1, q_s1o, q_s1k, q_s12, q_s2, q_s2o, q_s2k, q_s21, Nat.add_sub_cancel, q_or, q_and, q_shl, true_or, or_true, false_or, or_false, true_and, and_true, false_and, and_false, not_true_eq_false, not_false_eq_true, ne_eq, gM_EachAddsALineModel_sure_117, ed, gM_EachAddsALineModel_sure_138, q_or, q_shl]
        · rw [wrP_f (fun z => c (h2.mpr z))]
          rw [eq_true (show CF w C ta n u v r 100 ≤ B by omega)] at ed
          simp (disch := omega) only [Option.bind_some, ↓reduceIte, ↓M_1, ↓M_2, L_0, L_1, L_2, L_3, L_4, L_5, L_6, L_7, L_8, L_9, L_10, L_11, L_12, L_13, L_20, L_24, L_26, L_30, L_31, L_32, L_39, L_40, L_48, L_57, L_76, L_80, L_90, L_91, L_97, L_99, L_100, L_255, L_273, L_1000, L_2000, q_ld, q_ldL, q_sto, q_stoL, q_add, q_sub, q_mul, q_dec, q_rem, q_div, q_lt_t, q_lt_f, q_le_t, q_le_f, q_eq_t, q_eq_f, q_em, q_me, q_ml, q_lm, q_mle, q_lem, q_s1, q_s1o, q_s1k, q_s12, q_s2, q_s2o, q_s2k, q_s21, Nat.add_sub_cancel, q_or, q_and, q_shl, true_or, or_true, false_or, or_false, true_and, and_true, false_and, and_false, not_true_eq_false, not_false_eq_true, ne_eq, gM_EachAddsALineModel_sure_117, ed, gM_EachAddsALineModel_sure_138, q_or, Nat.or_zero]
      by_cases c : B = 0
      · rw [wrP_t (h1.mp c), ← p117]
        rw [eq_true c] at ec
        simp (disch := omega) only [Option.bind_some, ↓reduceIte, ↓M_1, ↓M_2, L_0, L_1, L_2, L_3, L_4, L_5, L_6, L_7, L_8, L_9, L_10, L_11, L_12, L_13, L_20, L_24, L_26, L_30, L_31, L_32, L_39, L_40, L_48, L_57, L_76, L_80, L_90, L_91, L_97, L_99, L_100, L_255, L_273, L_1000, L_2000, q_ld, q_ldL, q_sto, q_stoL, q_add, q_sub, q_mul, q_dec, q_rem, q_div, q_lt_t, q_lt_f, q_le_t, q_le_f, q_eq_t, q_eq_f, q_em, q_me, q_ml, q_lm, q_mle, q_lem, q_s1, q_s1o, q_s1k, q_s12, q_s2, q_s2o, q_s2k, q_s21, Nat.add_sub_cancel, q_or, q_and, q_shl, true_or, or_true, false_or, or_false, true_and, and_true, false_and, and_false, not_true_eq_false, not_false_eq_true, ne_eq, gM_EachAddsALineModel_sure_100, l_0, ec, q_shl]
      · rw [wrP_f (fun z => c (h1.mpr z)), ← Nat.or_zero (wrP (qE w C ta n u v r) i), ← p117, Nat.or_zero]
        rw [eq_false c] at ec
        simp (disch := omega) only [Option.bind_some, ↓reduceIte, ↓M_1, ↓M_2, L_0, L_1, L_2, L_3, L_4, L_5, L_6, L_7, L_8, L_9, L_10, L_11, L_12, L_13, L_20, L_24, L_26, L_30, L_31, L_32, L_39, L_40, L_48, L_57, L_76, L_80, L_90, L_91, L_97, L_99, L_100, L_255, L_273, L_1000, L_2000, q_ld, q_ldL, q_sto, q_stoL, q_add, q_sub, q_mul, q_dec, q_rem, q_div, q_lt_t, q_lt_f, q_le_t, q_le_f, q_eq_t, q_eq_f, q_em, q_me, q_ml, q_lm, q_mle, q_lem, q_s1, q_s1o, q_s1k, q_s12, q_s2, q_s2o, q_s2k, q_s21, Nat.add_sub_cancel, q_or, q_and, q_shl, true_or, or_true, false_or, or_false, true_and, and_true, false_and, and_false, not_true_eq_false, not_false_eq_true, ne_eq, gM_EachAddsALineModel_sure_100, l_0, ec]
    by_cases c : i = u
    · have ea := add 0 z (by decide) ⟨fun _ => Or.inl c, fun _ => rfl⟩ ⟨fun _ => Or.inl c, fun _ => hp⟩
      refine Or.inl ⟨z, ?_, by omega, g2, g3⟩
      show gM_EachAddsALineModel_sure_50 N (f + 1) (nI u) (nI v) (nI r) (lN (CF w C ta n u v r 100)) (nI (wrP (qE w C ta n u v r) i)) (nI (wrP (qS w C ta n u v r) i)) (nI i) z = _
      rw [← ea, gM_EachAddsALineModel_sure_50]
      simp (disch := omega) only [Option.bind_some, ↓reduceIte, ↓M_1, ↓M_2, L_0, L_1, L_2, L_3, L_4, L_5, L_6, L_7, L_8, L_9, L_10, L_11, L_12, L_13, L_20, L_24, L_26, L_30, L_31, L_32, L_39, L_40, L_48, L_57, L_76, L_80, L_90, L_91, L_97, L_99, L_100, L_255, L_273, L_1000, L_2000, q_ld, q_ldL, q_sto, q_stoL, q_add, q_sub, q_mul, q_dec, q_rem, q_div, q_lt_t, q_lt_f, q_le_t, q_le_f, q_eq_t, q_eq_f, q_em, q_me, q_ml, q_lm, q_mle, q_lem, q_s1, q_s1o, q_s1k, q_s12, q_s2, q_s2o, q_s2k, q_s21, Nat.add_sub_cancel, q_or, q_and, q_shl, true_or, or_true, false_or, or_false, true_and, and_true, false_and, and_false, not_true_eq_false, not_false_eq_true, ne_eq, hz.p, l_0, ec0, c]
    · have f37 : Fm [] [] [37] z (s1 z 0 37 (nI i)) := Fm.w10 (by decide)
      have f2 : Fm [11] [17] [12, 13, 14, 15, 16, 19, 20, 21, 22, 23, 24, 25, 26, 30, 37] t (s1 z 0 37 (nI i)) := g2.tr (f37.mono (by decide) (by decide) (by decide))
      have e37 : (s1 z 0 37 (nI i)).1 0 37 = gI i := by rw [q_s1, gI_nI (by omega)]
      have e40 : (s1 z 0 37 (nI i)).1 0 40 = nI n := (f2.2.2 40 (by decide)).trans h40
      obtain ⟨y, y1, y2, _⟩ := M_countFits (N := N) (no := i) (r := r) (u := u) (v := v) (h.fm f2 (by decide) (by decide)) (by omega) (hU.fm f2 (by decide) (by decide)) (hT.fm f2 (by decide)) (by omega) hn0 ((f2.2.2 35 (by decide)).trans h35) e37 (by omega) hu hv hr
      have hB := CF_lt (C := C) (ta := ta) (n := n) (u := u) (v := v) (r := r) (no := i) h.ok hT.1
      have ea := add (CF w C ta n u v r i) (s1 y 0 37 (mI 1)) hB ⟨fun z => Or.inr z, fun z => z.resolve_left c⟩ ⟨fun z => Or.inr z, fun z => z.resolve_left c⟩
      refine Or.inl ⟨s1 y 0 37 (mI 1), ?_, by omega, f2.tr ((y2.mono (by decide) (by decide) (by decide)).tr (Fm.w10 (by decide))), by rw [q_s1, gI_no (by decide)]⟩
      show gM_EachAddsALineModel_sure_50 N (f + 1) (nI u) (nI v) (nI r) (lN (CF w C ta n u v r 100)) (nI (wrP (qE w C ta n u v r) i)) (nI (wrP (qS w C ta n u v r) i)) (nI i) z = _
      rw [← ea, gM_EachAddsALineModel_sure_50]
      simp (disch := omega) only [Option.bind_some, ↓reduceIte, ↓M_1, ↓M_2, L_0, L_1, L_2, L_3, L_4, L_5, L_6, L_7, L_8, L_9, L_10, L_11, L_12, L_13, L_20, L_24, L_26, L_30, L_31, L_32, L_39, L_40, L_48, L_57, L_76, L_80, L_90, L_91, L_97, L_99, L_100, L_255, L_273, L_1000, L_2000, q_ld, q_ldL, q_sto, q_stoL, q_add, q_sub, q_mul, q_dec, q_rem, q_div, q_lt_t, q_lt_f, q_le_t, q_le_f, q_eq_t, q_eq_f, q_em, q_me, q_ml, q_lm, q_mle, q_lem, q_s1, q_s1o, q_s1k, q_s12, q_s2, q_s2o, q_s2k, q_s21, Nat.add_sub_cancel, q_or, q_and, q_shl, true_or, or_true, false_or, or_false, true_and, and_true, false_and, and_false, not_true_eq_false, not_false_eq_true, ne_eq, hz.p, l_0, ec0, c, z40, y1]
  · rintro f z ⟨g1, g2, g3⟩
    have hz : MW w z := h.fm g2 (by decide) (by decide)
    refine ⟨z, ?_, g2, g3⟩
    show gM_EachAddsALineModel_sure_50 N (f + 1) (nI u) (nI v) (nI r) (lN (CF w C ta n u v r 100)) (nI (wrP (qE w C ta n u v r) (w 5 0))) (nI (wrP (qS w C ta n u v r) (w 5 0))) (nI (w 5 0)) z = _
    rw [gM_EachAddsALineModel_sure_50]
    simp (disch := omega) only [Option.bind_some, ↓reduceIte, ↓M_1, ↓M_2, L_0, L_1, L_2, L_3, L_4, L_5, L_6, L_7, L_8, L_9, L_10, L_11, L_12, L_13, L_20, L_24, L_26, L_30, L_31, L_32, L_39, L_40, L_48, L_57, L_76, L_80, L_90, L_91, L_97, L_99, L_100, L_255, L_273, L_1000, L_2000, q_ld, q_ldL, q_sto, q_stoL, q_add, q_sub, q_mul, q_dec, q_rem, q_div, q_lt_t, q_lt_f, q_le_t, q_le_f, q_eq_t, q_eq_f, q_em, q_me, q_ml, q_lm, q_mle, q_lem, q_s1, q_s1o, q_s1k, q_s12, q_s2, q_s2o, q_s2k, q_s21, Nat.add_sub_cancel, q_or, q_and, q_shl, true_or, or_true, false_or, or_false, true_and, and_true, false_and, and_false, not_true_eq_false, not_false_eq_true, ne_eq, hz.p]
theorem k_sure (hN : 200 ≤ N) : keeps3 N (RR (UR N)) fC_EachAddsALine_sure fM_EachAddsALineModel_sure := by
  refine keeps3_trip (okUR N) (fun w s a b c hw e => by simp (disch := omega) only [Option.bind_some, ↓reduceIte, ↓M_1, ↓M_2, L_0, L_1, L_2, L_3, L_4, L_5, L_6, L_7, L_8, L_9, L_10, L_11, L_12, L_13, L_20, L_24, L_26, L_30, L_31, L_32, L_39, L_40, L_48, L_57, L_76, L_80, L_90, L_91, L_97, L_99, L_100, L_255, L_273, L_1000, L_2000, q_ld, q_ldL, q_sto, q_stoL, q_add, q_sub, q_mul, q_dec, q_rem, q_div, q_lt_t, q_lt_f, q_le_t, q_le_f, q_eq_t, q_eq_f, q_em, q_me, q_ml, q_lm, q_mle, q_lem, q_s1, q_s1o, q_s1k, q_s12, q_s2, q_s2o, q_s2k, q_s21, Nat.add_sub_cancel, q_or, q_and, q_shl, true_or, or_true, false_or, or_false, true_and, and_true, false_and, and_false, not_true_eq_false, not_false_eq_true, ne_eq, fC_EachAddsALine_sure, gC_EachAddsALine_sure_0, e]) (fun w t a b c hw e => by simp (disch := omega) only [Option.bind_some, ↓reduceIte, ↓M_1, ↓M_2, L_0, L_1, L_2, L_3, L_4, L_5, L_6, L_7, L_8, L_9, L_10, L_11, L_12, L_13, L_20, L_24, L_26, L_30, L_31, L_32, L_39, L_40, L_48, L_57, L_76, L_80, L_90, L_91, L_97, L_99, L_100, L_255, L_273, L_1000, L_2000, q_ld, q_ldL, q_sto, q_stoL, q_add, q_sub, q_mul, q_dec, q_rem, q_div, q_lt_t, q_lt_f, q_le_t, q_le_f, q_eq_t, q_eq_f, q_em, q_me, q_ml, q_lm, q_mle, q_lem, q_s1, q_s1o, q_s1k, q_s12, q_s2, q_s2o, q_s2k, q_s21, Nat.add_sub_cancel, q_or, q_and, q_shl, true_or, or_true, false_or, or_false, true_and, and_true, false_and, and_false, not_true_eq_false, not_false_eq_true, ne_eq, fM_EachAddsALineModel_sure, gM_EachAddsALineModel_sure_0, e]) (fun s t w u v k hr h1 h2 hu hv hk ec em => ?_)
  have hb := h1.bd
  have hmc := hr.mc.r
  have h2' := M_rd0 h2 (nI 0)
  obtain ⟨_, _, _, _, _, h5, _, _, h8, _⟩ := id hr
  obtain ⟨n, ta, hn1, hn2, hC, hM⟩ := h5.get
  have hn := hC.1
  have f11 : Fm [] [] [11] t (s1 t 0 11 (nI 0)) := Fm.w10 (by decide)
  have t40 : (s1 t 0 11 (nI 0)).1 0 40 = nI n := by rw [f11.2.2 40 (by decide)]; exact hn2
  by_cases c0 : n = 0
  · subst c0
    refine ⟨mI 2, s, s1 t 0 11 (nI 0), ?_, ?_, hr.k0 (okUR N)⟩
    · simp (disch := omega) only [Option.bind_some, ↓reduceIte, ↓M_1, ↓M_2, L_0, L_1, L_2, L_3, L_4, L_5, L_6, L_7, L_8, L_9, L_10, L_11, L_12, L_13, L_20, L_24, L_26, L_30, L_31, L_32, L_39, L_40, L_48, L_57, L_76, L_80, L_90, L_91, L_97, L_99, L_100, L_255, L_273, L_1000, L_2000, q_ld, q_ldL, q_sto, q_stoL, q_add, q_sub, q_mul, q_dec, q_rem, q_div, q_lt_t, q_lt_f, q_le_t, q_le_f, q_eq_t, q_eq_f, q_em, q_me, q_ml, q_lm, q_mle, q_lem, q_s1, q_s1o, q_s1k, q_s12, q_s2, q_s2o, q_s2k, q_s21, Nat.add_sub_cancel, q_or, q_and, q_shl, true_or, or_true, false_or, or_false, true_and, and_true, false_and, and_false, not_true_eq_false, not_false_eq_true, ne_eq, fC_EachAddsALine_sure, gC_EachAddsALine_sure_0, ec, hn1]
    · simp (disch := omega) only [Option.bind_some, ↓reduceIte, ↓M_1, ↓M_2, L_0, L_1, L_2, L_3, L_4, L_5, L_6, L_7, L_8, L_9, L_10, L_11, L_12, L_13, L_20, L_24, L_26, L_30, L_31, L_32, L_39, L_40, L_48, L_57, L_76, L_80, L_90, L_91, L_97, L_99, L_100, L_255, L_273, L_1000, L_2000, q_ld, q_ldL, q_sto, q_stoL, q_add, q_sub, q_mul, q_dec, q_rem, q_div, q_lt_t, q_lt_f, q_le_t, q_le_f, q_eq_t, q_eq_f, q_em, q_me, q_ml, q_lm, q_mle, q_lem, q_s1, q_s1o, q_s1k, q_s12, q_s2, q_s2o, q_s2k, q_s21, Nat.add_sub_cancel, q_or, q_and, q_shl, true_or, or_true, false_or, or_false, true_and, and_true, false_and, and_false, not_true_eq_false, not_false_eq_true, ne_eq, fM_EachAddsALineModel_sure, gM_EachAddsALineModel_sure_0, em, hn2]
  · obtain ⟨q, x, C, u1, u2⟩ := h8.get
    have hU' := u1.fm f11 (by decide) (by decide)
    have hM' := hM.fm f11 (by decide)
    have hd := tale_den (N := N) (by omega) h2' hU' hM' (by omega)
    have e35 : (s1 t 0 11 (nI 0)).1 0 35 = gI 100 := by rw [f11.2.2 35 (by decide)]; exact hmc.2.1
    have e37 : (s1 t 0 11 (nI 0)).1 0 37 = gI 100 := by rw [f11.2.2 37 (by decide)]; exact hmc.2.2.1
    obtain ⟨z, z1, z2, _⟩ := M_countFits (N := N) (no := 100) (u := u) (v := v) (r := k) h2' (by omega) hU' hM' (by omega) (by omega) e35 e37 (by omega) hu hv (by omega)
    have hz : MW w z := h2'.fm z2 (by decide) (by decide)
    obtain ⟨y, y1, y2, y3, y4, y5⟩ := C_countFits_told (N := N) (v := v) (by omega) h1 u2 hn1 (by omega) hC hv hd
    have hy : CW w y := h1.fr y2 (by decide)
    obtain ⟨g, g1, g2, g3, g4, g5⟩ := C_gatherGetters (N := N) (u := u) (r := k) hy (by omega) y4 (by omega) y5 hu hv (by omega)
    -- both tell the row
    have fin : ∀ (S E : Nat) (z' : vSt), g.1 46 0 = nI S → g.1 46 1 = nI E → gM_EachAddsALineModel_sure_50 N N (nI u) (nI v) (nI k) (lN (CF w C ta n u v k 100)) (nI 0) (nI 0) (nI 0) z = gM_EachAddsALineModel_sure_147 N (nI E) (nI S) z' → Fm [11] [17] [12, 13, 14, 15, 16, 19, 20, 21, 22, 23, 24, 25, 26, 30, 37] z z' → z'.1 0 37 = gI 100 → ∃ r s' t', fC_EachAddsALine_sure N (nI u) (nI v) (nI k) s = some (r, s') ∧ fM_EachAddsALineModel_sure N (nI u) (nI v) (nI k) t = some (r, t') ∧ RR (UR N) s' t' := by
      intro S E z' b1 b2 b3 b4 b5
      obtain ⟨c1, v1, v2⟩ := C_clear_row (N := N) (q := fun _ => nI S) (s := g)
      obtain ⟨c2, v3, v4⟩ := C_add_row (N := N) v2 (x := nI S) rfl
      obtain ⟨d2, v5, v6⟩ := M_tell (N := N) (Rm.nil (q := fun _ => nI S) (t := z')) (by omega) (x := nI S) rfl
      have k0 : c1.1 46 0 = nI S := by rw [v2.1.1 46 (by decide)]; exact b1
      have k1 : c2.1 46 1 = nI E := by rw [v4.1.1 46 (by decide)]; exact b2
      have fC : Fr [3, 4, 17, 19, 20, 46, 47, 49, 50] [48] s c2 := (y2.mono (by decide) (by decide)).tr ((g2.mono (by decide) (by decide)).tr (v4.1.mono (by decide) (by decide)))
      have fM : Fm [7, 11] [17] [10, 11, 12, 13, 14, 15, 16, 19, 20, 21, 22, 23, 24, 25, 26, 30, 37] t d2 := (f11.mono (by decide) (by decide) (by decide)).tr ((z2.mono (by decide) (by decide) (by decide)).tr ((b4.mono (by decide) (by decide) (by decide)).tr (v6.1.mono (by decide) (by decide) (by decide))))
      have h17 : c2.1 17 1 = s.1 17 1 := by rw [v4.1.1 17 (by decide), g2.1 17 (by decide)]; exact y3
      refine ⟨nI E, c2, d2, ?_, ?_, hr.rm (RO.of v4 v6) (UR.put (u1.fm fM (by decide) (by decide)) (u2.fr fC h17 (by decide))) ⟨(fM.2.2 34 (by decide)).trans hmc.1, (fM.2.2 35 (by decide)).trans hmc.2.1, (v6.1.2.2 37 (by decide)).trans b5, (fM.2.2 44 (by decide)).trans hmc.2.2.2⟩ fC fM (by decide) (by decide) (by decide)⟩
      · simp (disch := omega) only [Option.bind_some, ↓reduceIte, ↓M_1, ↓M_2, L_0, L_1, L_2, L_3, L_4, L_5, L_6, L_7, L_8, L_9, L_10, L_11, L_12, L_13, L_20, L_24, L_26, L_30, L_31, L_32, L_39, L_40, L_48, L_57, L_76, L_80, L_90, L_91, L_97, L_99, L_100, L_255, L_273, L_1000, L_2000, q_ld, q_ldL, q_sto, q_stoL, q_add, q_sub, q_mul, q_dec, q_rem, q_div, q_lt_t, q_lt_f, q_le_t, q_le_f, q_eq_t, q_eq_f, q_em, q_me, q_ml, q_lm, q_mle, q_lem, q_s1, q_s1o, q_s1k, q_s12, q_s2, q_s2o, q_s2k, q_s21, Nat.add_sub_cancel, q_or, q_and, q_shl, true_or, or_true, false_or, or_false, true_and, and_true, false_and, and_false, not_true_eq_false, not_false_eq_true, ne_eq, fC_EachAddsALine_sure, gC_EachAddsALine_sure_0, ec, hn1, y1, g1, v1, k0, v3, k1]
      · simp (disch := omega) only [Option.bind_some, ↓reduceIte, ↓M_1, ↓M_2, L_0, L_1, L_2, L_3, L_4, L_5, L_6, L_7, L_8, L_9, L_10, L_11, L_12, L_13, L_20, L_24, L_26, L_30, L_31, L_32, L_39, L_40, L_48, L_57, L_76, L_80, L_90, L_91, L_97, L_99, L_100, L_255, L_273, L_1000, L_2000, q_ld, q_ldL, q_sto, q_stoL, q_add, q_sub, q_mul, q_dec, q_rem, q_div, q_lt_t, q_lt_f, q_le_t, q_le_f, q_eq_t, q_eq_f, q_em, q_me, q_ml, q_lm, q_mle, q_lem, q_s1, q_s1o, q_s1k, q_s12, q_s2, q_s2o, q_s2k, q_s21, Nat.add_sub_cancel, q_or, q_and, q_shl, true_or, or_true, false_or, or_false, true_and, and_true, false_and, and_false, not_true_eq_false, not_false_eq_true, ne_eq, fM_EachAddsALineModel_sure, gM_EachAddsALineModel_sure_0, em, hn2, z1, b3, gM_EachAddsALineModel_sure_147, v5]
    by_cases cA : 0 < CF w C ta n u v k 100
    · rw [if_pos cA] at g4 g5
      obtain ⟨z', a1, a2, a3⟩ := M_sure (N := N) (u := u) (v := v) (r := k) hz hN (hU'.fm z2 (by decide) (by decide)) (hM'.fm z2 (by decide)) (by omega) ((z2.2.2 40 (by decide)).trans t40) ((z2.2.2 35 (by decide)).trans e35) ((z2.2.2 37 (by decide)).trans e37) hu hv (by omega) cA
      exact fin _ _ z' g4 g5 a1 a2 a3
    · rw [if_neg cA] at g4 g5
      refine fin 0 0 z g4 g5 ?_ Fm.rf ((z2.2.2 37 (by decide)).trans e37)
      obtain ⟨m, hm⟩ : ∃ m, N = m + 1 := ⟨N - 1, by omega⟩
      have e : gM_EachAddsALineModel_sure_50 N N (nI u) (nI v) (nI k) (lN (CF w C ta n u v k 100)) (nI 0) (nI 0) (nI 0) z = gM_EachAddsALineModel_sure_50 N (m + 1) (nI u) (nI v) (nI k) (lN (CF w C ta n u v k 100)) (nI 0) (nI 0) (nI 0) z := by rw [← hm]
      have ecm := cmpL_le (a := 0) (b := 0) (by decide) (by decide)
      rw [eq_true (Nat.le_refl 0)] at ecm
      rw [e, gM_EachAddsALineModel_sure_50, show CF w C ta n u v k 100 = 0 by omega]
      simp (disch := omega) only [Option.bind_some, ↓reduceIte, ↓M_1, ↓M_2, L_0, L_1, L_2, L_3, L_4, L_5, L_6, L_7, L_8, L_9, L_10, L_11, L_12, L_13, L_20, L_24, L_26, L_30, L_31, L_32, L_39, L_40, L_48, L_57, L_76, L_80, L_90, L_91, L_97, L_99, L_100, L_255, L_273, L_1000, L_2000, q_ld, q_ldL, q_sto, q_stoL, q_add, q_sub, q_mul, q_dec, q_rem, q_div, q_lt_t, q_lt_f, q_le_t, q_le_f, q_eq_t, q_eq_f, q_em, q_me, q_ml, q_lm, q_mle, q_lem, q_s1, q_s1o, q_s1k, q_s12, q_s2, q_s2o, q_s2k, q_s21, Nat.add_sub_cancel, q_or, q_and, q_shl, true_or, or_true, false_or, or_false, true_and, and_true, false_and, and_false, not_true_eq_false, not_false_eq_true, ne_eq, hz.p, l_0, ecm]
end SC
