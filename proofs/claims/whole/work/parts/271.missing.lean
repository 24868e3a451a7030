/-! tales: that somebody has left a line out -/
theorem L_520 : (520 : Int32) = nI 520 := by decide
abbrev can (w : Nat → Nat → Nat) (no o : Nat) : Prop := no = 100 ∨ gt w o = no
def DJ (w : Nat → Nat → Nat) (C : List Nat) (ta : Nat → Nat) (n v : Nat) : Nat → Nat → Nat
  | 0 => fun s => if gt w s = v then 1 else 0
  | j + 1 => fun s => wy w (fun o => if SO w C ta (n - 1 - j) o then DJ w C ta n v j o else 0) (gt w s) (rd w s) (2 * w 5 1)
def EJ (w : Nat → Nat → Nat) (C : List Nat) (ta : Nat → Nat) (n v no : Nat) : Nat → Nat → Nat
  | 0 => fun s => wy w (fun o => if can w no o then DJ w C ta n v 0 o else 0) (gt w s) (rd w s) (2 * w 5 1)
  | j + 1 => fun s => wy w (fun o => (if SO w C ta (n - 1 - j) o then EJ w C ta n v no j o else 0) + (if can w no o then DJ w C ta n v (j + 1) o else 0)) (gt w s) (rd w s) (2 * w 5 1)
/-- from a step on, k lines being there: none left out yet, and a line left out -/
def dnn (w : Nat → Nat → Nat) (C : List Nat) (ta : Nat → Nat) (n v k s : Nat) : Nat := DJ w C ta n v (n - k) s
def lss (w : Nat → Nat → Nat) (C : List Nat) (ta : Nat → Nat) (n v no k s : Nat) : Nat := EJ w C ta n v no (n - k) s
def tD (w : Nat → Nat → Nat) (C : List Nat) (ta : Nat → Nat) (n v k o : Nat) : Nat := if k < n ∧ SO w C ta k o then dnn w C ta n v (k + 1) o else 0
def tE (w : Nat → Nat → Nat) (C : List Nat) (ta : Nat → Nat) (n v no k o : Nat) : Nat := (if k < n ∧ SO w C ta k o then lss w C ta n v no (k + 1) o else 0) + (if can w no o then dnn w C ta n v k o else 0)
def Pv (w : Nat → Nat → Nat) (C : List Nat) (ta : Nat → Nat) (n v k o i : Nat) : Prop := (k < n ∧ SO w C ta k o ∧ 0 < lss w C ta n v i (k + 1) o) ∨ (gt w o = i ∧ 0 < dnn w C ta n v k o)
section MI
variable {w : Nat → Nat → Nat} {C : List Nat} {ta T T' : Nat → Nat} {n u v r no k a i s : Nat}
theorem wy_cong {m : Nat} (h : ∀ o, o < m → T o = T' o) : wy w T u r m = wy w T' u r m := fb_sm_cong fun o ho => by
  by_cases c : beg w u r o
  · rw [if_pos c, if_pos c]; exact h o ho
  · rw [if_neg c, if_neg c]
theorem wy_zero {m : Nat} (h : ∀ o, o < m → T o = 0) : wy w T u r m = 0 := by
  have e : wy w T u r m = fb_sm (fun _ => 0) m := fb_sm_cong fun o ho => by
    by_cases c : beg w u r o
    · rw [if_pos c]; exact h o ho
    · rw [if_neg c]
  rw [e, fb_sm_const, Nat.mul_zero]
theorem wy_s (m : Nat) : wy w T u r (m + 1) = wy w T u r m + if beg w u r m then T m else 0 := rfl
theorem wy_pos {m : Nat} : 0 < wy w T u r m ↔ ∃ o, o < m ∧ beg w u r o ∧ 0 < T o := by
  unfold wy
  rw [sm_pos]
  constructor
  · rintro ⟨o, o1, o2⟩
    by_cases c : beg w u r o
    · rw [if_pos c] at o2
      exact ⟨o, o1, c, o2⟩
    · rw [if_neg c] at o2
      exact absurd o2 (Nat.lt_irrefl _)
  · rintro ⟨o, o1, o2, o3⟩
    exact ⟨o, o1, by rw [if_pos o2]; exact o3⟩
theorem dnn_eq (hk : k ≤ n) : dnn w C ta n v k s = (if k = n ∧ gt w s = v then 1 else 0) + wy w (tD w C ta n v k) (gt w s) (rd w s) (2 * w 5 1) := by
  unfold dnn
  by_cases c : k = n
  · rw [wy_zero (fun o _ => show tD w C ta n v k o = 0 from if_neg (fun z => by omega)), Nat.add_zero, show n - k = 0 by omega]
    show (if gt w s = v then 1 else 0) = _
    by_cases d : gt w s = v
    · rw [if_pos d, if_pos ⟨c, d⟩]
    · rw [if_neg d, if_neg (fun z => d z.2)]
  · rw [if_neg (fun z => c z.1), Nat.zero_add, show n - k = (n - (k + 1)) + 1 by omega]
    show wy w (fun o => if SO w C ta (n - 1 - (n - (k + 1))) o then DJ w C ta n v (n - (k + 1)) o else 0) (gt w s) (rd w s) (2 * w 5 1) = _
    rw [show n - 1 - (n - (k + 1)) = k by omega]
    refine wy_cong fun o _ => ?_
    unfold tD dnn
    by_cases d : SO w C ta k o
    · rw [if_pos d, if_pos ⟨by omega, d⟩]
    · rw [if_neg d, if_neg (fun z => d z.2)]
theorem lss_eq (hk : k ≤ n) : lss w C ta n v no k s = wy w (tE w C ta n v no k) (gt w s) (rd w s) (2 * w 5 1) := by
  unfold lss
  by_cases c : k = n
  · rw [show n - k = 0 by omega]
    show wy w (fun o => if can w no o then DJ w C ta n v 0 o else 0) (gt w s) (rd w s) (2 * w 5 1) = _
    refine wy_cong fun o _ => ?_
    unfold tE dnn
    rw [if_neg (show ¬ (k < n ∧ SO w C ta k o) from fun z => by omega), Nat.zero_add, show n - k = 0 by omega]
  · rw [show n - k = (n - (k + 1)) + 1 by omega]
    show wy w (fun o => (if SO w C ta (n - 1 - (n - (k + 1))) o then EJ w C ta n v no (n - (k + 1)) o else 0) + (if can w no o then DJ w C ta n v (n - (k + 1) + 1) o else 0)) (gt w s) (rd w s) (2 * w 5 1) = _
    rw [show n - 1 - (n - (k + 1)) = k by omega]
    refine wy_cong fun o _ => ?_
    unfold tE dnn lss
    rw [show n - (k + 1) + 1 = n - k by omega]
    by_cases d : SO w C ta k o
    · rw [if_pos d, if_pos (show k < n ∧ SO w C ta k o from ⟨by omega, d⟩)]
    · rw [if_neg d, if_neg (show ¬ (k < n ∧ SO w C ta k o) from fun z => d z.2)]
theorem wy_20 (h : okW w) {B : Nat} (hT : ∀ o, o < 2 * w 5 1 → T o ≤ B) : wy w T u r (2 * w 5 1) ≤ 20 * B := Nat.le_trans (wy_le h hT u r (w 5 1) (Nat.le_refl _)) (Nat.mul_le_mul_right _ h.2.1)
theorem DJ_le (h : okW w) : ∀ j s, DJ w C ta n v j s ≤ 20 ^ j := by
  intro j
  induction j with
  | zero => intro s; show (if gt w s = v then 1 else 0) ≤ 1; split <;> omega
  | succ j ih =>
    intro s
    rw [Nat.pow_succ, Nat.mul_comm]
    exact wy_20 h (fun o _ => by split <;> first | exact ih o | exact Nat.zero_le _)
theorem EJ_le (h : okW w) : ∀ j s, EJ w C ta n v no j s ≤ (j + 1) * 20 ^ (j + 1) := by
  intro j
  induction j with
  | zero =>
    intro s
    have := wy_20 h (T := fun o => if can w no o then DJ w C ta n v 0 o else 0) (u := gt w s) (r := rd w s) (B := 1) (fun o _ => by
      show (if can w no o then DJ w C ta n v 0 o else 0) ≤ 1
      split
      · exact DJ_le h 0 o
      · exact Nat.zero_le _)
    exact this
  | succ j ih =>
    intro s
    have e : (j + 1 + 1) * 20 ^ (j + 1 + 1) = 20 * ((j + 1) * 20 ^ (j + 1) + 20 ^ (j + 1)) := by
      rw [Nat.pow_succ 20 (j + 1), show (j + 1) * 20 ^ (j + 1) + 20 ^ (j + 1) = (j + 1 + 1) * 20 ^ (j + 1) from (Nat.succ_mul _ _).symm, Nat.mul_comm (20 ^ (j + 1)) 20, ← Nat.mul_assoc, ← Nat.mul_assoc, Nat.mul_comm (j + 1 + 1) 20]
    rw [e]
    refine wy_20 h (fun o _ => Nat.add_le_add ?_ ?_)
    · split
      · exact ih o
      · exact Nat.zero_le _
    · split
      · exact DJ_le h (j + 1) o
      · exact Nat.zero_le _
theorem dnn_lt (h : okW w) (hn : n ≤ 12) : dnn w C ta n v k s < 2 ^ 63 := by
  have h1 := DJ_le (C := C) (ta := ta) (n := n) (v := v) h (n - k) s
  have h2 : 20 ^ (n - k) ≤ 20 ^ 12 := Nat.pow_le_pow_right (by decide) (by omega)
  have h3 : 20 ^ 12 < 2 ^ 63 := by decide
  unfold dnn
  omega
theorem miss_lt (h : okW w) (hn : n ≤ 12) : wy w (tE w C ta n v no 1) u r (2 * w 5 1) < 2 ^ 63 := by
  have h1 : ∀ o, tE w C ta n v no 1 o ≤ 11 * 20 ^ 11 + 20 ^ 11 := fun o => by
    unfold tE
    refine Nat.add_le_add ?_ ?_
    · split
      · refine Nat.le_trans (EJ_le h (n - 2) o) ?_
        exact Nat.mul_le_mul (by omega) (Nat.pow_le_pow_right (by decide) (by omega))
      · exact Nat.zero_le _
    · split
      · exact Nat.le_trans (DJ_le h (n - 1) o) (Nat.pow_le_pow_right (by decide) (by omega))
      · exact Nat.zero_le _
  have h2 := wy_20 h (u := u) (r := r) (fun o _ => h1 o)
  have h3 : 20 * (11 * 20 ^ 11 + 20 ^ 11) < 2 ^ 63 := by decide
  omega
theorem tE_pos (hi : i < 100) {o : Nat} : 0 < tE w C ta n v i k o ↔ Pv w C ta n v k o i := by
  unfold tE Pv
  constructor
  · intro h
    by_cases c : k < n ∧ SO w C ta k o
    · rw [if_pos c] at h
      by_cases d : 0 < lss w C ta n v i (k + 1) o
      · exact Or.inl ⟨c.1, c.2, d⟩
      · by_cases e : can w i o
        · rw [if_pos e] at h
          exact Or.inr ⟨e.resolve_left (by omega), by omega⟩
        · rw [if_neg e] at h
          omega
    · rw [if_neg c] at h
      by_cases e : can w i o
      · rw [if_pos e] at h
        exact Or.inr ⟨e.resolve_left (by omega), by omega⟩
      · rw [if_neg e] at h
        omega
  · rintro (⟨c1, c2, c3⟩ | ⟨c1, c2⟩)
    · rw [if_pos ⟨c1, c2⟩]
      omega
    · rw [if_pos (show can w i o from Or.inr c1)]
      omega
theorem wyE_pos (hi : i < 100) {m : Nat} : 0 < wy w (tE w C ta n v i k) u r m ↔ ∃ o, o < m ∧ beg w u r o ∧ Pv w C ta n v k o i := by
  rw [wy_pos]
  exact ⟨fun ⟨o, o1, o2, o3⟩ => ⟨o, o1, o2, (tE_pos hi).mp o3⟩, fun ⟨o, o1, o2, o3⟩ => ⟨o, o1, o2, (tE_pos hi).mpr o3⟩⟩
theorem tE_100 {o : Nat} : tE w C ta n v 100 k o = (if k < n ∧ SO w C ta k o then lss w C ta n v 100 (k + 1) o else 0) + dnn w C ta n v k o := by
  unfold tE
  rw [if_pos (show can w 100 o from Or.inl rfl)]
end MI
section MM
variable {N : Nat} {w : Nat → Nat → Nat} {C : List Nat} {x ta : Nat → Nat} {n u v r k a q no : Nat} {t : vSt}
theorem M_canLeave (h : MW w t) (h44 : t.1 0 44 = gI no) (hno : no ≤ 100) (ha : a < 2 * w 5 1) : fM_EachAddsALineModel_canLeave N (nI a) t = some (if can w no a then nI 1 else nI 0, t) := by
  have hb := h.bd
  have hg := gt_lt h.ok ha
  have eg := M_getter (N := N) h ha
  by_cases c : no = 100
  · rw [if_pos (Or.inl c)]
    rw [c, gI_no (by decide)] at h44
    simp (disch := omega) only [Option.bind_some, ↓reduceIte, ↓M_1, ↓M_2, L_0, L_1, L_2, L_3, L_4, L_5, L_6, L_7, L_8, L_9, L_10, L_11, L_12, L_13, L_20, L_24, L_26, L_30, L_31, L_32, L_39, L_40, L_48, L_57, L_76, L_80, L_90, L_91, L_97, L_99, L_100, L_255, L_273, L_1000, L_2000, q_ld, q_ldL, q_sto, q_stoL, q_add, q_sub, q_mul, q_dec, q_rem, q_div, q_lt_t, q_lt_f, q_le_t, q_le_f, q_eq_t, q_eq_f, q_em, q_me, q_ml, q_lm, q_mle, q_lem, q_s1, q_s1o, q_s1k, q_s12, q_s2, q_s2o, q_s2k, q_s21, Nat.add_sub_cancel, q_or, q_and, q_shl, true_or, or_true, false_or, or_false, true_and, and_true, false_and, and_false, not_true_eq_false, not_false_eq_true, ne_eq, fM_EachAddsALineModel_canLeave, gM_EachAddsALineModel_canLeave_0, gM_EachAddsALineModel_canLeave_20, h44]
  · rw [gI_nI (by omega)] at h44
    by_cases d : gt w a = no
    · rw [if_pos (Or.inr d)]
      simp (disch := omega) only [Option.bind_some, ↓reduceIte, ↓M_1, ↓M_2, L_0, L_1, L_2, L_3, L_4, L_5, L_6, L_7, L_8, L_9, L_10, L_11, L_12, L_13, L_20, L_24, L_26, L_30, L_31, L_32, L_39, L_40, L_48, L_57, L_76, L_80, L_90, L_91, L_97, L_99, L_100, L_255, L_273, L_1000, L_2000, q_ld, q_ldL, q_sto, q_stoL, q_add, q_sub, q_mul, q_dec, q_rem, q_div, q_lt_t, q_lt_f, q_le_t, q_le_f, q_eq_t, q_eq_f, q_em, q_me, q_ml, q_lm, q_mle, q_lem, q_s1, q_s1o, q_s1k, q_s12, q_s2, q_s2o, q_s2k, q_s21, Nat.add_sub_cancel, q_or, q_and, q_shl, true_or, or_true, false_or, or_false, true_and, and_true, false_and, and_false, not_true_eq_false, not_false_eq_true, ne_eq, fM_EachAddsALineModel_canLeave, gM_EachAddsALineModel_canLeave_0, gM_EachAddsALineModel_canLeave_20, h44, eg, d]
    · rw [if_neg (fun z => z.elim c d)]
      simp (disch := omega) only [Option.bind_some, ↓reduceIte, ↓M_1, ↓M_2, L_0, L_1, L_2, L_3, L_4, L_5, L_6, L_7, L_8, L_9, L_10, L_11, L_12, L_13, L_20, L_24, L_26, L_30, L_31, L_32, L_39, L_40, L_48, L_57, L_76, L_80, L_90, L_91, L_97, L_99, L_100, L_255, L_273, L_1000, L_2000, q_ld, q_ldL, q_sto, q_stoL, q_add, q_sub, q_mul, q_dec, q_rem, q_div, q_lt_t, q_lt_f, q_le_t, q_le_f, q_eq_t, q_eq_f, q_em, q_me, q_ml, q_lm, q_mle, q_lem, q_s1, q_s1o, q_s1k, q_s12, q_s2, q_s2o, q_s2k, q_s21, Nat.add_sub_cancel, q_or, q_and, q_shl, true_or, or_true, false_or, or_false, true_and, and_true, false_and, and_false, not_true_eq_false, not_false_eq_true, ne_eq, fM_EachAddsALineModel_canLeave, gM_EachAddsALineModel_canLeave_0, gM_EachAddsALineModel_canLeave_20, h44, eg]
theorem M_cm69 (R : Int32 → Int32 → Int32 → Int32 → Int32 → Int32 → vSt → Option (Int64 × vSt)) {a1 a2 a3 a4 : Int32} {D0 : Nat} (h : MW w t) (hN : 100 ≤ N) (hU : UM N q x C t) (hT : MT 0 n ta t) (hk : 0 < k ∧ k ≤ n) (ha : a < 2 * w 5 1) (h30 : t.1 0 30 = nI (2 * w 5 1)) (h40 : t.1 0 40 = nI n) (h44 : t.1 0 44 = gI no) (hno : no ≤ 100)
    (hD : ∀ o, o < 2 * w 5 1 → fol w o a → t.2 17 (40 * k + o) = lN (dnn w C ta n v k o) ∧ (k < n → t.2 17 (40 * (k + 1) + o) = lN (dnn w C ta n v (k + 1) o) ∧ t.2 18 (40 * (k + 1) + o) = lN (lss w C ta n v no (k + 1) o))) :
    ∃ z, gM_EachAddsALineModel_countMissing_69 N R N a1 a2 a3 a4 (nI a) (nI k) (lN D0) (lN 0) (nI 0) t = R a1 a2 a3 a4 (nI a) (nI (k - 1)) z ∧ Fm [] [17, 18] [12, 13, 14, 15, 16, 19, 20, 21, 22, 23, 24, 25, 26] t z ∧ z.2 17 (40 * k + a) = lN (D0 + wy w (tD w C ta n v k) (gt w a) (rd w a) (2 * w 5 1)) ∧ z.2 18 (40 * k + a) = lN (wy w (tE w C ta n v no k) (gt w a) (rd w a) (2 * w 5 1)) ∧ ∀ j, ¬ j = 40 * k + a → z.2 17 j = t.2 17 j ∧ z.2 18 j = t.2 18 j := by
  have hb := h.bd
  have hn := hT.1
  have hk2 := hk.2
  refine loopU (fun f i z => gM_EachAddsALineModel_countMissing_69 N R f a1 a2 a3 a4 (nI a) (nI k) (lN (D0 + wy w (tD w C ta n v k) (gt w a) (rd w a) i)) (lN (wy w (tE w C ta n v no k) (gt w a) (rd w a) i)) (nI i) z) (2 * w 5 1) (fun i z => i ≤ 2 * w 5 1 ∧ Fm [] [] [12, 13, 14, 15, 16, 19, 20, 21, 22, 23, 24, 25, 26] t z)
    (fun o => ∃ z, o = R a1 a2 a3 a4 (nI a) (nI (k - 1)) z ∧ Fm [] [17, 18] [12, 13, 14, 15, 16, 19, 20, 21, 22, 23, 24, 25, 26] t z ∧ z.2 17 (40 * k + a) = lN (D0 + wy w (tD w C ta n v k) (gt w a) (rd w a) (2 * w 5 1)) ∧ z.2 18 (40 * k + a) = lN (wy w (tE w C ta n v no k) (gt w a) (rd w a) (2 * w 5 1)) ∧ ∀ j, ¬ j = 40 * k + a → z.2 17 j = t.2 17 j ∧ z.2 18 j = t.2 18 j) ?_ ?_ (2 * w 5 1) N 0 t (by omega) (by omega) ⟨by omega, Fm.rf⟩
  · rintro f i z hi ⟨g1, g2⟩
    have hz : MW w z := h.fm g2 (by decide) (by decide)
    have z30 : z.1 0 30 = nI (2 * w 5 1) := (g2.2.2 30 (by decide)).trans h30
    have z40 : z.1 0 40 = nI n := (g2.2.2 40 (by decide)).trans h40
    have z44 : z.1 0 44 = gI no := (g2.2.2 44 (by decide)).trans h44
    have ef := M_follows (N := N) hz hi ha
    show (∃ z', gM_EachAddsALineModel_countMissing_69 N R (f + 1) a1 a2 a3 a4 (nI a) (nI k) (lN (D0 + wy w (tD w C ta n v k) (gt w a) (rd w a) i)) (lN (wy w (tE w C ta n v no k) (gt w a) (rd w a) i)) (nI i) z = gM_EachAddsALineModel_countMissing_69 N R f a1 a2 a3 a4 (nI a) (nI k) (lN (D0 + wy w (tD w C ta n v k) (gt w a) (rd w a) (i + 1))) (lN (wy w (tE w C ta n v no k) (gt w a) (rd w a) (i + 1))) (nI (i + 1)) z' ∧ i + 1 ≤ 2 * w 5 1 ∧ Fm [] [] [12, 13, 14, 15, 16, 19, 20, 21, 22, 23, 24, 25, 26] t z') ∨ _
    rw [wy_s, wy_s]
    generalize wy w (tD w C ta n v k) (gt w a) (rd w a) i = X
    generalize wy w (tE w C ta n v no k) (gt w a) (rd w a) i = Y
    by_cases c : fol w i a
    · rw [if_pos c] at ef
      rw [if_pos (show beg w (gt w a) (rd w a) i from c), if_pos (show beg w (gt w a) (rd w a) i from c)]
      obtain ⟨d1, d2⟩ := hD i hi c
      -- what a step adds
      have e175 : ∀ (y : vSt) (X' B : Nat), Fm [] [] [12, 13, 14, 15, 16, 19, 20, 21, 22, 23, 24, 25, 26] t y → gM_EachAddsALineModel_countMissing_175 N (gM_EachAddsALineModel_countMissing_69 N R f) a1 a2 a3 a4 (nI a) (nI k) (lN X') (nI i) (lN Y) (lN B) y = gM_EachAddsALineModel_countMissing_69 N R f a1 a2 a3 a4 (nI a) (nI k) (lN X') (lN (Y + (B + if can w no i then dnn w C ta n v k i else 0))) (nI (i + 1)) y := by
        intro y X' B fy
        have ecl := M_canLeave (N := N) (h.fm fy (by decide) (by decide)) ((fy.2.2 44 (by decide)).trans h44) hno hi
        have r17 : y.2 17 (40 * k + i) = lN (dnn w C ta n v k i) := by rw [fy.2.1 17 (by decide)]; exact d1
        rw [← Nat.add_assoc]
        by_cases g : can w no i
        · rw [if_pos g] at ecl ⊢
          simp (disch := omega) only [Option.bind_some, ↓reduceIte, ↓M_1, ↓M_2, L_0, L_1, L_2, L_3, L_4, L_5, L_6, L_7, L_8, L_9, L_10, L_11, L_12, L_13, L_20, L_24, L_26, L_30, L_31, L_32, L_39, L_40, L_48, L_57, L_76, L_80, L_90, L_91, L_97, L_99, L_100, L_255, L_273, L_1000, L_2000, q_ld, q_ldL, q_sto, q_stoL, q_add, q_sub, q_mul, q_dec, q_rem, q_div, q_lt_t, q_lt_f, q_le_t, q_le_f, q_eq_t, q_eq_f, q_em, q_me, q_ml, q_lm, q_mle, q_lem, q_s1, q_s1o, q_s1k, q_s12, q_s2, q_s2o, q_s2k, q_s21, Nat.add_sub_cancel, q_or, q_and, q_shl, true_or, or_true, false_or, or_false, true_and, and_true, false_and, and_false, not_true_eq_false, not_false_eq_true, ne_eq, gM_EachAddsALineModel_countMissing_175, ecl, r17, gM_EachAddsALineModel_countMissing_206, gM_EachAddsALineModel_countMissing_209, lN_add]
        · rw [if_neg g] at ecl ⊢
          simp (disch := omega) only [Option.bind_some, ↓reduceIte, ↓M_1, ↓M_2, L_0, L_1, L_2, L_3, L_4, L_5, L_6, L_7, L_8, L_9, L_10, L_11, L_12, L_13, L_20, L_24, L_26, L_30, L_31, L_32, L_39, L_40, L_48, L_57, L_76, L_80, L_90, L_91, L_97, L_99, L_100, L_255, L_273, L_1000, L_2000, q_ld, q_ldL, q_sto, q_stoL, q_add, q_sub, q_mul, q_dec, q_rem, q_div, q_lt_t, q_lt_f, q_le_t, q_le_f, q_eq_t, q_eq_f, q_em, q_me, q_ml, q_lm, q_mle, q_lem, q_s1, q_s1o, q_s1k, q_s12, q_s2, q_s2o, q_s2k, q_s21, Nat.add_sub_cancel, q_or, q_and, q_shl, true_or, or_true, false_or, or_false, true_and, and_true, false_and, and_false, not_true_eq_false, not_false_eq_true, ne_eq, gM_EachAddsALineModel_countMissing_175, ecl, gM_EachAddsALineModel_countMissing_206, gM_EachAddsALineModel_countMissing_209, lN_add, l_0]
      unfold tD tE
      have no118 : ∀ y : vSt, Fm [] [] [12, 13, 14, 15, 16, 19, 20, 21, 22, 23, 24, 25, 26] t y → ¬ (k < n ∧ SO w C ta k i) → gM_EachAddsALineModel_countMissing_117 N (gM_EachAddsALineModel_countMissing_69 N R f) a1 a2 a3 a4 (nI a) (nI k) (lN (D0 + X)) (lN Y) (nI i) y = gM_EachAddsALineModel_countMissing_69 N R f a1 a2 a3 a4 (nI a) (nI k) (lN (D0 + (X + if k < n ∧ SO w C ta k i then dnn w C ta n v (k + 1) i else 0))) (lN (Y + ((if k < n ∧ SO w C ta k i then lss w C ta n v no (k + 1) i else 0) + if can w no i then dnn w C ta n v k i else 0))) (nI (i + 1)) y := by
        intro y fy g
        have e1 := e175 y (D0 + X) 0 fy
        rw [if_neg g, if_neg g, Nat.add_zero, ← e1]
        simp (disch := omega) only [Option.bind_some, ↓reduceIte, ↓M_1, ↓M_2, L_0, L_1, L_2, L_3, L_4, L_5, L_6, L_7, L_8, L_9, L_10, L_11, L_12, L_13, L_20, L_24, L_26, L_30, L_31, L_32, L_39, L_40, L_48, L_57, L_76, L_80, L_90, L_91, L_97, L_99, L_100, L_255, L_273, L_1000, L_2000, q_ld, q_ldL, q_sto, q_stoL, q_add, q_sub, q_mul, q_dec, q_rem, q_div, q_lt_t, q_lt_f, q_le_t, q_le_f, q_eq_t, q_eq_f, q_em, q_me, q_ml, q_lm, q_mle, q_lem, q_s1, q_s1o, q_s1k, q_s12, q_s2, q_s2o, q_s2k, q_s21, Nat.add_sub_cancel, q_or, q_and, q_shl, true_or, or_true, false_or, or_false, true_and, and_true, false_and, and_false, not_true_eq_false, not_false_eq_true, ne_eq, gM_EachAddsALineModel_countMissing_117, gM_EachAddsALineModel_countMissing_118, gM_EachAddsALineModel_countMissing_146, l_0, lN_add, Nat.add_zero]
      by_cases c1 : k < n
      · obtain ⟨y, y1, y2, _⟩ := M_isSo (N := N) hN hz (hU.fm g2 (by decide) (by decide)) (hT.fm g2 (by decide)) (by omega) hi ⟨hk.1, c1⟩
        have fy := g2.tr y2
        refine Or.inl ⟨y, ?_, by omega, fy⟩
        by_cases c2 : SO w C ta k i
        · rw [if_pos c2] at y1
          obtain ⟨d3, d4⟩ := d2 c1
          have r17 : y.2 17 (40 * (k + 1) + i) = lN (dnn w C ta n v (k + 1) i) := by rw [fy.2.1 17 (by decide)]; exact d3
          have r18 : y.2 18 (40 * (k + 1) + i) = lN (lss w C ta n v no (k + 1) i) := by rw [fy.2.1 18 (by decide)]; exact d4
          have e1 := e175 y (D0 + X + dnn w C ta n v (k + 1) i) (lss w C ta n v no (k + 1) i) fy
          rw [if_pos ⟨c1, c2⟩, if_pos ⟨c1, c2⟩, ← Nat.add_assoc, ← e1, gM_EachAddsALineModel_countMissing_69]
          simp (disch := omega) only [Option.bind_some, ↓reduceIte, ↓M_1, ↓M_2, L_0, L_1, L_2, L_3, L_4, L_5, L_6, L_7, L_8, L_9, L_10, L_11, L_12, L_13, L_20, L_24, L_26, L_30, L_31, L_32, L_39, L_40, L_48, L_57, L_76, L_80, L_90, L_91, L_97, L_99, L_100, L_255, L_273, L_1000, L_2000, q_ld, q_ldL, q_sto, q_stoL, q_add, q_sub, q_mul, q_dec, q_rem, q_div, q_lt_t, q_lt_f, q_le_t, q_le_f, q_eq_t, q_eq_f, q_em, q_me, q_ml, q_lm, q_mle, q_lem, q_s1, q_s1o, q_s1k, q_s12, q_s2, q_s2o, q_s2k, q_s21, Nat.add_sub_cancel, q_or, q_and, q_shl, true_or, or_true, false_or, or_false, true_and, and_true, false_and, and_false, not_true_eq_false, not_false_eq_true, ne_eq, z30, z40, ef, y1, gM_EachAddsALineModel_countMissing_118, gM_EachAddsALineModel_countMissing_146, r17, r18, lN_add]
        · rw [if_neg c2] at y1
          rw [← no118 y fy (fun z => c2 z.2), gM_EachAddsALineModel_countMissing_69]
          simp (disch := omega) only [Option.bind_some, ↓reduceIte, ↓M_1, ↓M_2, L_0, L_1, L_2, L_3, L_4, L_5, L_6, L_7, L_8, L_9, L_10, L_11, L_12, L_13, L_20, L_24, L_26, L_30, L_31, L_32, L_39, L_40, L_48, L_57, L_76, L_80, L_90, L_91, L_97, L_99, L_100, L_255, L_273, L_1000, L_2000, q_ld, q_ldL, q_sto, q_stoL, q_add, q_sub, q_mul, q_dec, q_rem, q_div, q_lt_t, q_lt_f, q_le_t, q_le_f, q_eq_t, q_eq_f, q_em, q_me, q_ml, q_lm, q_mle, q_lem, q_s1, q_s1o, q_s1k, q_s12, q_s2, q_s2o, q_s2k, q_s21, Nat.add_sub_cancel, q_or, q_and, q_shl, true_or, or_true, false_or, or_false, true_and, and_true, false_and, and_false, not_true_eq_false, not_false_eq_true, ne_eq, z30, z40, ef, y1]
      · refine Or.inl ⟨z, ?_, by omega, g2⟩
        rw [← no118 z g2 (fun z => c1 z.1), gM_EachAddsALineModel_countMissing_69]
        simp (disch := omega) only [Option.bind_some, ↓reduceIte, ↓M_1, ↓M_2, L_0, L_1, L_2, L_3, L_4, L_5, L_6, L_7, L_8, L_9, L_10, L_11, L_12, L_13, L_20, L_24, L_26, L_30, L_31, L_32, L_39, L_40, L_48, L_57, L_76, L_80, L_90, L_91, L_97, L_99, L_100, L_255, L_273, L_1000, L_2000, q_ld, q_ldL, q_sto, q_stoL, q_add, q_sub, q_mul, q_dec, q_rem, q_div, q_lt_t, q_lt_f, q_le_t, q_le_f, q_eq_t, q_eq_f, q_em, q_me, q_ml, q_lm, q_mle, q_lem, q_s1, q_s1o, q_s1k, q_s12, q_s2, q_s2o, q_s2k, q_s21, Nat.add_sub_cancel, q_or, q_and, q_shl, true_or, or_true, false_or, or_false, true_and, and_true, false_and, and_false, not_true_eq_false, not_false_eq_true, ne_eq, z30, z40, ef]
    · rw [if_neg c] at ef
      rw [if_neg (show ¬ beg w (gt w a) (rd w a) i from c), if_neg (show ¬ beg w (gt w a) (rd w a) i from c), Nat.add_zero X, Nat.add_zero Y]
      refine Or.inl ⟨z, ?_, by omega, g2⟩
      rw [gM_EachAddsALineModel_countMissing_69]
      simp (disch := omega) only [Option.bind_some, ↓reduceIte, ↓M_1, ↓M_2, L_0, L_1, L_2, L_3, L_4, L_5, L_6, L_7, L_8, L_9, L_10, L_11, L_12, L_13, L_20, L_24, L_26, L_30, L_31, L_32, L_39, L_40, L_48, L_57, L_76, L_80, L_90, L_91, L_97, L_99, L_100, L_255, L_273, L_1000, L_2000, q_ld, q_ldL, q_sto, q_stoL, q_add, q_sub, q_mul, q_dec, q_rem, q_div, q_lt_t, q_lt_f, q_le_t, q_le_f, q_eq_t, q_eq_f, q_em, q_me, q_ml, q_lm, q_mle, q_lem, q_s1, q_s1o, q_s1k, q_s12, q_s2, q_s2o, q_s2k, q_s21, Nat.add_sub_cancel, q_or, q_and, q_shl, true_or, or_true, false_or, or_false, true_and, and_true, false_and, and_false, not_true_eq_false, not_false_eq_true, ne_eq, z30, ef, gM_EachAddsALineModel_countMissing_209]
  · rintro f z ⟨g1, g2⟩
    have z30 : z.1 0 30 = nI (2 * w 5 1) := (g2.2.2 30 (by decide)).trans h30
    refine ⟨s2 (s2 z 17 (40 * k + a) (lN (D0 + wy w (tD w C ta n v k) (gt w a) (rd w a) (2 * w 5 1)))) 18 (40 * k + a) (lN (wy w (tE w C ta n v no k) (gt w a) (rd w a) (2 * w 5 1))), ?_, (g2.mono (by decide) (by decide) (by decide)).tr ((Fm.w2 (by decide)).tr (Fm.w2 (by decide))), ?_, q_s2 _ _ _ _, fun j hj => ⟨?_, ?_⟩⟩
    · show gM_EachAddsALineModel_countMissing_69 N R (f + 1) a1 a2 a3 a4 (nI a) (nI k) (lN (D0 + wy w (tD w C ta n v k) (gt w a) (rd w a) (2 * w 5 1))) (lN (wy w (tE w C ta n v no k) (gt w a) (rd w a) (2 * w 5 1))) (nI (2 * w 5 1)) z = _
      rw [gM_EachAddsALineModel_countMissing_69]
      simp (disch := omega) only [Option.bind_some, ↓reduceIte, ↓M_1, ↓M_2, L_0, L_1, L_2, L_3, L_4, L_5, L_6, L_7, L_8, L_9, L_10, L_11, L_12, L_13, L_20, L_24, L_26, L_30, L_31, L_32, L_39, L_40, L_48, L_57, L_76, L_80, L_90, L_91, L_97, L_99, L_100, L_255, L_273, L_1000, L_2000, q_ld, q_ldL, q_sto, q_stoL, q_add, q_sub, q_mul, q_dec, q_rem, q_div, q_lt_t, q_lt_f, q_le_t, q_le_f, q_eq_t, q_eq_f, q_em, q_me, q_ml, q_lm, q_mle, q_lem, q_s1, q_s1o, q_s1k, q_s12, q_s2, q_s2o, q_s2k, q_s21, Nat.add_sub_cancel, q_or, q_and, q_shl, true_or, or_true, false_or, or_false, true_and, and_true, false_and, and_false, not_true_eq_false, not_false_eq_true, ne_eq, z30]
    · rw [q_s2o (by decide), q_s2]
    · rw [q_s2o (by decide), q_s2k hj, g2.2.1 17 (by decide)]
    · rw [q_s2k hj, q_s2o (by decide), g2.2.1 18 (by decide)]
/-- all of a step -/
def MMo (w : Nat → Nat → Nat) (C : List Nat) (ta : Nat → Nat) (n v no o : Nat) (t : vSt) : Prop := ∀ k, 0 < k → k ≤ n → t.2 17 (40 * k + o) = lN (dnn w C ta n v k o) ∧ t.2 18 (40 * k + o) = lN (lss w C ta n v no k o)
theorem M_cm32 (R : Int32 → Int32 → Int32 → Int32 → vSt → Option (Int64 × vSt)) {a1 a3 : Int32} {m : Nat} (h : MW w t) (hN : 100 ≤ N) (hU : UM N q x C t) (hT : MT 0 n ta t) (hv : v < w 5 0) (ha : a < 2 * w 5 1) (h30 : t.1 0 30 = nI (2 * w 5 1)) (h40 : t.1 0 40 = nI n) (h44 : t.1 0 44 = gI no) (hno : no ≤ 100)
    (hD : ∀ o, o < 2 * w 5 1 → fol w o a → MMo w C ta n v no o t) :
    ∃ z, gM_EachAddsALineModel_countMissing_32 N R N a1 (nI v) a3 (nI m) (nI a) (nI n) t = R a1 (nI v) a3 (nI m + mI 1) z ∧ Fm [] [17, 18] [12, 13, 14, 15, 16, 19, 20, 21, 22, 23, 24, 25, 26] t z ∧ MMo w C ta n v no a z ∧ ∀ o, o < 2 * w 5 1 → o ≠ a → ∀ k, t.2 17 (40 * k + o) = z.2 17 (40 * k + o) ∧ t.2 18 (40 * k + o) = z.2 18 (40 * k + o) := by
  have hb := h.bd
  have hn := hT.1
  refine loopD (fun f i z => gM_EachAddsALineModel_countMissing_32 N R f a1 (nI v) a3 (nI m) (nI a) (nI i) z) n (fun i z => i ≤ n ∧ Fm [] [17, 18] [12, 13, 14, 15, 16, 19, 20, 21, 22, 23, 24, 25, 26] t z ∧ (∀ k, i < k → k ≤ n → z.2 17 (40 * k + a) = lN (dnn w C ta n v k a) ∧ z.2 18 (40 * k + a) = lN (lss w C ta n v no k a)) ∧ ∀ o, o < 2 * w 5 1 → o ≠ a → ∀ k, t.2 17 (40 * k + o) = z.2 17 (40 * k + o) ∧ t.2 18 (40 * k + o) = z.2 18 (40 * k + o))
    (fun o => ∃ z, o = R a1 (nI v) a3 (nI m + mI 1) z ∧ Fm [] [17, 18] [12, 13, 14, 15, 16, 19, 20, 21, 22, 23, 24, 25, 26] t z ∧ MMo w C ta n v no a z ∧ ∀ o, o < 2 * w 5 1 → o ≠ a → ∀ k, t.2 17 (40 * k + o) = z.2 17 (40 * k + o) ∧ t.2 18 (40 * k + o) = z.2 18 (40 * k + o)) ?_ ?_ n N t (Nat.le_refl _) (by omega) ⟨Nat.le_refl _, Fm.rf, fun k h1 h2 => by omega, fun o _ _ k => ⟨rfl, rfl⟩⟩
  · rintro f i z hi ⟨g1, g2, g3, g4⟩
    have hz : MW w z := h.fm g2 (by decide) (by decide)
    have z30 : z.1 0 30 = nI (2 * w 5 1) := (g2.2.2 30 (by decide)).trans h30
    have z40 : z.1 0 40 = nI n := (g2.2.2 40 (by decide)).trans h40
    have z44 : z.1 0 44 = gI no := (g2.2.2 44 (by decide)).trans h44
    have hDz : ∀ o, o < 2 * w 5 1 → fol w o a → z.2 17 (40 * (i + 1) + o) = lN (dnn w C ta n v (i + 1) o) ∧ (i + 1 < n → z.2 17 (40 * (i + 1 + 1) + o) = lN (dnn w C ta n v (i + 1 + 1) o) ∧ z.2 18 (40 * (i + 1 + 1) + o) = lN (lss w C ta n v no (i + 1 + 1) o)) := fun o ho hf => by
      have ne : o ≠ a := fun y => by
        rw [y] at hf
        exact gv_ne h.ok ha hf.1
      have hm := hD o ho hf
      refine ⟨?_, fun hk => ⟨?_, ?_⟩⟩
      · rw [← (g4 o ho ne (i + 1)).1]; exact (hm (i + 1) (by omega) (by omega)).1
      · rw [← (g4 o ho ne (i + 1 + 1)).1]; exact (hm (i + 1 + 1) (by omega) (by omega)).1
      · rw [← (g4 o ho ne (i + 1 + 1)).2]; exact (hm (i + 1 + 1) (by omega) (by omega)).2
    have e69 := fun D0 => M_cm69 (N := N) (v := v) (no := no) (a1 := a1) (a2 := nI v) (a3 := a3) (a4 := nI m) (D0 := D0) (k := i + 1) (gM_EachAddsALineModel_countMissing_32 N R f) hz hN (hU.fm g2 (by decide) (by decide)) (hT.fm g2 (by decide)) ⟨by omega, by omega⟩ ha z30 z40 z44 hno hDz
    have fin : ∀ D0, D0 = (if i + 1 = n ∧ gt w a = v then 1 else 0) → gM_EachAddsALineModel_countMissing_32 N R (f + 1) a1 (nI v) a3 (nI m) (nI a) (nI (i + 1)) z = gM_EachAddsALineModel_countMissing_69 N (gM_EachAddsALineModel_countMissing_32 N R f) N a1 (nI v) a3 (nI m) (nI a) (nI (i + 1)) (lN D0) (lN 0) (nI 0) z →
        ∃ z', gM_EachAddsALineModel_countMissing_32 N R (f + 1) a1 (nI v) a3 (nI m) (nI a) (nI (i + 1)) z = gM_EachAddsALineModel_countMissing_32 N R f a1 (nI v) a3 (nI m) (nI a) (nI i) z' ∧ i ≤ n ∧ Fm [] [17, 18] [12, 13, 14, 15, 16, 19, 20, 21, 22, 23, 24, 25, 26] t z' ∧ (∀ k, i < k → k ≤ n → z'.2 17 (40 * k + a) = lN (dnn w C ta n v k a) ∧ z'.2 18 (40 * k + a) = lN (lss w C ta n v no k a)) ∧ ∀ o, o < 2 * w 5 1 → o ≠ a → ∀ k, t.2 17 (40 * k + o) = z'.2 17 (40 * k + o) ∧ t.2 18 (40 * k + o) = z'.2 18 (40 * k + o) := by
      intro D0 h0 e
      obtain ⟨y, y1, y2, y3, y4, y5⟩ := e69 D0
      rw [h0, ← dnn_eq (by omega)] at y3
      rw [← lss_eq (by omega)] at y4
      refine ⟨y, e.trans y1, by omega, g2.tr y2, fun k k1 k2 => ?_, fun o ho ne k => ?_⟩
      · by_cases c : k = i + 1
        · subst c; exact ⟨y3, y4⟩
        · have := y5 (40 * k + a) (by omega)
          rw [this.1, this.2]
          exact g3 k (by omega) k2
      · have hj : ¬ 40 * k + o = 40 * (i + 1) + a := by omega
        have := y5 (40 * k + o) hj
        rw [this.1, this.2]
        exact g4 o ho ne k
    have eg := M_getter (N := N) hz ha
    have hg := gt_lt h.ok ha
    by_cases c : i + 1 = n
    · by_cases d : gt w a = v
      · refine Or.inl (fin 1 (if_pos ⟨c, d⟩).symm ?_)
        rw [gM_EachAddsALineModel_countMissing_32]
        simp (disch := omega) only [Option.bind_some, ↓reduceIte, ↓M_1, ↓M_2, L_0, L_1, L_2, L_3, L_4, L_5, L_6, L_7, L_8, L_9, L_10, L_11, L_12, L_13, L_20, L_24, L_26, L_30, L_31, L_32, L_39, L_40, L_48, L_57, L_76, L_80, L_90, L_91, L_97, L_99, L_100, L_255, L_273, L_1000, L_2000, q_ld, q_ldL, q_sto, q_stoL, q_add, q_sub, q_mul, q_dec, q_rem, q_div, q_lt_t, q_lt_f, q_le_t, q_le_f, q_eq_t, q_eq_f, q_em, q_me, q_ml, q_lm, q_mle, q_lem, q_s1, q_s1o, q_s1k, q_s12, q_s2, q_s2o, q_s2k, q_s21, Nat.add_sub_cancel, q_or, q_and, q_shl, true_or, or_true, false_or, or_false, true_and, and_true, false_and, and_false, not_true_eq_false, not_false_eq_true, ne_eq, z40, eg, d, gM_EachAddsALineModel_countMissing_61, l_0, l_1]
      · refine Or.inl (fin 0 (if_neg (fun z => d z.2)).symm ?_)
        rw [gM_EachAddsALineModel_countMissing_32]
        simp (disch := omega) only [Option.bind_some, ↓reduceIte, ↓M_1, ↓M_2, L_0, L_1, L_2, L_3, L_4, L_5, L_6, L_7, L_8, L_9, L_10, L_11, L_12, L_13, L_20, L_24, L_26, L_30, L_31, L_32, L_39, L_40, L_48, L_57, L_76, L_80, L_90, L_91, L_97, L_99, L_100, L_255, L_273, L_1000, L_2000, q_ld, q_ldL, q_sto, q_stoL, q_add, q_sub, q_mul, q_dec, q_rem, q_div, q_lt_t, q_lt_f, q_le_t, q_le_f, q_eq_t, q_eq_f, q_em, q_me, q_ml, q_lm, q_mle, q_lem, q_s1, q_s1o, q_s1k, q_s12, q_s2, q_s2o, q_s2k, q_s21, Nat.add_sub_cancel, q_or, q_and, q_shl, true_or, or_true, false_or, or_false, true_and, and_true, false_and, and_false, not_true_eq_false, not_false_eq_true, ne_eq, z40, eg, gM_EachAddsALineModel_countMissing_60, gM_EachAddsALineModel_countMissing_61, l_0]
    · refine Or.inl (fin 0 (if_neg (fun z => c z.1)).symm ?_)
      rw [gM_EachAddsALineModel_countMissing_32]
      simp (disch := omega) only [Option.bind_some, ↓reduceIte, ↓M_1, ↓M_2, L_0, L_1, L_2, L_3, L_4, L_5, L_6, L_7, L_8, L_9, L_10, L_11, L_12, L_13, L_20, L_24, L_26, L_30, L_31, L_32, L_39, L_40, L_48, L_57, L_76, L_80, L_90, L_91, L_97, L_99, L_100, L_255, L_273, L_1000, L_2000, q_ld, q_ldL, q_sto, q_stoL, q_add, q_sub, q_mul, q_dec, q_rem, q_div, q_lt_t, q_lt_f, q_le_t, q_le_f, q_eq_t, q_eq_f, q_em, q_me, q_ml, q_lm, q_mle, q_lem, q_s1, q_s1o, q_s1k, q_s12, q_s2, q_s2o, q_s2k, q_s21, Nat.add_sub_cancel, q_or, q_and, q_shl, true_or, or_true, false_or, or_false, true_and, and_true, false_and, and_false, not_true_eq_false, not_false_eq_true, ne_eq, z40, gM_EachAddsALineModel_countMissing_60, gM_EachAddsALineModel_countMissing_61, l_0]
  · rintro f z ⟨g1, g2, g3, g4⟩
    refine ⟨z, ?_, g2, fun k k1 k2 => g3 k k1 k2, g4⟩
    show gM_EachAddsALineModel_countMissing_32 N R (f + 1) a1 (nI v) a3 (nI m) (nI a) (nI 0) z = _
    rw [gM_EachAddsALineModel_countMissing_32]
    simp (disch := omega) only [Option.bind_some, ↓reduceIte, ↓M_1, ↓M_2, L_0, L_1, L_2, L_3, L_4, L_5, L_6, L_7, L_8, L_9, L_10, L_11, L_12, L_13, L_20, L_24, L_26, L_30, L_31, L_32, L_39, L_40, L_48, L_57, L_76, L_80, L_90, L_91, L_97, L_99, L_100, L_255, L_273, L_1000, L_2000, q_ld, q_ldL, q_sto, q_stoL, q_add, q_sub, q_mul, q_rem, q_div, q_lt_t, q_lt_f, q_le_t, q_le_f, q_eq_t, q_eq_f, q_em, q_me, q_ml, q_lm, q_mle, q_lem, q_s1, q_s1o, q_s1k, q_s12, q_s2, q_s2o, q_s2k, q_s21, Nat.add_sub_cancel, q_or, q_and, q_shl, true_or, or_true, false_or, or_false, true_and, and_true, false_and, and_false, not_true_eq_false, not_false_eq_true, ne_eq]
theorem M_cm263 (h : MW w t) (hN : 100 ≤ N) (hU : UM N q x C t) (hT : MT 0 n ta t) (hn0 : 0 < n) (hu : u < w 5 0) (hr : r < 1000) (h30 : t.1 0 30 = nI (2 * w 5 1)) (h40 : t.1 0 40 = nI n) (h44 : t.1 0 44 = gI no) (hno : no ≤ 100) (hD : ∀ o, o < 2 * w 5 1 → MMo w C ta n v no o t) :
    ∃ z, gM_EachAddsALineModel_countMissing_263 N N (nI u) (nI r) (lN 0) (nI 0) t = some (lN (wy w (tE w C ta n v no 1) u r (2 * w 5 1)), z) ∧ Fm [] [] [12, 13, 14, 15, 16, 19, 20, 21, 22, 23, 24, 25, 26] t z := by
  have hb := h.bd
  have hn := hT.1
  refine loopU (fun f i z => gM_EachAddsALineModel_countMissing_263 N f (nI u) (nI r) (lN (wy w (tE w C ta n v no 1) u r i)) (nI i) z) (2 * w 5 1) (fun i z => i ≤ 2 * w 5 1 ∧ Fm [] [] [12, 13, 14, 15, 16, 19, 20, 21, 22, 23, 24, 25, 26] t z) (fun o => ∃ z, o = some (lN (wy w (tE w C ta n v no 1) u r (2 * w 5 1)), z) ∧ Fm [] [] [12, 13, 14, 15, 16, 19, 20, 21, 22, 23, 24, 25, 26] t z) ?_ ?_ (2 * w 5 1) N 0 t (by omega) (by omega) ⟨by omega, Fm.rf⟩
  · rintro f i z hi ⟨g1, g2⟩
    have hz : MW w z := h.fm g2 (by decide) (by decide)
    have z30 : z.1 0 30 = nI (2 * w 5 1) := (g2.2.2 30 (by decide)).trans h30
    have z40 : z.1 0 40 = nI n := (g2.2.2 40 (by decide)).trans h40
    have eb := M_begins (N := N) hz hi hu hr
    show (∃ z', gM_EachAddsALineModel_countMissing_263 N (f + 1) (nI u) (nI r) (lN (wy w (tE w C ta n v no 1) u r i)) (nI i) z = gM_EachAddsALineModel_countMissing_263 N f (nI u) (nI r) (lN (wy w (tE w C ta n v no 1) u r (i + 1))) (nI (i + 1)) z' ∧ i + 1 ≤ 2 * w 5 1 ∧ Fm [] [] [12, 13, 14, 15, 16, 19, 20, 21, 22, 23, 24, 25, 26] t z') ∨ _
    rw [wy_s]
    generalize wy w (tE w C ta n v no 1) u r i = Y
    by_cases c : beg w u r i
    · rw [if_pos c] at eb ⊢
      have e320 : ∀ (y : vSt) (Y' : Nat), Fm [] [] [12, 13, 14, 15, 16, 19, 20, 21, 22, 23, 24, 25, 26] t y → gM_EachAddsALineModel_countMissing_320 N (gM_EachAddsALineModel_countMissing_263 N f) (nI u) (nI r) (lN Y') (nI i) y = gM_EachAddsALineModel_countMissing_263 N f (nI u) (nI r) (lN (Y' + if can w no i then dnn w C ta n v 1 i else 0)) (nI (i + 1)) y := by
        intro y Y' fy
        have ecl := M_canLeave (N := N) (h.fm fy (by decide) (by decide)) ((fy.2.2 44 (by decide)).trans h44) hno hi
        have r17 : y.2 17 (40 + i) = lN (dnn w C ta n v 1 i) := by rw [fy.2.1 17 (by decide)]; exact (hD i hi 1 (by omega) (by omega)).1
        by_cases g : can w no i
        · rw [if_pos g] at ecl ⊢
          simp (disch := omega) only [Option.bind_some, ↓reduceIte, ↓M_1, ↓M_2, L_0, L_1, L_2, L_3, L_4, L_5, L_6, L_7, L_8, L_9, L_10, L_11, L_12, L_13, L_20, L_24, L_26, L_30, L_31, L_32, L_39, L_40, L_48, L_57, L_76, L_80, L_90, L_91, L_97, L_99, L_100, L_255, L_273, L_1000, L_2000, q_ld, q_ldL, q_sto, q_stoL, q_add, q_sub, q_mul, q_dec, q_rem, q_div, q_lt_t, q_lt_f, q_le_t, q_le_f, q_eq_t, q_eq_f, q_em, q_me, q_ml, q_lm, q_mle, q_lem, q_s1, q_s1o, q_s1k, q_s12, q_s2, q_s2o, q_s2k, q_s21, Nat.add_sub_cancel, q_or, q_and, q_shl, true_or, or_true, false_or, or_false, true_and, and_true, false_and, and_false, not_true_eq_false, not_false_eq_true, ne_eq, gM_EachAddsALineModel_countMissing_320, ecl, r17, gM_EachAddsALineModel_countMissing_344, lN_add]
        · rw [if_neg g] at ecl ⊢
          rw [Nat.add_zero]
          simp (disch := omega) only [Option.bind_some, ↓reduceIte, ↓M_1, ↓M_2, L_0, L_1, L_2, L_3, L_4, L_5, L_6, L_7, L_8, L_9, L_10, L_11, L_12, L_13, L_20, L_24, L_26, L_30, L_31, L_32, L_39, L_40, L_48, L_57, L_76, L_80, L_90, L_91, L_97, L_99, L_100, L_255, L_273, L_1000, L_2000, q_ld, q_ldL, q_sto, q_stoL, q_add, q_sub, q_mul, q_dec, q_rem, q_div, q_lt_t, q_lt_f, q_le_t, q_le_f, q_eq_t, q_eq_f, q_em, q_me, q_ml, q_lm, q_mle, q_lem, q_s1, q_s1o, q_s1k, q_s12, q_s2, q_s2o, q_s2k, q_s21, Nat.add_sub_cancel, q_or, q_and, q_shl, true_or, or_true, false_or, or_false, true_and, and_true, false_and, and_false, not_true_eq_false, not_false_eq_true, ne_eq, gM_EachAddsALineModel_countMissing_320, ecl, gM_EachAddsALineModel_countMissing_344]
      unfold tE
      rw [← Nat.add_assoc]
      by_cases c1 : 1 < n
      · obtain ⟨y, y1, y2, _⟩ := M_isSo (N := N) (k := 1) hN hz (hU.fm g2 (by decide) (by decide)) (hT.fm g2 (by decide)) (by omega) hi ⟨by omega, c1⟩
        have fy := g2.tr y2
        refine Or.inl ⟨y, ?_, by omega, fy⟩
        rw [← e320 y _ fy, gM_EachAddsALineModel_countMissing_263]
        by_cases c2 : SO w C ta 1 i
        · rw [if_pos c2] at y1
          have r18 : y.2 18 (80 + i) = lN (lss w C ta n v no (1 + 1) i) := by rw [fy.2.1 18 (by decide)]; exact (hD i hi 2 (by omega) (by omega)).2
          rw [if_pos (show 1 < n ∧ SO w C ta 1 i from ⟨c1, c2⟩)]
          simp (disch := omega) only [Option.bind_some, ↓reduceIte, ↓M_1, ↓M_2, L_0, L_1, L_2, L_3, L_4, L_5, L_6, L_7, L_8, L_9, L_10, L_11, L_12, L_13, L_20, L_24, L_26, L_30, L_31, L_32, L_39, L_40, L_48, L_57, L_76, L_80, L_90, L_91, L_97, L_99, L_100, L_255, L_273, L_1000, L_2000, q_ld, q_ldL, q_sto, q_stoL, q_add, q_sub, q_mul, q_dec, q_rem, q_div, q_lt_t, q_lt_f, q_le_t, q_le_f, q_eq_t, q_eq_f, q_em, q_me, q_ml, q_lm, q_mle, q_lem, q_s1, q_s1o, q_s1k, q_s12, q_s2, q_s2o, q_s2k, q_s21, Nat.add_sub_cancel, q_or, q_and, q_shl, true_or, or_true, false_or, or_false, true_and, and_true, false_and, and_false, not_true_eq_false, not_false_eq_true, ne_eq, z30, z40, eb, y1, r18, lN_add]
        · rw [if_neg c2] at y1
          rw [if_neg (show ¬ (1 < n ∧ SO w C ta 1 i) from fun z => c2 z.2), Nat.add_zero]
          simp (disch := omega) only [Option.bind_some, ↓reduceIte, ↓M_1, ↓M_2, L_0, L_1, L_2, L_3, L_4, L_5, L_6, L_7, L_8, L_9, L_10, L_11, L_12, L_13, L_20, L_24, L_26, L_30, L_31, L_32, L_39, L_40, L_48, L_57, L_76, L_80, L_90, L_91, L_97, L_99, L_100, L_255, L_273, L_1000, L_2000, q_ld, q_ldL, q_sto, q_stoL, q_add, q_sub, q_mul, q_dec, q_rem, q_div, q_lt_t, q_lt_f, q_le_t, q_le_f, q_eq_t, q_eq_f, q_em, q_me, q_ml, q_lm, q_mle, q_lem, q_s1, q_s1o, q_s1k, q_s12, q_s2, q_s2o, q_s2k, q_s21, Nat.add_sub_cancel, q_or, q_and, q_shl, true_or, or_true, false_or, or_false, true_and, and_true, false_and, and_false, not_true_eq_false, not_false_eq_true, ne_eq, z30, z40, eb, y1]
      · refine Or.inl ⟨z, ?_, by omega, g2⟩
        rw [← e320 z _ g2, if_neg (show ¬ (1 < n ∧ SO w C ta 1 i) from fun z => c1 z.1), Nat.add_zero Y, gM_EachAddsALineModel_countMissing_263]
        simp (disch := omega) only [Option.bind_some, ↓reduceIte, ↓M_1, ↓M_2, L_0, L_1, L_2, L_3, L_4, L_5, L_6, L_7, L_8, L_9, L_10, L_11, L_12, L_13, L_20, L_24, L_26, L_30, L_31, L_32, L_39, L_40, L_48, L_57, L_76, L_80, L_90, L_91, L_97, L_99, L_100, L_255, L_273, L_1000, L_2000, q_ld, q_ldL, q_sto, q_stoL, q_add, q_sub, q_mul, q_dec, q_rem, q_div, q_lt_t, q_lt_f, q_le_t, q_le_f, q_eq_t, q_eq_f, q_em, q_me, q_ml, q_lm, q_mle, q_lem, q_s1, q_s1o, q_s1k, q_s12, q_s2, q_s2o, q_s2k, q_s21, Nat.add_sub_cancel, q_or, q_and, q_shl, true_or, or_true, false_or, or_false, true_and, and_true, false_and, and_false, not_true_eq_false, not_false_eq_true, ne_eq, z30, z40, eb]
    · rw [if_neg c] at eb ⊢
      rw [Nat.add_zero Y]
      refine Or.inl ⟨z, ?_, by omega, g2⟩
      rw [gM_EachAddsALineModel_countMissing_263]
      simp (disch := omega) only [Option.bind_some, ↓reduceIte, ↓M_1, ↓M_2, L_0, L_1, L_2, L_3, L_4, L_5, L_6, L_7, L_8, L_9, L_10, L_11, L_12, L_13, L_20, L_24, L_26, L_30, L_31, L_32, L_39, L_40, L_48, L_57, L_76, L_80, L_90, L_91, L_97, L_99, L_100, L_255, L_273, L_1000, L_2000, q_ld, q_ldL, q_sto, q_stoL, q_add, q_sub, q_mul, q_dec, q_rem, q_div, q_lt_t, q_lt_f, q_le_t, q_le_f, q_eq_t, q_eq_f, q_em, q_me, q_ml, q_lm, q_mle, q_lem, q_s1, q_s1o, q_s1k, q_s12, q_s2, q_s2o, q_s2k, q_s21, Nat.add_sub_cancel, q_or, q_and, q_shl, true_or, or_true, false_or, or_false, true_and, and_true, false_and, and_false, not_true_eq_false, not_false_eq_true, ne_eq, z30, eb, gM_EachAddsALineModel_countMissing_344]
  · rintro f z ⟨g1, g2⟩
    have z30 : z.1 0 30 = nI (2 * w 5 1) := (g2.2.2 30 (by decide)).trans h30
    refine ⟨z, ?_, g2⟩
    show gM_EachAddsALineModel_countMissing_263 N (f + 1) (nI u) (nI r) (lN (wy w (tE w C ta n v no 1) u r (2 * w 5 1))) (nI (2 * w 5 1)) z = _
    rw [gM_EachAddsALineModel_countMissing_263]
    simp (disch := omega) only [Option.bind_some, ↓reduceIte, ↓M_1, ↓M_2, L_0, L_1, L_2, L_3, L_4, L_5, L_6, L_7, L_8, L_9, L_10, L_11, L_12, L_13, L_20, L_24, L_26, L_30, L_31, L_32, L_39, L_40, L_48, L_57, L_76, L_80, L_90, L_91, L_97, L_99, L_100, L_255, L_273, L_1000, L_2000, q_ld, q_ldL, q_sto, q_stoL, q_add, q_sub, q_mul, q_dec, q_rem, q_div, q_lt_t, q_lt_f, q_le_t, q_le_f, q_eq_t, q_eq_f, q_em, q_me, q_ml, q_lm, q_mle, q_lem, q_s1, q_s1o, q_s1k, q_s12, q_s2, q_s2o, q_s2k, q_s21, Nat.add_sub_cancel, q_or, q_and, q_shl, true_or, or_true, false_or, or_false, true_and, and_true, false_and, and_false, not_true_eq_false, not_false_eq_true, ne_eq, z30]
theorem M_countMissing (h : MW w t) (hN : 200 ≤ N) (hU : UM N q x C t) (hT : MT 0 n ta t) (hn0 : 0 < n) (h40 : t.1 0 40 = nI n) (h44 : t.1 0 44 = gI no) (hno : no ≤ 100) (hu : u < w 5 0) (hv : v < w 5 0) (hr : r < 1000) :
    ∃ z, fM_EachAddsALineModel_countMissing N (nI u) (nI v) (nI r) t = some (lN (wy w (tE w C ta n v no 1) u r (2 * w 5 1)), z) ∧ Fm [11] [17, 18] [12, 13, 14, 15, 16, 19, 20, 21, 22, 23, 24, 25, 26, 30] t z := by
  have hb := h.bd
  have hn := hT.1
  obtain ⟨t0, e, a1, a2, a3, a4, a5⟩ := M_findOrder (N := N) h (show 60 ≤ N by omega)
  have em : nI (2 * w 5 1) - nI 1 = nI (2 * w 5 1) + mI 1 := Int32.sub_eq_add_neg _ _
  have st : fM_EachAddsALineModel_countMissing N (nI u) (nI v) (nI r) t = gM_EachAddsALineModel_countMissing_12 N N (nI u) (nI v) (nI r) (nI (2 * w 5 1) + mI 1) t0 := by
    simp (disch := omega) only [Option.bind_some, ↓reduceIte, ↓M_1, ↓M_2, L_0, L_1, L_2, L_3, L_4, L_5, L_6, L_7, L_8, L_9, L_10, L_11, L_12, L_13, L_20, L_24, L_26, L_30, L_31, L_32, L_39, L_40, L_48, L_57, L_76, L_80, L_90, L_91, L_97, L_99, L_100, L_255, L_273, L_1000, L_2000, q_ld, q_ldL, q_sto, q_stoL, q_add, q_mul, q_rem, q_div, q_lt_t, q_lt_f, q_le_t, q_le_f, q_eq_t, q_eq_f, q_em, q_me, q_ml, q_lm, q_mle, q_lem, q_s1, q_s1o, q_s1k, q_s12, q_s2, q_s2o, q_s2k, q_s21, Nat.add_sub_cancel, q_or, q_and, q_shl, true_or, or_true, false_or, or_false, true_and, and_true, false_and, and_false, not_true_eq_false, not_false_eq_true, ne_eq, fM_EachAddsALineModel_countMissing, gM_EachAddsALineModel_countMissing_0, a1, a3, em]
  rw [st]
  refine loopD (fun f i z => gM_EachAddsALineModel_countMissing_12 N f (nI u) (nI v) (nI r) (nI i + mI 1) z) (2 * w 5 1) (fun i z => i ≤ 2 * w 5 1 ∧ Fm [] [17, 18] [12, 13, 14, 15, 16, 19, 20, 21, 22, 23, 24, 25, 26] t0 z ∧ ∀ j, i ≤ j → j < 2 * w 5 1 → MMo w C ta n v no (e j) z)
    (fun o => ∃ z, o = some (lN (wy w (tE w C ta n v no 1) u r (2 * w 5 1)), z) ∧ Fm [11] [17, 18] [12, 13, 14, 15, 16, 19, 20, 21, 22, 23, 24, 25, 26, 30] t z) ?_ ?_ (2 * w 5 1) N t0 (Nat.le_refl _) (by omega) ⟨Nat.le_refl _, Fm.rf, fun j h1 h2 => by omega⟩
  · rintro f i z hi ⟨g1, g2, g3⟩
    have fz : Fm [11] [17, 18] [12, 13, 14, 15, 16, 19, 20, 21, 22, 23, 24, 25, 26, 30] t z := (a2.mono (by decide) (by decide) (by decide)).tr (g2.mono (by decide) (by decide) (by decide))
    have hz : MW w z := h.fm fz (by decide) (by decide)
    have e1 : nI (i + 1) + mI 1 = nI i := q_dec (by omega)
    have z30 : z.1 0 30 = nI (2 * w 5 1) := (g2.2.2 30 (by decide)).trans a3
    have z40 : z.1 0 40 = nI n := (fz.2.2 40 (by decide)).trans h40
    have z44 : z.1 0 44 = gI no := (fz.2.2 44 (by decide)).trans h44
    have z11 : z.1 11 i = nI (e i) := by rw [g2.1 11 (by decide) (by decide)]; exact a4 i hi
    have ha := a5.1 i hi
    obtain ⟨y, y1, y2, y3, y4⟩ := M_cm32 (N := N) (v := v) (no := no) (a1 := nI u) (a3 := nI r) (m := i) (gM_EachAddsALineModel_countMissing_12 N f) hz (by omega) (hU.fm fz (by decide) (by decide)) (hT.fm fz (by decide)) hv ha z30 z40 z44 hno (fun o ho hf => by
      obtain ⟨j, j1, j2⟩ := srt_onto a5 ho
      have hij : i < j := srt_pos a5 j1 hi (by rw [j2]; exact fol_lt h.ok ha hf)
      rw [← j2]
      exact g3 j (by omega) j1)
    refine Or.inl ⟨y, ?_, by omega, g2.tr y2, fun j j1 j2 => ?_⟩
    · try simp only [e1]
      rw [gM_EachAddsALineModel_countMissing_12, ← y1]
      simp (disch := omega) only [Option.bind_some, ↓reduceIte, ↓M_1, ↓M_2, L_0, L_1, L_2, L_3, L_4, L_5, L_6, L_7, L_8, L_9, L_10, L_11, L_12, L_13, L_20, L_24, L_26, L_30, L_31, L_32, L_39, L_40, L_48, L_57, L_76, L_80, L_90, L_91, L_97, L_99, L_100, L_255, L_273, L_1000, L_2000, q_ld, q_ldL, q_sto, q_stoL, q_add, q_sub, q_mul, q_rem, q_div, q_lt_t, q_lt_f, q_le_t, q_le_f, q_eq_t, q_eq_f, q_em, q_me, q_ml, q_lm, q_mle, q_lem, q_s1, q_s1o, q_s1k, q_s12, q_s2, q_s2o, q_s2k, q_s21, Nat.add_sub_cancel, q_or, q_and, q_shl, true_or, or_true, false_or, or_false, true_and, and_true, false_and, and_false, not_true_eq_false, not_false_eq_true, ne_eq, z11, z40]
    · by_cases c : j = i
      · subst c; exact y3
      · have ne : e j ≠ e i := fun y => c (srt_inj a5 j2 hi y)
        intro k k1 k2
        have := y4 (e j) (a5.1 j j2) ne k
        rw [← this.1, ← this.2]
        exact g3 j (by omega) j2 k k1 k2
  · rintro f z ⟨g1, g2, g3⟩
    have fz : Fm [11] [17, 18] [12, 13, 14, 15, 16, 19, 20, 21, 22, 23, 24, 25, 26, 30] t z := (a2.mono (by decide) (by decide) (by decide)).tr (g2.mono (by decide) (by decide) (by decide))
    have hz : MW w z := h.fm fz (by decide) (by decide)
    obtain ⟨y, y1, y2⟩ := M_cm263 (N := N) (u := u) (r := r) (v := v) (no := no) hz (by omega) (hU.fm fz (by decide) (by decide)) (hT.fm fz (by decide)) hn0 hu hr ((g2.2.2 30 (by decide)).trans a3) ((fz.2.2 40 (by decide)).trans h40) ((fz.2.2 44 (by decide)).trans h44) hno (fun o ho => by
      obtain ⟨j, j1, j2⟩ := srt_onto a5 ho
      rw [← j2]
      exact g3 j (by omega) j1)
    refine ⟨y, ?_, fz.tr (y2.mono (by decide) (by decide) (by decide))⟩
    show gM_EachAddsALineModel_countMissing_12 N (f + 1) (nI u) (nI v) (nI r) (nI 0 + mI 1) z = _
    rw [gM_EachAddsALineModel_countMissing_12, if_pos (by decide), l_0, L_0, y1]
theorem M_miss45 (h : MW w t) (hN : 200 ≤ N) (hU : UM N q x C t) (hT : MT 0 n ta t) (hn0 : 0 < n) (h40 : t.1 0 40 = nI n) (hu : u < w 5 0) (hv : v < w 5 0) (hr : r < 1000) {A : Nat} :
    ∃ z, gM_EachAddsALineModel_missing_45 N N (nI u) (nI v) (nI r) (lN A) (nI 0) (nI 0) t = ((fM_EachAddsALineModel_tell N (nI (wrP (fun i => ∃ o, o < 2 * w 5 1 ∧ beg w u r o ∧ Pv w C ta n v 1 o i) (w 5 0))) (s1 (s1 z 0 44 (mI 1)) 0 10 (nI 0))).bind fun z3 => some (lN A, z3)) ∧ Fm [11] [17, 18] [12, 13, 14, 15, 16, 19, 20, 21, 22, 23, 24, 25, 26, 30, 44] t z := by
  have hb := h.bd
  refine loopU (fun f i z => gM_EachAddsALineModel_missing_45 N f (nI u) (nI v) (nI r) (lN A) (nI (wrP (fun i => ∃ o, o < 2 * w 5 1 ∧ beg w u r o ∧ Pv w C ta n v 1 o i) i)) (nI i) z) (w 5 0) (fun i z => i ≤ w 5 0 ∧ Fm [11] [17, 18] [12, 13, 14, 15, 16, 19, 20, 21, 22, 23, 24, 25, 26, 30, 44] t z)
    (fun o => ∃ z, o = ((fM_EachAddsALineModel_tell N (nI (wrP (fun i => ∃ o, o < 2 * w 5 1 ∧ beg w u r o ∧ Pv w C ta n v 1 o i) (w 5 0))) (s1 (s1 z 0 44 (mI 1)) 0 10 (nI 0))).bind fun z3 => some (lN A, z3)) ∧ Fm [11] [17, 18] [12, 13, 14, 15, 16, 19, 20, 21, 22, 23, 24, 25, 26, 30, 44] t z) ?_ ?_ (w 5 0) N 0 t (by omega) (by omega) ⟨by omega, Fm.rf⟩
  · rintro f i z hi ⟨g1, g2⟩
    have f44 : Fm [] [] [44] z (s1 z 0 44 (nI i)) := Fm.w10 (by decide)
    have f2 : Fm [11] [17, 18] [12, 13, 14, 15, 16, 19, 20, 21, 22, 23, 24, 25, 26, 30, 44] t (s1 z 0 44 (nI i)) := g2.tr (f44.mono (by decide) (by decide) (by decide))
    have hz : MW w z := h.fm g2 (by decide) (by decide)
    obtain ⟨y, y1, y2⟩ := M_countMissing (N := N) (u := u) (v := v) (r := r) (no := i) (h.fm f2 (by decide) (by decide)) hN (hU.fm f2 (by decide) (by decide)) (hT.fm f2 (by decide)) hn0 ((f2.2.2 40 (by decide)).trans h40) (by rw [q_s1, gI_nI (by omega)]) (by omega) hu hv hr
    have hA := miss_lt (C := C) (ta := ta) (n := n) (v := v) (no := i) (u := u) (r := r) h.ok hT.1
    have ec := cmpL_le (a := wy w (tE w C ta n v i 1) u r (2 * w 5 1)) (b := 0) hA (by decide)
    have hp := wyE_pos (w := w) (C := C) (ta := ta) (n := n) (v := v) (u := u) (r := r) (k := 1) (i := i) (m := 2 * w 5 1) (by omega)
    refine Or.inl ⟨y, ?_, by omega, f2.tr (y2.mono (by decide) (by decide) (by decide))⟩
    show gM_EachAddsALineModel_missing_45 N (f + 1) (nI u) (nI v) (nI r) (lN A) (nI (wrP (fun i => ∃ o, o < 2 * w 5 1 ∧ beg w u r o ∧ Pv w C ta n v 1 o i) i)) (nI i) z = gM_EachAddsALineModel_missing_45 N f (nI u) (nI v) (nI r) (lN A) (nI (wrP (fun i => ∃ o, o < 2 * w 5 1 ∧ beg w u r o ∧ Pv w C ta n v 1 o i) (i + 1))) (nI (i + 1)) y
    by_cases c : 0 < wy w (tE w C ta n v i 1) u r (2 * w 5 1)
    · rw [eq_false (show ¬ wy w (tE w C ta n v i 1) u r (2 * w 5 1) ≤ 0 by omega)] at ec
      rw [wrP_t (hp.mp c)]
      generalize wrP (fun i => ∃ o, o < 2 * w 5 1 ∧ beg w u r o ∧ Pv w C ta n v 1 o i) i = B
      rw [gM_EachAddsALineModel_missing_45]
      simp (disch := omega) only [Option.bind_some, ↓reduceIte, ↓M_1, ↓M_2, L_0, L_1, L_2, L_3, L_4, L_5, L_6, L_7, L_8, L_9, L_10, L_11, L_12, L_13, L_20, L_24, L_26, L_30, L_31, L_32, L_39, L_40, L_48, L_57, L_76, L_80, L_90, L_91, L_97, L_99, L_100, L_255, L_273, L_1000, L_2000, q_ld, q_ldL, q_sto, q_stoL, q_add, q_sub, q_mul, q_dec, q_rem, q_div, q_lt_t, q_lt_f, q_le_t, q_le_f, q_eq_t, q_eq_f, q_em, q_me, q_ml, q_lm, q_mle, q_lem, q_s1, q_s1o, q_s1k, q_s12, q_s2, q_s2o, q_s2k, q_s21, Nat.add_sub_cancel, q_or, q_and, q_shl, true_or, or_true, false_or, or_false, true_and, and_true, false_and, and_false, not_true_eq_false, not_false_eq_true, ne_eq, hz.p, y1, l_0, ec, gM_EachAddsALineModel_missing_82, q_or, q_shl]
    · rw [eq_true (show wy w (tE w C ta n v i 1) u r (2 * w 5 1) ≤ 0 by omega)] at ec
      rw [wrP_f (fun z => c (hp.mpr z))]
      generalize wrP (fun i => ∃ o, o < 2 * w 5 1 ∧ beg w u r o ∧ Pv w C ta n v 1 o i) i = B
      rw [gM_EachAddsALineModel_missing_45]
      simp (disch := omega) only [Option.bind_some, ↓reduceIte, ↓M_1, ↓M_2, L_0, L_1, L_2, L_3, L_4, L_5, L_6, L_7, L_8, L_9, L_10, L_11, L_12, L_13, L_20, L_24, L_26, L_30, L_31, L_32, L_39, L_40, L_48, L_57, L_76, L_80, L_90, L_91, L_97, L_99, L_100, L_255, L_273, L_1000, L_2000, q_ld, q_ldL, q_sto, q_stoL, q_add, q_sub, q_mul, q_dec, q_rem, q_div, q_lt_t, q_lt_f, q_le_t, q_le_f, q_eq_t, q_eq_f, q_em, q_me, q_ml, q_lm, q_mle, q_lem, q_s1, q_s1o, q_s1k, q_s12, q_s2, q_s2o, q_s2k, q_s21, Nat.add_sub_cancel, q_or, q_and, q_shl, true_or, or_true, false_or, or_false, true_and, and_true, false_and, and_false, not_true_eq_false, not_false_eq_true, ne_eq, hz.p, y1, l_0, ec, gM_EachAddsALineModel_missing_82, q_or, Nat.or_zero]
  · rintro f z ⟨g1, g2⟩
    have hz : MW w z := h.fm g2 (by decide) (by decide)
    refine ⟨z, ?_, g2⟩
    show gM_EachAddsALineModel_missing_45 N (f + 1) (nI u) (nI v) (nI r) (lN A) (nI (wrP (fun i => ∃ o, o < 2 * w 5 1 ∧ beg w u r o ∧ Pv w C ta n v 1 o i) (w 5 0))) (nI (w 5 0)) z = _
    rw [gM_EachAddsALineModel_missing_45]
    simp (disch := omega) only [Option.bind_some, ↓reduceIte, ↓M_1, ↓M_2, L_0, L_1, L_2, L_3, L_4, L_5, L_6, L_7, L_8, L_9, L_10, L_11, L_12, L_13, L_20, L_24, L_26, L_30, L_31, L_32, L_39, L_40, L_48, L_57, L_76, L_80, L_90, L_91, L_97, L_99, L_100, L_255, L_273, L_1000, L_2000, q_ld, q_ldL, q_sto, q_stoL, q_add, q_sub, q_mul, q_dec, q_rem, q_div, q_lt_t, q_lt_f, q_le_t, q_le_f, q_eq_t, q_eq_f, q_em, q_me, q_ml, q_lm, q_mle, q_lem, q_s1, q_s1o, q_s1k, q_s12, q_s2, q_s2o, q_s2k, q_s21, Nat.add_sub_cancel, q_or, q_and, q_shl, true_or, or_true, false_or, or_false, true_and, and_true, false_and, and_false, not_true_eq_false, not_false_eq_true, ne_eq, hz.p]
end MM
