/-! the text, sign by sign; tale -/
theorem q_ms (a b : Nat) : mI a - nI b = mI (a + b) := by
  rw [z_m, z_n, z_sub, z_m]
  congr 1
  omega
theorem M_100 : (-100 : Int32) = mI 100 := by decide
theorem M_200 : (-200 : Int32) = mI 200 := by decide
theorem byteI_eq : ∀ y, y < 256 → byteI y = if y < 128 then nI y else mI (256 - y) := by decide +kernel
theorem by_n {y : Nat} (h : y < 128) : byteI y = nI y := (byteI_eq y (by omega)).trans (if_pos h)
theorem by_in {y a b : Nat} (h : y < 256) (ha : a < 128) (hb : b < 128) : (byteI y < nI a ∨ nI b < byteI y) = ¬ (a ≤ y ∧ y ≤ b) := by
  refine propext ?_
  rw [byteI_eq y h]
  by_cases c : y < 128
  · rw [if_pos c, nI_ltI (by omega) (by omega), nI_ltI (by omega) (by omega)]
    omega
  · rw [if_neg c]
    exact ⟨fun _ => by omega, fun _ => Or.inl (of_eq_true (q_ml (by omega) (by omega) (by omega)))⟩
theorem by_eq {y a : Nat} (h : y < 256) (ha : a < 128) : (byteI y = nI a) = (y = a) := by
  rw [byteI_eq y h]
  by_cases c : y < 128
  · rw [if_pos c]
    exact propext (nI_eq (by omega) (by omega))
  · rw [if_neg c, q_me (by omega) (by omega) (by omega)]
    exact propext ⟨False.elim, fun z => by omega⟩
/-- the signs that are there -/
def TXd (n : Nat) (x : Nat → Nat) (s t : vSt) : Prop := n ≤ 80 ∧ s.1 1 1 = nI n ∧ t.1 0 8 = nI n ∧ ∀ k, k < n → x k < 256 ∧ s.1 2 k = nI (x k) ∧ t.1 6 k = byteI (x k)
theorem TX.d {s t : vSt} (h : TX s t) : ∃ n x, TXd n x s t := by
  obtain ⟨n, h1, h2, h3, h4⟩ := h
  have h' : ∀ k : Nat, ∃ y : Nat, k < n → y < 256 ∧ s.1 2 k = nI y ∧ t.1 6 k = byteI y := fun k => by
    by_cases c : k < n
    · obtain ⟨y, hy⟩ := h4 k c
      exact ⟨y, fun _ => hy⟩
    · exact ⟨0, fun z => absurd z c⟩
  exact ⟨n, fun k => Classical.choose (h' k), h1, h2, h3, fun k hk => Classical.choose_spec (h' k) hk⟩
section TL
variable {N : Nat} {U : vSt → vSt → Prop} {s t z : vSt} {n cap a y : Nat} {x : Nat → Nat}
theorem C_signAt (h1 : s.1 1 1 = nI n) (hn : n ≤ 80) {p : Nat} (hp : p < n) : fC_Text_signAt N (nI p) s = some (s.1 2 p, s) := by
  simp (disch := omega) only [Option.bind_some, ↓reduceIte, ↓M_1, ↓M_2, L_0, L_1, L_2, L_3, L_4, L_5, L_6, L_7, L_8, L_9, L_10, L_11, L_12, L_13, L_20, L_24, L_26, L_30, L_31, L_32, L_39, L_40, L_48, L_57, L_76, L_80, L_90, L_91, L_97, L_99, L_100, L_255, L_273, L_1000, L_2000, q_ld, q_ldL, q_sto, q_stoL, q_add, q_sub, q_mul, q_dec, q_rem, q_div, q_lt_t, q_lt_f, q_le_t, q_le_f, q_eq_t, q_eq_f, q_em, q_me, q_ml, q_lm, q_mle, q_lem, q_s1, q_s1o, q_s1k, q_s12, q_s2, q_s2o, q_s2k, q_s21, Nat.add_sub_cancel, q_or, q_and, q_shl, true_or, or_true, false_or, or_false, true_and, and_true, false_and, and_false, not_true_eq_false, not_false_eq_true, ne_eq, fC_Text_signAt, gC_Text_signAt_0, h1]
theorem C_signAt_no (h1 : s.1 1 1 = nI n) (hn : n ≤ 80) {p : Nat} (hp : n ≤ p) (h2 : p < 1000) : fC_Text_signAt N (nI p) s = some (mI 1, s) := by
  simp (disch := omega) only [Option.bind_some, ↓reduceIte, ↓M_1, ↓M_2, L_0, L_1, L_2, L_3, L_4, L_5, L_6, L_7, L_8, L_9, L_10, L_11, L_12, L_13, L_20, L_24, L_26, L_30, L_31, L_32, L_39, L_40, L_48, L_57, L_76, L_80, L_90, L_91, L_97, L_99, L_100, L_255, L_273, L_1000, L_2000, q_ld, q_ldL, q_sto, q_stoL, q_add, q_sub, q_mul, q_dec, q_rem, q_div, q_lt_t, q_lt_f, q_le_t, q_le_f, q_eq_t, q_eq_f, q_em, q_me, q_ml, q_lm, q_mle, q_lem, q_s1, q_s1o, q_s1k, q_s12, q_s2, q_s2o, q_s2k, q_s21, Nat.add_sub_cancel, q_or, q_and, q_shl, true_or, or_true, false_or, or_false, true_and, and_true, false_and, and_false, not_true_eq_false, not_false_eq_true, ne_eq, fC_Text_signAt, gC_Text_signAt_0, gC_Text_signAt_21, h1]
theorem C_isDigit {y : Nat} (hy : y < 256) : fC_Text_isDigit N (nI y) s = some (if 48 ≤ y ∧ y ≤ 57 then nI 1 else nI 0, s) := by
  by_cases c : y < 48
  · rw [if_neg (by omega)]
    simp (disch := omega) only [Option.bind_some, ↓reduceIte, ↓M_1, ↓M_2, L_0, L_1, L_2, L_3, L_4, L_5, L_6, L_7, L_8, L_9, L_10, L_11, L_12, L_13, L_20, L_24, L_26, L_30, L_31, L_32, L_39, L_40, L_48, L_57, L_76, L_80, L_90, L_91, L_97, L_99, L_100, L_255, L_273, L_1000, L_2000, q_ld, q_ldL, q_sto, q_stoL, q_add, q_sub, q_mul, q_dec, q_rem, q_div, q_lt_t, q_lt_f, q_le_t, q_le_f, q_eq_t, q_eq_f, q_em, q_me, q_ml, q_lm, q_mle, q_lem, q_s1, q_s1o, q_s1k, q_s12, q_s2, q_s2o, q_s2k, q_s21, Nat.add_sub_cancel, q_or, q_and, q_shl, true_or, or_true, false_or, or_false, true_and, and_true, false_and, and_false, not_true_eq_false, not_false_eq_true, ne_eq, fC_Text_isDigit, gC_Text_isDigit_0, gC_Text_isDigit_16]
  · by_cases d : y ≤ 57
    · rw [if_pos (by omega)]
      simp (disch := omega) only [Option.bind_some, ↓reduceIte, ↓M_1, ↓M_2, L_0, L_1, L_2, L_3, L_4, L_5, L_6, L_7, L_8, L_9, L_10, L_11, L_12, L_13, L_20, L_24, L_26, L_30, L_31, L_32, L_39, L_40, L_48, L_57, L_76, L_80, L_90, L_91, L_97, L_99, L_100, L_255, L_273, L_1000, L_2000, q_ld, q_ldL, q_sto, q_stoL, q_add, q_sub, q_mul, q_dec, q_rem, q_div, q_lt_t, q_lt_f, q_le_t, q_le_f, q_eq_t, q_eq_f, q_em, q_me, q_ml, q_lm, q_mle, q_lem, q_s1, q_s1o, q_s1k, q_s12, q_s2, q_s2o, q_s2k, q_s21, Nat.add_sub_cancel, q_or, q_and, q_shl, true_or, or_true, false_or, or_false, true_and, and_true, false_and, and_false, not_true_eq_false, not_false_eq_true, ne_eq, fC_Text_isDigit, gC_Text_isDigit_0, gC_Text_isDigit_16]
    · rw [if_neg (by omega)]
      simp (disch := omega) only [Option.bind_some, ↓reduceIte, ↓M_1, ↓M_2, L_0, L_1, L_2, L_3, L_4, L_5, L_6, L_7, L_8, L_9, L_10, L_11, L_12, L_13, L_20, L_24, L_26, L_30, L_31, L_32, L_39, L_40, L_48, L_57, L_76, L_80, L_90, L_91, L_97, L_99, L_100, L_255, L_273, L_1000, L_2000, q_ld, q_ldL, q_sto, q_stoL, q_add, q_sub, q_mul, q_dec, q_rem, q_div, q_lt_t, q_lt_f, q_le_t, q_le_f, q_eq_t, q_eq_f, q_em, q_me, q_ml, q_lm, q_mle, q_lem, q_s1, q_s1o, q_s1k, q_s12, q_s2, q_s2o, q_s2k, q_s21, Nat.add_sub_cancel, q_or, q_and, q_shl, true_or, or_true, false_or, or_false, true_and, and_true, false_and, and_false, not_true_eq_false, not_false_eq_true, ne_eq, fC_Text_isDigit, gC_Text_isDigit_0, gC_Text_isDigit_16]
theorem M_here6 (h12 : z.1 0 12 = nI 6) (h13 : z.1 0 13 = nI n) (h14 : z.1 0 14 = nI cap) (h15 : z.1 0 15 = nI a) (hn : n ≤ 80) (hc : cap ≤ 80) (ha : a < n) (ha2 : a < cap) : fM_EachAddsALineModel_here N z = some (z.1 6 a, z) := by
  simp (disch := omega) only [Option.bind_some, ↓reduceIte, ↓M_1, ↓M_2, L_0, L_1, L_2, L_3, L_4, L_5, L_6, L_7, L_8, L_9, L_10, L_11, L_12, L_13, L_20, L_24, L_26, L_30, L_31, L_32, L_39, L_40, L_48, L_57, L_76, L_80, L_90, L_91, L_97, L_99, L_100, L_255, L_273, L_1000, L_2000, q_ld, q_ldL, q_sto, q_stoL, q_add, q_sub, q_mul, q_dec, q_rem, q_div, q_lt_t, q_lt_f, q_le_t, q_le_f, q_eq_t, q_eq_f, q_em, q_me, q_ml, q_lm, q_mle, q_lem, q_s1, q_s1o, q_s1k, q_s12, q_s2, q_s2o, q_s2k, q_s21, Nat.add_sub_cancel, q_or, q_and, q_shl, true_or, or_true, false_or, or_false, true_and, and_true, false_and, and_false, not_true_eq_false, not_false_eq_true, ne_eq, fM_EachAddsALineModel_here, gM_EachAddsALineModel_here_0, h12, h13, h14, h15]
theorem M_here_no (h13 : z.1 0 13 = nI n) (h14 : z.1 0 14 = nI cap) (h15 : z.1 0 15 = nI a) (hn : n ≤ 80) (hc : cap ≤ 80) (ha3 : a < 1000) (ha : ¬ (a < n ∧ a < cap)) : fM_EachAddsALineModel_here N z = some (mI 1, z) := by
  by_cases c : n ≤ a
  · simp (disch := omega) only [Option.bind_some, ↓reduceIte, ↓M_1, ↓M_2, L_0, L_1, L_2, L_3, L_4, L_5, L_6, L_7, L_8, L_9, L_10, L_11, L_12, L_13, L_20, L_24, L_26, L_30, L_31, L_32, L_39, L_40, L_48, L_57, L_76, L_80, L_90, L_91, L_97, L_99, L_100, L_255, L_273, L_1000, L_2000, q_ld, q_ldL, q_sto, q_stoL, q_add, q_sub, q_mul, q_dec, q_rem, q_div, q_lt_t, q_lt_f, q_le_t, q_le_f, q_eq_t, q_eq_f, q_em, q_me, q_ml, q_lm, q_mle, q_lem, q_s1, q_s1o, q_s1k, q_s12, q_s2, q_s2o, q_s2k, q_s21, Nat.add_sub_cancel, q_or, q_and, q_shl, true_or, or_true, false_or, or_false, true_and, and_true, false_and, and_false, not_true_eq_false, not_false_eq_true, ne_eq, fM_EachAddsALineModel_here, gM_EachAddsALineModel_here_0, gM_EachAddsALineModel_here_34, h13, h14, h15]
  · have d : cap ≤ a := by omega
    simp (disch := omega) only [Option.bind_some, ↓reduceIte, ↓M_1, ↓M_2, L_0, L_1, L_2, L_3, L_4, L_5, L_6, L_7, L_8, L_9, L_10, L_11, L_12, L_13, L_20, L_24, L_26, L_30, L_31, L_32, L_39, L_40, L_48, L_57, L_76, L_80, L_90, L_91, L_97, L_99, L_100, L_255, L_273, L_1000, L_2000, q_ld, q_ldL, q_sto, q_stoL, q_add, q_sub, q_mul, q_dec, q_rem, q_div, q_lt_t, q_lt_f, q_le_t, q_le_f, q_eq_t, q_eq_f, q_em, q_me, q_ml, q_lm, q_mle, q_lem, q_s1, q_s1o, q_s1k, q_s12, q_s2, q_s2o, q_s2k, q_s21, Nat.add_sub_cancel, q_or, q_and, q_shl, true_or, or_true, false_or, or_false, true_and, and_true, false_and, and_false, not_true_eq_false, not_false_eq_true, ne_eq, fM_EachAddsALineModel_here, gM_EachAddsALineModel_here_0, gM_EachAddsALineModel_here_34, h13, h14, h15]
theorem M_fine_t (h : z.1 0 16 = mI 1) : fM_EachAddsALineModel_fine N z = some (nI 1, z) := by
  simp (disch := omega) only [Option.bind_some, ↓reduceIte, ↓M_1, ↓M_2, L_0, L_1, L_2, L_3, L_4, L_5, L_6, L_7, L_8, L_9, L_10, L_11, L_12, L_13, L_20, L_24, L_26, L_30, L_31, L_32, L_39, L_40, L_48, L_57, L_76, L_80, L_90, L_91, L_97, L_99, L_100, L_255, L_273, L_1000, L_2000, q_ld, q_ldL, q_sto, q_stoL, q_add, q_sub, q_mul, q_dec, q_rem, q_div, q_lt_t, q_lt_f, q_le_t, q_le_f, q_eq_t, q_eq_f, q_em, q_me, q_ml, q_lm, q_mle, q_lem, q_s1, q_s1o, q_s1k, q_s12, q_s2, q_s2o, q_s2k, q_s21, Nat.add_sub_cancel, q_or, q_and, q_shl, true_or, or_true, false_or, or_false, true_and, and_true, false_and, and_false, not_true_eq_false, not_false_eq_true, ne_eq, fM_EachAddsALineModel_fine, gM_EachAddsALineModel_fine_0, h]
theorem M_fine_f {p : Nat} (h : z.1 0 16 = nI p) (hp : p < 1000) : fM_EachAddsALineModel_fine N z = some (nI 0, z) := by
  simp (disch := omega) only [Option.bind_some, ↓reduceIte, ↓M_1, ↓M_2, L_0, L_1, L_2, L_3, L_4, L_5, L_6, L_7, L_8, L_9, L_10, L_11, L_12, L_13, L_20, L_24, L_26, L_30, L_31, L_32, L_39, L_40, L_48, L_57, L_76, L_80, L_90, L_91, L_97, L_99, L_100, L_255, L_273, L_1000, L_2000, q_ld, q_ldL, q_sto, q_stoL, q_add, q_sub, q_mul, q_dec, q_rem, q_div, q_lt_t, q_lt_f, q_le_t, q_le_f, q_eq_t, q_eq_f, q_em, q_me, q_ml, q_lm, q_mle, q_lem, q_s1, q_s1o, q_s1k, q_s12, q_s2, q_s2o, q_s2k, q_s21, Nat.add_sub_cancel, q_or, q_and, q_shl, true_or, or_true, false_or, or_false, true_and, and_true, false_and, and_false, not_true_eq_false, not_false_eq_true, ne_eq, fM_EachAddsALineModel_fine, gM_EachAddsALineModel_fine_0, h]
theorem M_fault_t {v : Int32} (h : z.1 0 16 = mI 1) : fM_EachAddsALineModel_fault N v z = some (s1 z 0 16 v) := by
  simp (disch := omega) only [Option.bind_some, ↓reduceIte, ↓M_1, ↓M_2, L_0, L_1, L_2, L_3, L_4, L_5, L_6, L_7, L_8, L_9, L_10, L_11, L_12, L_13, L_20, L_24, L_26, L_30, L_31, L_32, L_39, L_40, L_48, L_57, L_76, L_80, L_90, L_91, L_97, L_99, L_100, L_255, L_273, L_1000, L_2000, q_ld, q_ldL, q_sto, q_stoL, q_add, q_sub, q_mul, q_dec, q_rem, q_div, q_lt_t, q_lt_f, q_le_t, q_le_f, q_eq_t, q_eq_f, q_em, q_me, q_ml, q_lm, q_mle, q_lem, q_s1, q_s1o, q_s1k, q_s12, q_s2, q_s2o, q_s2k, q_s21, Nat.add_sub_cancel, q_or, q_and, q_shl, true_or, or_true, false_or, or_false, true_and, and_true, false_and, and_false, not_true_eq_false, not_false_eq_true, ne_eq, fM_EachAddsALineModel_fault, gM_EachAddsALineModel_fault_0, M_fine_t h]
theorem M_fault_f {p : Nat} {v : Int32} (h : z.1 0 16 = nI p) (hp : p < 1000) : fM_EachAddsALineModel_fault N v z = some z := by
  simp (disch := omega) only [Option.bind_some, ↓reduceIte, ↓M_1, ↓M_2, L_0, L_1, L_2, L_3, L_4, L_5, L_6, L_7, L_8, L_9, L_10, L_11, L_12, L_13, L_20, L_24, L_26, L_30, L_31, L_32, L_39, L_40, L_48, L_57, L_76, L_80, L_90, L_91, L_97, L_99, L_100, L_255, L_273, L_1000, L_2000, q_ld, q_ldL, q_sto, q_stoL, q_add, q_sub, q_mul, q_dec, q_rem, q_div, q_lt_t, q_lt_f, q_le_t, q_le_f, q_eq_t, q_eq_f, q_em, q_me, q_ml, q_lm, q_mle, q_lem, q_s1, q_s1o, q_s1k, q_s12, q_s2, q_s2o, q_s2k, q_s21, Nat.add_sub_cancel, q_or, q_and, q_shl, true_or, or_true, false_or, or_false, true_and, and_true, false_and, and_false, not_true_eq_false, not_false_eq_true, ne_eq, fM_EachAddsALineModel_fault, gM_EachAddsALineModel_fault_0, M_fine_f h hp]
def taB (x : Nat → Nat) (p : Nat) : Bool := !(decide (p < 12) && decide (48 ≤ x p ∧ x p ≤ 57))
theorem taB_f {p : Nat} (h : p < 12) (h2 : 48 ≤ x p ∧ x p ≤ 57) : taB x p = false := by unfold taB; rw [decide_eq_true h, decide_eq_true h2]; rfl
theorem taB_t {p : Nat} (h : ¬ (p < 12 ∧ 48 ≤ x p ∧ x p ≤ 57)) : taB x p = true := by
  unfold taB
  by_cases c : p < 12
  · rw [decide_eq_false (fun z => h ⟨c, z⟩), Bool.and_false]; rfl
  · rw [decide_eq_false c]; rfl
theorem taB_of {p : Nat} (h : taB x p = false) : p < 12 ∧ 48 ≤ x p ∧ x p ≤ 57 := Classical.byContradiction (fun c => by rw [taB_t c] at h; cases h)
theorem C_taleFault (hN : 100 ≤ N) (h1 : s.1 1 1 = nI n) (hn : n ≤ 80) (hx : ∀ k, k < n → x k < 256 ∧ s.1 2 k = nI (x k)) : fC_EachAddsALine_taleFault N s = some (nxI (fst1 (taB x) n) n, s) := by
  simp (disch := omega) only [Option.bind_some, ↓reduceIte, ↓M_1, ↓M_2, L_0, L_1, L_2, L_3, L_4, L_5, L_6, L_7, L_8, L_9, L_10, L_11, L_12, L_13, L_20, L_24, L_26, L_30, L_31, L_32, L_39, L_40, L_48, L_57, L_76, L_80, L_90, L_91, L_97, L_99, L_100, L_255, L_273, L_1000, L_2000, q_ld, q_ldL, q_sto, q_stoL, q_add, q_sub, q_mul, q_dec, q_rem, q_div, q_lt_t, q_lt_f, q_le_t, q_le_f, q_eq_t, q_eq_f, q_em, q_me, q_ml, q_lm, q_mle, q_lem, q_s1, q_s1o, q_s1k, q_s12, q_s2, q_s2o, q_s2k, q_s21, Nat.add_sub_cancel, q_or, q_and, q_shl, true_or, or_true, false_or, or_false, true_and, and_true, false_and, and_false, not_true_eq_false, not_false_eq_true, ne_eq, fC_EachAddsALine_taleFault, gC_EachAddsALine_taleFault_0]
  refine loopU (fun f i (_ : Unit) => gC_EachAddsALine_taleFault_2 N f (nI i) s) n (fun i _ => i ≤ n ∧ ∀ j, j < i → taB x j = false) (fun o => o = some (nxI (fst1 (taB x) n) n, s)) ?_ ?_ n N 0 () (by omega) (by omega) ⟨by omega, fun j hj => by omega⟩
  · rintro f i _ hi ⟨g1, g2⟩
    have es := C_signAt (N := N) h1 hn hi
    rw [(hx i hi).2] at es
    have ed := C_isDigit (N := N) (s := s) (hx i hi).1
    by_cases c : i < 12
    · by_cases d : 48 ≤ x i ∧ x i ≤ 57
      · rw [if_pos d] at ed
        refine Or.inl ⟨(), ?_, by omega, fun j hj => ?_⟩
        · rw [gC_EachAddsALine_taleFault_2]
          simp (disch := omega) only [Option.bind_some, ↓reduceIte, ↓M_1, ↓M_2, L_0, L_1, L_2, L_3, L_4, L_5, L_6, L_7, L_8, L_9, L_10, L_11, L_12, L_13, L_20, L_24, L_26, L_30, L_31, L_32, L_39, L_40, L_48, L_57, L_76, L_80, L_90, L_91, L_97, L_99, L_100, L_255, L_273, L_1000, L_2000, q_ld, q_ldL, q_sto, q_stoL, q_add, q_sub, q_mul, q_dec, q_rem, q_div, q_lt_t, q_lt_f, q_le_t, q_le_f, q_eq_t, q_eq_f, q_em, q_me, q_ml, q_lm, q_mle, q_lem, q_s1, q_s1o, q_s1k, q_s12, q_s2, q_s2o, q_s2k, q_s21, Nat.add_sub_cancel, q_or, q_and, q_shl, true_or, or_true, false_or, or_false, true_and, and_true, false_and, and_false, not_true_eq_false, not_false_eq_true, ne_eq, h1, es, ed]
        · by_cases e : j = i
          · rw [e]; exact taB_f c d
          · exact g2 j (by omega)
      · rw [if_neg d] at ed
        refine Or.inr ?_
        rw [fst1_of hi (taB_t (fun q => d q.2)) g2, show nxI i n = nI i from if_pos hi]
        try simp only
        rw [gC_EachAddsALine_taleFault_2]
        simp (disch := omega) only [Option.bind_some, ↓reduceIte, ↓M_1, ↓M_2, L_0, L_1, L_2, L_3, L_4, L_5, L_6, L_7, L_8, L_9, L_10, L_11, L_12, L_13, L_20, L_24, L_26, L_30, L_31, L_32, L_39, L_40, L_48, L_57, L_76, L_80, L_90, L_91, L_97, L_99, L_100, L_255, L_273, L_1000, L_2000, q_ld, q_ldL, q_sto, q_stoL, q_add, q_sub, q_mul, q_dec, q_rem, q_div, q_lt_t, q_lt_f, q_le_t, q_le_f, q_eq_t, q_eq_f, q_em, q_me, q_ml, q_lm, q_mle, q_lem, q_s1, q_s1o, q_s1k, q_s12, q_s2, q_s2o, q_s2k, q_s21, Nat.add_sub_cancel, q_or, q_and, q_shl, true_or, or_true, false_or, or_false, true_and, and_true, false_and, and_false, not_true_eq_false, not_false_eq_true, ne_eq, h1, es, ed]
    · refine Or.inr ?_
      rw [fst1_of hi (taB_t (fun q => c q.1)) g2, show nxI i n = nI i from if_pos hi]
      try simp only
      rw [gC_EachAddsALine_taleFault_2]
      simp (disch := omega) only [Option.bind_some, ↓reduceIte, ↓M_1, ↓M_2, L_0, L_1, L_2, L_3, L_4, L_5, L_6, L_7, L_8, L_9, L_10, L_11, L_12, L_13, L_20, L_24, L_26, L_30, L_31, L_32, L_39, L_40, L_48, L_57, L_76, L_80, L_90, L_91, L_97, L_99, L_100, L_255, L_273, L_1000, L_2000, q_ld, q_ldL, q_sto, q_stoL, q_add, q_sub, q_mul, q_dec, q_rem, q_div, q_lt_t, q_lt_f, q_le_t, q_le_f, q_eq_t, q_eq_f, q_em, q_me, q_ml, q_lm, q_mle, q_lem, q_s1, q_s1o, q_s1k, q_s12, q_s2, q_s2o, q_s2k, q_s21, Nat.add_sub_cancel, q_or, q_and, q_shl, true_or, or_true, false_or, or_false, true_and, and_true, false_and, and_false, not_true_eq_false, not_false_eq_true, ne_eq, h1]
  · rintro f _ ⟨g1, g2⟩
    have hf : ¬ fst1 (taB x) n < n := fun q => by
      have := fst1_lt q
      rw [g2 _ q] at this
      cases this
    rw [show nxI (fst1 (taB x) n) n = mI 1 from if_neg hf]
    try simp only
    rw [gC_EachAddsALine_taleFault_2]
    simp (disch := omega) only [Option.bind_some, ↓reduceIte, ↓M_1, ↓M_2, L_0, L_1, L_2, L_3, L_4, L_5, L_6, L_7, L_8, L_9, L_10, L_11, L_12, L_13, L_20, L_24, L_26, L_30, L_31, L_32, L_39, L_40, L_48, L_57, L_76, L_80, L_90, L_91, L_97, L_99, L_100, L_255, L_273, L_1000, L_2000, q_ld, q_ldL, q_sto, q_stoL, q_add, q_sub, q_mul, q_dec, q_rem, q_div, q_lt_t, q_lt_f, q_le_t, q_le_f, q_eq_t, q_eq_f, q_em, q_me, q_ml, q_lm, q_mle, q_lem, q_s1, q_s1o, q_s1k, q_s12, q_s2, q_s2o, q_s2k, q_s21, Nat.add_sub_cancel, q_or, q_and, q_shl, true_or, or_true, false_or, or_false, true_and, and_true, false_and, and_false, not_true_eq_false, not_false_eq_true, ne_eq, h1]
theorem C_tale23 (hN : 100 ≤ N) {s0 : vSt} (h1 : s.1 1 1 = nI n) (hn : n ≤ 12) (hx : ∀ k, k < n → x k < 256 ∧ s.1 2 k = nI (x k)) (hd : ∀ k, k < n → 48 ≤ x k ∧ x k ≤ 57) (h0 : Tw (fun k => nI (x k - 48)) 0 s s0) : ∃ z, gC_EachAddsALine_tale_23 N N (nI 0) s0 = gC_EachAddsALine_tale_66 N (nI n) z ∧ Tw (fun k => nI (x k - 48)) n s z := by
  refine loopU (fun f i z => gC_EachAddsALine_tale_23 N f (nI i) z) n (fun i z => i ≤ n ∧ Tw (fun k => nI (x k - 48)) i s z) (fun o => ∃ z, o = gC_EachAddsALine_tale_66 N (nI n) z ∧ Tw (fun k => nI (x k - 48)) n s z) ?_ ?_ n N 0 s0 (by omega) (by omega) ⟨by omega, h0⟩
  · rintro f i z hi ⟨g1, g2⟩
    have z1 : z.1 1 1 = nI n := by rw [g2.1.1 1 (by decide)]; exact h1
    have es := C_signAt (N := N) z1 (by omega) hi
    rw [g2.1.1 2 (by decide), (hx i hi).2] at es
    obtain ⟨z', y1, y2⟩ := C_add_told (N := N) g2 (x := nI (x i - 48)) rfl
    have := hd i hi
    refine Or.inl ⟨z', ?_, by omega, y2⟩
    rw [gC_EachAddsALine_tale_23]
    simp (disch := omega) only [Option.bind_some, ↓reduceIte, ↓M_1, ↓M_2, L_0, L_1, L_2, L_3, L_4, L_5, L_6, L_7, L_8, L_9, L_10, L_11, L_12, L_13, L_20, L_24, L_26, L_30, L_31, L_32, L_39, L_40, L_48, L_57, L_76, L_80, L_90, L_91, L_97, L_99, L_100, L_255, L_273, L_1000, L_2000, q_ld, q_ldL, q_sto, q_stoL, q_add, q_sub, q_mul, q_dec, q_rem, q_div, q_lt_t, q_lt_f, q_le_t, q_le_f, q_eq_t, q_eq_f, q_em, q_me, q_ml, q_lm, q_mle, q_lem, q_s1, q_s1o, q_s1k, q_s12, q_s2, q_s2o, q_s2k, q_s21, Nat.add_sub_cancel, q_or, q_and, q_shl, true_or, or_true, false_or, or_false, true_and, and_true, false_and, and_false, not_true_eq_false, not_false_eq_true, ne_eq, z1, es, y1]
  · rintro f z ⟨g1, g2⟩
    have z1 : z.1 1 1 = nI n := by rw [g2.1.1 1 (by decide)]; exact h1
    have z5 := g2.2.1
    rw [Nat.min_eq_left hn] at z5
    refine ⟨z, ?_, g2⟩
    try simp only
    rw [gC_EachAddsALine_tale_23]
    simp (disch := omega) only [Option.bind_some, ↓reduceIte, ↓M_1, ↓M_2, L_0, L_1, L_2, L_3, L_4, L_5, L_6, L_7, L_8, L_9, L_10, L_11, L_12, L_13, L_20, L_24, L_26, L_30, L_31, L_32, L_39, L_40, L_48, L_57, L_76, L_80, L_90, L_91, L_97, L_99, L_100, L_255, L_273, L_1000, L_2000, q_ld, q_ldL, q_sto, q_stoL, q_add, q_sub, q_mul, q_dec, q_rem, q_div, q_lt_t, q_lt_f, q_le_t, q_le_f, q_eq_t, q_eq_f, q_em, q_me, q_ml, q_lm, q_mle, q_lem, q_s1, q_s1o, q_s1k, q_s12, q_s2, q_s2o, q_s2k, q_s21, Nat.add_sub_cancel, q_or, q_and, q_shl, true_or, or_true, false_or, or_false, true_and, and_true, false_and, and_false, not_true_eq_false, not_false_eq_true, ne_eq, z1, z5]
/-- the reference's reading of a tale -/
theorem M_tale (hN : 200 ≤ N) (h8 : t.1 0 8 = nI n) (hn : n ≤ 80) (hx : ∀ k, k < n → x k < 256 ∧ t.1 6 k = byteI (x k)) :
    (fst1 (taB x) n < n → ∃ z, fM_EachAddsALineModel_tale N t = some (mI (1 + fst1 (taB x) n), z) ∧ Fm [] [] [8, 11, 12, 13, 14, 15, 16] t z ∧ z.1 0 8 = nI 0) ∧
    (¬ fst1 (taB x) n < n → ∃ z, fM_EachAddsALineModel_tale N t = some (nI n, z) ∧ Fm [16] [] [8, 11, 12, 13, 14, 15, 16, 40] t z ∧ z.1 0 8 = nI 0 ∧ z.1 0 40 = nI n ∧ (∀ k, k < n → z.1 16 k = nI (x k - 48)) ∧ ∀ k, 12 ≤ k → z.1 16 k = t.1 16 k) := by
  have hst : ∃ z0, fM_EachAddsALineModel_tale N t = gM_EachAddsALineModel_tale_24 N N z0 ∧ Fm [] [] [8, 11, 12, 13, 14, 15, 16] t z0 ∧ z0.1 0 8 = nI 0 ∧ z0.1 0 12 = nI 6 ∧ z0.1 0 13 = nI n ∧ z0.1 0 14 = nI 12 ∧ z0.1 0 15 = nI 0 ∧ z0.1 0 16 = mI 1 := by
    refine ⟨s1 (s1 (s1 (s1 (s1 (s1 (s1 t 0 11 (nI 0)) 0 12 (nI 6)) 0 13 (nI n)) 0 14 (nI 12)) 0 15 (nI 0)) 0 16 (mI 1)) 0 8 (nI 0), ?_, ((((((Fm.w10 (by decide)).tr (Fm.w10 (by decide))).tr (Fm.w10 (by decide))).tr (Fm.w10 (by decide))).tr (Fm.w10 (by decide))).tr (Fm.w10 (by decide))).tr (Fm.w10 (by decide)), ?_, ?_, ?_, ?_, ?_, ?_⟩
    · simp (disch := omega) only [Option.bind_some, ↓reduceIte, ↓M_1, ↓M_2, L_0, L_1, L_2, L_3, L_4, L_5, L_6, L_7, L_8, L_9, L_10, L_11, L_12, L_13, L_20, L_24, L_26, L_30, L_31, L_32, L_39, L_40, L_48, L_57, L_76, L_80, L_90, L_91, L_97, L_99, L_100, L_255, L_273, L_1000, L_2000, q_ld, q_ldL, q_sto, q_stoL, q_add, q_sub, q_mul, q_dec, q_rem, q_div, q_lt_t, q_lt_f, q_le_t, q_le_f, q_eq_t, q_eq_f, q_em, q_me, q_ml, q_lm, q_mle, q_lem, q_s1, q_s1o, q_s1k, q_s12, q_s2, q_s2o, q_s2k, q_s21, Nat.add_sub_cancel, q_or, q_and, q_shl, true_or, or_true, false_or, or_false, true_and, and_true, false_and, and_false, not_true_eq_false, not_false_eq_true, ne_eq, fM_EachAddsALineModel_tale, gM_EachAddsALineModel_tale_0, fM_EachAddsALineModel_begin_m_text, gM_EachAddsALineModel_begin_m_text_0, h8]
    all_goals simp (disch := omega) only [Option.bind_some, ↓reduceIte, ↓M_1, ↓M_2, L_0, L_1, L_2, L_3, L_4, L_5, L_6, L_7, L_8, L_9, L_10, L_11, L_12, L_13, L_20, L_24, L_26, L_30, L_31, L_32, L_39, L_40, L_48, L_57, L_76, L_80, L_90, L_91, L_97, L_99, L_100, L_255, L_273, L_1000, L_2000, q_ld, q_ldL, q_sto, q_stoL, q_add, q_sub, q_mul, q_dec, q_rem, q_div, q_lt_t, q_lt_f, q_le_t, q_le_f, q_eq_t, q_eq_f, q_em, q_me, q_ml, q_lm, q_mle, q_lem, q_s1, q_s1o, q_s1k, q_s12, q_s2, q_s2o, q_s2k, q_s21, Nat.add_sub_cancel, q_or, q_and, q_shl, true_or, or_true, false_or, or_false, true_and, and_true, false_and, and_false, not_true_eq_false, not_false_eq_true, ne_eq]
  obtain ⟨z0, e0, f0, a8, a12, a13, a14, a15, a16⟩ := hst
  -- what the reading comes to
  have run : ∃ z, gM_EachAddsALineModel_tale_24 N N z0 = gM_EachAddsALineModel_tale_110 N z ∧ Fm [] [] [15, 16] z0 z ∧ ((fst1 (taB x) n < n ∧ z.1 0 16 = nI (fst1 (taB x) n)) ∨ (¬ fst1 (taB x) n < n ∧ z.1 0 16 = mI 1)) := by
    refine loopUf (fun f i z => gM_EachAddsALineModel_tale_24 N f z) (min n 12) (fun i z => i ≤ min n 12 ∧ Fm [] [] [15, 16] z0 z ∧ z.1 0 15 = nI i ∧ z.1 0 16 = mI 1 ∧ ∀ j, j < i → taB x j = false) (fun o => ∃ z, o = gM_EachAddsALineModel_tale_110 N z ∧ Fm [] [] [15, 16] z0 z ∧ ((fst1 (taB x) n < n ∧ z.1 0 16 = nI (fst1 (taB x) n)) ∨ (¬ fst1 (taB x) n < n ∧ z.1 0 16 = mI 1))) ?_ ?_ (min n 12) N 0 z0 (by omega) (by omega) ⟨by omega, Fm.rf, a15, a16, fun j hj => by omega⟩
    · rintro f i z hi hfu ⟨g1, g2, g3, g4, g5⟩
      have z12 : z.1 0 12 = nI 6 := (g2.2.2 12 (by decide)).trans a12
      have z13 : z.1 0 13 = nI n := (g2.2.2 13 (by decide)).trans a13
      have z14 : z.1 0 14 = nI 12 := (g2.2.2 14 (by decide)).trans a14
      have z6 : z.1 6 i = byteI (x i) := by rw [g2.1 6 (by decide) (by decide), f0.1 6 (by decide) (by decide)]; exact (hx i (by omega)).2
      have eh := M_here6 (N := N) z12 z13 z14 g3 hn (by decide) (show i < n by omega) (by omega)
      rw [z6] at eh
      have ei := by_in (y := x i) (a := 48) (b := 57) (hx i (by omega)).1 (by decide) (by decide)
      have ef := M_fine_t (N := N) g4
      by_cases c : 48 ≤ x i ∧ x i ≤ 57
      · refine Or.inl ⟨s1 z 0 15 (nI (i + 1)), ?_, by omega, g2.tr (Fm.w10 (by decide)), q_s1 _ _ _ _, by simp (disch := omega) only [Option.bind_some, ↓reduceIte, ↓M_1, ↓M_2, L_0, L_1, L_2, L_3, L_4, L_5, L_6, L_7, L_8, L_9, L_10, L_11, L_12, L_13, L_20, L_24, L_26, L_30, L_31, L_32, L_39, L_40, L_48, L_57, L_76, L_80, L_90, L_91, L_97, L_99, L_100, L_255, L_273, L_1000, L_2000, q_ld, q_ldL, q_sto, q_stoL, q_add, q_sub, q_mul, q_dec, q_rem, q_div, q_lt_t, q_lt_f, q_le_t, q_le_f, q_eq_t, q_eq_f, q_em, q_me, q_ml, q_lm, q_mle, q_lem, q_s1, q_s1o, q_s1k, q_s12, q_s2, q_s2o, q_s2k, q_s21, Nat.add_sub_cancel, q_or, q_and, q_shl, true_or, or_true, false_or, or_false, true_and, and_true, false_and, and_false, not_true_eq_false, not_false_eq_true, ne_eq]; exact g4, fun j hj => ?_⟩
        · rw [gM_EachAddsALineModel_tale_24]
          simp (disch := omega) only [Option.bind_some, ↓reduceIte, ↓M_1, ↓M_2, L_0, L_1, L_2, L_3, L_4, L_5, L_6, L_7, L_8, L_9, L_10, L_11, L_12, L_13, L_20, L_24, L_26, L_30, L_31, L_32, L_39, L_40, L_48, L_57, L_76, L_80, L_90, L_91, L_97, L_99, L_100, L_255, L_273, L_1000, L_2000, q_ld, q_ldL, q_sto, q_stoL, q_add, q_sub, q_mul, q_dec, q_rem, q_div, q_lt_t, q_lt_f, q_le_t, q_le_f, q_eq_t, q_eq_f, q_em, q_me, q_ml, q_lm, q_mle, q_lem, q_s1, q_s1o, q_s1k, q_s12, q_s2, q_s2o, q_s2k, q_s21, Nat.add_sub_cancel, q_or, q_and, q_shl, true_or, or_true, false_or, or_false, true_and, and_true, false_and, and_false, not_true_eq_false, not_false_eq_true, ne_eq, ef, z13, z14, g3, eh, M_in_any, ei, eq_true c]
        · by_cases e : j = i
          · rw [e]; exact taB_f (by omega) c
          · exact g5 j (by omega)
      · have hf : fst1 (taB x) n = i := fst1_of (by omega) (taB_t (fun q => c q.2)) g5
        refine Or.inr ⟨s1 z 0 16 (nI i), ?_, g2.tr (Fm.w10 (by decide)), Or.inl ⟨by omega, by rw [hf]; exact q_s1 _ _ _ _⟩⟩
        obtain ⟨f', rfl⟩ : ∃ f', f = f' + 1 := ⟨f - 1, by omega⟩
        have ef2 := M_fine_f (N := N) (z := s1 z 0 16 (nI i)) (p := i) (q_s1 _ _ _ _) (by omega)
        have eft := M_fault_t (N := N) (v := nI i) g4
        have eff := M_fault_f (N := N) (z := s1 z 0 16 (nI i)) (p := i) (v := nI i) (q_s1 _ _ _ _) (by omega)
        try simp only
        rw [gM_EachAddsALineModel_tale_24]
        simp (disch := omega) only [Option.bind_some, ↓reduceIte, ↓M_1, ↓M_2, L_0, L_1, L_2, L_3, L_4, L_5, L_6, L_7, L_8, L_9, L_10, L_11, L_12, L_13, L_20, L_24, L_26, L_30, L_31, L_32, L_39, L_40, L_48, L_57, L_76, L_80, L_90, L_91, L_97, L_99, L_100, L_255, L_273, L_1000, L_2000, q_ld, q_ldL, q_sto, q_stoL, q_add, q_sub, q_mul, q_dec, q_rem, q_div, q_lt_t, q_lt_f, q_le_t, q_le_f, q_eq_t, q_eq_f, q_em, q_me, q_ml, q_lm, q_mle, q_lem, q_s1, q_s1o, q_s1k, q_s12, q_s2, q_s2o, q_s2k, q_s21, Nat.add_sub_cancel, q_or, q_and, q_shl, true_or, or_true, false_or, or_false, true_and, and_true, false_and, and_false, not_true_eq_false, not_false_eq_true, ne_eq, ef, z13, z14, g3, eh, M_in_any, ei, eq_false c, eft]
        rw [gM_EachAddsALineModel_tale_24]
        simp (disch := omega) only [Option.bind_some, ↓reduceIte, ↓M_1, ↓M_2, L_0, L_1, L_2, L_3, L_4, L_5, L_6, L_7, L_8, L_9, L_10, L_11, L_12, L_13, L_20, L_24, L_26, L_30, L_31, L_32, L_39, L_40, L_48, L_57, L_76, L_80, L_90, L_91, L_97, L_99, L_100, L_255, L_273, L_1000, L_2000, q_ld, q_ldL, q_sto, q_stoL, q_add, q_sub, q_mul, q_dec, q_rem, q_div, q_lt_t, q_lt_f, q_le_t, q_le_f, q_eq_t, q_eq_f, q_em, q_me, q_ml, q_lm, q_mle, q_lem, q_s1, q_s1o, q_s1k, q_s12, q_s2, q_s2o, q_s2k, q_s21, Nat.add_sub_cancel, q_or, q_and, q_shl, true_or, or_true, false_or, or_false, true_and, and_true, false_and, and_false, not_true_eq_false, not_false_eq_true, ne_eq, ef2, gM_EachAddsALineModel_tale_91, z13, g3, eff]
    · rintro f z ⟨g1, g2, g3, g4, g5⟩
      have z13 : z.1 0 13 = nI n := (g2.2.2 13 (by decide)).trans a13
      have z14 : z.1 0 14 = nI 12 := (g2.2.2 14 (by decide)).trans a14
      have ef := M_fine_t (N := N) g4
      by_cases c : n ≤ 12
      · rw [Nat.min_eq_left c] at g3 g5
        have hf : ¬ fst1 (taB x) n < n := fun q => by
          have := fst1_lt q
          rw [g5 _ q] at this
          cases this
        refine ⟨z, ?_, g2, Or.inr ⟨hf, g4⟩⟩
        try simp only
        rw [gM_EachAddsALineModel_tale_24]
        simp (disch := omega) only [Option.bind_some, ↓reduceIte, ↓M_1, ↓M_2, L_0, L_1, L_2, L_3, L_4, L_5, L_6, L_7, L_8, L_9, L_10, L_11, L_12, L_13, L_20, L_24, L_26, L_30, L_31, L_32, L_39, L_40, L_48, L_57, L_76, L_80, L_90, L_91, L_97, L_99, L_100, L_255, L_273, L_1000, L_2000, q_ld, q_ldL, q_sto, q_stoL, q_add, q_sub, q_mul, q_dec, q_rem, q_div, q_lt_t, q_lt_f, q_le_t, q_le_f, q_eq_t, q_eq_f, q_em, q_me, q_ml, q_lm, q_mle, q_lem, q_s1, q_s1o, q_s1k, q_s12, q_s2, q_s2o, q_s2k, q_s21, Nat.add_sub_cancel, q_or, q_and, q_shl, true_or, or_true, false_or, or_false, true_and, and_true, false_and, and_false, not_true_eq_false, not_false_eq_true, ne_eq, ef, z13, g3, gM_EachAddsALineModel_tale_91]
      · rw [Nat.min_eq_right (by omega)] at g3 g5
        have hf : fst1 (taB x) n = 12 := fst1_of (by omega) (taB_t (fun q => by omega)) g5
        have eft := M_fault_t (N := N) (v := nI 12) g4
        refine ⟨s1 z 0 16 (nI 12), ?_, g2.tr (Fm.w10 (by decide)), Or.inl ⟨by omega, by rw [hf]; exact q_s1 _ _ _ _⟩⟩
        try simp only
        rw [gM_EachAddsALineModel_tale_24]
        simp (disch := omega) only [Option.bind_some, ↓reduceIte, ↓M_1, ↓M_2, L_0, L_1, L_2, L_3, L_4, L_5, L_6, L_7, L_8, L_9, L_10, L_11, L_12, L_13, L_20, L_24, L_26, L_30, L_31, L_32, L_39, L_40, L_48, L_57, L_76, L_80, L_90, L_91, L_97, L_99, L_100, L_255, L_273, L_1000, L_2000, q_ld, q_ldL, q_sto, q_stoL, q_add, q_sub, q_mul, q_dec, q_rem, q_div, q_lt_t, q_lt_f, q_le_t, q_le_f, q_eq_t, q_eq_f, q_em, q_me, q_ml, q_lm, q_mle, q_lem, q_s1, q_s1o, q_s1k, q_s12, q_s2, q_s2o, q_s2k, q_s21, Nat.add_sub_cancel, q_or, q_and, q_shl, true_or, or_true, false_or, or_false, true_and, and_true, false_and, and_false, not_true_eq_false, not_false_eq_true, ne_eq, ef, z13, z14, g3, gM_EachAddsALineModel_tale_91, eft]
  obtain ⟨z, e1, f1, hw⟩ := run
  have fz1 : Fm [] [] [8, 11, 12, 13, 14, 15, 16] t z := f0.tr (f1.mono (by decide) (by decide) (by decide))
  have z8 : z.1 0 8 = nI 0 := (f1.2.2 8 (by decide)).trans a8
  refine ⟨fun hf => ?_, fun hf => ?_⟩
  · have z16 := (hw.resolve_right (fun q => q.1 hf)).2
    refine ⟨z, ?_, fz1, z8⟩
    have ef := M_fine_f (N := N) z16 (by omega)
    rw [e0, e1, gM_EachAddsALineModel_tale_110]
    simp (disch := omega) only [Option.bind_some, ↓reduceIte, ↓M_1, ↓M_2, L_0, L_1, L_2, L_3, L_4, L_5, L_6, L_7, L_8, L_9, L_10, L_11, L_12, L_13, L_20, L_24, L_26, L_30, L_31, L_32, L_39, L_40, L_48, L_57, L_76, L_80, L_90, L_91, L_97, L_99, L_100, L_255, L_273, L_1000, L_2000, q_ld, q_ldL, q_sto, q_stoL, q_add, q_sub, q_mul, q_dec, q_rem, q_div, q_lt_t, q_lt_f, q_le_t, q_le_f, q_eq_t, q_eq_f, q_em, q_me, q_ml, q_lm, q_mle, q_lem, q_s1, q_s1o, q_s1k, q_s12, q_s2, q_s2o, q_s2k, q_s21, Nat.add_sub_cancel, q_or, q_and, q_shl, true_or, or_true, false_or, or_false, true_and, and_true, false_and, and_false, not_true_eq_false, not_false_eq_true, ne_eq, ef, z16, q_ms]
  · have z16 := (hw.resolve_left (fun q => hf q.1)).2
    have ef := M_fine_t (N := N) z16
    have z13 : z.1 0 13 = nI n := (f1.2.2 13 (by decide)).trans a13
    have hall : ∀ j, j < n → taB x j = false := fun j hj => fst1_not (p := taB x) (n := n) (by omega)
    have hn12 : n ≤ 12 := by
      rcases Nat.lt_or_ge 12 n with q | q
      · have := (taB_of (hall 12 q)).1
        omega
      · exact q
    rw [e0, e1, gM_EachAddsALineModel_tale_110]
    simp (disch := omega) only [Option.bind_some, ↓reduceIte, ↓M_1, ↓M_2, L_0, L_1, L_2, L_3, L_4, L_5, L_6, L_7, L_8, L_9, L_10, L_11, L_12, L_13, L_20, L_24, L_26, L_30, L_31, L_32, L_39, L_40, L_48, L_57, L_76, L_80, L_90, L_91, L_97, L_99, L_100, L_255, L_273, L_1000, L_2000, q_ld, q_ldL, q_sto, q_stoL, q_add, q_sub, q_mul, q_dec, q_rem, q_div, q_lt_t, q_lt_f, q_le_t, q_le_f, q_eq_t, q_eq_f, q_em, q_me, q_ml, q_lm, q_mle, q_lem, q_s1, q_s1o, q_s1k, q_s12, q_s2, q_s2o, q_s2k, q_s21, Nat.add_sub_cancel, q_or, q_and, q_shl, true_or, or_true, false_or, or_false, true_and, and_true, false_and, and_false, not_true_eq_false, not_false_eq_true, ne_eq, ef]
    refine loopU (fun f i y => gM_EachAddsALineModel_tale_126 N f (nI i) y) n (fun i y => i ≤ n ∧ Fm [16] [] [] z y ∧ (∀ k, k < i → y.1 16 k = nI (x k - 48)) ∧ ∀ k, 12 ≤ k → y.1 16 k = z.1 16 k) (fun o => ∃ z, o = some (nI n, z) ∧ Fm [16] [] [8, 11, 12, 13, 14, 15, 16, 40] t z ∧ z.1 0 8 = nI 0 ∧ z.1 0 40 = nI n ∧ (∀ k, k < n → z.1 16 k = nI (x k - 48)) ∧ ∀ k, 12 ≤ k → z.1 16 k = t.1 16 k) ?_ ?_ n N 0 z (by omega) (by omega) ⟨by omega, Fm.rf, fun k hk => by omega, fun _ _ => rfl⟩
    · rintro f i y hi ⟨g1, g2, g3, g4⟩
      have y13 : y.1 0 13 = nI n := (g2.2.2 13 (by decide)).trans z13
      have hd := (taB_of (hall i hi)).2
      have y6 : y.1 6 i = nI (x i) := by
        rw [g2.1 6 (by decide) (by decide), fz1.1 6 (by decide) (by decide), (hx i hi).2]
        exact by_n (by omega)
      refine Or.inl ⟨s1 y 16 i (nI (x i - 48)), ?_, by omega, g2.tr (Fm.w1 (by decide) (by decide)), fun k hk => ?_, fun k hk => ?_⟩
      · rw [gM_EachAddsALineModel_tale_126]
        simp (disch := omega) only [Option.bind_some, ↓reduceIte, ↓M_1, ↓M_2, L_0, L_1, L_2, L_3, L_4, L_5, L_6, L_7, L_8, L_9, L_10, L_11, L_12, L_13, L_20, L_24, L_26, L_30, L_31, L_32, L_39, L_40, L_48, L_57, L_76, L_80, L_90, L_91, L_97, L_99, L_100, L_255, L_273, L_1000, L_2000, q_ld, q_ldL, q_sto, q_stoL, q_add, q_sub, q_mul, q_dec, q_rem, q_div, q_lt_t, q_lt_f, q_le_t, q_le_f, q_eq_t, q_eq_f, q_em, q_me, q_ml, q_lm, q_mle, q_lem, q_s1, q_s1o, q_s1k, q_s12, q_s2, q_s2o, q_s2k, q_s21, Nat.add_sub_cancel, q_or, q_and, q_shl, true_or, or_true, false_or, or_false, true_and, and_true, false_and, and_false, not_true_eq_false, not_false_eq_true, ne_eq, y13, y6]
      · by_cases c : k = i
        · rw [c, q_s1]
        · rw [q_s1k c]; exact g3 k (by omega)
      · rw [q_s1k (by omega)]; exact g4 k hk
    · rintro f y ⟨g1, g2, g3, g4⟩
      have y13 : y.1 0 13 = nI n := (g2.2.2 13 (by decide)).trans z13
      refine ⟨s1 y 0 40 (nI n), ?_, ((fz1.mono (by decide) (by decide) (by decide)).tr (g2.mono (by decide) (by decide) (by decide))).tr (Fm.w10 (by decide)), ?_, q_s1 _ _ _ _, fun k hk => ?_, fun k hk => ?_⟩
      · try simp only
        rw [gM_EachAddsALineModel_tale_126]
        simp (disch := omega) only [Option.bind_some, ↓reduceIte, ↓M_1, ↓M_2, L_0, L_1, L_2, L_3, L_4, L_5, L_6, L_7, L_8, L_9, L_10, L_11, L_12, L_13, L_20, L_24, L_26, L_30, L_31, L_32, L_39, L_40, L_48, L_57, L_76, L_80, L_90, L_91, L_97, L_99, L_100, L_255, L_273, L_1000, L_2000, q_ld, q_ldL, q_sto, q_stoL, q_add, q_sub, q_mul, q_dec, q_rem, q_div, q_lt_t, q_lt_f, q_le_t, q_le_f, q_eq_t, q_eq_f, q_em, q_me, q_ml, q_lm, q_mle, q_lem, q_s1, q_s1o, q_s1k, q_s12, q_s2, q_s2o, q_s2k, q_s21, Nat.add_sub_cancel, q_or, q_and, q_shl, true_or, or_true, false_or, or_false, true_and, and_true, false_and, and_false, not_true_eq_false, not_false_eq_true, ne_eq, y13]
      · simp (disch := omega) only [Option.bind_some, ↓reduceIte, ↓M_1, ↓M_2, L_0, L_1, L_2, L_3, L_4, L_5, L_6, L_7, L_8, L_9, L_10, L_11, L_12, L_13, L_20, L_24, L_26, L_30, L_31, L_32, L_39, L_40, L_48, L_57, L_76, L_80, L_90, L_91, L_97, L_99, L_100, L_255, L_273, L_1000, L_2000, q_ld, q_ldL, q_sto, q_stoL, q_add, q_sub, q_mul, q_dec, q_rem, q_div, q_lt_t, q_lt_f, q_le_t, q_le_f, q_eq_t, q_eq_f, q_em, q_me, q_ml, q_lm, q_mle, q_lem, q_s1, q_s1o, q_s1k, q_s12, q_s2, q_s2o, q_s2k, q_s21, Nat.add_sub_cancel, q_or, q_and, q_shl, true_or, or_true, false_or, or_false, true_and, and_true, false_and, and_false, not_true_eq_false, not_false_eq_true, ne_eq, g2.2.2 8 (by decide)]; exact z8
      · simp (disch := omega) only [Option.bind_some, ↓reduceIte, ↓M_1, ↓M_2, L_0, L_1, L_2, L_3, L_4, L_5, L_6, L_7, L_8, L_9, L_10, L_11, L_12, L_13, L_20, L_24, L_26, L_30, L_31, L_32, L_39, L_40, L_48, L_57, L_76, L_80, L_90, L_91, L_97, L_99, L_100, L_255, L_273, L_1000, L_2000, q_ld, q_ldL, q_sto, q_stoL, q_add, q_sub, q_mul, q_dec, q_rem, q_div, q_lt_t, q_lt_f, q_le_t, q_le_f, q_eq_t, q_eq_f, q_em, q_me, q_ml, q_lm, q_mle, q_lem, q_s1, q_s1o, q_s1k, q_s12, q_s2, q_s2o, q_s2k, q_s21, Nat.add_sub_cancel, q_or, q_and, q_shl, true_or, or_true, false_or, or_false, true_and, and_true, false_and, and_false, not_true_eq_false, not_false_eq_true, ne_eq]; exact g3 k hk
      · simp (disch := omega) only [Option.bind_some, ↓reduceIte, ↓M_1, ↓M_2, L_0, L_1, L_2, L_3, L_4, L_5, L_6, L_7, L_8, L_9, L_10, L_11, L_12, L_13, L_20, L_24, L_26, L_30, L_31, L_32, L_39, L_40, L_48, L_57, L_76, L_80, L_90, L_91, L_97, L_99, L_100, L_255, L_273, L_1000, L_2000, q_ld, q_ldL, q_sto, q_stoL, q_add, q_sub, q_mul, q_dec, q_rem, q_div, q_lt_t, q_lt_f, q_le_t, q_le_f, q_eq_t, q_eq_f, q_em, q_me, q_ml, q_lm, q_mle, q_lem, q_s1, q_s1o, q_s1k, q_s12, q_s2, q_s2o, q_s2k, q_s21, Nat.add_sub_cancel, q_or, q_and, q_shl, true_or, or_true, false_or, or_false, true_and, and_true, false_and, and_false, not_true_eq_false, not_false_eq_true, ne_eq]
        rw [g4 k hk, fz1.1 16 (by decide) (by decide)]
theorem k_tale (hU : okU U) (hN : 200 ≤ N) : keeps0 N (RR U) fC_EachAddsALine_tale fM_EachAddsALineModel_tale := fun s t h => by
  obtain ⟨w, h1, h2, h3, h4, h5, h6, h7, h8, h9⟩ := id h
  obtain ⟨n, x, n1, n2, n3, n4⟩ := h3.d
  have hC := C_taleFault (N := N) (by omega) n2 n1 (fun k hk => ⟨(n4 k hk).1, (n4 k hk).2.1⟩)
  have hM := M_tale (N := N) hN n3 n1 (fun k hk => ⟨(n4 k hk).1, (n4 k hk).2.2⟩)
  by_cases c : fst1 (taB x) n < n
  · obtain ⟨z, m1, m2, m3⟩ := hM.1 c
    rw [show nxI (fst1 (taB x) n) n = nI (fst1 (taB x) n) from if_pos c] at hC
    refine ⟨mI (1 + fst1 (taB x) n), s1 s 1 1 (nI 0), z, ?_, m1, h.tx hU ⟨0, by decide, q_s1 _ _ _ _, m3, fun k hk => by omega⟩ (Fr.s1 (L := [1]) (K := []) (by decide)) m2 (by decide) (by decide) (by decide)⟩
    simp (disch := omega) only [Option.bind_some, ↓reduceIte, ↓M_1, ↓M_2, L_0, L_1, L_2, L_3, L_4, L_5, L_6, L_7, L_8, L_9, L_10, L_11, L_12, L_13, L_20, L_24, L_26, L_30, L_31, L_32, L_39, L_40, L_48, L_57, L_76, L_80, L_90, L_91, L_97, L_99, L_100, L_255, L_273, L_1000, L_2000, q_ld, q_ldL, q_sto, q_stoL, q_add, q_sub, q_mul, q_dec, q_rem, q_div, q_lt_t, q_lt_f, q_le_t, q_le_f, q_eq_t, q_eq_f, q_em, q_me, q_ml, q_lm, q_mle, q_lem, q_s1, q_s1o, q_s1k, q_s12, q_s2, q_s2o, q_s2k, q_s21, Nat.add_sub_cancel, q_or, q_and, q_shl, true_or, or_true, false_or, or_false, true_and, and_true, false_and, and_false, not_true_eq_false, not_false_eq_true, ne_eq, fC_EachAddsALine_tale, gC_EachAddsALine_tale_0, hC, q_ms, gC_EachAddsALine_tale_66, fC_Text_clear, gC_Text_clear_0]
  · obtain ⟨z, m1, m2, m3, m4, m5, m6⟩ := hM.2 c
    rw [show nxI (fst1 (taB x) n) n = mI 1 from if_neg c] at hC
    have hall : ∀ j, j < n → taB x j = false := fun j hj => fst1_not (p := taB x) (n := n) (by omega)
    have hn12 : n ≤ 12 := by
      rcases Nat.lt_or_ge 12 n with q | q
      · have := (taB_of (hall 12 q)).1
        omega
      · exact q
    obtain ⟨s0, x1, x2⟩ := C_clear_told (N := N) (q := fun k => nI (x k - 48)) (s := s)
    obtain ⟨s', y1, y2⟩ := C_tale23 (N := N) (by omega) n2 hn12 (fun k hk => ⟨(n4 k hk).1, (n4 k hk).2.1⟩) (fun k hk => (taB_of (hall k hk)).2) x2
    have fs : Fr [1, 5, 6] [] s (s1 s' 1 1 (nI 0)) := (y2.1.mono (by decide) (by decide)).tr (Fr.s1 (by decide))
    refine ⟨nI n, s1 s' 1 1 (nI 0), z, ?_, m1, RR.to hU h1 h2 ⟨0, by decide, q_s1 _ _ _ _, m3, fun k hk => by omega⟩ h4 ⟨n, hn12, ?_, m4, fun k hk => ⟨x k - 48, ?_, ?_, ?_⟩⟩ ?_ h7 h8 h9 fs m2 (by decide) (by decide) (by decide)⟩
    · have em : mI 1 - mI 1 = nI 0 := by decide
      simp (disch := omega) only [Option.bind_some, ↓reduceIte, ↓M_1, ↓M_2, L_0, L_1, L_2, L_3, L_4, L_5, L_6, L_7, L_8, L_9, L_10, L_11, L_12, L_13, L_20, L_24, L_26, L_30, L_31, L_32, L_39, L_40, L_48, L_57, L_76, L_80, L_90, L_91, L_97, L_99, L_100, L_255, L_273, L_1000, L_2000, q_ld, q_ldL, q_sto, q_stoL, q_add, q_sub, q_mul, q_dec, q_rem, q_div, q_lt_t, q_lt_f, q_le_t, q_le_f, q_eq_t, q_eq_f, q_em, q_me, q_ml, q_lm, q_mle, q_lem, q_s1, q_s1o, q_s1k, q_s12, q_s2, q_s2o, q_s2k, q_s21, Nat.add_sub_cancel, q_or, q_and, q_shl, true_or, or_true, false_or, or_false, true_and, and_true, false_and, and_false, not_true_eq_false, not_false_eq_true, ne_eq, fC_EachAddsALine_tale, gC_EachAddsALine_tale_0, hC, em, x1, y1, gC_EachAddsALine_tale_66, fC_Text_clear, gC_Text_clear_0]
    · rw [q_s1o (by decide), y2.2.1, Nat.min_eq_left hn12]
    · have := (taB_of (hall k hk)).2; omega
    · rw [q_s1o (by decide)]; exact y2.2.2 k (by omega)
    · rw [Nat.zero_add]; exact m5 k hk
    · obtain ⟨n', p1, p2, p3, p4⟩ := h6
      refine ⟨n', p1, ?_, ?_, fun k hk => ?_⟩
      · rw [fs.1 7 (by decide)]; exact p2
      · rw [m2.2.2 41 (by decide)]; exact p3
      · rw [fs.1 8 (by decide), m6 _ (by omega)]; exact p4 k hk
end TL
