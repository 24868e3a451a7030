/-! sets of bits as numbers -/
theorem q_or (a b : Nat) : nI a ||| nI b = nI (a ||| b) := by
  apply Int32.toBitVec_inj.mp
  rw [Int32.toBitVec_or]
  show BitVec.ofNat 32 a ||| BitVec.ofNat 32 b = BitVec.ofNat 32 (a ||| b)
  apply BitVec.eq_of_getLsbD_eq
  intro i hi
  rw [BitVec.getLsbD_or, BitVec.getLsbD_ofNat, BitVec.getLsbD_ofNat, BitVec.getLsbD_ofNat, Nat.testBit_or, decide_eq_true hi, Bool.true_and, Bool.true_and, Bool.true_and]
theorem q_and (a b : Nat) : nI a &&& nI b = nI (a &&& b) := nx_and a b
theorem and31 {k : Nat} (h : k < 32) : k &&& 31 = k := by
  have := Nat.and_two_pow_sub_one_eq_mod k 5
  rw [show 2 ^ 5 - 1 = 31 from rfl] at this
  rw [this]
  exact Nat.mod_eq_of_lt h
theorem q_shl {k : Nat} (h : k < 31) : nI 1 <<< nI (k &&& 31) = nI (2 ^ k) := by
  rw [← q_and, ← L_31, pk_shlN (n := 1) _ k (s_l k (by omega)) (by
    rw [Nat.one_mul]
    exact Nat.pow_lt_pow_right (by decide) (by omega)), Nat.one_mul]
theorem q_shr {b k : Nat} (h : k < 31) (hb : b < 2 ^ 31) : nI b >>> nI (k &&& 31) = nI (b / 2 ^ k) := by
  rw [← q_and, ← L_31, pk_shrN hb _ k (s_l k (by omega))]
theorem pow_lt {k n : Nat} (h : k < n) : 2 ^ k < 2 ^ n := Nat.pow_lt_pow_right (by decide) h
theorem pow9 {k : Nat} (h : k < 9) : 2 ^ k < 512 := pow_lt (n := 9) h
theorem pow20 {k : Nat} (h : k < 20) : 2 ^ k < 1048576 := pow_lt (n := 20) h
theorem or_lt9 {a b : Nat} (ha : a < 512) (hb : b < 512) : a ||| b < 512 := Nat.or_lt_two_pow (n := 9) ha hb
theorem or_lt20 {a b : Nat} (ha : a < 1048576) (hb : b < 1048576) : a ||| b < 1048576 := Nat.or_lt_two_pow (n := 20) ha hb
theorem tb_and {n j : Nat} : (n &&& 2 ^ j = 0) = (n.testBit j = false) := propext (fb_bit_nat n j)
theorem M_has {N : Nat} {s : vSt} {b k : Nat} (h : k < 31) (hb : b < 2 ^ 31) : fM_EachAddsALineModel_has N (nI b) (nI k) s = some (if b.testBit k = true then nI 1 else nI 0, s) := by
  have e : (b / 2 ^ k &&& 1 = 1) = (b.testBit k = true) := by
    rw [Nat.testBit_eq_decide_div_mod_eq, Nat.and_one_is_mod, decide_eq_true_eq]
  have hs : b / 2 ^ k &&& 1 < 2 ^ 31 := by rw [Nat.and_one_is_mod]; omega
  simp only [fM_EachAddsALineModel_has, gM_EachAddsALineModel_has_0]
  simp (disch := omega) only [Option.bind_some, ↓reduceIte, ↓M_1, ↓M_2, L_0, L_1, L_2, L_3, L_4, L_5, L_6, L_7, L_8, L_9, L_10, L_11, L_12, L_13, L_20, L_24, L_26, L_30, L_31, L_32, L_39, L_40, L_48, L_57, L_76, L_80, L_90, L_91, L_97, L_99, L_100, L_255, L_273, L_1000, L_2000, q_ld, q_ldL, q_sto, q_stoL, q_add, q_sub, q_mul, q_dec, q_rem, q_div, q_lt_t, q_lt_f, q_le_t, q_le_f, q_eq_t, q_eq_f, q_em, q_me, q_ml, q_lm, q_mle, q_lem, q_s1, q_s1o, q_s1k, q_s12, q_s2, q_s2o, q_s2k, q_s21, Nat.add_sub_cancel, q_or, q_and, q_shl, true_or, or_true, false_or, or_false, true_and, and_true, false_and, and_false, not_true_eq_false, not_false_eq_true, ne_eq, q_shr, q_and]
  by_cases c : b.testBit k = true
  · rw [if_pos c, if_pos (by rw [e.mpr c])]
  · rw [if_neg c, if_neg (fun z => c (e.mp ((nI_eq hs (by decide)).mp z)))]
