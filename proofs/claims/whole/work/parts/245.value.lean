/-! the rule: the class' value, the line by it, on both sides -/
theorem neg_msb (v : Int32) : (v < 0) ↔ v.toBitVec.msb = true := by
  rw [BitVec.msb_eq_toInt, decide_eq_true_iff, Int32.lt_iff_toInt_lt, show (0 : Int32).toInt = 0 from by decide]
  exact Iff.rfl
theorem xor_10 (v : Int32) : (0 ≤ v ^^^ 10) ↔ ¬ v < 0 := by
  have e : (v ^^^ 10 < 0) ↔ v < 0 := by
    rw [neg_msb, neg_msb]
    show (v.toBitVec ^^^ (10 : Int32).toBitVec).msb = true ↔ _
    rw [BitVec.msb_xor, show (10 : Int32).toBitVec.msb = false from by decide, Bool.xor_false]
  rw [← e]
  exact ⟨fun h q => Int32.lt_irrefl (Int32.lt_of_lt_of_le q h), fun h => Int32.not_lt.mp h⟩
def lm (v : Int32) : Int32 := ((v - v / 10 * 10) + 10) - ((v - v / 10 * 10) + 10) / 10 * 10
theorem rem10_neg {v : Int32} (h : v < 0) : ∃ j, j < 10 ∧ v - v / 10 * 10 = mI j := by
  have h1 : v.toInt < 0 := by
    have := Int32.lt_iff_toInt_lt.mp h
    rwa [show (0 : Int32).toInt = 0 from by decide] at this
  obtain ⟨n, hn⟩ : ∃ n : Nat, v.toInt = -(n : Int) := ⟨v.toInt.natAbs, by omega⟩
  have hv : v = iZ (-(n : Int)) := by rw [← hn]; exact (Int32.ofInt_toInt v).symm
  have hl := Int32.le_toInt v
  have e10 : (10 : Int32) = iZ 10 := by decide
  have hmin : Int32.minValue.toInt = -2147483648 := by decide
  have hmax : Int32.maxValue.toInt = 2147483647 := by decide
  have hd : iZ (-(n : Int)) / iZ 10 = iZ ((-(n : Int)).tdiv 10) := (Int32.ofInt_tdiv (by rw [hmin]; omega) (by rw [hmax]; omega) (by decide) (by decide)).symm
  have ht : (-(n : Int)).tdiv 10 = -((n / 10 : Nat) : Int) := by rw [Int.neg_tdiv]; rfl
  have hm : iZ (-((n / 10 : Nat) : Int)) * iZ 10 = iZ (-((n / 10 : Nat) : Int) * 10) := (Int32.ofInt_mul _ _).symm
  refine ⟨n % 10, by omega, ?_⟩
  rw [hv, e10, hd, ht, hm, z_sub, z_m]
  congr 1
  omega
theorem lm_of {v : Int32} (j : Nat) (hj : j < 10) (h : v - v / 10 * 10 = nI j) : lm v = nI j := by
  unfold lm
  rw [h]
  have := (show ∀ j, j < 10 → (nI j + 10) - (nI j + 10) / 10 * 10 = nI j by decide +kernel) j hj
  exact this
theorem lm_neg {v : Int32} (j : Nat) (hj : j < 10) (h : v - v / 10 * 10 = mI j) : lm v = if j = 0 then nI 0 else mI j + 10 := by
  unfold lm
  rw [h]
  exact (show ∀ j, j < 10 → (mI j + 10) - (mI j + 10) / 10 * 10 = if j = 0 then nI 0 else mI j + 10 by decide +kernel) j hj
theorem lm_ix (v : Int32) : ∃ j, j < 10 ∧ lm v = nI j := by
  by_cases c : v < 0
  · obtain ⟨j, hj, h⟩ := rem10_neg c
    rw [lm_neg j hj h]
    by_cases d : j = 0
    · exact ⟨0, by omega, if_pos d⟩
    · refine ⟨10 - j, by omega, ?_⟩
      rw [if_neg d]
      exact (show ∀ j, j < 10 → mI j + 10 = nI (10 - j) by decide +kernel) j hj
  · obtain ⟨n, hn, rfl⟩ := nI_of c
    exact ⟨n % 10, by omega, lm_of (n % 10) (by omega) (pk_rem (d := 10) hn (by omega) (by omega))⟩
section RV
variable {N n p : Nat} {x : Nat → Nat} {s t : vSt}
theorem C_floorMod (v : Int32) : fC_Math_floorMod N v 10 s = some (lm v, s) := by
  rw [fC_Math_floorMod, gC_Math_floorMod_0, if_neg (by decide : ¬ (10 : Int32) = 0), Option.bind_some]
  by_cases c : v < 0
  · rw [if_neg (fun q => (xor_10 v).mp q c)]
    obtain ⟨j, hj, h⟩ := rem10_neg c
    rw [lm_neg j hj h, h]
    by_cases d : j = 0
    · subst d
      rw [if_pos (by decide : mI 0 = 0), if_pos rfl]; rfl
    · rw [if_neg d, if_neg (show ¬ mI j = (0 : Int32) from fun z => by have z2 : mI j = nI 0 := z; rw [q_me (by omega) (by omega) (by omega)] at z2; exact z2)]
  · rw [if_pos ((xor_10 v).mpr c)]
    obtain ⟨n, hn, rfl⟩ := nI_of c
    have e : nI n - nI n / 10 * 10 = nI (n % 10) := pk_rem (d := 10) hn (by omega) (by omega)
    rw [lm_of _ (by omega) e, e]
/-- the stack -/
def SKr (s : vSt) : List Int32 → Prop
  | [] => True
  | a :: r => s.1 20 r.length = a ∧ SKr s r
def VS (s0 s : vSt) (stk : List Int32) : Prop := Fr [17, 20] [] s0 s ∧ s.1 17 1 = s0.1 17 1 ∧ s.1 17 4 = nI stk.length ∧ SKr s stk
theorem SKr.keep {s s' : vSt} : ∀ {stk : List Int32}, SKr s stk → (∀ k, k < stk.length → s'.1 20 k = s.1 20 k) → SKr s' stk
  | [], _, _ => trivial
  | a :: r, h, g => ⟨(g r.length (Nat.lt_succ_self _)).trans h.1, SKr.keep h.2 (fun k hk => g k (Nat.lt_succ_of_lt hk))⟩
theorem C_push {s0 : vSt} {stk : List Int32} (a : Int32) (h : VS s0 s stk) (hl : stk.length < 40) : ∃ s', fC_Rule_push N a s = some s' ∧ VS s0 s' (a :: stk) := by
  obtain ⟨h1, h2, h3, h4⟩ := h
  refine ⟨s1 (s1 s 20 stk.length a) 17 4 (nI (stk.length + 1)), ?_, h1.tr ((Fr.s1 (by decide)).tr (Fr.s1 (by decide))), ?_, q_s1 _ _ _ _, ?_, h4.keep (fun k hk => ?_)⟩
  · simp (disch := omega) only [Option.bind_some, ↓reduceIte, ↓M_1, ↓M_2, L_0, L_1, L_2, L_3, L_4, L_5, L_6, L_7, L_8, L_9, L_10, L_11, L_12, L_13, L_20, L_24, L_26, L_30, L_31, L_32, L_39, L_40, L_48, L_57, L_76, L_80, L_90, L_91, L_97, L_99, L_100, L_255, L_273, L_1000, L_2000, q_ld, q_ldL, q_sto, q_stoL, q_add, q_sub, q_mul, q_dec, q_rem, q_div, q_lt_t, q_lt_f, q_le_t, q_le_f, q_eq_t, q_eq_f, q_em, q_me, q_ml, q_lm, q_mle, q_lem, q_s1, q_s1o, q_s1k, q_s12, q_s2, q_s2o, q_s2k, q_s21, Nat.add_sub_cancel, q_or, q_and, q_shl, true_or, or_true, false_or, or_false, true_and, and_true, false_and, and_false, not_true_eq_false, not_false_eq_true, ne_eq, fC_Rule_push, gC_Rule_push_0, h3]
  · rw [q_s1k (by decide), q_s1o (by decide)]; exact h2
  · rw [q_s1o (by decide), q_s1]
  · rw [q_s1o (by decide), q_s1k (by omega)]
theorem C_pop {s0 : vSt} {stk : List Int32} {a : Int32} (h : VS s0 s (a :: stk)) (hl : stk.length < 40) : ∃ s', fC_Rule_pop N s = some (a, s') ∧ VS s0 s' stk := by
  obtain ⟨h1, h2, h3, h4, h5⟩ := h
  have h3' : s.1 17 4 = nI (stk.length + 1) := h3
  refine ⟨s1 s 17 4 (nI stk.length), ?_, h1.tr (Fr.s1 (by decide)), ?_, q_s1 _ _ _ _, h5.keep (fun k hk => ?_)⟩
  · simp (disch := omega) only [Option.bind_some, ↓reduceIte, ↓M_1, ↓M_2, L_0, L_1, L_2, L_3, L_4, L_5, L_6, L_7, L_8, L_9, L_10, L_11, L_12, L_13, L_20, L_24, L_26, L_30, L_31, L_32, L_39, L_40, L_48, L_57, L_76, L_80, L_90, L_91, L_97, L_99, L_100, L_255, L_273, L_1000, L_2000, q_ld, q_ldL, q_sto, q_stoL, q_add, q_sub, q_mul, q_dec, q_rem, q_div, q_lt_t, q_lt_f, q_le_t, q_le_f, q_eq_t, q_eq_f, q_em, q_me, q_ml, q_lm, q_mle, q_lem, q_s1, q_s1o, q_s1k, q_s12, q_s2, q_s2o, q_s2k, q_s21, Nat.add_sub_cancel, q_or, q_and, q_shl, true_or, or_true, false_or, or_false, true_and, and_true, false_and, and_false, not_true_eq_false, not_false_eq_true, ne_eq, fC_Rule_pop, gC_Rule_pop_0, h3', h4]
  · rw [q_s1k (by decide)]; exact h2
  · rw [q_s1o (by decide)]
theorem C_join {c : Nat} (hc : c < 1000) (a b : Int32) : fC_Rule_join N (nI c) a b s = some (jn c a b, s) := by
  rw [fC_Rule_join, gC_Rule_join_0]
  have m : ∀ k : Nat, k < 1000 → c ≠ k → ¬ nI c = nI k := fun k hk hne z => hne ((nI_eq (by omega) (by omega)).mp z)
  by_cases c1 : c = 42
  · subst c1; rw [if_pos L_42.symm, jn_42]
  rw [if_neg (fun z => m 42 (by omega) c1 (z.trans L_42))]
  by_cases c2 : c = 43
  · subst c2; rw [if_pos L_43.symm, jn_43]
  rw [if_neg (fun z => m 43 (by omega) c2 (z.trans L_43))]
  by_cases c3 : c = 45
  · subst c3; rw [if_pos L_45.symm, jn_45]
  rw [if_neg (fun z => m 45 (by omega) c3 (z.trans L_45))]
  by_cases c4 : c = 60
  · subst c4; rw [if_pos L_60.symm, jn_60]
    by_cases d : b ≤ a
    · rw [if_pos d, if_pos d, L_0]
    · rw [if_neg d, if_neg d, L_1]
  rw [if_neg (fun z => m 60 (by omega) c4 (z.trans L_60))]
  by_cases c5 : c = 61
  · subst c5; rw [if_pos L_61.symm, jn_61]
    by_cases d : a = b
    · rw [if_pos d, if_pos d, L_1]
    · rw [if_neg d, if_neg d, L_0]
  rw [if_neg (fun z => m 61 (by omega) c5 (z.trans L_61))]
  by_cases c6 : c = 62
  · subst c6; rw [if_pos L_62.symm, jn_62]
    by_cases d : a ≤ b
    · rw [if_pos d, if_pos d, L_0]
    · rw [if_neg d, if_neg d, L_1]
  rw [if_neg (fun z => m 62 (by omega) c6 (z.trans L_62))]
  unfold jn
  rw [if_neg c1, if_neg c2, if_neg c3, if_neg c4, if_neg c5, if_neg c6]
  by_cases d : b = 0
  · rw [if_pos d, if_pos (show b = nI 0 from d.trans L_0), L_0]
  · rw [if_neg d, if_neg (show ¬ b = nI 0 from fun z => d (z.trans L_0.symm)), if_neg d]
theorem C_factAt {k : Nat} (hk : k < 7) : fC_Rule_factAt N (nI k) s = some (s.1 19 k, s) := by
  simp (disch := omega) only [Option.bind_some, ↓reduceIte, ↓M_1, ↓M_2, L_0, L_1, L_2, L_3, L_4, L_5, L_6, L_7, L_8, L_9, L_10, L_11, L_12, L_13, L_20, L_24, L_26, L_30, L_31, L_32, L_39, L_40, L_48, L_57, L_76, L_80, L_90, L_91, L_97, L_99, L_100, L_255, L_273, L_1000, L_2000, q_ld, q_ldL, q_sto, q_stoL, q_add, q_sub, q_mul, q_dec, q_rem, q_div, q_lt_t, q_lt_f, q_le_t, q_le_f, q_eq_t, q_eq_f, q_em, q_me, q_ml, q_lm, q_mle, q_lem, q_s1, q_s1o, q_s1k, q_s12, q_s2, q_s2o, q_s2k, q_s21, Nat.add_sub_cancel, q_or, q_and, q_shl, true_or, or_true, false_or, or_false, true_and, and_true, false_and, and_false, not_true_eq_false, not_false_eq_true, ne_eq, fC_Rule_factAt, gC_Rule_factAt_0]
theorem C_run {E : Nat → Int32} {s0 : vSt} {L : Nat} (hL : s0.1 17 1 = nI L) (hL2 : L ≤ 40) (hE : ∀ k, k < 7 → s0.1 19 k = E k) : ∀ (D : List Nat) (k f : Nat) (stk r : List Int32) (s : vSt), evs E D stk = some r → k + D.length = L → (∀ i j, D[i]? = some j → s0.1 18 (k + i) = nI j) → stk.length + D.length ≤ 40 → D.length < f → VS s0 s stk → ∃ s', gC_Rule_value_7 N f (nI k) s = gC_Rule_value_7 N (f - D.length) (nI L) s' ∧ VS s0 s' r := by
  intro D
  induction D with
  | nil =>
    intro k f stk r s he hk hD hs hf h
    obtain rfl : k = L := hk
    have : stk = r := Option.some.inj he
    subst this
    exact ⟨s, rfl, h⟩
  | cons j D ih =>
    intro k f stk r s he hk hD hs hf h
    have hk' : k + (D.length + 1) = L := hk
    have hs' : stk.length + (D.length + 1) ≤ 40 := hs
    have hf' : D.length + 1 < f := hf
    obtain ⟨f, rfl⟩ : ∃ g, f = g + 1 := ⟨f - 1, by omega⟩
    have h17 : s.1 17 1 = nI L := h.2.1.trans hL
    have h18 : s.1 18 k = nI j := by rw [h.1.1 18 (by decide)]; exact hD 0 j rfl
    have h19 : ∀ q, q < 7 → s.1 19 q = E q := fun q hq => by rw [h.1.1 19 (by decide)]; exact hE q hq
    have he' : (ev1 E j stk).bind (evs E D) = some r := he
    have key : ∀ stk' s', ev1 E j stk = some stk' → stk'.length ≤ stk.length + 1 → VS s0 s' stk' → gC_Rule_value_7 N (f + 1) (nI k) s = gC_Rule_value_7 N f (nI (k + 1)) s' → ∃ s', gC_Rule_value_7 N (f + 1) (nI k) s = gC_Rule_value_7 N (f + 1 - (D.length + 1)) (nI L) s' ∧ VS s0 s' r := by
      intro stk' s' e1 e2 e3 e4
      rw [e1, Option.bind_some] at he'
      obtain ⟨u, a1, a2⟩ := ih (k + 1) f stk' r s' he' (by omega) (fun i j hi => by rw [show k + 1 + i = k + (i + 1) by omega]; exact hD (i + 1) j hi) (by omega) (by omega) e3
      exact ⟨u, by rw [e4, a1, show f + 1 - (D.length + 1) = f - D.length by omega], a2⟩
    by_cases c0 : 3000 ≤ j ∨ (1007 ≤ j ∧ j < 2000)
    · exfalso
      unfold ev1 at he'
      rw [if_pos c0] at he'
      cases he'
    have hld : ld s 18 40 (nI k) = some (nI j) := by simp (disch := omega) only [Option.bind_some, ↓reduceIte, ↓M_1, ↓M_2, L_0, L_1, L_2, L_3, L_4, L_5, L_6, L_7, L_8, L_9, L_10, L_11, L_12, L_13, L_20, L_24, L_26, L_30, L_31, L_32, L_39, L_40, L_48, L_57, L_76, L_80, L_90, L_91, L_97, L_99, L_100, L_255, L_273, L_1000, L_2000, q_ld, q_ldL, q_sto, q_stoL, q_add, q_sub, q_mul, q_dec, q_rem, q_div, q_lt_t, q_lt_f, q_le_t, q_le_f, q_eq_t, q_eq_f, q_em, q_me, q_ml, q_lm, q_mle, q_lem, q_s1, q_s1o, q_s1k, q_s12, q_s2, q_s2o, q_s2k, q_s21, Nat.add_sub_cancel, q_or, q_and, q_shl, true_or, or_true, false_or, or_false, true_and, and_true, false_and, and_false, not_true_eq_false, not_false_eq_true, ne_eq, h18]
    have hno : ¬ (s.1 17 1 ≤ nI k) := by rw [h17]; exact nI_ge (by omega) (by omega)
    by_cases c1 : j < 1000
    · obtain ⟨u, a1, a2⟩ := C_push (N := N) (nI j) h (by omega)
      refine key (nI j :: stk) u (by unfold ev1; rw [if_neg c0, if_pos c1]) (Nat.le_refl _) a2 ?_
      rw [gC_Rule_value_7, if_neg hno, hld, Option.bind_some, if_neg (show ¬ (1000 : Int32) ≤ nI j from nI_ge (b := 1000) c1 (by omega)), a1, Option.bind_some, gC_Rule_value_105, Option.bind_some, nI_1]
    · by_cases c2 : j < 2000
      · obtain ⟨u, a1, a2⟩ := C_push (N := N) (E (j - 1000)) h (by omega)
        refine key (E (j - 1000) :: stk) u (by unfold ev1; rw [if_neg c0, if_neg c1, if_pos c2]) (Nat.le_refl _) a2 ?_
        have hf0 := C_factAt (N := N) (s := s) (k := j - 1000) (by omega)
        rw [h19 _ (by omega)] at hf0
        have e9 : nI j - 1000 = nI (j - 1000) := pk_sub (b := 1000) (by omega)
        rw [gC_Rule_value_7, if_neg hno, hld, Option.bind_some, if_pos (show (1000 : Int32) ≤ nI j from nI_le (a := 1000) (by omega) (by omega)), if_neg (show ¬ (2000 : Int32) ≤ nI j from nI_ge (b := 2000) c2 (by omega)), e9, hf0, Option.bind_some, a1, Option.bind_some, gC_Rule_value_105, Option.bind_some, nI_1]
      · by_cases c3 : j = 2126
        · subst c3
          cases stk with
          | nil => exfalso; cases he'
          | cons a rest =>
            obtain ⟨u, a1, a2⟩ := C_pop (N := N) h (by have : rest.length + 1 + (D.length + 1) ≤ 40 := hs'; omega)
            obtain ⟨u2, b1, b2⟩ := C_push (N := N) (-a) a2 (by have : rest.length + 1 + (D.length + 1) ≤ 40 := hs'; omega)
            refine key (-a :: rest) u2 rfl (Nat.le_succ _) b2 ?_
            rw [gC_Rule_value_7, if_neg hno, hld, Option.bind_some, if_pos (show (1000 : Int32) ≤ nI 2126 from nI_le (a := 1000) (by omega) (by omega)), if_pos (show (2000 : Int32) ≤ nI 2126 from nI_le (a := 2000) (by omega) (by omega)), if_pos L_2126.symm, a1, Option.bind_some, b1, Option.bind_some, gC_Rule_value_105, Option.bind_some, nI_1]
        · have hev : ∀ b a rest, stk = b :: a :: rest → ev1 E j stk = some (jn (j - 2000) a b :: rest) := fun b a rest hst => by
            subst hst
            unfold ev1
            rw [if_neg c0, if_neg c1, if_neg c2, if_neg c3]
          have hst : ∃ b a rest, stk = b :: a :: rest := by
            unfold ev1 at he'
            rw [if_neg c0, if_neg c1, if_neg c2, if_neg c3] at he'
            cases stk with
            | nil => cases he'
            | cons b r1 =>
              cases r1 with
              | nil => cases he'
              | cons a rest => exact ⟨b, a, rest, rfl⟩
          obtain ⟨b, a, rest, rfl⟩ := hst
          have hs2 : rest.length + 1 + 1 + (D.length + 1) ≤ 40 := hs'
          obtain ⟨u, a1, a2⟩ := C_pop (N := N) h (show rest.length + 1 < 40 by omega)
          obtain ⟨u2, b1, b2⟩ := C_pop (N := N) a2 (by omega)
          obtain ⟨u3, d1, d2⟩ := C_push (N := N) (jn (j - 2000) a b) b2 (by omega)
          have hj := C_join (N := N) (s := u2) (c := j - 2000) (by omega) a b
          have e9 : nI j - 2000 = nI (j - 2000) := pk_sub (b := 2000) (by omega)
          refine key _ u3 (hev b a rest rfl) (show rest.length + 1 ≤ rest.length + 1 + 1 + 1 by omega) d2 ?_
          rw [gC_Rule_value_7, if_neg hno, hld, Option.bind_some, if_pos (show (1000 : Int32) ≤ nI j from nI_le (a := 1000) (by omega) (by omega)), if_pos (show (2000 : Int32) ≤ nI j from nI_le (a := 2000) (by omega) (by omega)), if_neg (show ¬ nI j = 2126 from fun z => c3 ((nI_eq (by omega) (by omega)).mp (z.trans L_2126))), a1, Option.bind_some, b1, Option.bind_some, e9, hj, Option.bind_some, d1, Option.bind_some, gC_Rule_value_105, Option.bind_some, nI_1]
/-- the line by the rule: by its code, of what is asked -/
def rv (C : List Nat) (E : Nat → Int32) : Int32 := match evs E C [] with
  | some (v :: _) => v
  | _ => E 3
theorem rv_den {C : List Nat} {E : Nat → Int32} {v : Int32} (h : Den E C v) : rv C E = v := by
  unfold rv; rw [h []]
theorem C_lineBy {E : Nat → Int32} {C : List Nat} (hN : 100 ≤ N) (hC1 : s.1 17 1 = nI C.length) (hC2 : C.length ≤ 40) (hC3 : ∀ k j, C[k]? = some j → s.1 18 k = nI j) (hd : C.length = 0 ∨ ∃ v, Den E C v) (hE : ∀ k, 3 ≤ k → k < 7 → s.1 19 k = E k) : ∃ s', fC_Rule_lineBy N (E 0) (E 1) (E 2) s = some (lm (rv C E), s') ∧ Fr [17, 19, 20] [] s s' ∧ s'.1 17 1 = s.1 17 1 ∧ ∀ k, 3 ≤ k → s'.1 19 k = s.1 19 k := by
  obtain ⟨s0, hs0⟩ : ∃ s0, s0 = s1 (s1 (s1 s 19 0 (E 0)) 19 1 (E 1)) 19 2 (E 2) := ⟨_, rfl⟩
  have f0 : Fr [17, 19, 20] [] s s0 := by rw [hs0]; exact (Fr.s1 (by decide)).tr ((Fr.s1 (by decide)).tr (Fr.s1 (by decide)))
  have g17 : s0.1 17 1 = nI C.length := by rw [hs0, q_s1o (by decide), q_s1o (by decide), q_s1o (by decide)]; exact hC1
  have g18 : s0.1 18 = s.1 18 := f0.1 18 (by decide)
  have g19 : ∀ k, 3 ≤ k → s0.1 19 k = s.1 19 k := fun k hk => by rw [hs0, q_s1k (by omega), q_s1k (by omega), q_s1k (by omega)]
  have hE' : ∀ k, k < 7 → s0.1 19 k = E k := fun k hk => by
    by_cases d : 3 ≤ k
    · rw [g19 k d]; exact hE k d hk
    · have : k = 0 ∨ k = 1 ∨ k = 2 := by omega
      rcases this with rfl | rfl | rfl
      · rw [hs0, q_s1k (by decide), q_s1k (by decide), q_s1]
      · rw [hs0, q_s1k (by decide), q_s1]
      · rw [hs0, q_s1]
  have st : fC_Rule_lineBy N (E 0) (E 1) (E 2) s = if s0.1 17 1 = nI 0 then (fC_Math_floorMod N (s0.1 19 3) 10 s0).bind fun p5 => some (p5.1, p5.2) else (fC_Rule_value N s0).bind fun p6 => (fC_Math_floorMod N p6.1 10 p6.2).bind fun p7 => some (p7.1, p7.2) := by
    rw [hs0]
    simp (disch := omega) only [Option.bind_some, ↓reduceIte, ↓M_1, ↓M_2, L_0, L_1, L_2, L_3, L_4, L_5, L_6, L_7, L_8, L_9, L_10, L_11, L_12, L_13, L_20, L_24, L_26, L_30, L_31, L_32, L_39, L_40, L_48, L_57, L_76, L_80, L_90, L_91, L_97, L_99, L_100, L_255, L_273, L_1000, L_2000, q_ld, q_ldL, q_sto, q_stoL, q_add, q_sub, q_mul, q_dec, q_rem, q_div, q_lt_t, q_lt_f, q_le_t, q_le_f, q_eq_t, q_eq_f, q_em, q_me, q_ml, q_lm, q_mle, q_lem, q_s1, q_s1o, q_s1k, q_s12, q_s2, q_s2o, q_s2k, q_s21, Nat.add_sub_cancel, q_or, q_and, q_shl, true_or, or_true, false_or, or_false, true_and, and_true, false_and, and_false, not_true_eq_false, not_false_eq_true, ne_eq, fC_Rule_lineBy, gC_Rule_lineBy_0]
  by_cases c : C.length = 0
  · have hnil : C = [] := List.length_eq_zero_iff.mp c
    subst hnil
    refine ⟨s0, ?_, f0, ?_, g19⟩
    · rw [st, g17, if_pos (show nI ([] : List Nat).length = nI 0 from rfl), hE' 3 (by omega), C_floorMod, Option.bind_some]; rfl
    · rw [g17]; exact hC1.symm
  · obtain ⟨v, hv⟩ := hd.resolve_left c
    have hVS : VS s0 (s1 s0 17 4 (nI 0)) [] := ⟨Fr.s1 (by decide), q_s1k (by decide), q_s1 _ _ _ _, trivial⟩
    obtain ⟨u, a1, a2⟩ := C_run (N := N) g17 hC2 hE' C 0 N [] [v] (s1 s0 17 4 (nI 0)) (hv []) (Nat.zero_add _) (fun i j hi => by rw [Nat.zero_add, g18]; exact hC3 i j hi) (by show 0 + C.length ≤ 40; omega) (by omega) hVS
    obtain ⟨u2, b1, b2⟩ := C_pop (N := N) a2 (by decide)
    obtain ⟨m, hm⟩ : ∃ m, N - C.length = m + 1 := ⟨N - C.length - 1, by omega⟩
    have ev : fC_Rule_value N s0 = some (v, u2) := by
      rw [fC_Rule_value, gC_Rule_value_0, Option.bind_some]
      show gC_Rule_value_7 N N (nI 0) (s1 s0 17 4 (nI 0)) = _
      rw [a1, hm, gC_Rule_value_7, if_pos (show u.1 17 1 ≤ nI C.length by rw [a2.2.1, g17]; exact Int32.le_refl _), b1, Option.bind_some]
    refine ⟨u2, ?_, f0.tr (b2.1.mono (by decide) (by decide)), ?_, fun k hk => ?_⟩
    · rw [st, g17, if_neg (show ¬ nI C.length = nI 0 from fun z => c ((nI_eq (by omega) (by omega)).mp z)), ev, Option.bind_some, C_floorMod, Option.bind_some, rv_den hv]
    · rw [b2.2.1, g17]; exact hC1.symm
    · rw [b2.1.1 19 (by decide)]; exact g19 k hk
end RV
