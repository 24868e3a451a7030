/-! apart -/
/-- up, with what is left to burn -/
theorem loopUf {α β : Type} (G : Nat → Nat → α → β) (M : Nat) (Inv : Nat → α → Prop) (Post : β → Prop)
    (hs : ∀ n i a, i < M → M ≤ n + i → Inv i a → (∃ a', G (n + 1) i a = G n (i + 1) a' ∧ Inv (i + 1) a') ∨ Post (G (n + 1) i a))
    (he : ∀ n a, Inv M a → Post (G (n + 1) M a)) : ∀ k n i a, i + k = M → k < n → Inv i a → Post (G n i a) := by
  intro k
  induction k with
  | zero =>
    intro n i a hi hn h
    obtain ⟨n, rfl⟩ : ∃ m, n = m + 1 := ⟨n - 1, by omega⟩
    obtain rfl : i = M := by omega
    exact he n a h
  | succ k ih =>
    intro n i a hi hn h
    obtain ⟨n, rfl⟩ : ∃ m, n = m + 1 := ⟨n - 1, by omega⟩
    rcases hs n i a (by omega) (by omega) h with ⟨a', h1, h2⟩ | h1
    · rw [h1]
      exact ih n (i + 1) a' (by omega) (by omega) h2
    · exact h1
section AP
variable {N : Nat} {U : vSt → vSt → Prop} {w : Nat → Nat → Nat} {s t : vSt} {u v k : Nat}
def btw (w : Nat → Nat → Nat) (u v : Nat) : Nat := nand (nand (2 ^ w 5 0 - 1) (2 ^ u)) (2 ^ v)
def apB (w : Nat → Nat → Nat) (u v k x : Nat) : Bool := decide (nand x (btw w u v) = 0) && (decide (arr w (nand (2 ^ w 5 0 - 1) x) 100 u k v < 1000000) && decide (arr w (nand (2 ^ w 5 0 - 1) (nand (btw w u v) x)) 100 u k v < 1000000))
theorem btw_lt (h : okW w) : btw w u v < 512 := by
  have h1 := nand_le (nand (2 ^ w 5 0 - 1) (2 ^ u)) (2 ^ v)
  have h2 := nand_le (2 ^ w 5 0 - 1) (2 ^ u)
  have h3 : 2 ^ w 5 0 ≤ 512 := Nat.pow_le_pow_right (by decide) h.1
  have := Nat.one_le_two_pow (n := w 5 0)
  unfold btw
  omega
theorem all_lt (h : okW w) (x : Nat) : nand (2 ^ w 5 0 - 1) x < 512 := by
  have h1 := nand_le (2 ^ w 5 0 - 1) x
  have h3 : 2 ^ w 5 0 ≤ 512 := Nat.pow_le_pow_right (by decide) h.1
  have := Nat.one_le_two_pow (n := w 5 0)
  omega
theorem shuts_not (h : okW w) (x : Nat) : shuts w (nI x ^^^ mI 1) (nand (2 ^ w 5 0 - 1) x) := fun p hp => by
  have hP := h.1
  rw [Int32.and_comm, q_nand, nand_tb, all_tb, decide_eq_true hp, Bool.true_and]
  refine propext ?_
  have hlt : nand (2 ^ p) x < 2 ^ 31 := Nat.lt_of_le_of_lt (nand_le _ _) (pow_lt (by omega))
  rw [nI_eq hlt (by decide), nand_0]
  constructor
  · intro z
    rw [z p (Nat.testBit_two_pow_self)]
    rfl
  · intro z i hi
    by_cases c : i = p
    · subst c
      cases hx : x.testBit i
      · rw [hx] at z; cases z
      · rfl
    · rw [Nat.testBit_two_pow_of_ne (Ne.symm c)] at hi
      cases hi
theorem C_comesBy (h : CW w s) (hN : 60 ≤ N) (hu : u < w 5 0) (hv : v < w 5 0) (hk : k < 100) (x : Nat) : ∃ z, fC_Paths_comesBy N (nI u) (nI v) (nI k) (nI x) s = some (if arr w (nand (2 ^ w 5 0 - 1) x) 100 u k v < 1000000 then nI 1 else nI 0, z) ∧ Fr [42] [] s z := by
  have hb := h.bd
  obtain ⟨z, x1, x2, x3⟩ := C_spread0 (N := N) (go := 100) h hN hu (show k < 1000 by omega) (shuts_not h.ok x) (Or.inr rfl)
  rw [gI_no (g := 100) (by decide)] at x1
  have e1 := x3 v hv
  refine ⟨z, ?_, x2⟩
  rcases arr_bd (br := nand (2 ^ w 5 0 - 1) x) (go := 100) (u := u) (k := k) (v := v) h.ok with d | d
  · rw [if_pos (by omega)]
    rw [ea_lt d] at e1
    simp (disch := omega) only [Option.bind_some, ↓reduceIte, ↓M_1, ↓M_2, L_0, L_1, L_2, L_3, L_4, L_5, L_6, L_7, L_8, L_9, L_10, L_11, L_12, L_13, L_20, L_24, L_26, L_30, L_31, L_32, L_39, L_40, L_48, L_57, L_76, L_80, L_90, L_91, L_97, L_99, L_100, L_255, L_273, L_1000, L_2000, q_ld, q_ldL, q_sto, q_stoL, q_add, q_sub, q_mul, q_dec, q_rem, q_div, q_lt_t, q_lt_f, q_le_t, q_le_f, q_eq_t, q_eq_f, q_em, q_me, q_ml, q_lm, q_mle, q_lem, q_s1, q_s1o, q_s1k, q_s12, q_s2, q_s2o, q_s2k, q_s21, Nat.add_sub_cancel, q_or, q_and, q_shl, true_or, or_true, false_or, or_false, true_and, and_true, false_and, and_false, not_true_eq_false, not_false_eq_true, ne_eq, fC_Paths_comesBy, gC_Paths_comesBy_0, x1, e1]
  · rw [if_neg (by omega)]
    rw [d, ea_far] at e1
    simp (disch := omega) only [Option.bind_some, ↓reduceIte, ↓M_1, ↓M_2, L_0, L_1, L_2, L_3, L_4, L_5, L_6, L_7, L_8, L_9, L_10, L_11, L_12, L_13, L_20, L_24, L_26, L_30, L_31, L_32, L_39, L_40, L_48, L_57, L_76, L_80, L_90, L_91, L_97, L_99, L_100, L_255, L_273, L_1000, L_2000, q_ld, q_ldL, q_sto, q_stoL, q_add, q_sub, q_mul, q_dec, q_rem, q_div, q_lt_t, q_lt_f, q_le_t, q_le_f, q_eq_t, q_eq_f, q_em, q_me, q_ml, q_lm, q_mle, q_lem, q_s1, q_s1o, q_s1k, q_s12, q_s2, q_s2o, q_s2k, q_s21, Nat.add_sub_cancel, q_or, q_and, q_shl, true_or, or_true, false_or, or_false, true_and, and_true, false_and, and_false, not_true_eq_false, not_false_eq_true, ne_eq, fC_Paths_comesBy, gC_Paths_comesBy_0, x1, e1]
def nxI (f n : Nat) : Int32 := if f < n then nI f else mI 1
theorem C_leastPart24 (h : CW w s) (hN : 600 ≤ N) (hu : u < w 5 0) (hv : v < w 5 0) (hk : k < 100) : ∃ z, gC_Paths_leastPart_24 N N (nI u) (nI v) (nI k) (nI (btw w u v)) (nI 0) s = some (nxI (fst1 (apB w u v k) (btw w u v + 1)) (btw w u v + 1), z) ∧ Fr [42] [] s z := by
  have hb := h.bd
  have hbt := btw_lt (u := u) (v := v) h.ok
  refine loopU (fun f i z => gC_Paths_leastPart_24 N f (nI u) (nI v) (nI k) (nI (btw w u v)) (nI i) z) (btw w u v + 1) (fun i z => i ≤ btw w u v + 1 ∧ Fr [42] [] s z ∧ ∀ j, j < i → apB w u v k j = false) (fun o => ∃ z, o = some (nxI (fst1 (apB w u v k) (btw w u v + 1)) (btw w u v + 1), z) ∧ Fr [42] [] s z) ?_ ?_ (btw w u v + 1) N 0 s (by omega) (by omega) ⟨by omega, Fr.rf, fun j hj => by omega⟩
  · rintro f i z hi ⟨g1, g2, g3⟩
    have hz : CW w z := h.fr g2 (by decide)
    have hnl : nand i (btw w u v) ≤ i := nand_le _ _
    have ep : apB w u v k i = (decide (nand i (btw w u v) = 0) && (decide (arr w (nand (2 ^ w 5 0 - 1) i) 100 u k v < 1000000) && decide (arr w (nand (2 ^ w 5 0 - 1) (nand (btw w u v) i)) 100 u k v < 1000000))) := rfl
    have next : ∀ z', Fr [42] [] s z' → apB w u v k i = false → gC_Paths_leastPart_24 N (f + 1) (nI u) (nI v) (nI k) (nI (btw w u v)) (nI i) z = gC_Paths_leastPart_24 N f (nI u) (nI v) (nI k) (nI (btw w u v)) (nI (i + 1)) z' → (∃ a', gC_Paths_leastPart_24 N (f + 1) (nI u) (nI v) (nI k) (nI (btw w u v)) (nI i) z = gC_Paths_leastPart_24 N f (nI u) (nI v) (nI k) (nI (btw w u v)) (nI (i + 1)) a' ∧ i + 1 ≤ btw w u v + 1 ∧ Fr [42] [] s a' ∧ ∀ j, j < i + 1 → apB w u v k j = false) := fun z' hz' hf he => ⟨z', he, by omega, hz', fun j hj => by
      by_cases d : j = i
      · rw [d]; exact hf
      · exact g3 j (by omega)⟩
    by_cases c1 : nand i (btw w u v) = 0
    · obtain ⟨z1, x1, x2⟩ := C_comesBy (N := N) hz (by omega) hu hv hk i
      have hz1 : CW w z1 := hz.fr x2 (by decide)
      by_cases c2 : arr w (nand (2 ^ w 5 0 - 1) i) 100 u k v < 1000000
      · rw [if_pos c2] at x1
        obtain ⟨z2, y1, y2⟩ := C_comesBy (N := N) hz1 (by omega) hu hv hk (nand (btw w u v) i)
        by_cases c3 : arr w (nand (2 ^ w 5 0 - 1) (nand (btw w u v) i)) 100 u k v < 1000000
        · rw [if_pos c3] at y1
          have hf : fst1 (apB w u v k) (btw w u v + 1) = i := fst1_of hi (by rw [ep, decide_eq_true c1, decide_eq_true c2, decide_eq_true c3]; rfl) g3
          refine Or.inr ⟨z2, ?_, (g2.tr x2).tr y2⟩
          rw [hf, show nxI i (btw w u v + 1) = nI i from if_pos hi]
          try simp only
          rw [gC_Paths_leastPart_24]
          simp (disch := omega) only [Option.bind_some, ↓reduceIte, ↓M_1, ↓M_2, L_0, L_1, L_2, L_3, L_4, L_5, L_6, L_7, L_8, L_9, L_10, L_11, L_12, L_13, L_20, L_24, L_26, L_30, L_31, L_32, L_39, L_40, L_48, L_57, L_76, L_80, L_90, L_91, L_97, L_99, L_100, L_255, L_273, L_1000, L_2000, q_ld, q_ldL, q_sto, q_stoL, q_add, q_sub, q_mul, q_dec, q_rem, q_div, q_lt_t, q_lt_f, q_le_t, q_le_f, q_eq_t, q_eq_f, q_em, q_me, q_ml, q_lm, q_mle, q_lem, q_s1, q_s1o, q_s1k, q_s12, q_s2, q_s2o, q_s2k, q_s21, Nat.add_sub_cancel, q_or, q_and, q_shl, true_or, or_true, false_or, or_false, true_and, and_true, false_and, and_false, not_true_eq_false, not_false_eq_true, ne_eq, q_nand, c1, gC_Paths_leastPart_46, x1, y1]
        · rw [if_neg c3] at y1
          refine Or.inl (next z2 ((g2.tr x2).tr y2) (by rw [ep, decide_eq_false c3, Bool.and_false, Bool.and_false]) ?_)
          rw [gC_Paths_leastPart_24]
          simp (disch := omega) only [Option.bind_some, ↓reduceIte, ↓M_1, ↓M_2, L_0, L_1, L_2, L_3, L_4, L_5, L_6, L_7, L_8, L_9, L_10, L_11, L_12, L_13, L_20, L_24, L_26, L_30, L_31, L_32, L_39, L_40, L_48, L_57, L_76, L_80, L_90, L_91, L_97, L_99, L_100, L_255, L_273, L_1000, L_2000, q_ld, q_ldL, q_sto, q_stoL, q_add, q_sub, q_mul, q_dec, q_rem, q_div, q_lt_t, q_lt_f, q_le_t, q_le_f, q_eq_t, q_eq_f, q_em, q_me, q_ml, q_lm, q_mle, q_lem, q_s1, q_s1o, q_s1k, q_s12, q_s2, q_s2o, q_s2k, q_s21, Nat.add_sub_cancel, q_or, q_and, q_shl, true_or, or_true, false_or, or_false, true_and, and_true, false_and, and_false, not_true_eq_false, not_false_eq_true, ne_eq, q_nand, c1, gC_Paths_leastPart_46, x1, y1, gC_Paths_leastPart_85]
      · rw [if_neg c2] at x1
        refine Or.inl (next z1 (g2.tr x2) (by rw [ep, decide_eq_false c2, Bool.false_and, Bool.and_false]) ?_)
        rw [gC_Paths_leastPart_24]
        simp (disch := omega) only [Option.bind_some, ↓reduceIte, ↓M_1, ↓M_2, L_0, L_1, L_2, L_3, L_4, L_5, L_6, L_7, L_8, L_9, L_10, L_11, L_12, L_13, L_20, L_24, L_26, L_30, L_31, L_32, L_39, L_40, L_48, L_57, L_76, L_80, L_90, L_91, L_97, L_99, L_100, L_255, L_273, L_1000, L_2000, q_ld, q_ldL, q_sto, q_stoL, q_add, q_sub, q_mul, q_dec, q_rem, q_div, q_lt_t, q_lt_f, q_le_t, q_le_f, q_eq_t, q_eq_f, q_em, q_me, q_ml, q_lm, q_mle, q_lem, q_s1, q_s1o, q_s1k, q_s12, q_s2, q_s2o, q_s2k, q_s21, Nat.add_sub_cancel, q_or, q_and, q_shl, true_or, or_true, false_or, or_false, true_and, and_true, false_and, and_false, not_true_eq_false, not_false_eq_true, ne_eq, q_nand, c1, gC_Paths_leastPart_46, x1, gC_Paths_leastPart_85]
    · refine Or.inl (next z g2 (by rw [ep, decide_eq_false c1, Bool.false_and]) ?_)
      rw [gC_Paths_leastPart_24]
      simp (disch := omega) only [Option.bind_some, ↓reduceIte, ↓M_1, ↓M_2, L_0, L_1, L_2, L_3, L_4, L_5, L_6, L_7, L_8, L_9, L_10, L_11, L_12, L_13, L_20, L_24, L_26, L_30, L_31, L_32, L_39, L_40, L_48, L_57, L_76, L_80, L_90, L_91, L_97, L_99, L_100, L_255, L_273, L_1000, L_2000, q_ld, q_ldL, q_sto, q_stoL, q_add, q_sub, q_mul, q_dec, q_rem, q_div, q_lt_t, q_lt_f, q_le_t, q_le_f, q_eq_t, q_eq_f, q_em, q_me, q_ml, q_lm, q_mle, q_lem, q_s1, q_s1o, q_s1k, q_s12, q_s2, q_s2o, q_s2k, q_s21, Nat.add_sub_cancel, q_or, q_and, q_shl, true_or, or_true, false_or, or_false, true_and, and_true, false_and, and_false, not_true_eq_false, not_false_eq_true, ne_eq, q_nand, gC_Paths_leastPart_46, gC_Paths_leastPart_85]
  · rintro f z ⟨g1, g2, g3⟩
    have hf : ¬ fst1 (apB w u v k) (btw w u v + 1) < btw w u v + 1 := fun y => by
      have h1 := fst1_lt y
      rw [g3 _ y] at h1
      cases h1
    refine ⟨z, ?_, g2⟩
    rw [show nxI (fst1 (apB w u v k) (btw w u v + 1)) (btw w u v + 1) = mI 1 from if_neg hf]
    try simp only
    rw [gC_Paths_leastPart_24]
    simp (disch := omega) only [Option.bind_some, ↓reduceIte, ↓M_1, ↓M_2, L_0, L_1, L_2, L_3, L_4, L_5, L_6, L_7, L_8, L_9, L_10, L_11, L_12, L_13, L_20, L_24, L_26, L_30, L_31, L_32, L_39, L_40, L_48, L_57, L_76, L_80, L_90, L_91, L_97, L_99, L_100, L_255, L_273, L_1000, L_2000, q_ld, q_ldL, q_sto, q_stoL, q_add, q_sub, q_mul, q_dec, q_rem, q_div, q_lt_t, q_lt_f, q_le_t, q_le_f, q_eq_t, q_eq_f, q_em, q_me, q_ml, q_lm, q_mle, q_lem, q_s1, q_s1o, q_s1k, q_s12, q_s2, q_s2o, q_s2k, q_s21, Nat.add_sub_cancel, q_or, q_and, q_shl, true_or, or_true, false_or, or_false, true_and, and_true, false_and, and_false, not_true_eq_false, not_false_eq_true, ne_eq]
theorem M_apart54 (h : MW w t) (hN : 600 ≤ N) (hu : u < w 5 0) (hv : v < w 5 0) (hk : k < 100) (h34 : t.1 0 34 = nI 1000000) (h35 : t.1 0 35 = gI 100) : ∃ z, gM_EachAddsALineModel_apart_54 N N (nI u) (nI v) (nI k) (nI (2 ^ w 5 0 - 1)) (nI (btw w u v)) (mI 1) (nI 0) t = gM_EachAddsALineModel_apart_153 N (nxI (fst1 (apB w u v k) (btw w u v + 1)) (btw w u v + 1)) z ∧ Fm [11, 12, 13] [] [30, 33] t z := by
  have hb := h.bd
  have hbt := btw_lt (u := u) (v := v) h.ok
  refine loopUf (fun f i z => gM_EachAddsALineModel_apart_54 N f (nI u) (nI v) (nI k) (nI (2 ^ w 5 0 - 1)) (nI (btw w u v)) (mI 1) (nI i) z) (btw w u v + 1) (fun i z => i ≤ btw w u v + 1 ∧ Fm [11, 12, 13] [] [30, 33] t z ∧ ∀ j, j < i → apB w u v k j = false) (fun o => ∃ z, o = gM_EachAddsALineModel_apart_153 N (nxI (fst1 (apB w u v k) (btw w u v + 1)) (btw w u v + 1)) z ∧ Fm [11, 12, 13] [] [30, 33] t z) ?_ ?_ (btw w u v + 1) N 0 t (by omega) (by omega) ⟨by omega, Fm.rf, fun j hj => by omega⟩
  · rintro f i z hi hfu ⟨g1, g2, g3⟩
    have hz : MW w z := h.fm g2 (by decide) (by decide)
    have hnl : nand i (btw w u v) ≤ i := nand_le _ _
    have ep : apB w u v k i = (decide (nand i (btw w u v) = 0) && (decide (arr w (nand (2 ^ w 5 0 - 1) i) 100 u k v < 1000000) && decide (arr w (nand (2 ^ w 5 0 - 1) (nand (btw w u v) i)) 100 u k v < 1000000))) := rfl
    have next : ∀ z', Fm [11, 12, 13] [] [30, 33] t z' → apB w u v k i = false → gM_EachAddsALineModel_apart_54 N (f + 1) (nI u) (nI v) (nI k) (nI (2 ^ w 5 0 - 1)) (nI (btw w u v)) (mI 1) (nI i) z = gM_EachAddsALineModel_apart_54 N f (nI u) (nI v) (nI k) (nI (2 ^ w 5 0 - 1)) (nI (btw w u v)) (mI 1) (nI (i + 1)) z' → (∃ a', gM_EachAddsALineModel_apart_54 N (f + 1) (nI u) (nI v) (nI k) (nI (2 ^ w 5 0 - 1)) (nI (btw w u v)) (mI 1) (nI i) z = gM_EachAddsALineModel_apart_54 N f (nI u) (nI v) (nI k) (nI (2 ^ w 5 0 - 1)) (nI (btw w u v)) (mI 1) (nI (i + 1)) a' ∧ i + 1 ≤ btw w u v + 1 ∧ Fm [11, 12, 13] [] [30, 33] t a' ∧ ∀ j, j < i + 1 → apB w u v k j = false) := fun z' hz' hf he => ⟨z', he, by omega, hz', fun j hj => by
      by_cases d : j = i
      · rw [d]; exact hf
      · exact g3 j (by omega)⟩
    by_cases c1 : nand i (btw w u v) = 0
    · have f3 : Fm [11, 12, 13] [] [30, 33] t (s1 z 0 33 (nI (nand (2 ^ w 5 0 - 1) i))) := g2.tr (Fm.w10 (by decide))
      have hz3 : MW w (s1 z 0 33 (nI (nand (2 ^ w 5 0 - 1) i))) := h.fm f3 (by decide) (by decide)
      obtain ⟨z1, x1, x2⟩ := M_soonest0 (N := N) (br := nand (2 ^ w 5 0 - 1) i) (go := 100) (k := k) hz3 (by omega) hu hv (by omega) (all_lt h.ok i) (q_s1 _ _ _ _) ((f3.2.2 34 (by decide)).trans h34) ((f3.2.2 35 (by decide)).trans h35)
      have hbd := arr_bd (br := nand (2 ^ w 5 0 - 1) i) (go := 100) (u := u) (k := k) (v := v) h.ok
      have f4 : Fm [11, 12, 13] [] [30, 33] t (s1 z1 0 33 (nI (nand (2 ^ w 5 0 - 1) (nand (btw w u v) i)))) := (f3.tr (x2.mono (by decide) (by decide) (by decide))).tr (Fm.w10 (by decide))
      by_cases c2 : arr w (nand (2 ^ w 5 0 - 1) i) 100 u k v < 1000000
      · have hz4 : MW w (s1 z1 0 33 (nI (nand (2 ^ w 5 0 - 1) (nand (btw w u v) i)))) := h.fm f4 (by decide) (by decide)
        obtain ⟨z2, y1, y2⟩ := M_soonest0 (N := N) (br := nand (2 ^ w 5 0 - 1) (nand (btw w u v) i)) (go := 100) (k := k) hz4 (by omega) hu hv (by omega) (all_lt h.ok _) (q_s1 _ _ _ _) ((f4.2.2 34 (by decide)).trans h34) ((f4.2.2 35 (by decide)).trans h35)
        have hbd2 := arr_bd (br := nand (2 ^ w 5 0 - 1) (nand (btw w u v) i)) (go := 100) (u := u) (k := k) (v := v) h.ok
        have f5 := f4.tr (y2.mono (by decide) (by decide) (by decide) : Fm [11, 12, 13] [] [30, 33] _ z2)
        by_cases c3 : arr w (nand (2 ^ w 5 0 - 1) (nand (btw w u v) i)) 100 u k v < 1000000
        · have hf : fst1 (apB w u v k) (btw w u v + 1) = i := fst1_of hi (by rw [ep, decide_eq_true c1, decide_eq_true c2, decide_eq_true c3]; rfl) g3
          refine Or.inr ⟨z2, ?_, f5⟩
          rw [hf, show nxI i (btw w u v + 1) = nI i from if_pos hi]
          try simp only
          rw [gM_EachAddsALineModel_apart_54]
          simp (disch := omega) only [Option.bind_some, ↓reduceIte, ↓M_1, ↓M_2, L_0, L_1, L_2, L_3, L_4, L_5, L_6, L_7, L_8, L_9, L_10, L_11, L_12, L_13, L_20, L_24, L_26, L_30, L_31, L_32, L_39, L_40, L_48, L_57, L_76, L_80, L_90, L_91, L_97, L_99, L_100, L_255, L_273, L_1000, L_2000, q_ld, q_ldL, q_sto, q_stoL, q_add, q_sub, q_mul, q_dec, q_rem, q_div, q_lt_t, q_lt_f, q_le_t, q_le_f, q_eq_t, q_eq_f, q_em, q_me, q_ml, q_lm, q_mle, q_lem, q_s1, q_s1o, q_s1k, q_s12, q_s2, q_s2o, q_s2k, q_s21, Nat.add_sub_cancel, q_or, q_and, q_shl, true_or, or_true, false_or, or_false, true_and, and_true, false_and, and_false, not_true_eq_false, not_false_eq_true, ne_eq, q_nand, c1, x1, y1, L_1000000, gM_EachAddsALineModel_apart_108, gM_EachAddsALineModel_apart_147]
          obtain ⟨f', rfl⟩ : ∃ f', f = f' + 1 := ⟨f - 1, by omega⟩
          rw [gM_EachAddsALineModel_apart_54]
          by_cases c4 : btw w u v < i + 1
          · simp (disch := omega) only [Option.bind_some, ↓reduceIte, ↓M_1, ↓M_2, L_0, L_1, L_2, L_3, L_4, L_5, L_6, L_7, L_8, L_9, L_10, L_11, L_12, L_13, L_20, L_24, L_26, L_30, L_31, L_32, L_39, L_40, L_48, L_57, L_76, L_80, L_90, L_91, L_97, L_99, L_100, L_255, L_273, L_1000, L_2000, q_ld, q_ldL, q_sto, q_stoL, q_add, q_sub, q_mul, q_dec, q_rem, q_div, q_lt_t, q_lt_f, q_le_t, q_le_f, q_eq_t, q_eq_f, q_em, q_me, q_ml, q_lm, q_mle, q_lem, q_s1, q_s1o, q_s1k, q_s12, q_s2, q_s2o, q_s2k, q_s21, Nat.add_sub_cancel, q_or, q_and, q_shl, true_or, or_true, false_or, or_false, true_and, and_true, false_and, and_false, not_true_eq_false, not_false_eq_true, ne_eq]
          · simp (disch := omega) only [Option.bind_some, ↓reduceIte, ↓M_1, ↓M_2, L_0, L_1, L_2, L_3, L_4, L_5, L_6, L_7, L_8, L_9, L_10, L_11, L_12, L_13, L_20, L_24, L_26, L_30, L_31, L_32, L_39, L_40, L_48, L_57, L_76, L_80, L_90, L_91, L_97, L_99, L_100, L_255, L_273, L_1000, L_2000, q_ld, q_ldL, q_sto, q_stoL, q_add, q_sub, q_mul, q_dec, q_rem, q_div, q_lt_t, q_lt_f, q_le_t, q_le_f, q_eq_t, q_eq_f, q_em, q_me, q_ml, q_lm, q_mle, q_lem, q_s1, q_s1o, q_s1k, q_s12, q_s2, q_s2o, q_s2k, q_s21, Nat.add_sub_cancel, q_or, q_and, q_shl, true_or, or_true, false_or, or_false, true_and, and_true, false_and, and_false, not_true_eq_false, not_false_eq_true, ne_eq]
        · refine Or.inl (next z2 f5 (by rw [ep, decide_eq_false c3, Bool.and_false, Bool.and_false]) ?_)
          rw [gM_EachAddsALineModel_apart_54]
          simp (disch := omega) only [Option.bind_some, ↓reduceIte, ↓M_1, ↓M_2, L_0, L_1, L_2, L_3, L_4, L_5, L_6, L_7, L_8, L_9, L_10, L_11, L_12, L_13, L_20, L_24, L_26, L_30, L_31, L_32, L_39, L_40, L_48, L_57, L_76, L_80, L_90, L_91, L_97, L_99, L_100, L_255, L_273, L_1000, L_2000, q_ld, q_ldL, q_sto, q_stoL, q_add, q_sub, q_mul, q_dec, q_rem, q_div, q_lt_t, q_lt_f, q_le_t, q_le_f, q_eq_t, q_eq_f, q_em, q_me, q_ml, q_lm, q_mle, q_lem, q_s1, q_s1o, q_s1k, q_s12, q_s2, q_s2o, q_s2k, q_s21, Nat.add_sub_cancel, q_or, q_and, q_shl, true_or, or_true, false_or, or_false, true_and, and_true, false_and, and_false, not_true_eq_false, not_false_eq_true, ne_eq, q_nand, c1, x1, y1, L_1000000, gM_EachAddsALineModel_apart_108, gM_EachAddsALineModel_apart_147]
      · refine Or.inl (next _ f4 (by rw [ep, decide_eq_false c2, Bool.false_and, Bool.and_false]) ?_)
        rw [gM_EachAddsALineModel_apart_54]
        simp (disch := omega) only [Option.bind_some, ↓reduceIte, ↓M_1, ↓M_2, L_0, L_1, L_2, L_3, L_4, L_5, L_6, L_7, L_8, L_9, L_10, L_11, L_12, L_13, L_20, L_24, L_26, L_30, L_31, L_32, L_39, L_40, L_48, L_57, L_76, L_80, L_90, L_91, L_97, L_99, L_100, L_255, L_273, L_1000, L_2000, q_ld, q_ldL, q_sto, q_stoL, q_add, q_sub, q_mul, q_dec, q_rem, q_div, q_lt_t, q_lt_f, q_le_t, q_le_f, q_eq_t, q_eq_f, q_em, q_me, q_ml, q_lm, q_mle, q_lem, q_s1, q_s1o, q_s1k, q_s12, q_s2, q_s2o, q_s2k, q_s21, Nat.add_sub_cancel, q_or, q_and, q_shl, true_or, or_true, false_or, or_false, true_and, and_true, false_and, and_false, not_true_eq_false, not_false_eq_true, ne_eq, q_nand, c1, x1, L_1000000, gM_EachAddsALineModel_apart_108, gM_EachAddsALineModel_apart_147]
    · refine Or.inl (next z g2 (by rw [ep, decide_eq_false c1, Bool.false_and]) ?_)
      rw [gM_EachAddsALineModel_apart_54]
      simp (disch := omega) only [Option.bind_some, ↓reduceIte, ↓M_1, ↓M_2, L_0, L_1, L_2, L_3, L_4, L_5, L_6, L_7, L_8, L_9, L_10, L_11, L_12, L_13, L_20, L_24, L_26, L_30, L_31, L_32, L_39, L_40, L_48, L_57, L_76, L_80, L_90, L_91, L_97, L_99, L_100, L_255, L_273, L_1000, L_2000, q_ld, q_ldL, q_sto, q_stoL, q_add, q_sub, q_mul, q_dec, q_rem, q_div, q_lt_t, q_lt_f, q_le_t, q_le_f, q_eq_t, q_eq_f, q_em, q_me, q_ml, q_lm, q_mle, q_lem, q_s1, q_s1o, q_s1k, q_s12, q_s2, q_s2o, q_s2k, q_s21, Nat.add_sub_cancel, q_or, q_and, q_shl, true_or, or_true, false_or, or_false, true_and, and_true, false_and, and_false, not_true_eq_false, not_false_eq_true, ne_eq, q_nand, gM_EachAddsALineModel_apart_147]
  · rintro f z ⟨g1, g2, g3⟩
    have hf : ¬ fst1 (apB w u v k) (btw w u v + 1) < btw w u v + 1 := fun y => by
      have h1 := fst1_lt y
      rw [g3 _ y] at h1
      cases h1
    refine ⟨z, ?_, g2⟩
    rw [show nxI (fst1 (apB w u v k) (btw w u v + 1)) (btw w u v + 1) = mI 1 from if_neg hf]
    try simp only
    rw [gM_EachAddsALineModel_apart_54]
    simp (disch := omega) only [Option.bind_some, ↓reduceIte, ↓M_1, ↓M_2, L_0, L_1, L_2, L_3, L_4, L_5, L_6, L_7, L_8, L_9, L_10, L_11, L_12, L_13, L_20, L_24, L_26, L_30, L_31, L_32, L_39, L_40, L_48, L_57, L_76, L_80, L_90, L_91, L_97, L_99, L_100, L_255, L_273, L_1000, L_2000, q_ld, q_ldL, q_sto, q_stoL, q_add, q_sub, q_mul, q_dec, q_rem, q_div, q_lt_t, q_lt_f, q_le_t, q_le_f, q_eq_t, q_eq_f, q_em, q_me, q_ml, q_lm, q_mle, q_lem, q_s1, q_s1o, q_s1k, q_s12, q_s2, q_s2o, q_s2k, q_s21, Nat.add_sub_cancel, q_or, q_and, q_shl, true_or, or_true, false_or, or_false, true_and, and_true, false_and, and_false, not_true_eq_false, not_false_eq_true, ne_eq]
theorem k_apart (hU : okU U) (hN : 600 ≤ N) : keeps3 N (RR U) fC_EachAddsALine_apart fM_EachAddsALineModel_apart := by
  refine keeps3_trip hU (fun w s a b c hw e => by simp (disch := omega) only [Option.bind_some, ↓reduceIte, ↓M_1, ↓M_2, L_0, L_1, L_2, L_3, L_4, L_5, L_6, L_7, L_8, L_9, L_10, L_11, L_12, L_13, L_20, L_24, L_26, L_30, L_31, L_32, L_39, L_40, L_48, L_57, L_76, L_80, L_90, L_91, L_97, L_99, L_100, L_255, L_273, L_1000, L_2000, q_ld, q_ldL, q_sto, q_stoL, q_add, q_sub, q_mul, q_dec, q_rem, q_div, q_lt_t, q_lt_f, q_le_t, q_le_f, q_eq_t, q_eq_f, q_em, q_me, q_ml, q_lm, q_mle, q_lem, q_s1, q_s1o, q_s1k, q_s12, q_s2, q_s2o, q_s2k, q_s21, Nat.add_sub_cancel, q_or, q_and, q_shl, true_or, or_true, false_or, or_false, true_and, and_true, false_and, and_false, not_true_eq_false, not_false_eq_true, ne_eq, fC_EachAddsALine_apart, gC_EachAddsALine_apart_0, e]) (fun w t a b c hw e => by simp (disch := omega) only [Option.bind_some, ↓reduceIte, ↓M_1, ↓M_2, L_0, L_1, L_2, L_3, L_4, L_5, L_6, L_7, L_8, L_9, L_10, L_11, L_12, L_13, L_20, L_24, L_26, L_30, L_31, L_32, L_39, L_40, L_48, L_57, L_76, L_80, L_90, L_91, L_97, L_99, L_100, L_255, L_273, L_1000, L_2000, q_ld, q_ldL, q_sto, q_stoL, q_add, q_sub, q_mul, q_dec, q_rem, q_div, q_lt_t, q_lt_f, q_le_t, q_le_f, q_eq_t, q_eq_f, q_em, q_me, q_ml, q_lm, q_mle, q_lem, q_s1, q_s1o, q_s1k, q_s12, q_s2, q_s2o, q_s2k, q_s21, Nat.add_sub_cancel, q_or, q_and, q_shl, true_or, or_true, false_or, or_false, true_and, and_true, false_and, and_false, not_true_eq_false, not_false_eq_true, ne_eq, fM_EachAddsALineModel_apart, gM_EachAddsALineModel_apart_0, e]) (fun s t w u v k hr h1 h2 hu hv hk ec em => ?_)
  have hmc := hr.mc.r
  have hb := h1.bd
  have h2' := M_rd0 h2 (nI 0)
  by_cases c : u = v
  · subst c
    exact ⟨mI 1, s, _, by simp (disch := omega) only [Option.bind_some, ↓reduceIte, ↓M_1, ↓M_2, L_0, L_1, L_2, L_3, L_4, L_5, L_6, L_7, L_8, L_9, L_10, L_11, L_12, L_13, L_20, L_24, L_26, L_30, L_31, L_32, L_39, L_40, L_48, L_57, L_76, L_80, L_90, L_91, L_97, L_99, L_100, L_255, L_273, L_1000, L_2000, q_ld, q_ldL, q_sto, q_stoL, q_add, q_sub, q_mul, q_dec, q_rem, q_div, q_lt_t, q_lt_f, q_le_t, q_le_f, q_eq_t, q_eq_f, q_em, q_me, q_ml, q_lm, q_mle, q_lem, q_s1, q_s1o, q_s1k, q_s12, q_s2, q_s2o, q_s2k, q_s21, Nat.add_sub_cancel, q_or, q_and, q_shl, true_or, or_true, false_or, or_false, true_and, and_true, false_and, and_false, not_true_eq_false, not_false_eq_true, ne_eq, fC_EachAddsALine_apart, gC_EachAddsALine_apart_0, ec], by simp (disch := omega) only [Option.bind_some, ↓reduceIte, ↓M_1, ↓M_2, L_0, L_1, L_2, L_3, L_4, L_5, L_6, L_7, L_8, L_9, L_10, L_11, L_12, L_13, L_20, L_24, L_26, L_30, L_31, L_32, L_39, L_40, L_48, L_57, L_76, L_80, L_90, L_91, L_97, L_99, L_100, L_255, L_273, L_1000, L_2000, q_ld, q_ldL, q_sto, q_stoL, q_add, q_sub, q_mul, q_dec, q_rem, q_div, q_lt_t, q_lt_f, q_le_t, q_le_f, q_eq_t, q_eq_f, q_em, q_me, q_ml, q_lm, q_mle, q_lem, q_s1, q_s1o, q_s1k, q_s12, q_s2, q_s2o, q_s2k, q_s21, Nat.add_sub_cancel, q_or, q_and, q_shl, true_or, or_true, false_or, or_false, true_and, and_true, false_and, and_false, not_true_eq_false, not_false_eq_true, ne_eq, fM_EachAddsALineModel_apart, gM_EachAddsALineModel_apart_0, em], hr.k0 hU⟩
  · have hs1 := q_shlp (P := w 5 0) (by omega)
    have eall : fC_Roads_everybody N s = some (nI (2 ^ w 5 0 - 1), s) := by
      simp (disch := omega) only [Option.bind_some, ↓reduceIte, ↓M_1, ↓M_2, L_0, L_1, L_2, L_3, L_4, L_5, L_6, L_7, L_8, L_9, L_10, L_11, L_12, L_13, L_20, L_24, L_26, L_30, L_31, L_32, L_39, L_40, L_48, L_57, L_76, L_80, L_90, L_91, L_97, L_99, L_100, L_255, L_273, L_1000, L_2000, q_ld, q_ldL, q_sto, q_stoL, q_add, q_mul, q_dec, q_rem, q_div, q_lt_t, q_lt_f, q_le_t, q_le_f, q_eq_t, q_eq_f, q_em, q_me, q_ml, q_lm, q_mle, q_lem, q_s1, q_s1o, q_s1k, q_s12, q_s2, q_s2o, q_s2k, q_s21, Nat.add_sub_cancel, q_or, q_and, true_or, or_true, false_or, or_false, true_and, and_true, false_and, and_false, not_true_eq_false, not_false_eq_true, ne_eq, fC_Roads_everybody, gC_Roads_everybody_0, h1.p, hs1]
    have ebt : nand (nand (2 ^ w 5 0 - 1) (2 ^ u)) (2 ^ v) = btw w u v := rfl
    obtain ⟨z, x1, x2⟩ := C_leastPart24 (N := N) h1 hN hu hv hk
    obtain ⟨y, y1, y2⟩ := M_apart54 (N := N) h2' hN hu hv hk (by simp (disch := omega) only [Option.bind_some, ↓reduceIte, ↓M_1, ↓M_2, L_0, L_1, L_2, L_3, L_4, L_5, L_6, L_7, L_8, L_9, L_10, L_11, L_12, L_13, L_20, L_24, L_26, L_30, L_31, L_32, L_39, L_40, L_48, L_57, L_76, L_80, L_90, L_91, L_97, L_99, L_100, L_255, L_273, L_1000, L_2000, q_ld, q_ldL, q_sto, q_stoL, q_add, q_sub, q_mul, q_dec, q_rem, q_div, q_lt_t, q_lt_f, q_le_t, q_le_f, q_eq_t, q_eq_f, q_em, q_me, q_ml, q_lm, q_mle, q_lem, q_s1, q_s1o, q_s1k, q_s12, q_s2, q_s2o, q_s2k, q_s21, Nat.add_sub_cancel, q_or, q_and, q_shl, true_or, or_true, false_or, or_false, true_and, and_true, false_and, and_false, not_true_eq_false, not_false_eq_true, ne_eq]; exact hmc.1) (by simp (disch := omega) only [Option.bind_some, ↓reduceIte, ↓M_1, ↓M_2, L_0, L_1, L_2, L_3, L_4, L_5, L_6, L_7, L_8, L_9, L_10, L_11, L_12, L_13, L_20, L_24, L_26, L_30, L_31, L_32, L_39, L_40, L_48, L_57, L_76, L_80, L_90, L_91, L_97, L_99, L_100, L_255, L_273, L_1000, L_2000, q_ld, q_ldL, q_sto, q_stoL, q_add, q_sub, q_mul, q_dec, q_rem, q_div, q_lt_t, q_lt_f, q_le_t, q_le_f, q_eq_t, q_eq_f, q_em, q_me, q_ml, q_lm, q_mle, q_lem, q_s1, q_s1o, q_s1k, q_s12, q_s2, q_s2o, q_s2k, q_s21, Nat.add_sub_cancel, q_or, q_and, q_shl, true_or, or_true, false_or, or_false, true_and, and_true, false_and, and_false, not_true_eq_false, not_false_eq_true, ne_eq]; exact hmc.2.1)
    have hbt := btw_lt (u := u) (v := v) h1.ok
    have ha1 : fC_Paths_leastPart N (nI u) (nI v) (nI k) s = some (nxI (fst1 (apB w u v k) (btw w u v + 1)) (btw w u v + 1), z) := by
      simp (disch := omega) only [Option.bind_some, ↓reduceIte, ↓M_1, ↓M_2, L_0, L_1, L_2, L_3, L_4, L_5, L_6, L_7, L_8, L_9, L_10, L_11, L_12, L_13, L_20, L_24, L_26, L_30, L_31, L_32, L_39, L_40, L_48, L_57, L_76, L_80, L_90, L_91, L_97, L_99, L_100, L_255, L_273, L_1000, L_2000, q_ld, q_ldL, q_sto, q_stoL, q_add, q_sub, q_mul, q_dec, q_rem, q_div, q_lt_t, q_lt_f, q_le_t, q_le_f, q_eq_t, q_eq_f, q_em, q_me, q_ml, q_lm, q_mle, q_lem, q_s1, q_s1o, q_s1k, q_s12, q_s2, q_s2o, q_s2k, q_s21, Nat.add_sub_cancel, q_or, q_and, q_shl, true_or, or_true, false_or, or_false, true_and, and_true, false_and, and_false, not_true_eq_false, not_false_eq_true, ne_eq, fC_Paths_leastPart, gC_Paths_leastPart_0, eall, q_nand, ebt, x1]
    have ha2 : fM_EachAddsALineModel_apart N (nI u) (nI v) (nI k) t = gM_EachAddsALineModel_apart_153 N (nxI (fst1 (apB w u v k) (btw w u v + 1)) (btw w u v + 1)) y := by
      simp (disch := omega) only [Option.bind_some, ↓reduceIte, ↓M_1, ↓M_2, L_0, L_1, L_2, L_3, L_4, L_5, L_6, L_7, L_8, L_9, L_10, L_11, L_12, L_13, L_20, L_24, L_26, L_30, L_31, L_32, L_39, L_40, L_48, L_57, L_76, L_80, L_90, L_91, L_97, L_99, L_100, L_255, L_273, L_1000, L_2000, q_ld, q_ldL, q_sto, q_stoL, q_add, q_mul, q_dec, q_rem, q_div, q_lt_t, q_lt_f, q_le_t, q_le_f, q_eq_t, q_eq_f, q_em, q_me, q_ml, q_lm, q_mle, q_lem, q_s1, q_s1o, q_s1k, q_s12, q_s2, q_s2o, q_s2k, q_s21, Nat.add_sub_cancel, q_or, q_and, true_or, or_true, false_or, or_false, true_and, and_true, false_and, and_false, not_true_eq_false, not_false_eq_true, ne_eq, fM_EachAddsALineModel_apart, gM_EachAddsALineModel_apart_0, em, h2.p, hs1]
      simp (disch := omega) only [Option.bind_some, ↓reduceIte, ↓M_1, ↓M_2, L_0, L_1, L_2, L_3, L_4, L_5, L_6, L_7, L_8, L_9, L_10, L_11, L_12, L_13, L_20, L_24, L_26, L_30, L_31, L_32, L_39, L_40, L_48, L_57, L_76, L_80, L_90, L_91, L_97, L_99, L_100, L_255, L_273, L_1000, L_2000, q_ld, q_ldL, q_sto, q_stoL, q_add, q_sub, q_mul, q_dec, q_rem, q_div, q_lt_t, q_lt_f, q_le_t, q_le_f, q_eq_t, q_eq_f, q_em, q_me, q_ml, q_lm, q_mle, q_lem, q_s1, q_s1o, q_s1k, q_s12, q_s2, q_s2o, q_s2k, q_s21, Nat.add_sub_cancel, q_or, q_and, q_shl, true_or, or_true, false_or, or_false, true_and, and_true, false_and, and_false, not_true_eq_false, not_false_eq_true, ne_eq, q_nand, ebt, y1]
    have fy : Fm [11, 12, 13] [] [11, 30, 33] t (s1 y 0 33 (nI 0)) := ((Fm.w10 (by decide)).tr (y2.mono (by decide) (by decide) (by decide))).tr (Fm.w10 (by decide))
    generalize fst1 (apB w u v k) (btw w u v + 1) = f at ha1 ha2
    obtain ⟨z0, v1, v2⟩ := C_clear_row (N := N) (q := fun _ => nI f) (s := z)
    by_cases d : f < btw w u v + 1
    · rw [show nxI f (btw w u v + 1) = nI f from if_pos d] at ha1 ha2
      obtain ⟨z2, w1, w2⟩ := C_add_row (N := N) v2 (x := nI f) rfl
      obtain ⟨y4, m1, m2⟩ := M_tell (N := N) (q := fun _ => nI f) (Rm.nil (t := s1 y 0 33 (nI 0))) (by decide) (x := nI f) rfl
      have hro : RO z2 y4 := RO.of w2 m2
      refine ⟨nI 1, z2, y4, ?_, ?_, hr.ro hU hro ((x2.mono (by decide) (by decide)).tr (w2.1.mono (by decide) (by decide)) : Fr [3, 4, 42] [] s z2) ((fy.mono (by decide) (by decide) (by decide)).tr (m2.1.mono (by decide) (by decide) (by decide)) : Fm [7, 11, 12, 13] [] [10, 11, 30, 33] t y4) (by decide) (by decide) (by decide)⟩
      · simp (disch := omega) only [Option.bind_some, ↓reduceIte, ↓M_1, ↓M_2, L_0, L_1, L_2, L_3, L_4, L_5, L_6, L_7, L_8, L_9, L_10, L_11, L_12, L_13, L_20, L_24, L_26, L_30, L_31, L_32, L_39, L_40, L_48, L_57, L_76, L_80, L_90, L_91, L_97, L_99, L_100, L_255, L_273, L_1000, L_2000, q_ld, q_ldL, q_sto, q_stoL, q_add, q_sub, q_mul, q_dec, q_rem, q_div, q_lt_t, q_lt_f, q_le_t, q_le_f, q_eq_t, q_eq_f, q_em, q_me, q_ml, q_lm, q_mle, q_lem, q_s1, q_s1o, q_s1k, q_s12, q_s2, q_s2o, q_s2k, q_s21, Nat.add_sub_cancel, q_or, q_and, q_shl, true_or, or_true, false_or, or_false, true_and, and_true, false_and, and_false, not_true_eq_false, not_false_eq_true, ne_eq, fC_EachAddsALine_apart, gC_EachAddsALine_apart_0, ec, ha1, v1, w1]
      · rw [ha2]
        simp (disch := omega) only [Option.bind_some, ↓reduceIte, ↓M_1, ↓M_2, L_0, L_1, L_2, L_3, L_4, L_5, L_6, L_7, L_8, L_9, L_10, L_11, L_12, L_13, L_20, L_24, L_26, L_30, L_31, L_32, L_39, L_40, L_48, L_57, L_76, L_80, L_90, L_91, L_97, L_99, L_100, L_255, L_273, L_1000, L_2000, q_ld, q_ldL, q_sto, q_stoL, q_add, q_sub, q_mul, q_dec, q_rem, q_div, q_lt_t, q_lt_f, q_le_t, q_le_f, q_eq_t, q_eq_f, q_em, q_me, q_ml, q_lm, q_mle, q_lem, q_s1, q_s1o, q_s1k, q_s12, q_s2, q_s2o, q_s2k, q_s21, Nat.add_sub_cancel, q_or, q_and, q_shl, true_or, or_true, false_or, or_false, true_and, and_true, false_and, and_false, not_true_eq_false, not_false_eq_true, ne_eq, gM_EachAddsALineModel_apart_153, m1]
    · rw [show nxI f (btw w u v + 1) = mI 1 from if_neg d] at ha1 ha2
      have hro : RO z0 (s1 (s1 y 0 33 (nI 0)) 0 10 (nI 0)) := RO.of v2 (Rm.nil (q := fun _ => nI f) (t := s1 y 0 33 (nI 0)))
      refine ⟨nI 0, z0, s1 (s1 y 0 33 (nI 0)) 0 10 (nI 0), ?_, ?_, hr.ro hU hro ((x2.mono (by decide) (by decide)).tr (v2.1.mono (by decide) (by decide)) : Fr [3, 4, 42] [] s z0) ((fy.mono (by decide) (by decide) (by decide)).tr (Fm.w10 (by decide)) : Fm [7, 11, 12, 13] [] [10, 11, 30, 33] t _) (by decide) (by decide) (by decide)⟩
      · simp (disch := omega) only [Option.bind_some, ↓reduceIte, ↓M_1, ↓M_2, L_0, L_1, L_2, L_3, L_4, L_5, L_6, L_7, L_8, L_9, L_10, L_11, L_12, L_13, L_20, L_24, L_26, L_30, L_31, L_32, L_39, L_40, L_48, L_57, L_76, L_80, L_90, L_91, L_97, L_99, L_100, L_255, L_273, L_1000, L_2000, q_ld, q_ldL, q_sto, q_stoL, q_add, q_sub, q_mul, q_dec, q_rem, q_div, q_lt_t, q_lt_f, q_le_t, q_le_f, q_eq_t, q_eq_f, q_em, q_me, q_ml, q_lm, q_mle, q_lem, q_s1, q_s1o, q_s1k, q_s12, q_s2, q_s2o, q_s2k, q_s21, Nat.add_sub_cancel, q_or, q_and, q_shl, true_or, or_true, false_or, or_false, true_and, and_true, false_and, and_false, not_true_eq_false, not_false_eq_true, ne_eq, fC_EachAddsALine_apart, gC_EachAddsALine_apart_0, ec, ha1, v1]
      · rw [ha2]
        simp (disch := omega) only [Option.bind_some, ↓reduceIte, ↓M_1, ↓M_2, L_0, L_1, L_2, L_3, L_4, L_5, L_6, L_7, L_8, L_9, L_10, L_11, L_12, L_13, L_20, L_24, L_26, L_30, L_31, L_32, L_39, L_40, L_48, L_57, L_76, L_80, L_90, L_91, L_97, L_99, L_100, L_255, L_273, L_1000, L_2000, q_ld, q_ldL, q_sto, q_stoL, q_add, q_sub, q_mul, q_dec, q_rem, q_div, q_lt_t, q_lt_f, q_le_t, q_le_f, q_eq_t, q_eq_f, q_em, q_me, q_ml, q_lm, q_mle, q_lem, q_s1, q_s1o, q_s1k, q_s12, q_s2, q_s2o, q_s2k, q_s21, Nat.add_sub_cancel, q_or, q_and, q_shl, true_or, or_true, false_or, or_false, true_and, and_true, false_and, and_false, not_true_eq_false, not_false_eq_true, ne_eq, gM_EachAddsALineModel_apart_153]
end AP
