/-! what hangs on who can have it soonest: without, latest, far, answer, ask -/
def arr (w : Nat → Nat → Nat) (br go u k p : Nat) : Nat := sbm w (TB w p 0 1000000 br go) u k
section AR
variable {N : Nat} {w : Nat → Nat → Nat} {s t : vSt} {u v k br go : Nat} {sh : Int32}
theorem TB99 (h : okW w) : ∀ s, s < 2 * w 5 1 → (TB w v 0 1000000 br go s).1 < 1000000 → (TB w v 0 1000000 br go s).1 ≤ 99 := by
  refine downI (fun s hs => hr_le h hs) _ (fun s hs ih hf => ?_)
  have w00 : wo w 0 s = 0 := (if_neg (by decide)).trans (if_neg (by decide))
  rcases TB_att (v := v) (what := 0) (bb := 1000000) (br := br) (go := go) h hs with z | ⟨z1, z2, z3, z4⟩ | ⟨o, z1, z2, z3, z4, z5, z6⟩
  · rw [z] at hf; exact absurd hf (by decide)
  · rw [z4, if_pos rfl]; exact hr_le h hs
  · rw [z6]
    unfold prP
    rw [w00]
    exact ih o z1 (fol_lt h hs z2) z3
theorem arr_bd (h : okW w) : arr w br go u k v ≤ 99 ∨ arr w br go u k v = 1000000 := by
  refine fz_ind (f := fun s x => if beg w u k s then min x (TB w v 0 1000000 br go s).1 else x) (z := 1000000) (n := 2 * w 5 1) (fun i a => a ≤ 99 ∨ a = 1000000) (Or.inr rfl) (fun i a hi ha => ?_) _ (Nat.le_refl _)
  have h1 := TB99 (v := v) (br := br) (go := go) h i hi
  have h2 := (TB_lt (v := v) (what := 0) (bb := 1000000) (br := br) (go := go) h hi).1
  split
  · rcases Nat.lt_or_ge (TB w v 0 1000000 br go i).1 1000000 with c | c
    · have := h1 c; omega
    · omega
  · exact ha
theorem arr_min (h : okW w) {e : Nat} (he : e ≤ 99) : (arr w br go u k v ≤ e) ↔ ∃ s, s < 2 * w 5 1 ∧ beg w u k s ∧ (TB w v 0 1000000 br go s).1 ≤ e := by
  have := fz_ind (f := fun s x => if beg w u k s then min x (TB w v 0 1000000 br go s).1 else x) (z := 1000000) (n := 2 * w 5 1) (fun i a => (a ≤ e) ↔ ∃ s, s < i ∧ beg w u k s ∧ (TB w v 0 1000000 br go s).1 ≤ e) ⟨fun z => by omega, fun ⟨s, z, _⟩ => by omega⟩ (fun i a hi ha => by
    by_cases c : beg w u k i
    · rw [if_pos c]
      constructor
      · intro z
        rcases Nat.le_total a (TB w v 0 1000000 br go i).1 with d | d
        · obtain ⟨s, z1, z2⟩ := ha.mp (by omega)
          exact ⟨s, by omega, z2⟩
        · exact ⟨i, by omega, c, by omega⟩
      · rintro ⟨s, z1, z2, z3⟩
        by_cases d : s = i
        · subst d; omega
        · have := ha.mpr ⟨s, by omega, z2, z3⟩; omega
    · rw [if_neg c]
      constructor
      · intro z
        obtain ⟨s, z1, z2⟩ := ha.mp z
        exact ⟨s, by omega, z2⟩
      · rintro ⟨s, z1, z2, z3⟩
        by_cases d : s = i
        · subst d; exact absurd z2 c
        · exact ha.mpr ⟨s, by omega, z2, z3⟩) (2 * w 5 1) (Nat.le_refl _)
  exact this
theorem ea_lt {x : Nat} (h : x ≤ 99) : ea x = nI x := if_pos (by omega)
theorem ea_far : ea 1000000 = mI 1 := rfl
theorem M_soonest0 (h : MW w t) (hN : 60 ≤ N) (hu : u < w 5 0) (hv : v < w 5 0) (hk : k < 1000) (hbr : br < 512) (h33 : t.1 0 33 = nI br) (h34 : t.1 0 34 = nI 1000000) (h35 : t.1 0 35 = gI go) :
    ∃ t', fM_EachAddsALineModel_soonestBy N (nI u) (nI v) (nI k) t = some (nI (arr w br go u k v), t') ∧ Fm [11, 12, 13] [] [30] t t' := M_soonestBy h hN hu hv hk (by decide) hbr h33 h34 h35
theorem C_spread0 (h : CW w s) (hN : 60 ≤ N) (hu : u < w 5 0) (hk : k < 1000) (hsh : shuts w sh br) (hgo : go < 20 ∨ go = 100) :
    ∃ z, fC_Paths_spread N (nI u) (nI k) sh (gI go) s = some z ∧ Fr [42] [] s z ∧ ∀ p, p < w 5 0 → z.1 42 p = ea (arr w br go u k p) := by
  obtain ⟨z, h1, h2, h3, _⟩ := C_spread (N := N) h hN hu hk hsh hgo
  exact ⟨z, h1, h2, h3⟩
theorem C_spread1 (h : CW w s) (hN : 60 ≤ N) (hu : u < w 5 0) (hk : k < 1000) (hsh : shuts w sh br) (hgo : go < 20 ∨ go = 100) :
    ∃ z, fC_Paths_spread N (nI u) (nI k) sh (gI go) s = some z ∧ Fr [42] [] s z ∧ (∀ p, p < w 5 0 → z.1 42 p = ea (arr w br go u k p)) ∧ PI w u br (fun o => o < 2 * w 5 1 ∧ ¬ o / 2 = go ∧ k ≤ hr w o) (fun p => arr w br go u k p) := C_spread h hN hu hk hsh hgo
end AR
section WO
variable {N : Nat} {U : vSt → vSt → Prop}
theorem bt_nI (a i : Nat) (hi : i < 32) : bt (nI a) i = a.testBit i := by
  show (BitVec.ofNat 32 a).getLsbD i = _
  rw [BitVec.getLsbD_ofNat, decide_eq_true hi, Bool.true_and]
theorem bt_mI1 {i : Nat} (hi : i < 32) : bt (mI 1) i = true := by rw [← M_1]; exact b_m1 i hi
/-- bits that are not in the other one -/
def nand (a b : Nat) : Nat := a ^^^ (a &&& b)
theorem nand_tb (a b i : Nat) : (nand a b).testBit i = (a.testBit i && !b.testBit i) := by
  unfold nand
  rw [Nat.testBit_xor, Nat.testBit_and]
  cases a.testBit i <;> cases b.testBit i <;> rfl
theorem q_nand (a b : Nat) : nI a &&& (nI b ^^^ mI 1) = nI (nand a b) := b_ext (fun i hi => by
  rw [b_and, b_xor, bt_nI _ _ hi, bt_nI _ _ hi, bt_mI1 hi, bt_nI _ _ hi, nand_tb, Bool.xor_true])
theorem nand_le (a b : Nat) : nand a b ≤ a := by
  refine Nat.le_of_testBit ?_
  intro i h
  rw [nand_tb, Bool.and_eq_true] at h
  exact h.1
theorem nand_0 {a b : Nat} : nand a b = 0 ↔ ∀ i, a.testBit i = true → b.testBit i = true := by
  constructor
  · intro h i hi
    have : (nand a b).testBit i = false := by rw [h, Nat.zero_testBit]
    rw [nand_tb, hi, Bool.true_and] at this
    cases hb : b.testBit i
    · rw [hb] at this; cases this
    · rfl
  · intro h
    refine Nat.eq_of_testBit_eq (fun i => ?_)
    rw [nand_tb, Nat.zero_testBit]
    cases ha : a.testBit i
    · rfl
    · rw [h i ha]; rfl
theorem q_shlp {P : Nat} (h : P < 31) : nI 1 <<< nI (P &&& 31) - nI 1 = nI (2 ^ P - 1) := by
  rw [q_shl h]
  exact q_sub (Nat.one_le_two_pow)
theorem all_tb (P i : Nat) : (2 ^ P - 1).testBit i = decide (i < P) := Nat.testBit_two_pow_sub_one P i
/-- bits of some who are there -/
theorem those_in {P : Nat} (hP : P ≤ 9) (v : Int32) : (v &&& (nI (2 ^ P - 1) ^^^ mI 1) = nI 0) ↔ ∃ d, d < 2 ^ P ∧ v = nI d := by
  have h9 : 2 ^ P ≤ 512 := Nat.pow_le_pow_right (by decide) hP
  have h1 := Nat.one_le_two_pow (n := P)
  constructor
  · intro h
    obtain ⟨d, d1, rfl⟩ := wb_of32 v
    rw [q_nand] at h
    have hle := nand_le d (2 ^ P - 1)
    refine ⟨d &&& (2 ^ P - 1), ?_, ?_⟩
    · have : d &&& (2 ^ P - 1) ≤ 2 ^ P - 1 := Nat.and_le_right
      omega
    · refine b_ext (fun i hi => ?_)
      rw [bt_nI _ _ hi, bt_nI _ _ hi, Nat.testBit_and]
      have hb := congrArg (fun x => bt x i) h
      try simp only at hb
      rw [bt_nI _ _ hi, bt_nI _ _ hi, nand_tb, Nat.zero_testBit] at hb
      cases hd : d.testBit i
      · rfl
      · rw [hd, Bool.true_and] at hb
        cases hq : (2 ^ P - 1).testBit i
        · rw [hq] at hb; cases hb
        · rfl
  · rintro ⟨d, d1, rfl⟩
    rw [q_nand]
    refine congrArg nI (nand_0.mpr (fun i hi => ?_))
    rw [all_tb]
    refine decide_eq_true ?_
    rcases Nat.lt_or_ge i P with c | c
    · exact c
    · have := Nat.testBit_lt_two_pow (Nat.lt_of_lt_of_le d1 (Nat.pow_le_pow_right (by decide) c))
      rw [this] at hi
      cases hi
theorem k_without (hU : okU U) (hN : 200 ≤ N) : keeps4 N (RR U) fC_EachAddsALine_without fM_EachAddsALineModel_without := fun s t hr a b c d => by
  obtain ⟨w, h1, h2, _⟩ := id hr
  have h2' := M_rd0 h2 (nI 0)
  have hmc := hr.mc.r
  have hbd := h1.bd
  have hP9 : 2 ^ w 5 0 ≤ 512 := Nat.pow_le_pow_right (by decide) hbd.1
  have hP1 := Nat.one_le_two_pow (n := w 5 0)
  have hs1 := q_shlp (P := w 5 0) (by omega)
  by_cases q : trip w a b c
  · obtain ⟨⟨u, hu, rfl⟩, ⟨v, hv, rfl⟩, ⟨k, hk, rfl⟩⟩ := q
    have ec := C_isTrip_t (N := N) h1 hu hv hk
    have em := M_isTrip_t (N := N) h2' hu hv hk
    have eall : fC_Roads_everybody N s = some (nI (2 ^ w 5 0 - 1), s) := by
      simp (disch := omega) only [Option.bind_some, ↓reduceIte, ↓M_1, ↓M_2, L_0, L_1, L_2, L_3, L_4, L_5, L_6, L_7, L_8, L_9, L_10, L_11, L_12, L_13, L_20, L_24, L_26, L_30, L_31, L_32, L_39, L_40, L_48, L_57, L_76, L_80, L_90, L_91, L_97, L_99, L_100, L_255, L_273, L_1000, L_2000, q_ld, q_ldL, q_sto, q_stoL, q_add, q_mul, q_dec, q_rem, q_div, q_lt_t, q_lt_f, q_le_t, q_le_f, q_eq_t, q_eq_f, q_em, q_me, q_ml, q_lm, q_mle, q_lem, q_s1, q_s1o, q_s1k, q_s12, q_s2, q_s2o, q_s2k, q_s21, Nat.add_sub_cancel, q_or, q_and, true_or, or_true, false_or, or_false, true_and, and_true, false_and, and_false, not_true_eq_false, not_false_eq_true, ne_eq, fC_Roads_everybody, gC_Roads_everybody_0, h1.p, hs1]
    by_cases q2 : ∃ e, e < 2 ^ w 5 0 ∧ d = nI e
    · have q3 := (those_in hbd.1 d).mpr q2
      obtain ⟨e, he, rfl⟩ := q2
      have g0 : Fm [] [] [11, 33] t (s1 (s1 t 0 11 (nI 0)) 0 33 (nI e)) := (Fm.w10 (by decide)).tr (Fm.w10 (by decide))
      have h3 : MW w (s1 (s1 t 0 11 (nI 0)) 0 33 (nI e)) := h2.fm g0 (by decide) (by decide)
      have hsh : shuts w (nI e) e := fun p hp => by
        rw [q_and]
        refine propext ⟨fun z => ?_, fun z => ?_⟩
        · have := (nI_eq (Nat.lt_of_le_of_lt Nat.and_le_left (by omega)) (by decide)).mp z
          exact (fb_bit_nat e p).mp this
        · rw [(fb_bit_nat e p).mpr z]
      obtain ⟨s', r, t', x1, x2, x4, x5, x6⟩ := soon_ok h1 h3 hN hu hv hk hsh (show e < 512 by omega) (by simp (disch := omega) only [Option.bind_some, ↓reduceIte, ↓M_1, ↓M_2, L_0, L_1, L_2, L_3, L_4, L_5, L_6, L_7, L_8, L_9, L_10, L_11, L_12, L_13, L_20, L_24, L_26, L_30, L_31, L_32, L_39, L_40, L_48, L_57, L_76, L_80, L_90, L_91, L_97, L_99, L_100, L_255, L_273, L_1000, L_2000, q_ld, q_ldL, q_sto, q_stoL, q_add, q_sub, q_mul, q_dec, q_rem, q_div, q_lt_t, q_lt_f, q_le_t, q_le_f, q_eq_t, q_eq_f, q_em, q_me, q_ml, q_lm, q_mle, q_lem, q_s1, q_s1o, q_s1k, q_s12, q_s2, q_s2o, q_s2k, q_s21, Nat.add_sub_cancel, q_or, q_and, q_shl, true_or, or_true, false_or, or_false, true_and, and_true, false_and, and_false, not_true_eq_false, not_false_eq_true, ne_eq]) (by simp (disch := omega) only [Option.bind_some, ↓reduceIte, ↓M_1, ↓M_2, L_0, L_1, L_2, L_3, L_4, L_5, L_6, L_7, L_8, L_9, L_10, L_11, L_12, L_13, L_20, L_24, L_26, L_30, L_31, L_32, L_39, L_40, L_48, L_57, L_76, L_80, L_90, L_91, L_97, L_99, L_100, L_255, L_273, L_1000, L_2000, q_ld, q_ldL, q_sto, q_stoL, q_add, q_sub, q_mul, q_dec, q_rem, q_div, q_lt_t, q_lt_f, q_le_t, q_le_f, q_eq_t, q_eq_f, q_em, q_me, q_ml, q_lm, q_mle, q_lem, q_s1, q_s1o, q_s1k, q_s12, q_s2, q_s2o, q_s2k, q_s21, Nat.add_sub_cancel, q_or, q_and, q_shl, true_or, or_true, false_or, or_false, true_and, and_true, false_and, and_false, not_true_eq_false, not_false_eq_true, ne_eq]; exact hmc.1) (by simp (disch := omega) only [Option.bind_some, ↓reduceIte, ↓M_1, ↓M_2, L_0, L_1, L_2, L_3, L_4, L_5, L_6, L_7, L_8, L_9, L_10, L_11, L_12, L_13, L_20, L_24, L_26, L_30, L_31, L_32, L_39, L_40, L_48, L_57, L_76, L_80, L_90, L_91, L_97, L_99, L_100, L_255, L_273, L_1000, L_2000, q_ld, q_ldL, q_sto, q_stoL, q_add, q_sub, q_mul, q_dec, q_rem, q_div, q_lt_t, q_lt_f, q_le_t, q_le_f, q_eq_t, q_eq_f, q_em, q_me, q_ml, q_lm, q_mle, q_lem, q_s1, q_s1o, q_s1k, q_s12, q_s2, q_s2o, q_s2k, q_s21, Nat.add_sub_cancel, q_or, q_and, q_shl, true_or, or_true, false_or, or_false, true_and, and_true, false_and, and_false, not_true_eq_false, not_false_eq_true, ne_eq]; exact hmc.2.1) (hr.ron.fr (Fr.rf (L := []) (K := [])) g0 (by decide) (by decide))
      refine ⟨r, s', s1 t' 0 33 (nI 0), ?_, ?_, hr.ro hU (x6.fr (Fr.rf (L := []) (K := [])) (Fm.w10 (L := []) (K := []) (F := [33]) (by decide)) (by decide) (by decide)) x4 (((g0.mono (by decide) (by decide) (by decide)).tr (x5.mono (by decide) (by decide) (by decide))).tr (Fm.w10 (by decide)) : Fm [7, 11, 12, 13] [] [10, 11, 30, 33] t (s1 t' 0 33 (nI 0))) (by decide) (by decide) (by decide)⟩
      · simp (disch := omega) only [Option.bind_some, ↓reduceIte, ↓M_1, ↓M_2, L_0, L_1, L_2, L_3, L_4, L_5, L_6, L_7, L_8, L_9, L_10, L_11, L_12, L_13, L_20, L_24, L_26, L_30, L_31, L_32, L_39, L_40, L_48, L_57, L_76, L_80, L_90, L_91, L_97, L_99, L_100, L_255, L_273, L_1000, L_2000, q_ld, q_ldL, q_sto, q_stoL, q_add, q_sub, q_mul, q_dec, q_rem, q_div, q_lt_t, q_lt_f, q_le_t, q_le_f, q_eq_t, q_eq_f, q_em, q_me, q_ml, q_lm, q_mle, q_lem, q_s1, q_s1o, q_s1k, q_s12, q_s2, q_s2o, q_s2k, q_s21, Nat.add_sub_cancel, q_or, q_shl, true_or, or_true, false_or, or_false, true_and, and_true, false_and, and_false, not_true_eq_false, not_false_eq_true, ne_eq, fC_EachAddsALine_without, gC_EachAddsALine_without_0, ec, eall, q3, x1]
      · simp (disch := omega) only [Option.bind_some, ↓reduceIte, ↓M_1, ↓M_2, L_0, L_1, L_2, L_3, L_4, L_5, L_6, L_7, L_8, L_9, L_10, L_11, L_12, L_13, L_20, L_24, L_26, L_30, L_31, L_32, L_39, L_40, L_48, L_57, L_76, L_80, L_90, L_91, L_97, L_99, L_100, L_255, L_273, L_1000, L_2000, q_ld, q_ldL, q_sto, q_stoL, q_add, q_sub, q_mul, q_dec, q_rem, q_div, q_lt_t, q_lt_f, q_le_t, q_le_f, q_eq_t, q_eq_f, q_em, q_me, q_ml, q_lm, q_mle, q_lem, q_s1, q_s1o, q_s1k, q_s12, q_s2, q_s2o, q_s2k, q_s21, Nat.add_sub_cancel, q_or, q_and, q_shl, true_or, or_true, false_or, or_false, true_and, and_true, false_and, and_false, not_true_eq_false, not_false_eq_true, ne_eq, fM_EachAddsALineModel_without, gM_EachAddsALineModel_without_0, em, h2.p, M_in_any, x2]
    · have q3 : ¬ (d &&& (nI (2 ^ w 5 0 - 1) ^^^ mI 1) = nI 0) := fun z => q2 ((those_in hbd.1 d).mp z)
      have q4 : ¬ isP (2 ^ w 5 0) d := q2
      have q5 : d < nI 0 ∨ nI (2 ^ w 5 0 - 1) < d := (isP_lt (by omega) q4).imp id (fun z => by
        have := sub1_lt (p := 2 ^ w 5 0) (by omega) z
        rw [L_1, q_sub hP1] at this
        exact this)
      refine ⟨mI 1, s, s1 t 0 11 (nI 0), ?_, ?_, hr.k0 hU⟩
      · simp (disch := omega) only [Option.bind_some, ↓reduceIte, ↓M_1, ↓M_2, L_0, L_1, L_2, L_3, L_4, L_5, L_6, L_7, L_8, L_9, L_10, L_11, L_12, L_13, L_20, L_24, L_26, L_30, L_31, L_32, L_39, L_40, L_48, L_57, L_76, L_80, L_90, L_91, L_97, L_99, L_100, L_255, L_273, L_1000, L_2000, q_ld, q_ldL, q_sto, q_stoL, q_add, q_sub, q_mul, q_dec, q_rem, q_div, q_lt_t, q_lt_f, q_le_t, q_le_f, q_eq_t, q_eq_f, q_em, q_me, q_ml, q_lm, q_mle, q_lem, q_s1, q_s1o, q_s1k, q_s12, q_s2, q_s2o, q_s2k, q_s21, Nat.add_sub_cancel, q_or, q_shl, true_or, or_true, false_or, or_false, true_and, and_true, false_and, and_false, not_true_eq_false, not_false_eq_true, ne_eq, fC_EachAddsALine_without, gC_EachAddsALine_without_0, ec, eall, q3]
      · simp (disch := omega) only [Option.bind_some, ↓reduceIte, ↓M_1, ↓M_2, L_0, L_1, L_2, L_3, L_4, L_5, L_6, L_7, L_8, L_9, L_10, L_11, L_12, L_13, L_20, L_24, L_26, L_30, L_31, L_32, L_39, L_40, L_48, L_57, L_76, L_80, L_90, L_91, L_97, L_99, L_100, L_255, L_273, L_1000, L_2000, q_ld, q_ldL, q_sto, q_stoL, q_add, q_sub, q_mul, q_dec, q_rem, q_div, q_lt_t, q_lt_f, q_le_t, q_le_f, q_eq_t, q_eq_f, q_em, q_me, q_ml, q_lm, q_mle, q_lem, q_s1, q_s1o, q_s1k, q_s12, q_s2, q_s2o, q_s2k, q_s21, Nat.add_sub_cancel, q_or, q_and, q_shl, true_or, or_true, false_or, or_false, true_and, and_true, false_and, and_false, not_true_eq_false, not_false_eq_true, ne_eq, fM_EachAddsALineModel_without, gM_EachAddsALineModel_without_0, em, h2.p, M_in_any, q5]
  · have ec := C_isTrip_f (N := N) h1 q
    have em := M_isTrip_f (N := N) h2' q
    exact ⟨mI 1, s, _, by simp (disch := omega) only [Option.bind_some, ↓reduceIte, ↓M_1, ↓M_2, L_0, L_1, L_2, L_3, L_4, L_5, L_6, L_7, L_8, L_9, L_10, L_11, L_12, L_13, L_20, L_24, L_26, L_30, L_31, L_32, L_39, L_40, L_48, L_57, L_76, L_80, L_90, L_91, L_97, L_99, L_100, L_255, L_273, L_1000, L_2000, q_ld, q_ldL, q_sto, q_stoL, q_add, q_sub, q_mul, q_dec, q_rem, q_div, q_lt_t, q_lt_f, q_le_t, q_le_f, q_eq_t, q_eq_f, q_em, q_me, q_ml, q_lm, q_mle, q_lem, q_s1, q_s1o, q_s1k, q_s12, q_s2, q_s2o, q_s2k, q_s21, Nat.add_sub_cancel, q_or, q_and, q_shl, true_or, or_true, false_or, or_false, true_and, and_true, false_and, and_false, not_true_eq_false, not_false_eq_true, ne_eq, fC_EachAddsALine_without, gC_EachAddsALine_without_0, ec], by simp (disch := omega) only [Option.bind_some, ↓reduceIte, ↓M_1, ↓M_2, L_0, L_1, L_2, L_3, L_4, L_5, L_6, L_7, L_8, L_9, L_10, L_11, L_12, L_13, L_20, L_24, L_26, L_30, L_31, L_32, L_39, L_40, L_48, L_57, L_76, L_80, L_90, L_91, L_97, L_99, L_100, L_255, L_273, L_1000, L_2000, q_ld, q_ldL, q_sto, q_stoL, q_add, q_sub, q_mul, q_dec, q_rem, q_div, q_lt_t, q_lt_f, q_le_t, q_le_f, q_eq_t, q_eq_f, q_em, q_me, q_ml, q_lm, q_mle, q_lem, q_s1, q_s1o, q_s1k, q_s12, q_s2, q_s2o, q_s2k, q_s21, Nat.add_sub_cancel, q_or, q_and, q_shl, true_or, or_true, false_or, or_false, true_and, and_true, false_and, and_false, not_true_eq_false, not_false_eq_true, ne_eq, fM_EachAddsALineModel_without, gM_EachAddsALineModel_without_0, em], hr.k0 hU⟩
end WO
