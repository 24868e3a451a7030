/-! gossip, postman -/
section PU
variable {w : Nat → Nat → Nat} {u k br bb : Nat} {S : Nat → Prop} {a a' : Nat → Nat}
theorem PI.cgle (h : PI w u br S a) (h' : PI w u br S a') (hw : okW w) (hS : ∀ s, S s → s < 2 * w 5 1) : ∀ s, s < 2 * w 5 1 → S s → cg w u br a' s → cg w u br a s := by
  refine upI (key := hr w) _ (fun s hs ih hSs hc => ?_)
  rcases hc with hc | ⟨hc1, hc2⟩
  · exact Or.inl hc
  · have hR := hw.2.2.1 _ (gv_lt hw hs)
    have h99 := hr_le hw hs
    rcases h'.2 _ (gv_lt hw hs) with z | ⟨o, z1, z2, z3, z4⟩
    · omega
    · have hc3 := ih o (hS o z1) (by omega) z1 z2
      have := h.1 o z1 hc3
      rw [z3] at this
      exact Or.inr ⟨hc1, by omega⟩
theorem PI.le (h : PI w u br S a) (h' : PI w u br S a') (hw : okW w) (hS : ∀ s, S s → s < 2 * w 5 1) {p : Nat} (hp : p < w 5 0) : a p ≤ a' p := by
  rcases h'.2 p hp with z | ⟨o, z1, z2, z3, z4⟩
  · rw [z]
    rcases h.2 p hp with y | ⟨o, y1, y2, y3, y4⟩
    · omega
    · have := hr_le hw (hS o y1); omega
  · have := h.1 o z1 (h.cgle h' hw hS o (hS o z1) z1 z2)
    rw [z3] at this
    omega
theorem PI.uniq (h : PI w u br S a) (h' : PI w u br S a') (hw : okW w) (hS : ∀ s, S s → s < 2 * w 5 1) {p : Nat} (hp : p < w 5 0) : a p = a' p := Nat.le_antisymm (h.le h' hw hS hp) (h'.le h hw hS hp)
def trn (w : Nat → Nat → Nat) (u k bb p : Nat) : Nat := if arr w 0 100 u k p ≤ bb then arr w 0 100 u k p else 1000000
theorem PI_trn (hw : okW w) (hbb : bb ≤ 99) (h : PI w u 0 (fun o => o < 2 * w 5 1 ∧ ¬ o / 2 = 100 ∧ k ≤ hr w o) (fun p => arr w 0 100 u k p)) : PI w u 0 (fun o => o < 2 * w 5 1 ∧ k ≤ hr w o ∧ hr w o ≤ bb) (trn w u k bb) := by
  have h5 := hw.2.1
  have le : ∀ p, p < w 5 0 → arr w 0 100 u k p ≤ trn w u k bb p := fun p hp => by
    have := arr_bd (br := 0) (go := 100) (u := u) (k := k) (v := p) hw
    unfold trn
    split <;> omega
  refine ⟨fun s hs hc => ?_, fun p hp => ?_⟩
  · have hc2 : cg w u 0 (fun p => arr w 0 100 u k p) s := hc.imp id (fun z => ⟨z.1, by have := le _ (gv_lt hw hs.1); have := z.2; simp only; omega⟩)
    have hle : arr w 0 100 u k (gt w s) ≤ hr w s := h.1 s ⟨hs.1, by omega, hs.2.1⟩ hc2
    have hbb2 := hs.2.2
    unfold trn
    rw [if_pos (by omega)]
    exact hle
  · unfold trn
    by_cases c : arr w 0 100 u k p ≤ bb
    · rw [if_pos c]
      have hJ : arr w 0 100 u k p = 1000000 ∨ ∃ o, (o < 2 * w 5 1 ∧ ¬ o / 2 = 100 ∧ k ≤ hr w o) ∧ cg w u 0 (fun p => arr w 0 100 u k p) o ∧ gt w o = p ∧ hr w o = arr w 0 100 u k p := h.2 p hp
      rcases hJ with z | ⟨o, z1, z2, z3, z4⟩
      · omega
      · refine Or.inr ⟨o, ⟨z1.1, z1.2.2, by omega⟩, ?_, z3, z4⟩
        refine z2.imp id (fun y => ⟨y.1, ?_⟩)
        have this : arr w 0 100 u k (gv w o) + w 0 (gv w o) ≤ hr w o := y.2
        show trn w u k bb (gv w o) + w 0 (gv w o) ≤ hr w o
        unfold trn
        rw [if_pos (by omega)]
        exact this
    · rw [if_neg c]
      exact Or.inl rfl
theorem arr_PI {s : vSt} (h : CW w s) (hu : u < w 5 0) (hk : k < 1000) : PI w u 0 (fun o => o < 2 * w 5 1 ∧ ¬ o / 2 = 100 ∧ k ≤ hr w o) (fun p => arr w 0 100 u k p) := by
  obtain ⟨z, _, _, _, x4⟩ := C_spread1 (N := 60) (go := 100) (br := 0) h (Nat.le_refl _) hu hk shuts0 (Or.inr rfl)
  exact x4
/-- when one has heard it -/
def hd (w : Nat → Nat → Nat) (u k bb p : Nat) : Nat := if p = u then k else trn w u k bb p
def kn (w : Nat → Nat → Nat) (u k bb : Nat) : Nat := bset (fun p => decide (hd w u k bb p ≤ bb)) (w 5 0)
theorem hd_bd (hw : okW w) (hk : k ≤ 99) (p : Nat) : hd w u k bb p ≤ 99 ∨ hd w u k bb p = 1000000 := by
  have := arr_bd (br := 0) (go := 100) (u := u) (k := k) (v := p) hw
  unfold hd trn
  split
  · omega
  · split <;> omega
theorem kn_lt (hw : okW w) : kn w u k bb < 512 := Nat.lt_of_lt_of_le (bset_lt _ _) (Nat.pow_le_pow_right (by decide) hw.1)
end PU
section GO
variable {N : Nat} {U : vSt → vSt → Prop} {w : Nat → Nat → Nat} {s t : vSt} {u v k bb : Nat}
theorem M_knowing (h : MW w t) (hp : PI w u 0 (fun o => o < 2 * w 5 1 ∧ ¬ o / 2 = 100 ∧ k ≤ hr w o) (fun p => arr w 0 100 u k p)) (hN : 60 ≤ N) (hu : u < w 5 0) (hk : k ≤ bb) (hbb : bb ≤ 99) :
    ∃ z, fM_EachAddsALineModel_knowing N (nI u) (nI k) (nI bb) t = some (nI (kn w u k bb), z) ∧ Fm [11, 20] [] [30] t z ∧ ∀ p, p < w 5 0 → z.1 20 p = nI (hd w u k bb p) := by
  have hb := h.bd
  have i1 : ∃ z, gM_EachAddsALineModel_knowing_3 N N (nI u) (nI k) (nI bb) (nI 0) t = ((fM_EachAddsALineModel_findOrder N z).bind fun z1 => gM_EachAddsALineModel_knowing_44 N N (nI u) (nI bb) (nI 0) z1) ∧ Fm [20] [] [] t z ∧ ∀ p, p < w 5 0 → z.1 20 p = nI (if p = u then k else 1000000) := by
    refine loopU (fun f i z => gM_EachAddsALineModel_knowing_3 N f (nI u) (nI k) (nI bb) (nI i) z) (w 5 0) (fun i z => i ≤ w 5 0 ∧ Fm [20] [] [] t z ∧ ∀ p, p < i → z.1 20 p = nI (if p = u then k else 1000000)) (fun o => ∃ z, o = ((fM_EachAddsALineModel_findOrder N z).bind fun z1 => gM_EachAddsALineModel_knowing_44 N N (nI u) (nI bb) (nI 0) z1) ∧ Fm [20] [] [] t z ∧ ∀ p, p < w 5 0 → z.1 20 p = nI (if p = u then k else 1000000)) ?_ ?_ (w 5 0) N 0 t (by omega) (by omega) ⟨by omega, Fm.rf, fun p hp => by omega⟩
    · rintro f i z hi ⟨g1, g2, g3⟩
      have hz : MW w z := h.fm g2 (by decide) (by decide)
      refine Or.inl ⟨s1 z 20 i (nI (if i = u then k else 1000000)), ?_, by omega, g2.tr (Fm.w1 (by decide) (by decide)), fun p hp => ?_⟩
      · by_cases c : i = u
        · rw [show (if i = u then k else 1000000) = k from if_pos c, gM_EachAddsALineModel_knowing_3]
          simp (disch := omega) only [Option.bind_some, ↓reduceIte, ↓M_1, ↓M_2, L_0, L_1, L_2, L_3, L_4, L_5, L_6, L_7, L_8, L_9, L_10, L_11, L_12, L_13, L_20, L_24, L_26, L_30, L_31, L_32, L_39, L_40, L_48, L_57, L_76, L_80, L_90, L_91, L_97, L_99, L_100, L_255, L_273, L_1000, L_2000, q_ld, q_ldL, q_sto, q_stoL, q_add, q_sub, q_mul, q_dec, q_rem, q_div, q_lt_t, q_lt_f, q_le_t, q_le_f, q_eq_t, q_eq_f, q_em, q_me, q_ml, q_lm, q_mle, q_lem, q_s1, q_s1o, q_s1k, q_s12, q_s2, q_s2o, q_s2k, q_s21, Nat.add_sub_cancel, q_or, q_and, q_shl, true_or, or_true, false_or, or_false, true_and, and_true, false_and, and_false, not_true_eq_false, not_false_eq_true, ne_eq, hz.p, gM_EachAddsALineModel_knowing_30]
        · rw [show (if i = u then k else 1000000) = 1000000 from if_neg c, gM_EachAddsALineModel_knowing_3]
          simp (disch := omega) only [Option.bind_some, ↓reduceIte, ↓M_1, ↓M_2, L_0, L_1, L_2, L_3, L_4, L_5, L_6, L_7, L_8, L_9, L_10, L_11, L_12, L_13, L_20, L_24, L_26, L_30, L_31, L_32, L_39, L_40, L_48, L_57, L_76, L_80, L_90, L_91, L_97, L_99, L_100, L_255, L_273, L_1000, L_2000, q_ld, q_ldL, q_sto, q_stoL, q_add, q_sub, q_mul, q_dec, q_rem, q_div, q_lt_t, q_lt_f, q_le_t, q_le_f, q_eq_t, q_eq_f, q_em, q_me, q_ml, q_lm, q_mle, q_lem, q_s1, q_s1o, q_s1k, q_s12, q_s2, q_s2o, q_s2k, q_s21, Nat.add_sub_cancel, q_or, q_and, q_shl, true_or, or_true, false_or, or_false, true_and, and_true, false_and, and_false, not_true_eq_false, not_false_eq_true, ne_eq, hz.p, gM_EachAddsALineModel_knowing_30, L_1000000]
      · by_cases c : p = i
        · rw [c, q_s1]
        · rw [q_s1k c]; exact g3 p (by omega)
    · rintro f z ⟨g1, g2, g3⟩
      have hz : MW w z := h.fm g2 (by decide) (by decide)
      refine ⟨z, ?_, g2, g3⟩
      try simp only
      rw [gM_EachAddsALineModel_knowing_3]
      simp (disch := omega) only [Option.bind_some, ↓reduceIte, ↓M_1, ↓M_2, L_0, L_1, L_2, L_3, L_4, L_5, L_6, L_7, L_8, L_9, L_10, L_11, L_12, L_13, L_20, L_24, L_26, L_30, L_31, L_32, L_39, L_40, L_48, L_57, L_76, L_80, L_90, L_91, L_97, L_99, L_100, L_255, L_273, L_1000, L_2000, q_ld, q_ldL, q_sto, q_stoL, q_add, q_sub, q_mul, q_dec, q_rem, q_div, q_lt_t, q_lt_f, q_le_t, q_le_f, q_eq_t, q_eq_f, q_em, q_me, q_ml, q_lm, q_mle, q_lem, q_s1, q_s1o, q_s1k, q_s12, q_s2, q_s2o, q_s2k, q_s21, Nat.add_sub_cancel, q_or, q_and, q_shl, true_or, or_true, false_or, or_false, true_and, and_true, false_and, and_false, not_true_eq_false, not_false_eq_true, ne_eq, hz.p]
  obtain ⟨z0, i1, i2, i3⟩ := i1
  have hz0 : MW w z0 := h.fm i2 (by decide) (by decide)
  obtain ⟨t0, e, a1, a2, a3, a4, a5⟩ := M_findOrder (N := N) hz0 hN
  have i4 : ∃ z, gM_EachAddsALineModel_knowing_44 N N (nI u) (nI bb) (nI 0) t0 = gM_EachAddsALineModel_knowing_164 N N (nI bb) (nI 0) (nI 0) z ∧ Fm [11, 20] [] [30] t z ∧ ∀ p, p < w 5 0 → z.1 20 p = nI (hd w u k bb p) := by
    refine loopU (fun f i z => gM_EachAddsALineModel_knowing_44 N f (nI u) (nI bb) (nI i) z) (2 * w 5 1) (fun i z => i ≤ 2 * w 5 1 ∧ Fm [20] [] [] t0 z ∧ ∃ a, (∀ p, p < w 5 0 → z.1 20 p = nI (if p = u then k else a p)) ∧ (∀ p, p < w 5 0 → a p ≤ 99 ∨ a p = 1000000) ∧ PI w u 0 (fun o => (o < 2 * w 5 1 ∧ k ≤ hr w o ∧ hr w o ≤ bb) ∧ ∃ j, j < i ∧ o = e j) a)
      (fun o => ∃ z, o = gM_EachAddsALineModel_knowing_164 N N (nI bb) (nI 0) (nI 0) z ∧ Fm [11, 20] [] [30] t z ∧ ∀ p, p < w 5 0 → z.1 20 p = nI (hd w u k bb p)) ?_ ?_ (2 * w 5 1) N 0 t0 (by omega) (by omega) ⟨by omega, Fm.rf, fun _ => 1000000, fun p hp => by rw [a2.1 20 (by decide) (by decide)]; exact i3 p hp, fun p hp => Or.inr rfl, fun o ho => by obtain ⟨_, j, hj, _⟩ := ho; omega, fun p hp => Or.inl rfl⟩
    · rintro f i z hi ⟨g1, g2, a, g3, g4, g5⟩
      have hz : MW w z := (hz0.fm a2 (by decide) (by decide)).fm g2 (by decide) (by decide)
      have ha := a5.1 i hi
      have hg1 := gv_lt h.ok ha
      have hg2 := gt_lt h.ok ha
      have hne := gv_ne h.ok ha
      have h99 := hr_le h.ok ha
      have hR := h.ok.2.2.1 _ hg1
      have z11 : z.1 11 i = nI (e i) := by rw [g2.1 11 (by decide) (by decide)]; exact a4 i hi
      have z30 : z.1 0 30 = nI (2 * w 5 1) := by rw [g2.2.2 30 (by decide)]; exact a3
      have h4 : z.1 4 (e i / 2) = nI (hr w (e i)) := hz.h (m := e i / 2) (by omega)
      have egv := M_giver (N := N) hz ha
      have egt := M_getter (N := N) hz ha
      have v1 := g3 _ hg1
      have v2 := g3 _ hg2
      have hb1 := g4 _ hg1
      have hb2 := g4 _ hg2
      have er := hz.rd hg1
      have hold : ∀ o, ((o < 2 * w 5 1 ∧ k ≤ hr w o ∧ hr w o ≤ bb) ∧ ∃ j, j < i ∧ o = e j) → hr w o ≤ hr w (e i) := fun o ho => by
        obtain ⟨j, j1, j2⟩ := ho.2
        have := a5.2 j i j1 hi
        rw [j2]
        omega
      -- the new set
      by_cases c1 : k ≤ hr w (e i) ∧ hr w (e i) ≤ bb
      · have p1 := g5.step h.ok (fun o ho => ho.1.1) ha hold
        have p2 : PI w u 0 (fun o => (o < 2 * w 5 1 ∧ k ≤ hr w o ∧ hr w o ≤ bb) ∧ ∃ j, j < i + 1 ∧ o = e j) (tl w u 0 a (e i)) := p1.cong (fun o => ⟨fun y => by
          rcases y with y | y
          · obtain ⟨j, j1, j2⟩ := y.2
            exact ⟨y.1, j, by omega, j2⟩
          · exact ⟨by rw [y]; exact ⟨ha, c1⟩, i, by omega, y⟩, fun y => by
          obtain ⟨j, j1, j2⟩ := y.2
          by_cases d : j = i
          · rw [d] at j2; exact Or.inr j2
          · exact Or.inl ⟨y.1, j, by omega, j2⟩⟩)
        have g4' := tl_bd (u := u) (br := 0) h.ok ha g4
        by_cases c2 : cg w u 0 a (e i)
        · -- it is heard
          have hmin : ∀ p, p < w 5 0 → (s1 z 20 (gt w (e i)) (nI (min (if gt w (e i) = u then k else a (gt w (e i))) (hr w (e i))))).1 20 p = nI (if p = u then k else tl w u 0 a (e i) p) := fun p hp => by
            by_cases d : p = gt w (e i)
            · rw [d, q_s1]
              by_cases d2 : gt w (e i) = u
              · rw [if_pos d2, if_pos d2, Nat.min_eq_left c1.1]
              · rw [if_neg d2, if_neg d2]
                unfold tl
                by_cases d3 : a (gt w (e i)) = 1000000
                · rw [if_pos ⟨d3, c2, rfl⟩, d3, Nat.min_eq_right (by omega)]
                · rw [if_neg (fun y => d3 y.1)]
                  rcases g5.2 _ hg2 with q | ⟨o, o1, o2, o3, o4⟩
                  · exact absurd q d3
                  · have := hold o o1
                    rw [Nat.min_eq_left (by omega)]
            · rw [q_s1k d, show tl w u 0 a (e i) p = a p from if_neg (fun y => d y.2.2)]
              exact g3 p hp
          refine Or.inl ⟨s1 z 20 (gt w (e i)) (nI (min (if gt w (e i) = u then k else a (gt w (e i))) (hr w (e i)))), ?_, by omega, g2.tr (Fm.w1 (by decide) (by decide)), _, hmin, g4', p2⟩
          have hv2 : (if gt w (e i) = u then k else a (gt w (e i))) < 2 ^ 31 := by split <;> omega
          rw [gM_EachAddsALineModel_knowing_44]
          by_cases d : gv w (e i) = u
          · rw [if_pos d] at v1
            rw [d] at egv v1
            simp (disch := omega) only [Option.bind_some, ↓reduceIte, ↓M_1, ↓M_2, L_0, L_1, L_2, L_3, L_4, L_5, L_6, L_7, L_8, L_9, L_10, L_11, L_12, L_13, L_20, L_24, L_26, L_30, L_31, L_32, L_39, L_40, L_48, L_57, L_76, L_80, L_90, L_91, L_97, L_99, L_100, L_255, L_273, L_1000, L_2000, q_ld, q_ldL, q_sto, q_stoL, q_add, q_sub, q_mul, q_dec, q_rem, q_div, q_lt_t, q_lt_f, q_le_t, q_le_f, q_eq_t, q_eq_f, q_em, q_me, q_ml, q_lm, q_mle, q_lem, q_s1, q_s1o, q_s1k, q_s12, q_s2, q_s2o, q_s2k, q_s21, Nat.add_sub_cancel, q_or, q_and, q_shl, true_or, or_true, false_or, or_false, true_and, and_true, false_and, and_false, not_true_eq_false, not_false_eq_true, ne_eq, z30, z11, h4, egv, egt, v1, v2, gM_EachAddsALineModel_knowing_109, gM_EachAddsALineModel_knowing_152, Nat.add_zero, q_min]
          · rw [if_neg d] at v1
            have c3 := c2.resolve_left d
            simp (disch := omega) only [Option.bind_some, ↓reduceIte, ↓M_1, ↓M_2, L_0, L_1, L_2, L_3, L_4, L_5, L_6, L_7, L_8, L_9, L_10, L_11, L_12, L_13, L_20, L_24, L_26, L_30, L_31, L_32, L_39, L_40, L_48, L_57, L_76, L_80, L_90, L_91, L_97, L_99, L_100, L_255, L_273, L_1000, L_2000, q_ld, q_ldL, q_sto, q_stoL, q_add, q_sub, q_mul, q_dec, q_rem, q_div, q_lt_t, q_lt_f, q_le_t, q_le_f, q_eq_t, q_eq_f, q_em, q_me, q_ml, q_lm, q_mle, q_lem, q_s1, q_s1o, q_s1k, q_s12, q_s2, q_s2o, q_s2k, q_s21, Nat.add_sub_cancel, q_or, q_and, q_shl, true_or, or_true, false_or, or_false, true_and, and_true, false_and, and_false, not_true_eq_false, not_false_eq_true, ne_eq, z30, z11, h4, egv, egt, v1, v2, er, gM_EachAddsALineModel_knowing_109, gM_EachAddsALineModel_knowing_152, q_min]
        · -- it is not
          have c3 : ¬ gv w (e i) = u := fun y => c2 (Or.inl y)
          have c4 : ¬ a (gv w (e i)) + w 0 (gv w (e i)) ≤ hr w (e i) := fun y => c2 (Or.inr ⟨Nat.zero_testBit _, y⟩)
          have et : tl w u 0 a (e i) = a := funext (fun p => if_neg (fun y => c2 y.2.1))
          rw [et] at p2
          refine Or.inl ⟨z, ?_, by omega, g2, a, g3, g4, p2⟩
          rw [if_neg c3] at v1
          rw [gM_EachAddsALineModel_knowing_44]
          simp (disch := omega) only [Option.bind_some, ↓reduceIte, ↓M_1, ↓M_2, L_0, L_1, L_2, L_3, L_4, L_5, L_6, L_7, L_8, L_9, L_10, L_11, L_12, L_13, L_20, L_24, L_26, L_30, L_31, L_32, L_39, L_40, L_48, L_57, L_76, L_80, L_90, L_91, L_97, L_99, L_100, L_255, L_273, L_1000, L_2000, q_ld, q_ldL, q_sto, q_stoL, q_add, q_sub, q_mul, q_dec, q_rem, q_div, q_lt_t, q_lt_f, q_le_t, q_le_f, q_eq_t, q_eq_f, q_em, q_me, q_ml, q_lm, q_mle, q_lem, q_s1, q_s1o, q_s1k, q_s12, q_s2, q_s2o, q_s2k, q_s21, Nat.add_sub_cancel, q_or, q_and, q_shl, true_or, or_true, false_or, or_false, true_and, and_true, false_and, and_false, not_true_eq_false, not_false_eq_true, ne_eq, z30, z11, h4, egv, v1, er, gM_EachAddsALineModel_knowing_109, gM_EachAddsALineModel_knowing_152]
      · -- too early, too late
        have p2 : PI w u 0 (fun o => (o < 2 * w 5 1 ∧ k ≤ hr w o ∧ hr w o ≤ bb) ∧ ∃ j, j < i + 1 ∧ o = e j) a := g5.cong (fun o => ⟨fun y => by
          obtain ⟨j, j1, j2⟩ := y.2
          exact ⟨y.1, j, by omega, j2⟩, fun y => by
          obtain ⟨j, j1, j2⟩ := y.2
          by_cases d : j = i
          · rw [d] at j2
            rw [j2] at y
            exact absurd y.1.2 c1
          · exact ⟨y.1, j, by omega, j2⟩⟩)
        refine Or.inl ⟨z, ?_, by omega, g2, a, g3, g4, p2⟩
        rw [gM_EachAddsALineModel_knowing_44]
        by_cases d : gv w (e i) = u
        · rw [if_pos d] at v1
          rw [d] at egv v1
          by_cases d2 : hr w (e i) < k
          · simp (disch := omega) only [Option.bind_some, ↓reduceIte, ↓M_1, ↓M_2, L_0, L_1, L_2, L_3, L_4, L_5, L_6, L_7, L_8, L_9, L_10, L_11, L_12, L_13, L_20, L_24, L_26, L_30, L_31, L_32, L_39, L_40, L_48, L_57, L_76, L_80, L_90, L_91, L_97, L_99, L_100, L_255, L_273, L_1000, L_2000, q_ld, q_ldL, q_sto, q_stoL, q_add, q_sub, q_mul, q_dec, q_rem, q_div, q_lt_t, q_lt_f, q_le_t, q_le_f, q_eq_t, q_eq_f, q_em, q_me, q_ml, q_lm, q_mle, q_lem, q_s1, q_s1o, q_s1k, q_s12, q_s2, q_s2o, q_s2k, q_s21, Nat.add_sub_cancel, q_or, q_and, q_shl, true_or, or_true, false_or, or_false, true_and, and_true, false_and, and_false, not_true_eq_false, not_false_eq_true, ne_eq, z30, z11, h4, egv, egt, v1, v2, gM_EachAddsALineModel_knowing_109, gM_EachAddsALineModel_knowing_152, Nat.add_zero]
          · have d3 : bb < hr w (e i) := by omega
            simp (disch := omega) only [Option.bind_some, ↓reduceIte, ↓M_1, ↓M_2, L_0, L_1, L_2, L_3, L_4, L_5, L_6, L_7, L_8, L_9, L_10, L_11, L_12, L_13, L_20, L_24, L_26, L_30, L_31, L_32, L_39, L_40, L_48, L_57, L_76, L_80, L_90, L_91, L_97, L_99, L_100, L_255, L_273, L_1000, L_2000, q_ld, q_ldL, q_sto, q_stoL, q_add, q_sub, q_mul, q_dec, q_rem, q_div, q_lt_t, q_lt_f, q_le_t, q_le_f, q_eq_t, q_eq_f, q_em, q_me, q_ml, q_lm, q_mle, q_lem, q_s1, q_s1o, q_s1k, q_s12, q_s2, q_s2o, q_s2k, q_s21, Nat.add_sub_cancel, q_or, q_and, q_shl, true_or, or_true, false_or, or_false, true_and, and_true, false_and, and_false, not_true_eq_false, not_false_eq_true, ne_eq, z30, z11, h4, egv, egt, v1, v2, gM_EachAddsALineModel_knowing_109, gM_EachAddsALineModel_knowing_152, Nat.add_zero]
        · rw [if_neg d] at v1
          by_cases d2 : hr w (e i) < a (gv w (e i)) + w 0 (gv w (e i))
          · simp (disch := omega) only [Option.bind_some, ↓reduceIte, ↓M_1, ↓M_2, L_0, L_1, L_2, L_3, L_4, L_5, L_6, L_7, L_8, L_9, L_10, L_11, L_12, L_13, L_20, L_24, L_26, L_30, L_31, L_32, L_39, L_40, L_48, L_57, L_76, L_80, L_90, L_91, L_97, L_99, L_100, L_255, L_273, L_1000, L_2000, q_ld, q_ldL, q_sto, q_stoL, q_add, q_sub, q_mul, q_dec, q_rem, q_div, q_lt_t, q_lt_f, q_le_t, q_le_f, q_eq_t, q_eq_f, q_em, q_me, q_ml, q_lm, q_mle, q_lem, q_s1, q_s1o, q_s1k, q_s12, q_s2, q_s2o, q_s2k, q_s21, Nat.add_sub_cancel, q_or, q_and, q_shl, true_or, or_true, false_or, or_false, true_and, and_true, false_and, and_false, not_true_eq_false, not_false_eq_true, ne_eq, z30, z11, h4, egv, egt, v1, v2, er, gM_EachAddsALineModel_knowing_109, gM_EachAddsALineModel_knowing_152]
          · have d3 : bb < hr w (e i) := by
              rcases g5.2 _ hg1 with q | ⟨o, o1, o2, o3, o4⟩
              · omega
              · have := o1.1.2.1
                omega
            simp (disch := omega) only [Option.bind_some, ↓reduceIte, ↓M_1, ↓M_2, L_0, L_1, L_2, L_3, L_4, L_5, L_6, L_7, L_8, L_9, L_10, L_11, L_12, L_13, L_20, L_24, L_26, L_30, L_31, L_32, L_39, L_40, L_48, L_57, L_76, L_80, L_90, L_91, L_97, L_99, L_100, L_255, L_273, L_1000, L_2000, q_ld, q_ldL, q_sto, q_stoL, q_add, q_sub, q_mul, q_dec, q_rem, q_div, q_lt_t, q_lt_f, q_le_t, q_le_f, q_eq_t, q_eq_f, q_em, q_me, q_ml, q_lm, q_mle, q_lem, q_s1, q_s1o, q_s1k, q_s12, q_s2, q_s2o, q_s2k, q_s21, Nat.add_sub_cancel, q_or, q_and, q_shl, true_or, or_true, false_or, or_false, true_and, and_true, false_and, and_false, not_true_eq_false, not_false_eq_true, ne_eq, z30, z11, h4, egv, egt, v1, v2, er, gM_EachAddsALineModel_knowing_109, gM_EachAddsALineModel_knowing_152]
    · rintro f z ⟨g1, g2, a, g3, g4, g5⟩
      have z30 : z.1 0 30 = nI (2 * w 5 1) := by rw [g2.2.2 30 (by decide)]; exact a3
      have p2 : PI w u 0 (fun o => o < 2 * w 5 1 ∧ k ≤ hr w o ∧ hr w o ≤ bb) a := g5.cong (fun o => ⟨fun y => y.1, fun y => ⟨y, by
        obtain ⟨j, j1, j2⟩ := srt_onto a5 y.1
        exact ⟨j, j1, j2.symm⟩⟩⟩)
      refine ⟨z, ?_, ((i2.mono (by decide) (by decide) (by decide)).tr (a2.mono (by decide) (by decide) (by decide))).tr (g2.mono (by decide) (by decide) (by decide)), fun p hpp => ?_⟩
      · try simp only
        rw [gM_EachAddsALineModel_knowing_44]
        simp (disch := omega) only [Option.bind_some, ↓reduceIte, ↓M_1, ↓M_2, L_0, L_1, L_2, L_3, L_4, L_5, L_6, L_7, L_8, L_9, L_10, L_11, L_12, L_13, L_20, L_24, L_26, L_30, L_31, L_32, L_39, L_40, L_48, L_57, L_76, L_80, L_90, L_91, L_97, L_99, L_100, L_255, L_273, L_1000, L_2000, q_ld, q_ldL, q_sto, q_stoL, q_add, q_sub, q_mul, q_dec, q_rem, q_div, q_lt_t, q_lt_f, q_le_t, q_le_f, q_eq_t, q_eq_f, q_em, q_me, q_ml, q_lm, q_mle, q_lem, q_s1, q_s1o, q_s1k, q_s12, q_s2, q_s2o, q_s2k, q_s21, Nat.add_sub_cancel, q_or, q_and, q_shl, true_or, or_true, false_or, or_false, true_and, and_true, false_and, and_false, not_true_eq_false, not_false_eq_true, ne_eq, z30]
      · rw [g3 p hpp, p2.uniq (PI_trn h.ok hbb hp) h.ok (fun o ho => ho.1) hpp]
        rfl
  obtain ⟨z1, i4, i5, i6⟩ := i4
  have hz1 : MW w z1 := h.fm i5 (by decide) (by decide)
  refine ⟨z1, ?_, i5, i6⟩
  simp (disch := omega) only [Option.bind_some, ↓reduceIte, ↓M_1, ↓M_2, L_0, L_1, L_2, L_3, L_4, L_5, L_6, L_7, L_8, L_9, L_10, L_11, L_12, L_13, L_20, L_24, L_26, L_30, L_31, L_32, L_39, L_40, L_48, L_57, L_76, L_80, L_90, L_91, L_97, L_99, L_100, L_255, L_273, L_1000, L_2000, q_ld, q_ldL, q_sto, q_stoL, q_add, q_sub, q_mul, q_dec, q_rem, q_div, q_lt_t, q_lt_f, q_le_t, q_le_f, q_eq_t, q_eq_f, q_em, q_me, q_ml, q_lm, q_mle, q_lem, q_s1, q_s1o, q_s1k, q_s12, q_s2, q_s2o, q_s2k, q_s21, Nat.add_sub_cancel, q_or, q_and, q_shl, true_or, or_true, false_or, or_false, true_and, and_true, false_and, and_false, not_true_eq_false, not_false_eq_true, ne_eq, fM_EachAddsALineModel_knowing, gM_EachAddsALineModel_knowing_0, i1, a1, i4]
  refine loopS (fun f i (x : Nat) => gM_EachAddsALineModel_knowing_164 N f (nI bb) (nI x) (nI i) z1) (fun i => bset (fun p => decide (hd w u k bb p ≤ bb)) i) (w 5 0) _ (fun f i hi => ?_) (fun f => ?_) N (by omega)
  · have hl := bset_lt (fun p => decide (hd w u k bb p ≤ bb)) i
    have hb2 := hd_bd (u := u) (bb := bb) h.ok (show k ≤ 99 by omega) i
    have e1 := i6 i hi
    try simp only
    by_cases c : hd w u k bb i ≤ bb
    · rw [bset_t (f := fun p => decide (hd w u k bb p ≤ bb)) (decide_eq_true c), gM_EachAddsALineModel_knowing_164]
      simp (disch := omega) only [Option.bind_some, ↓reduceIte, ↓M_1, ↓M_2, L_0, L_1, L_2, L_3, L_4, L_5, L_6, L_7, L_8, L_9, L_10, L_11, L_12, L_13, L_20, L_24, L_26, L_30, L_31, L_32, L_39, L_40, L_48, L_57, L_76, L_80, L_90, L_91, L_97, L_99, L_100, L_255, L_273, L_1000, L_2000, q_ld, q_ldL, q_sto, q_stoL, q_add, q_sub, q_mul, q_dec, q_rem, q_div, q_lt_t, q_lt_f, q_le_t, q_le_f, q_eq_t, q_eq_f, q_em, q_me, q_ml, q_lm, q_mle, q_lem, q_s1, q_s1o, q_s1k, q_s12, q_s2, q_s2o, q_s2k, q_s21, Nat.add_sub_cancel, q_or, q_and, q_shl, true_or, or_true, false_or, or_false, true_and, and_true, false_and, and_false, not_true_eq_false, not_false_eq_true, ne_eq, hz1.p, e1, gM_EachAddsALineModel_knowing_194]
    · rw [bset_f (f := fun p => decide (hd w u k bb p ≤ bb)) (decide_eq_false c), gM_EachAddsALineModel_knowing_164]
      simp (disch := omega) only [Option.bind_some, ↓reduceIte, ↓M_1, ↓M_2, L_0, L_1, L_2, L_3, L_4, L_5, L_6, L_7, L_8, L_9, L_10, L_11, L_12, L_13, L_20, L_24, L_26, L_30, L_31, L_32, L_39, L_40, L_48, L_57, L_76, L_80, L_90, L_91, L_97, L_99, L_100, L_255, L_273, L_1000, L_2000, q_ld, q_ldL, q_sto, q_stoL, q_add, q_sub, q_mul, q_dec, q_rem, q_div, q_lt_t, q_lt_f, q_le_t, q_le_f, q_eq_t, q_eq_f, q_em, q_me, q_ml, q_lm, q_mle, q_lem, q_s1, q_s1o, q_s1k, q_s12, q_s2, q_s2o, q_s2k, q_s21, Nat.add_sub_cancel, q_or, q_and, q_shl, true_or, or_true, false_or, or_false, true_and, and_true, false_and, and_false, not_true_eq_false, not_false_eq_true, ne_eq, hz1.p, e1, gM_EachAddsALineModel_knowing_194, Nat.or_zero]
  · show gM_EachAddsALineModel_knowing_164 N (f + 1) (nI bb) (nI (kn w u k bb)) (nI (w 5 0)) z1 = _
    rw [gM_EachAddsALineModel_knowing_164]
    simp (disch := omega) only [Option.bind_some, ↓reduceIte, ↓M_1, ↓M_2, L_0, L_1, L_2, L_3, L_4, L_5, L_6, L_7, L_8, L_9, L_10, L_11, L_12, L_13, L_20, L_24, L_26, L_30, L_31, L_32, L_39, L_40, L_48, L_57, L_76, L_80, L_90, L_91, L_97, L_99, L_100, L_255, L_273, L_1000, L_2000, q_ld, q_ldL, q_sto, q_stoL, q_add, q_sub, q_mul, q_dec, q_rem, q_div, q_lt_t, q_lt_f, q_le_t, q_le_f, q_eq_t, q_eq_f, q_em, q_me, q_ml, q_lm, q_mle, q_lem, q_s1, q_s1o, q_s1k, q_s12, q_s2, q_s2o, q_s2k, q_s21, Nat.add_sub_cancel, q_or, q_and, q_shl, true_or, or_true, false_or, or_false, true_and, and_true, false_and, and_false, not_true_eq_false, not_false_eq_true, ne_eq, hz1.p]
/-- the class' -/
def knC (w : Nat → Nat → Nat) (u k bb n : Nat) : Nat × Nat := fz (fun p x => if ¬ p = u ∧ arr w 0 100 u k p ≤ bb then (x.1 ||| 2 ^ p, max x.2 (arr w 0 100 u k p)) else x) (2 ^ u, k) n
theorem knC_ok (h : okW w) (hu : u < w 5 0) (hk : k ≤ bb) (hbb : bb ≤ 99) {n : Nat} (hn : n ≤ w 5 0) : (knC w u k bb n).1 < 512 ∧ (knC w u k bb n).2 ≤ 99 ∧ (∀ i, (knC w u k bb n).1.testBit i = true ↔ i = u ∨ (i < n ∧ hd w u k bb i ≤ bb)) ∧ (knC w u k bb n).2 = max k (fz (fun p x => if hd w u k bb p ≤ bb then max x (hd w u k bb p) else x) 0 n) := by
  have h6 := h.1
  refine fz_ind (f := fun p x => if ¬ p = u ∧ arr w 0 100 u k p ≤ bb then (x.1 ||| 2 ^ p, max x.2 (arr w 0 100 u k p)) else x) (z := (2 ^ u, k)) (n := n) (fun j x => x.1 < 512 ∧ x.2 ≤ 99 ∧ (∀ i, x.1.testBit i = true ↔ i = u ∨ (i < j ∧ hd w u k bb i ≤ bb)) ∧ x.2 = max k (fz (fun p x => if hd w u k bb p ≤ bb then max x (hd w u k bb p) else x) 0 j)) ⟨pow9 (by omega), by show k ≤ 99; omega, fun i => ?_, (Nat.max_zero k).symm⟩ (fun j x hj hx => ?_) n (Nat.le_refl _)
  · rw [Nat.testBit_two_pow, decide_eq_true_eq]
    exact ⟨fun z => Or.inl z.symm, fun z => z.elim (fun z => z.symm) (fun z => absurd z.1 (Nat.not_lt_zero _))⟩
  · obtain ⟨x1, x2, x3, x4⟩ := hx
    rw [fz]
    by_cases c : ¬ j = u ∧ arr w 0 100 u k j ≤ bb
    · have hh : hd w u k bb j = arr w 0 100 u k j := (if_neg c.1).trans (if_pos c.2)
      rw [if_pos c, hh, if_pos c.2]
      refine ⟨or_lt9 x1 (pow9 (by omega)), ?_, fun i => ?_, ?_⟩
      · show max x.2 (arr w 0 100 u k j) ≤ 99; omega
      · rw [Nat.testBit_or, Nat.testBit_two_pow, Bool.or_eq_true, decide_eq_true_eq, x3 i]
        refine ⟨fun z => ?_, fun z => ?_⟩
        · rcases z with (z | z) | z
          · exact Or.inl z
          · exact Or.inr ⟨by omega, z.2⟩
          · rw [← z]; exact Or.inr ⟨by omega, by rw [hh]; exact c.2⟩
        · rcases z with z | z
          · exact Or.inl (Or.inl z)
          · by_cases d : i = j
            · exact Or.inr d.symm
            · exact Or.inl (Or.inr ⟨by omega, z.2⟩)
      · show max x.2 (arr w 0 100 u k j) = _
        rw [x4, Nat.max_assoc]
    · rw [if_neg c]
      refine ⟨x1, x2, fun i => ?_, ?_⟩
      · rw [x3 i]
        refine ⟨fun z => z.imp id (fun z => ⟨by omega, z.2⟩), fun z => ?_⟩
        rcases z with z | z
        · exact Or.inl z
        · by_cases d : i = j
          · subst d
            by_cases d2 : i = u
            · exact Or.inl d2
            · have z2 := z.2
              unfold hd trn at z2
              rw [if_neg d2] at z2
              by_cases d3 : arr w 0 100 u k i ≤ bb
              · exact absurd ⟨d2, d3⟩ c
              · rw [if_neg d3] at z2
                omega
          · exact Or.inr ⟨by omega, z.2⟩
      · rw [x4]
        by_cases d : hd w u k bb j ≤ bb
        · rw [if_pos d]
          by_cases d2 : j = u
          · rw [show hd w u k bb j = k from if_pos d2]
            omega
          · exfalso
            unfold hd trn at d
            rw [if_neg d2] at d
            by_cases d3 : arr w 0 100 u k j ≤ bb
            · exact c ⟨d2, d3⟩
            · rw [if_neg d3] at d
              omega
        · rw [if_neg d]
theorem knC_eq (h : okW w) (hu : u < w 5 0) (hk : k ≤ bb) (hbb : bb ≤ 99) : (knC w u k bb (w 5 0)).1 = kn w u k bb := by
  have h3 := (knC_ok h hu hk hbb (Nat.le_refl (w 5 0))).2.2.1
  refine Nat.eq_of_testBit_eq (fun i => ?_)
  unfold kn
  rw [bset_tb]
  have e : ((decide (i < w 5 0) && decide (hd w u k bb i ≤ bb)) = true) ↔ i = u ∨ (i < w 5 0 ∧ hd w u k bb i ≤ bb) := by
    rw [Bool.and_eq_true, decide_eq_true_eq, decide_eq_true_eq]
    refine ⟨Or.inr, fun z => z.elim (fun z => ?_) id⟩
    rw [z]
    exact ⟨hu, by rw [show hd w u k bb u = k from if_pos rfl]; exact hk⟩
  have h4 := h3 i
  rw [← e] at h4
  exact Bool.eq_iff_iff.mpr h4
theorem C_knowers (h : CW w s) (hN : 60 ≤ N) (hu : u < w 5 0) (hk : k ≤ bb) (hbb : bb ≤ 99) : ∃ z, fC_Paths_knowers N (nI u) (nI k) (nI bb) s = some (nI (kn w u k bb), z) ∧ Fr [41, 42] [] s z ∧ z.1 41 2 = nI (knC w u k bb (w 5 0)).2 := by
  have hb := h.bd
  obtain ⟨z, x1, x2, x3⟩ := C_spread0 (N := N) (go := 100) (br := 0) h hN hu (show k < 1000 by omega) shuts0 (Or.inr rfl)
  rw [gI_no (g := 100) (by decide)] at x1
  simp (disch := omega) only [Option.bind_some, ↓reduceIte, ↓M_1, ↓M_2, L_0, L_1, L_2, L_3, L_4, L_5, L_6, L_7, L_8, L_9, L_10, L_11, L_12, L_13, L_20, L_24, L_26, L_30, L_31, L_32, L_39, L_40, L_48, L_57, L_76, L_80, L_90, L_91, L_97, L_99, L_100, L_255, L_273, L_1000, L_2000, q_ld, q_ldL, q_sto, q_stoL, q_add, q_sub, q_mul, q_dec, q_rem, q_div, q_lt_t, q_lt_f, q_le_t, q_le_f, q_eq_t, q_eq_f, q_em, q_me, q_ml, q_lm, q_mle, q_lem, q_s1, q_s1o, q_s1k, q_s12, q_s2, q_s2o, q_s2k, q_s21, Nat.add_sub_cancel, q_or, q_and, q_shl, true_or, or_true, false_or, or_false, true_and, and_true, false_and, and_false, not_true_eq_false, not_false_eq_true, ne_eq, fC_Paths_knowers, gC_Paths_knowers_0, x1]
  refine loopU (fun f i y => gC_Paths_knowers_21 N f (nI u) (nI bb) (nI (knC w u k bb i).1) (nI i) y) (w 5 0) (fun i y => i ≤ w 5 0 ∧ Fr [41, 42] [] s y ∧ y.1 42 = z.1 42 ∧ y.1 41 2 = nI (knC w u k bb i).2) (fun o => ∃ z, o = some (nI (kn w u k bb), z) ∧ Fr [41, 42] [] s z ∧ z.1 41 2 = nI (knC w u k bb (w 5 0)).2) ?_ ?_ (w 5 0) N 0 _ (by omega) (by omega) ⟨by omega, (x2.mono (by decide) (by decide)).tr (Fr.s1 (by decide)), rfl, q_s1 _ _ _ _⟩
  · rintro f i y hi ⟨g1, g2, g3, g4⟩
    have hy : CW w y := h.fr g2 (by decide)
    have hko := knC_ok h.ok hu hk hbb (n := i) (by omega)
    have e1 : y.1 42 i = ea (arr w 0 100 u k i) := by rw [g3]; exact x3 i hi
    have hbd := arr_bd (br := 0) (go := 100) (u := u) (k := k) (v := i) h.ok
    have es : knC w u k bb (i + 1) = if ¬ i = u ∧ arr w 0 100 u k i ≤ bb then ((knC w u k bb i).1 ||| 2 ^ i, max (knC w u k bb i).2 (arr w 0 100 u k i)) else knC w u k bb i := rfl
    try simp only
    rw [es]
    generalize knC w u k bb i = x at hko g4
    obtain ⟨o1, o2, _, _⟩ := hko
    by_cases c : i = u
    · refine Or.inl ⟨y, ?_, by omega, g2, g3, ?_⟩
      · rw [show (if ¬ i = u ∧ arr w 0 100 u k i ≤ bb then (x.1 ||| 2 ^ i, max x.2 (arr w 0 100 u k i)) else x) = x from if_neg (fun q => q.1 c), gC_Paths_knowers_21]
        simp (disch := omega) only [Option.bind_some, ↓reduceIte, ↓M_1, ↓M_2, L_0, L_1, L_2, L_3, L_4, L_5, L_6, L_7, L_8, L_9, L_10, L_11, L_12, L_13, L_20, L_24, L_26, L_30, L_31, L_32, L_39, L_40, L_48, L_57, L_76, L_80, L_90, L_91, L_97, L_99, L_100, L_255, L_273, L_1000, L_2000, q_ld, q_ldL, q_sto, q_stoL, q_add, q_sub, q_mul, q_dec, q_rem, q_div, q_lt_t, q_lt_f, q_le_t, q_le_f, q_eq_t, q_eq_f, q_em, q_me, q_ml, q_lm, q_mle, q_lem, q_s1, q_s1o, q_s1k, q_s12, q_s2, q_s2o, q_s2k, q_s21, Nat.add_sub_cancel, q_or, q_and, q_shl, true_or, or_true, false_or, or_false, true_and, and_true, false_and, and_false, not_true_eq_false, not_false_eq_true, ne_eq, hy.p, gC_Paths_knowers_88]
      · rw [if_neg (fun q : ¬ i = u ∧ _ => q.1 c)]; exact g4
    · by_cases d : arr w 0 100 u k i ≤ bb
      · rw [ea_lt (by omega)] at e1
        refine Or.inl ⟨s1 y 41 2 (nI (max x.2 (arr w 0 100 u k i))), ?_, by omega, g2.tr (Fr.s1 (by decide)), g3, ?_⟩
        · rw [show (if ¬ i = u ∧ arr w 0 100 u k i ≤ bb then (x.1 ||| 2 ^ i, max x.2 (arr w 0 100 u k i)) else x) = (x.1 ||| 2 ^ i, max x.2 (arr w 0 100 u k i)) from if_pos ⟨c, d⟩, gC_Paths_knowers_21]
          simp (disch := omega) only [Option.bind_some, ↓reduceIte, ↓M_1, ↓M_2, L_0, L_1, L_2, L_3, L_4, L_5, L_6, L_7, L_8, L_9, L_10, L_11, L_12, L_13, L_20, L_24, L_26, L_30, L_31, L_32, L_39, L_40, L_48, L_57, L_76, L_80, L_90, L_91, L_97, L_99, L_100, L_255, L_273, L_1000, L_2000, q_ld, q_ldL, q_sto, q_stoL, q_add, q_sub, q_mul, q_dec, q_rem, q_div, q_lt_t, q_lt_f, q_le_t, q_le_f, q_eq_t, q_eq_f, q_em, q_me, q_ml, q_lm, q_mle, q_lem, q_s1, q_s1o, q_s1k, q_s12, q_s2, q_s2o, q_s2k, q_s21, Nat.add_sub_cancel, q_or, q_and, q_shl, true_or, or_true, false_or, or_false, true_and, and_true, false_and, and_false, not_true_eq_false, not_false_eq_true, ne_eq, hy.p, e1, g4, q_max, gC_Paths_knowers_88]
        · rw [show (if ¬ i = u ∧ arr w 0 100 u k i ≤ bb then (x.1 ||| 2 ^ i, max x.2 (arr w 0 100 u k i)) else x) = (x.1 ||| 2 ^ i, max x.2 (arr w 0 100 u k i)) from if_pos ⟨c, d⟩]
          exact q_s1 _ _ _ _
      · refine Or.inl ⟨y, ?_, by omega, g2, g3, ?_⟩
        · rw [show (if ¬ i = u ∧ arr w 0 100 u k i ≤ bb then (x.1 ||| 2 ^ i, max x.2 (arr w 0 100 u k i)) else x) = x from if_neg (fun q => d q.2), gC_Paths_knowers_21]
          rcases hbd with hbd | hbd
          · rw [ea_lt hbd] at e1
            simp (disch := omega) only [Option.bind_some, ↓reduceIte, ↓M_1, ↓M_2, L_0, L_1, L_2, L_3, L_4, L_5, L_6, L_7, L_8, L_9, L_10, L_11, L_12, L_13, L_20, L_24, L_26, L_30, L_31, L_32, L_39, L_40, L_48, L_57, L_76, L_80, L_90, L_91, L_97, L_99, L_100, L_255, L_273, L_1000, L_2000, q_ld, q_ldL, q_sto, q_stoL, q_add, q_sub, q_mul, q_dec, q_rem, q_div, q_lt_t, q_lt_f, q_le_t, q_le_f, q_eq_t, q_eq_f, q_em, q_me, q_ml, q_lm, q_mle, q_lem, q_s1, q_s1o, q_s1k, q_s12, q_s2, q_s2o, q_s2k, q_s21, Nat.add_sub_cancel, q_or, q_and, q_shl, true_or, or_true, false_or, or_false, true_and, and_true, false_and, and_false, not_true_eq_false, not_false_eq_true, ne_eq, hy.p, e1, gC_Paths_knowers_88]
          · rw [hbd, ea_far] at e1
            simp (disch := omega) only [Option.bind_some, ↓reduceIte, ↓M_1, ↓M_2, L_0, L_1, L_2, L_3, L_4, L_5, L_6, L_7, L_8, L_9, L_10, L_11, L_12, L_13, L_20, L_24, L_26, L_30, L_31, L_32, L_39, L_40, L_48, L_57, L_76, L_80, L_90, L_91, L_97, L_99, L_100, L_255, L_273, L_1000, L_2000, q_ld, q_ldL, q_sto, q_stoL, q_add, q_sub, q_mul, q_dec, q_rem, q_div, q_lt_t, q_lt_f, q_le_t, q_le_f, q_eq_t, q_eq_f, q_em, q_me, q_ml, q_lm, q_mle, q_lem, q_s1, q_s1o, q_s1k, q_s12, q_s2, q_s2o, q_s2k, q_s21, Nat.add_sub_cancel, q_or, q_and, q_shl, true_or, or_true, false_or, or_false, true_and, and_true, false_and, and_false, not_true_eq_false, not_false_eq_true, ne_eq, hy.p, e1, gC_Paths_knowers_88]
        · rw [if_neg (fun q : ¬ i = u ∧ _ => d q.2)]; exact g4
  · rintro f y ⟨g1, g2, g3, g4⟩
    have hy : CW w y := h.fr g2 (by decide)
    refine ⟨y, ?_, g2, g4⟩
    try simp only
    rw [knC_eq h.ok hu hk hbb, gC_Paths_knowers_21]
    simp (disch := omega) only [Option.bind_some, ↓reduceIte, ↓M_1, ↓M_2, L_0, L_1, L_2, L_3, L_4, L_5, L_6, L_7, L_8, L_9, L_10, L_11, L_12, L_13, L_20, L_24, L_26, L_30, L_31, L_32, L_39, L_40, L_48, L_57, L_76, L_80, L_90, L_91, L_97, L_99, L_100, L_255, L_273, L_1000, L_2000, q_ld, q_ldL, q_sto, q_stoL, q_add, q_sub, q_mul, q_dec, q_rem, q_div, q_lt_t, q_lt_f, q_le_t, q_le_f, q_eq_t, q_eq_f, q_em, q_me, q_ml, q_lm, q_mle, q_lem, q_s1, q_s1o, q_s1k, q_s12, q_s2, q_s2o, q_s2k, q_s21, Nat.add_sub_cancel, q_or, q_and, q_shl, true_or, or_true, false_or, or_false, true_and, and_true, false_and, and_false, not_true_eq_false, not_false_eq_true, ne_eq, hy.p]
/-- an hour, and one that is not ahead of it -/
def spn (a b : Int32) : Prop := ∃ k e, k ≤ e ∧ e ≤ 99 ∧ a = nI k ∧ b = nI e
theorem C_isSpan_t {k e : Nat} (h1 : k ≤ e) (h2 : e ≤ 99) : fC_EachAddsALine_isSpan N (nI k) (nI e) s = some (nI 1, s) := by
  have eh := C_isHour_t (N := N) (s := s) (u := k) (by omega)
  simp (disch := omega) only [Option.bind_some, ↓reduceIte, ↓M_1, ↓M_2, L_0, L_1, L_2, L_3, L_4, L_5, L_6, L_7, L_8, L_9, L_10, L_11, L_12, L_13, L_20, L_24, L_26, L_30, L_31, L_32, L_39, L_40, L_48, L_57, L_76, L_80, L_90, L_91, L_97, L_99, L_100, L_255, L_273, L_1000, L_2000, q_ld, q_ldL, q_sto, q_stoL, q_add, q_sub, q_mul, q_dec, q_rem, q_div, q_lt_t, q_lt_f, q_le_t, q_le_f, q_eq_t, q_eq_f, q_em, q_me, q_ml, q_lm, q_mle, q_lem, q_s1, q_s1o, q_s1k, q_s12, q_s2, q_s2o, q_s2k, q_s21, Nat.add_sub_cancel, q_or, q_and, q_shl, true_or, or_true, false_or, or_false, true_and, and_true, false_and, and_false, not_true_eq_false, not_false_eq_true, ne_eq, fC_EachAddsALine_isSpan, gC_EachAddsALine_isSpan_0, eh]
theorem M_areHours_t {k e : Nat} (h1 : k ≤ e) (h2 : e ≤ 99) : fM_EachAddsALineModel_areHours N (nI k) (nI e) s = some (nI 1, s) := by
  have eh := M_isHour_t (N := N) (s := s) (u := k) (by omega)
  simp (disch := omega) only [Option.bind_some, ↓reduceIte, ↓M_1, ↓M_2, L_0, L_1, L_2, L_3, L_4, L_5, L_6, L_7, L_8, L_9, L_10, L_11, L_12, L_13, L_20, L_24, L_26, L_30, L_31, L_32, L_39, L_40, L_48, L_57, L_76, L_80, L_90, L_91, L_97, L_99, L_100, L_255, L_273, L_1000, L_2000, q_ld, q_ldL, q_sto, q_stoL, q_add, q_sub, q_mul, q_dec, q_rem, q_div, q_lt_t, q_lt_f, q_le_t, q_le_f, q_eq_t, q_eq_f, q_em, q_me, q_ml, q_lm, q_mle, q_lem, q_s1, q_s1o, q_s1k, q_s12, q_s2, q_s2o, q_s2k, q_s21, Nat.add_sub_cancel, q_or, q_and, q_shl, true_or, or_true, false_or, or_false, true_and, and_true, false_and, and_false, not_true_eq_false, not_false_eq_true, ne_eq, fM_EachAddsALineModel_areHours, gM_EachAddsALineModel_areHours_0, eh, M_in_any]
theorem C_isSpan_f {a b : Int32} (h : ¬ spn a b) : fC_EachAddsALine_isSpan N a b s = some (nI 0, s) := by
  by_cases c : isP 100 a
  · obtain ⟨k, hk, rfl⟩ := c
    have eh := C_isHour_t (N := N) (s := s) (u := k) (by omega)
    rcases pk_ix b (n := 100) (by omega) with hv | hv | ⟨j, hj, rfl⟩
    · simp (disch := omega) only [Option.bind_some, ↓reduceIte, ↓M_1, ↓M_2, L_0, L_1, L_2, L_3, L_4, L_5, L_6, L_7, L_8, L_9, L_10, L_11, L_12, L_13, L_20, L_24, L_26, L_30, L_31, L_32, L_39, L_40, L_48, L_57, L_76, L_80, L_90, L_91, L_97, L_99, L_100, L_255, L_273, L_1000, L_2000, q_ld, q_ldL, q_sto, q_stoL, q_add, q_sub, q_mul, q_dec, q_rem, q_div, q_lt_t, q_lt_f, q_le_t, q_le_f, q_eq_t, q_eq_f, q_em, q_me, q_ml, q_lm, q_mle, q_lem, q_s1, q_s1o, q_s1k, q_s12, q_s2, q_s2o, q_s2k, q_s21, Nat.add_sub_cancel, q_or, q_and, q_shl, true_or, or_true, false_or, or_false, true_and, and_true, false_and, and_false, not_true_eq_false, not_false_eq_true, ne_eq, fC_EachAddsALine_isSpan, gC_EachAddsALine_isSpan_0, gC_EachAddsALine_isSpan_22, eh, neg_lt hv, neg_nle hv, neg_ne hv, neg_le hv]
    · simp (disch := omega) only [Option.bind_some, ↓reduceIte, ↓M_1, ↓M_2, L_0, L_1, L_2, L_3, L_4, L_5, L_6, L_7, L_8, L_9, L_10, L_11, L_12, L_13, L_20, L_24, L_26, L_30, L_31, L_32, L_39, L_40, L_48, L_57, L_76, L_80, L_90, L_91, L_97, L_99, L_100, L_255, L_273, L_1000, L_2000, q_ld, q_ldL, q_sto, q_stoL, q_add, q_sub, q_mul, q_dec, q_rem, q_div, q_lt_t, q_lt_f, q_le_t, q_le_f, q_eq_t, q_eq_f, q_em, q_me, q_ml, q_lm, q_mle, q_lem, q_s1, q_s1o, q_s1k, q_s12, q_s2, q_s2o, q_s2k, q_s21, Nat.add_sub_cancel, q_or, q_and, q_shl, true_or, or_true, false_or, or_false, true_and, and_true, false_and, and_false, not_true_eq_false, not_false_eq_true, ne_eq, fC_EachAddsALine_isSpan, gC_EachAddsALine_isSpan_0, gC_EachAddsALine_isSpan_22, eh, big_nlt hv, big_lt hv, big_nle hv, big_ne hv, big_le hv, ite_self]
    · have hjk : j < k := Nat.lt_of_not_le (fun z => h ⟨k, j, z, by omega, rfl, rfl⟩)
      simp (disch := omega) only [Option.bind_some, ↓reduceIte, ↓M_1, ↓M_2, L_0, L_1, L_2, L_3, L_4, L_5, L_6, L_7, L_8, L_9, L_10, L_11, L_12, L_13, L_20, L_24, L_26, L_30, L_31, L_32, L_39, L_40, L_48, L_57, L_76, L_80, L_90, L_91, L_97, L_99, L_100, L_255, L_273, L_1000, L_2000, q_ld, q_ldL, q_sto, q_stoL, q_add, q_sub, q_mul, q_dec, q_rem, q_div, q_lt_t, q_lt_f, q_le_t, q_le_f, q_eq_t, q_eq_f, q_em, q_me, q_ml, q_lm, q_mle, q_lem, q_s1, q_s1o, q_s1k, q_s12, q_s2, q_s2o, q_s2k, q_s21, Nat.add_sub_cancel, q_or, q_and, q_shl, true_or, or_true, false_or, or_false, true_and, and_true, false_and, and_false, not_true_eq_false, not_false_eq_true, ne_eq, fC_EachAddsALine_isSpan, gC_EachAddsALine_isSpan_0, gC_EachAddsALine_isSpan_22, eh]
  · simp (disch := omega) only [Option.bind_some, ↓reduceIte, ↓M_1, ↓M_2, L_0, L_1, L_2, L_3, L_4, L_5, L_6, L_7, L_8, L_9, L_10, L_11, L_12, L_13, L_20, L_24, L_26, L_30, L_31, L_32, L_39, L_40, L_48, L_57, L_76, L_80, L_90, L_91, L_97, L_99, L_100, L_255, L_273, L_1000, L_2000, q_ld, q_ldL, q_sto, q_stoL, q_add, q_sub, q_mul, q_dec, q_rem, q_div, q_lt_t, q_lt_f, q_le_t, q_le_f, q_eq_t, q_eq_f, q_em, q_me, q_ml, q_lm, q_mle, q_lem, q_s1, q_s1o, q_s1k, q_s12, q_s2, q_s2o, q_s2k, q_s21, Nat.add_sub_cancel, q_or, q_and, q_shl, true_or, or_true, false_or, or_false, true_and, and_true, false_and, and_false, not_true_eq_false, not_false_eq_true, ne_eq, fC_EachAddsALine_isSpan, gC_EachAddsALine_isSpan_0, gC_EachAddsALine_isSpan_22, C_isHour_f c]
theorem M_areHours_f {a b : Int32} (h : ¬ spn a b) : fM_EachAddsALineModel_areHours N a b s = some (nI 0, s) := by
  by_cases c : isP 100 a
  · obtain ⟨k, hk, rfl⟩ := c
    have eh := M_isHour_t (N := N) (s := s) (u := k) (by omega)
    rcases pk_ix b (n := 100) (by omega) with hv | hv | ⟨j, hj, rfl⟩
    · simp (disch := omega) only [Option.bind_some, ↓reduceIte, ↓M_1, ↓M_2, L_0, L_1, L_2, L_3, L_4, L_5, L_6, L_7, L_8, L_9, L_10, L_11, L_12, L_13, L_20, L_24, L_26, L_30, L_31, L_32, L_39, L_40, L_48, L_57, L_76, L_80, L_90, L_91, L_97, L_99, L_100, L_255, L_273, L_1000, L_2000, q_ld, q_ldL, q_sto, q_stoL, q_add, q_sub, q_mul, q_dec, q_rem, q_div, q_lt_t, q_lt_f, q_le_t, q_le_f, q_eq_t, q_eq_f, q_em, q_me, q_ml, q_lm, q_mle, q_lem, q_s1, q_s1o, q_s1k, q_s12, q_s2, q_s2o, q_s2k, q_s21, Nat.add_sub_cancel, q_or, q_and, q_shl, true_or, or_true, false_or, or_false, true_and, and_true, false_and, and_false, not_true_eq_false, not_false_eq_true, ne_eq, fM_EachAddsALineModel_areHours, gM_EachAddsALineModel_areHours_0, gM_EachAddsALineModel_areHours_21, eh, M_in_any, neg_lt hv, neg_nle hv, neg_ne hv, neg_le hv]
    · simp (disch := omega) only [Option.bind_some, ↓reduceIte, ↓M_1, ↓M_2, L_0, L_1, L_2, L_3, L_4, L_5, L_6, L_7, L_8, L_9, L_10, L_11, L_12, L_13, L_20, L_24, L_26, L_30, L_31, L_32, L_39, L_40, L_48, L_57, L_76, L_80, L_90, L_91, L_97, L_99, L_100, L_255, L_273, L_1000, L_2000, q_ld, q_ldL, q_sto, q_stoL, q_add, q_sub, q_mul, q_dec, q_rem, q_div, q_lt_t, q_lt_f, q_le_t, q_le_f, q_eq_t, q_eq_f, q_em, q_me, q_ml, q_lm, q_mle, q_lem, q_s1, q_s1o, q_s1k, q_s12, q_s2, q_s2o, q_s2k, q_s21, Nat.add_sub_cancel, q_or, q_and, q_shl, true_or, or_true, false_or, or_false, true_and, and_true, false_and, and_false, not_true_eq_false, not_false_eq_true, ne_eq, fM_EachAddsALineModel_areHours, gM_EachAddsALineModel_areHours_0, gM_EachAddsALineModel_areHours_21, eh, M_in_any, big_nlt hv, big_lt hv, big_nle hv, big_ne hv, big_le hv]
    · have hjk : j < k := Nat.lt_of_not_le (fun z => h ⟨k, j, z, by omega, rfl, rfl⟩)
      simp (disch := omega) only [Option.bind_some, ↓reduceIte, ↓M_1, ↓M_2, L_0, L_1, L_2, L_3, L_4, L_5, L_6, L_7, L_8, L_9, L_10, L_11, L_12, L_13, L_20, L_24, L_26, L_30, L_31, L_32, L_39, L_40, L_48, L_57, L_76, L_80, L_90, L_91, L_97, L_99, L_100, L_255, L_273, L_1000, L_2000, q_ld, q_ldL, q_sto, q_stoL, q_add, q_sub, q_mul, q_dec, q_rem, q_div, q_lt_t, q_lt_f, q_le_t, q_le_f, q_eq_t, q_eq_f, q_em, q_me, q_ml, q_lm, q_mle, q_lem, q_s1, q_s1o, q_s1k, q_s12, q_s2, q_s2o, q_s2k, q_s21, Nat.add_sub_cancel, q_or, q_and, q_shl, true_or, or_true, false_or, or_false, true_and, and_true, false_and, and_false, not_true_eq_false, not_false_eq_true, ne_eq, fM_EachAddsALineModel_areHours, gM_EachAddsALineModel_areHours_0, gM_EachAddsALineModel_areHours_21, eh, M_in_any]
  · simp (disch := omega) only [Option.bind_some, ↓reduceIte, ↓M_1, ↓M_2, L_0, L_1, L_2, L_3, L_4, L_5, L_6, L_7, L_8, L_9, L_10, L_11, L_12, L_13, L_20, L_24, L_26, L_30, L_31, L_32, L_39, L_40, L_48, L_57, L_76, L_80, L_90, L_91, L_97, L_99, L_100, L_255, L_273, L_1000, L_2000, q_ld, q_ldL, q_sto, q_stoL, q_add, q_sub, q_mul, q_dec, q_rem, q_div, q_lt_t, q_lt_f, q_le_t, q_le_f, q_eq_t, q_eq_f, q_em, q_me, q_ml, q_lm, q_mle, q_lem, q_s1, q_s1o, q_s1k, q_s12, q_s2, q_s2o, q_s2k, q_s21, Nat.add_sub_cancel, q_or, q_and, q_shl, true_or, or_true, false_or, or_false, true_and, and_true, false_and, and_false, not_true_eq_false, not_false_eq_true, ne_eq, fM_EachAddsALineModel_areHours, gM_EachAddsALineModel_areHours_0, gM_EachAddsALineModel_areHours_21, M_isHour_f c]
theorem k_gossip (hU : okU U) (hN : 200 ≤ N) : keeps3 N (RR U) fC_EachAddsALine_gossip fM_EachAddsALineModel_gossip := fun s t hr a b c => by
  obtain ⟨w, h1, h2, _⟩ := id hr
  have h2' := M_rd0 h2 (nI 0)
  have hb := h1.bd
  by_cases q : isP (w 5 0) a
  · obtain ⟨u, hu, rfl⟩ := q
    by_cases q2 : spn b c
    · obtain ⟨k, e, hk, he, rfl, rfl⟩ := q2
      obtain ⟨z, x1, x2, x3⟩ := C_knowers (N := N) h1 (by omega) hu hk he
      obtain ⟨y, y1, y2, y3⟩ := M_knowing (N := N) h2' (arr_PI h1 hu (show k < 1000 by omega)) (by omega) hu hk he
      have fy : Fm [11, 20] [] [11, 30] t y := (Fm.w10 (by decide)).tr (y2.mono (by decide) (by decide) (by decide))
      have hy : MW w y := h2.fm fy (by decide) (by decide)
      have hko := knC_ok h1.ok hu hk he (Nat.le_refl (w 5 0))
      have hkl := kn_lt (u := u) (k := k) (bb := e) h1.ok
      obtain ⟨z0, v1, v2⟩ := C_clear_row (N := N) (q := fun _ => nI (knC w u k e (w 5 0)).2) (s := z)
      obtain ⟨z2, w1, w2⟩ := C_add_row (N := N) v2 (x := nI (knC w u k e (w 5 0)).2) rfl
      have hrl : ∀ n, fz (fun p x => if hd w u k e p ≤ e then max x (hd w u k e p) else x) 0 n ≤ 99 := fun n => fz_ind (f := fun p x => if hd w u k e p ≤ e then max x (hd w u k e p) else x) (z := 0) (n := n) (fun _ a => a ≤ 99) (by decide) (fun i a _ ha => by split <;> omega) n (Nat.le_refl _)
      have hfin : fz (fun p x => if hd w u k e p ≤ e then max x (hd w u k e p) else x) 0 (w 5 0) = (knC w u k e (w 5 0)).2 := by
        rw [hko.2.2.2]
        have hge : ∀ n, u < n → k ≤ fz (fun p x => if hd w u k e p ≤ e then max x (hd w u k e p) else x) 0 n := fun n => fz_ind (f := fun p x => if hd w u k e p ≤ e then max x (hd w u k e p) else x) (z := 0) (n := n) (fun i a => u < i → k ≤ a) (fun q => absurd q (Nat.not_lt_zero _)) (fun i a _ ha q => by
          by_cases d : i = u
          · rw [if_pos (by rw [show hd w u k e i = k from if_pos d]; exact hk), show hd w u k e i = k from if_pos d]
            omega
          · have := ha (by omega)
            split <;> omega) n (Nat.le_refl _)
        have := hge (w 5 0) hu
        omega
      have mg : gM_EachAddsALineModel_gossip_39 N N (nI (kn w u k e)) (nI 0) (nI 0) y = (fM_EachAddsALineModel_tell N (nI (knC w u k e (w 5 0)).2) (s1 y 0 10 (nI 0))).bind fun z2 => some (nI (kn w u k e), z2) := by
        refine loopS (fun f i (x : Nat) => gM_EachAddsALineModel_gossip_39 N f (nI (kn w u k e)) (nI x) (nI i) y) (fun i => fz (fun p x => if hd w u k e p ≤ e then max x (hd w u k e p) else x) 0 i) (w 5 0) _ (fun f i hi => ?_) (fun f => ?_) N (by omega)
        · have eh := M_has (N := N) (s := y) (b := kn w u k e) (k := i) (by omega) (by omega)
          have e1 := y3 i hi
          have hx := hrl i
          have hb2 := hd_bd (u := u) (bb := e) h1.ok (show k ≤ 99 by omega) i
          have etb : (kn w u k e).testBit i = decide (hd w u k e i ≤ e) := by
            unfold kn
            rw [bset_tb, decide_eq_true hi, Bool.true_and]
          rw [etb] at eh
          have es : fz (fun p x => if hd w u k e p ≤ e then max x (hd w u k e p) else x) 0 (i + 1) = if hd w u k e i ≤ e then max (fz (fun p x => if hd w u k e p ≤ e then max x (hd w u k e p) else x) 0 i) (hd w u k e i) else fz (fun p x => if hd w u k e p ≤ e then max x (hd w u k e p) else x) 0 i := rfl
          try simp only
          rw [es]
          generalize fz (fun p x => if hd w u k e p ≤ e then max x (hd w u k e p) else x) 0 i = x at hx
          by_cases c : hd w u k e i ≤ e
          · rw [decide_eq_true c, if_pos rfl] at eh
            rw [show (if hd w u k e i ≤ e then max x (hd w u k e i) else x) = max x (hd w u k e i) from if_pos c, gM_EachAddsALineModel_gossip_39]
            simp (disch := omega) only [Option.bind_some, ↓reduceIte, ↓M_1, ↓M_2, L_0, L_1, L_2, L_3, L_4, L_5, L_6, L_7, L_8, L_9, L_10, L_11, L_12, L_13, L_20, L_24, L_26, L_30, L_31, L_32, L_39, L_40, L_48, L_57, L_76, L_80, L_90, L_91, L_97, L_99, L_100, L_255, L_273, L_1000, L_2000, q_ld, q_ldL, q_sto, q_stoL, q_add, q_sub, q_mul, q_dec, q_rem, q_div, q_lt_t, q_lt_f, q_le_t, q_le_f, q_eq_t, q_eq_f, q_em, q_me, q_ml, q_lm, q_mle, q_lem, q_s1, q_s1o, q_s1k, q_s12, q_s2, q_s2o, q_s2k, q_s21, Nat.add_sub_cancel, q_or, q_and, q_shl, true_or, or_true, false_or, or_false, true_and, and_true, false_and, and_false, not_true_eq_false, not_false_eq_true, ne_eq, hy.p, eh, e1, q_max, gM_EachAddsALineModel_gossip_72]
          · rw [decide_eq_false c, if_neg (by decide)] at eh
            rw [show (if hd w u k e i ≤ e then max x (hd w u k e i) else x) = x from if_neg c, gM_EachAddsALineModel_gossip_39]
            simp (disch := omega) only [Option.bind_some, ↓reduceIte, ↓M_1, ↓M_2, L_0, L_1, L_2, L_3, L_4, L_5, L_6, L_7, L_8, L_9, L_10, L_11, L_12, L_13, L_20, L_24, L_26, L_30, L_31, L_32, L_39, L_40, L_48, L_57, L_76, L_80, L_90, L_91, L_97, L_99, L_100, L_255, L_273, L_1000, L_2000, q_ld, q_ldL, q_sto, q_stoL, q_add, q_sub, q_mul, q_dec, q_rem, q_div, q_lt_t, q_lt_f, q_le_t, q_le_f, q_eq_t, q_eq_f, q_em, q_me, q_ml, q_lm, q_mle, q_lem, q_s1, q_s1o, q_s1k, q_s12, q_s2, q_s2o, q_s2k, q_s21, Nat.add_sub_cancel, q_or, q_and, q_shl, true_or, or_true, false_or, or_false, true_and, and_true, false_and, and_false, not_true_eq_false, not_false_eq_true, ne_eq, hy.p, eh, gM_EachAddsALineModel_gossip_72]
        · try simp only
          rw [hfin, gM_EachAddsALineModel_gossip_39]
          simp (disch := omega) only [Option.bind_some, ↓reduceIte, ↓M_1, ↓M_2, L_0, L_1, L_2, L_3, L_4, L_5, L_6, L_7, L_8, L_9, L_10, L_11, L_12, L_13, L_20, L_24, L_26, L_30, L_31, L_32, L_39, L_40, L_48, L_57, L_76, L_80, L_90, L_91, L_97, L_99, L_100, L_255, L_273, L_1000, L_2000, q_ld, q_ldL, q_sto, q_stoL, q_add, q_sub, q_mul, q_dec, q_rem, q_div, q_lt_t, q_lt_f, q_le_t, q_le_f, q_eq_t, q_eq_f, q_em, q_me, q_ml, q_lm, q_mle, q_lem, q_s1, q_s1o, q_s1k, q_s12, q_s2, q_s2o, q_s2k, q_s21, Nat.add_sub_cancel, q_or, q_and, q_shl, true_or, or_true, false_or, or_false, true_and, and_true, false_and, and_false, not_true_eq_false, not_false_eq_true, ne_eq, hy.p]
      obtain ⟨y4, m1, m2⟩ := M_tell (N := N) (q := fun _ => nI (knC w u k e (w 5 0)).2) (Rm.nil (t := y)) (by decide) (x := nI (knC w u k e (w 5 0)).2) rfl
      have hro : RO z2 y4 := RO.of w2 m2
      have ez : z0.1 41 2 = nI (knC w u k e (w 5 0)).2 := by rw [v2.1.1 41 (by decide)]; exact x3
      refine ⟨nI (kn w u k e), z2, y4, ?_, ?_, hr.ro hU hro ((x2.mono (by decide) (by decide)).tr (w2.1.mono (by decide) (by decide)) : Fr [3, 4, 41, 42] [] s z2) ((fy.mono (by decide) (by decide) (by decide)).tr (m2.1.mono (by decide) (by decide) (by decide)) : Fm [7, 11, 20] [] [10, 11, 30] t y4) (by decide) (by decide) (by decide)⟩
      · simp (disch := omega) only [Option.bind_some, ↓reduceIte, ↓M_1, ↓M_2, L_0, L_1, L_2, L_3, L_4, L_5, L_6, L_7, L_8, L_9, L_10, L_11, L_12, L_13, L_20, L_24, L_26, L_30, L_31, L_32, L_39, L_40, L_48, L_57, L_76, L_80, L_90, L_91, L_97, L_99, L_100, L_255, L_273, L_1000, L_2000, q_ld, q_ldL, q_sto, q_stoL, q_add, q_sub, q_mul, q_dec, q_rem, q_div, q_lt_t, q_lt_f, q_le_t, q_le_f, q_eq_t, q_eq_f, q_em, q_me, q_ml, q_lm, q_mle, q_lem, q_s1, q_s1o, q_s1k, q_s12, q_s2, q_s2o, q_s2k, q_s21, Nat.add_sub_cancel, q_or, q_and, q_shl, true_or, or_true, false_or, or_false, true_and, and_true, false_and, and_false, not_true_eq_false, not_false_eq_true, ne_eq, fC_EachAddsALine_gossip, gC_EachAddsALine_gossip_0, C_hasPerson_t h1 hu, C_isSpan_t hk he, x1, v1, ez, w1]
      · simp (disch := omega) only [Option.bind_some, ↓reduceIte, ↓M_1, ↓M_2, L_0, L_1, L_2, L_3, L_4, L_5, L_6, L_7, L_8, L_9, L_10, L_11, L_12, L_13, L_20, L_24, L_26, L_30, L_31, L_32, L_39, L_40, L_48, L_57, L_76, L_80, L_90, L_91, L_97, L_99, L_100, L_255, L_273, L_1000, L_2000, q_ld, q_ldL, q_sto, q_stoL, q_add, q_sub, q_mul, q_dec, q_rem, q_div, q_lt_t, q_lt_f, q_le_t, q_le_f, q_eq_t, q_eq_f, q_em, q_me, q_ml, q_lm, q_mle, q_lem, q_s1, q_s1o, q_s1k, q_s12, q_s2, q_s2o, q_s2k, q_s21, Nat.add_sub_cancel, q_or, q_and, q_shl, true_or, or_true, false_or, or_false, true_and, and_true, false_and, and_false, not_true_eq_false, not_false_eq_true, ne_eq, fM_EachAddsALineModel_gossip, gM_EachAddsALineModel_gossip_0, M_isOne_t h2' hu, M_areHours_t hk he, y1, mg, m1]
    · exact ⟨mI 1, s, _, by simp (disch := omega) only [Option.bind_some, ↓reduceIte, ↓M_1, ↓M_2, L_0, L_1, L_2, L_3, L_4, L_5, L_6, L_7, L_8, L_9, L_10, L_11, L_12, L_13, L_20, L_24, L_26, L_30, L_31, L_32, L_39, L_40, L_48, L_57, L_76, L_80, L_90, L_91, L_97, L_99, L_100, L_255, L_273, L_1000, L_2000, q_ld, q_ldL, q_sto, q_stoL, q_add, q_sub, q_mul, q_dec, q_rem, q_div, q_lt_t, q_lt_f, q_le_t, q_le_f, q_eq_t, q_eq_f, q_em, q_me, q_ml, q_lm, q_mle, q_lem, q_s1, q_s1o, q_s1k, q_s12, q_s2, q_s2o, q_s2k, q_s21, Nat.add_sub_cancel, q_or, q_and, q_shl, true_or, or_true, false_or, or_false, true_and, and_true, false_and, and_false, not_true_eq_false, not_false_eq_true, ne_eq, fC_EachAddsALine_gossip, gC_EachAddsALine_gossip_0, C_hasPerson_t h1 hu, C_isSpan_f q2], by simp (disch := omega) only [Option.bind_some, ↓reduceIte, ↓M_1, ↓M_2, L_0, L_1, L_2, L_3, L_4, L_5, L_6, L_7, L_8, L_9, L_10, L_11, L_12, L_13, L_20, L_24, L_26, L_30, L_31, L_32, L_39, L_40, L_48, L_57, L_76, L_80, L_90, L_91, L_97, L_99, L_100, L_255, L_273, L_1000, L_2000, q_ld, q_ldL, q_sto, q_stoL, q_add, q_sub, q_mul, q_dec, q_rem, q_div, q_lt_t, q_lt_f, q_le_t, q_le_f, q_eq_t, q_eq_f, q_em, q_me, q_ml, q_lm, q_mle, q_lem, q_s1, q_s1o, q_s1k, q_s12, q_s2, q_s2o, q_s2k, q_s21, Nat.add_sub_cancel, q_or, q_and, q_shl, true_or, or_true, false_or, or_false, true_and, and_true, false_and, and_false, not_true_eq_false, not_false_eq_true, ne_eq, fM_EachAddsALineModel_gossip, gM_EachAddsALineModel_gossip_0, M_isOne_t h2' hu, M_areHours_f q2], hr.k0 hU⟩
  · exact ⟨mI 1, s, _, by simp (disch := omega) only [Option.bind_some, ↓reduceIte, ↓M_1, ↓M_2, L_0, L_1, L_2, L_3, L_4, L_5, L_6, L_7, L_8, L_9, L_10, L_11, L_12, L_13, L_20, L_24, L_26, L_30, L_31, L_32, L_39, L_40, L_48, L_57, L_76, L_80, L_90, L_91, L_97, L_99, L_100, L_255, L_273, L_1000, L_2000, q_ld, q_ldL, q_sto, q_stoL, q_add, q_sub, q_mul, q_dec, q_rem, q_div, q_lt_t, q_lt_f, q_le_t, q_le_f, q_eq_t, q_eq_f, q_em, q_me, q_ml, q_lm, q_mle, q_lem, q_s1, q_s1o, q_s1k, q_s12, q_s2, q_s2o, q_s2k, q_s21, Nat.add_sub_cancel, q_or, q_and, q_shl, true_or, or_true, false_or, or_false, true_and, and_true, false_and, and_false, not_true_eq_false, not_false_eq_true, ne_eq, fC_EachAddsALine_gossip, gC_EachAddsALine_gossip_0, C_hasPerson_f h1 q], by simp (disch := omega) only [Option.bind_some, ↓reduceIte, ↓M_1, ↓M_2, L_0, L_1, L_2, L_3, L_4, L_5, L_6, L_7, L_8, L_9, L_10, L_11, L_12, L_13, L_20, L_24, L_26, L_30, L_31, L_32, L_39, L_40, L_48, L_57, L_76, L_80, L_90, L_91, L_97, L_99, L_100, L_255, L_273, L_1000, L_2000, q_ld, q_ldL, q_sto, q_stoL, q_add, q_sub, q_mul, q_dec, q_rem, q_div, q_lt_t, q_lt_f, q_le_t, q_le_f, q_eq_t, q_eq_f, q_em, q_me, q_ml, q_lm, q_mle, q_lem, q_s1, q_s1o, q_s1k, q_s12, q_s2, q_s2o, q_s2k, q_s21, Nat.add_sub_cancel, q_or, q_and, q_shl, true_or, or_true, false_or, or_false, true_and, and_true, false_and, and_false, not_true_eq_false, not_false_eq_true, ne_eq, fM_EachAddsALineModel_gossip, gM_EachAddsALineModel_gossip_0, M_isOne_f h2' q], hr.k0 hU⟩
end GO
