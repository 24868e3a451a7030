/-! roads: all lines; the call -/
def GV (P M : Nat) (s t : vSt) : Prop := (∀ j, j < P → ∃ v, 1 ≤ v ∧ v ≤ 9 ∧ s.1 10 j = nI v ∧ t.1 1 j = nI v) ∧ ∀ m, m < M → ∃ a b h c, a < P ∧ b < P ∧ a ≠ b ∧ h ≤ 99 ∧ c ≤ 9 ∧ s.1 11 m = nI a ∧ s.1 12 m = nI b ∧ s.1 13 m = nI h ∧ s.1 14 m = nI c ∧ t.1 2 m = nI a ∧ t.1 3 m = nI b ∧ t.1 4 m = nI h ∧ t.1 5 m = nI c
section LS
variable {N : Nat} {s t : vSt} {n p P M k : Nat} {x : Nat → Nat}
theorem GV.kp {P' M' : Nat} {s' t' : vSt} (h : GV P M s t) (hP : P ≤ P') (k1 : Kp [10] P s s') (k2 : Kp [11, 12, 13, 14] M s s') (k3 : Kp [1] P t t') (k4 : Kp [2, 3, 4, 5] M t t') (n1 : ∀ j, P ≤ j → j < P' → ∃ v, 1 ≤ v ∧ v ≤ 9 ∧ s'.1 10 j = nI v ∧ t'.1 1 j = nI v)
    (n2 : ∀ m, M ≤ m → m < M' → ∃ a b h c, a < P' ∧ b < P' ∧ a ≠ b ∧ h ≤ 99 ∧ c ≤ 9 ∧ s'.1 11 m = nI a ∧ s'.1 12 m = nI b ∧ s'.1 13 m = nI h ∧ s'.1 14 m = nI c ∧ t'.1 2 m = nI a ∧ t'.1 3 m = nI b ∧ t'.1 4 m = nI h ∧ t'.1 5 m = nI c) : GV P' M' s' t' := by
  refine ⟨fun j hj => ?_, fun m hm => ?_⟩
  · by_cases c : j < P
    · obtain ⟨v, a1, a2, a3, a4⟩ := h.1 j c
      exact ⟨v, a1, a2, by rw [k1 10 (by decide) j c]; exact a3, by rw [k3 1 (by decide) j c]; exact a4⟩
    · exact n1 j (by omega) hj
  · by_cases c : m < M
    · obtain ⟨a, b, e, f, a1, a2, a3, a4, a5, b1, b2, b3, b4, b5, b6, b7, b8⟩ := h.2 m c
      refine ⟨a, b, e, f, by omega, by omega, a3, a4, a5, ?_, ?_, ?_, ?_, ?_, ?_, ?_, ?_⟩
      · rw [k2 11 (by decide) m c]; exact b1
      · rw [k2 12 (by decide) m c]; exact b2
      · rw [k2 13 (by decide) m c]; exact b3
      · rw [k2 14 (by decide) m c]; exact b4
      · rw [k4 2 (by decide) m c]; exact b5
      · rw [k4 3 (by decide) m c]; exact b6
      · rw [k4 4 (by decide) m c]; exact b7
      · rw [k4 5 (by decide) m c]; exact b8
    · exact n2 m (by omega) hm
theorem C_nextX (h : CSt n x s) (h1 : s.1 16 2 = nI p) (hp : p ≤ 76) : fC_RoadReader_next N s = some (if p < n ∧ p < 76 then nI (x p) else mI 1, s) := by
  have hn := h.1
  by_cases c : p < n ∧ p < 76
  · have e := C_signAt (N := N) h.2.1 h.1 c.1
    rw [(h.2.2 p c.1).2] at e
    rw [if_pos c]
    have := c.2
    simp (disch := omega) only [Option.bind_some, ↓reduceIte, ↓M_1, ↓M_2, L_0, L_1, L_2, L_3, L_4, L_5, L_6, L_7, L_8, L_9, L_10, L_11, L_12, L_13, L_20, L_24, L_26, L_30, L_31, L_32, L_39, L_40, L_48, L_57, L_76, L_80, L_90, L_91, L_97, L_99, L_100, L_255, L_273, L_1000, L_2000, q_ld, q_ldL, q_sto, q_stoL, q_add, q_sub, q_mul, q_dec, q_rem, q_div, q_lt_t, q_lt_f, q_le_t, q_le_f, q_eq_t, q_eq_f, q_em, q_me, q_ml, q_lm, q_mle, q_lem, q_s1, q_s1o, q_s1k, q_s12, q_s2, q_s2o, q_s2k, q_s21, Nat.add_sub_cancel, q_or, q_and, q_shl, true_or, or_true, false_or, or_false, true_and, and_true, false_and, and_false, not_true_eq_false, not_false_eq_true, ne_eq, fC_RoadReader_next, gC_RoadReader_next_0, h1, e]
  · rw [if_neg c]
    by_cases d : p < 76
    · have e := C_signAt_no (N := N) h.2.1 h.1 (p := p) (by omega) (by omega)
      simp (disch := omega) only [Option.bind_some, ↓reduceIte, ↓M_1, ↓M_2, L_0, L_1, L_2, L_3, L_4, L_5, L_6, L_7, L_8, L_9, L_10, L_11, L_12, L_13, L_20, L_24, L_26, L_30, L_31, L_32, L_39, L_40, L_48, L_57, L_76, L_80, L_90, L_91, L_97, L_99, L_100, L_255, L_273, L_1000, L_2000, q_ld, q_ldL, q_sto, q_stoL, q_add, q_sub, q_mul, q_dec, q_rem, q_div, q_lt_t, q_lt_f, q_le_t, q_le_f, q_eq_t, q_eq_f, q_em, q_me, q_ml, q_lm, q_mle, q_lem, q_s1, q_s1o, q_s1k, q_s12, q_s2, q_s2o, q_s2k, q_s21, Nat.add_sub_cancel, q_or, q_and, q_shl, true_or, or_true, false_or, or_false, true_and, and_true, false_and, and_false, not_true_eq_false, not_false_eq_true, ne_eq, fC_RoadReader_next, gC_RoadReader_next_0, h1, e]
    · simp (disch := omega) only [Option.bind_some, ↓reduceIte, ↓M_1, ↓M_2, L_0, L_1, L_2, L_3, L_4, L_5, L_6, L_7, L_8, L_9, L_10, L_11, L_12, L_13, L_20, L_24, L_26, L_30, L_31, L_32, L_39, L_40, L_48, L_57, L_76, L_80, L_90, L_91, L_97, L_99, L_100, L_255, L_273, L_1000, L_2000, q_ld, q_ldL, q_sto, q_stoL, q_add, q_sub, q_mul, q_dec, q_rem, q_div, q_lt_t, q_lt_f, q_le_t, q_le_f, q_eq_t, q_eq_f, q_em, q_me, q_ml, q_lm, q_mle, q_lem, q_s1, q_s1o, q_s1k, q_s12, q_s2, q_s2o, q_s2k, q_s21, Nat.add_sub_cancel, q_or, q_and, q_shl, true_or, or_true, false_or, or_false, true_and, and_true, false_and, and_false, not_true_eq_false, not_false_eq_true, ne_eq, fC_RoadReader_next, gC_RoadReader_next_0, h1]
theorem M_249_t {R : Int32 → Int32 → Int32 → Int32 → vSt → Option (Int32 × vSt)} (h : MSq n x t) (h1 : t.1 0 15 = nI p) (h2 : t.1 0 16 = mI 1) (hp : p ≤ 76) (hc : chq n x p = 59) : gM_EachAddsALineModel_roads_249 N R (nI P) (nI M) (nI k) t = R (nI P) (nI M) (nI (k + 1)) (nI 1) (s1 t 0 15 (nI (p + 1))) := by
  have e := M_passQ_t (N := N) h h1 h2 hp (a := 59) (by omega) hc
  simp (disch := omega) only [Option.bind_some, ↓reduceIte, ↓M_1, ↓M_2, L_0, L_1, L_2, L_3, L_4, L_5, L_6, L_7, L_8, L_9, L_10, L_11, L_12, L_13, L_20, L_24, L_26, L_30, L_31, L_32, L_39, L_40, L_48, L_57, L_76, L_80, L_90, L_91, L_97, L_99, L_100, L_255, L_273, L_1000, L_2000, q_ld, q_ldL, q_sto, q_stoL, q_add, q_sub, q_mul, q_dec, q_rem, q_div, q_lt_t, q_lt_f, q_le_t, q_le_f, q_eq_t, q_eq_f, q_em, q_me, q_ml, q_lm, q_mle, q_lem, q_s1, q_s1o, q_s1k, q_s12, q_s2, q_s2o, q_s2k, q_s21, Nat.add_sub_cancel, q_or, q_and, q_shl, true_or, or_true, false_or, or_false, true_and, and_true, false_and, and_false, not_true_eq_false, not_false_eq_true, ne_eq, gM_EachAddsALineModel_roads_249, L_59, e]
theorem M_249_f {R : Int32 → Int32 → Int32 → Int32 → vSt → Option (Int32 × vSt)} (h : MSq n x t) (h1 : t.1 0 15 = nI p) (h2 : t.1 0 16 = mI 1) (hp : p ≤ 76) (hc : chq n x p ≠ 59) : gM_EachAddsALineModel_roads_249 N R (nI P) (nI M) (nI k) t = R (nI P) (nI M) (nI (k + 1)) (nI 0) t := by
  have e := M_passQ_f (N := N) h h1 h2 hp (a := 59) (by omega) hc
  simp (disch := omega) only [Option.bind_some, ↓reduceIte, ↓M_1, ↓M_2, L_0, L_1, L_2, L_3, L_4, L_5, L_6, L_7, L_8, L_9, L_10, L_11, L_12, L_13, L_20, L_24, L_26, L_30, L_31, L_32, L_39, L_40, L_48, L_57, L_76, L_80, L_90, L_91, L_97, L_99, L_100, L_255, L_273, L_1000, L_2000, q_ld, q_ldL, q_sto, q_stoL, q_add, q_sub, q_mul, q_dec, q_rem, q_div, q_lt_t, q_lt_f, q_le_t, q_le_f, q_eq_t, q_eq_f, q_em, q_me, q_ml, q_lm, q_mle, q_lem, q_s1, q_s1o, q_s1k, q_s12, q_s2, q_s2o, q_s2k, q_s21, Nat.add_sub_cancel, q_or, q_and, q_shl, true_or, or_true, false_or, or_false, true_and, and_true, false_and, and_false, not_true_eq_false, not_false_eq_true, ne_eq, gM_EachAddsALineModel_roads_249, L_59, e]
theorem M_48_0 {g : Nat} : gM_EachAddsALineModel_roads_48 N (g + 1) (nI P) (nI M) (nI k) (nI 0) t = gM_EachAddsALineModel_roads_263 N (nI P) (nI M) (nI k) t := by
  rw [gM_EachAddsALineModel_roads_48, if_pos (show nI 0 = 0 from rfl)]
theorem lines_J (hN : 100 ≤ N) : ∀ d p P M k i s t f g, 76 < p + d → d + 2 < f → d + 2 < g → i ≤ p → CSt n x s → s.1 16 2 = nI p → s.1 16 3 = nI P → P ≤ 9 → s.1 16 4 = nI M → M ≤ 20 → p ≤ 76 → MSq n x t → t.1 0 15 = nI p → t.1 0 16 = mI 1 → GV P M s t →
    ∃ r s' P' M' k' t', gC_RoadReader_readLines_2 N f (nI i) s = some (r, s') ∧ gM_EachAddsALineModel_roads_48 N g (nI P) (nI M) (nI k) (nI 1) t = gM_EachAddsALineModel_roads_263 N (nI P') (nI M') (nI k') t' ∧ Fr [10, 11, 12, 13, 14, 16] [] s s' ∧ Fm [1, 2, 3, 4, 5] [] [15, 16] t t' ∧ Kp [10] P s s' ∧ Kp [11, 12, 13, 14] M s s' ∧ Kp [1] P t t' ∧ Kp [2, 3, 4, 5] M t t' ∧
      ((r = nI 0 ∧ ∃ q, q ≤ 76 ∧ s'.1 16 2 = nI q ∧ t'.1 0 16 = nI q) ∨ ∃ q, q ≤ 76 ∧ q ≤ n ∧ s'.1 16 2 = nI q ∧ t'.1 0 15 = nI q ∧ t'.1 0 16 = mI 1 ∧ ((r = nI 0 ∧ q < n) ∨ (r = nI 1 ∧ P ≤ P' ∧ P' ≤ 9 ∧ M ≤ M' ∧ M' ≤ 20 ∧ P' + M' + k = P + M + k' ∧ s'.1 16 3 = nI P' ∧ s'.1 16 4 = nI M' ∧ GV P' M' s' t'))) := by
  intro d
  induction d with
  | zero => intro p P M k i s t f g h; intros; omega
  | succ d ih =>
    intro p P M k i s t f g hpd hf hg hi h h1 h3 hP h4 hM hp g0 g1 g2 gv
    obtain ⟨f, rfl⟩ : ∃ z, f = z + 1 := ⟨f - 1, by omega⟩
    obtain ⟨g, rfl⟩ : ∃ z, g = z + 1 + 1 := ⟨g - 2, by omega⟩
    obtain ⟨r, s', P', M', t', a1, a2, f1, f2, k1, k2, k3, k4, o⟩ := line_J (N := N) (by omega) h h1 h3 hP h4 hM hp g0 g1 g2
    rw [a2 (g + 1) k]
    rcases o with ⟨rfl, q, b1, b2, b3⟩ | ⟨rfl, q, b0, b1, bn, b2, c3, c4, b3, b4, o⟩
    · refine ⟨nI 0, s', P', M', k + 1, t', ?_, M_249_d b3 (by omega), f1, f2, k1, k2, k3, k4, Or.inl ⟨rfl, q, b1, b2, b3⟩⟩
      rw [gC_RoadReader_readLines_2]
      simp (disch := omega) only [Option.bind_some, ↓reduceIte, ↓M_1, ↓M_2, L_0, L_1, L_2, L_3, L_4, L_5, L_6, L_7, L_8, L_9, L_10, L_11, L_12, L_13, L_20, L_24, L_26, L_30, L_31, L_32, L_39, L_40, L_48, L_57, L_76, L_80, L_90, L_91, L_97, L_99, L_100, L_255, L_273, L_1000, L_2000, q_ld, q_ldL, q_sto, q_stoL, q_add, q_sub, q_mul, q_dec, q_rem, q_div, q_lt_t, q_lt_f, q_le_t, q_le_f, q_eq_t, q_eq_f, q_em, q_me, q_ml, q_lm, q_mle, q_lem, q_s1, q_s1o, q_s1k, q_s12, q_s2, q_s2o, q_s2k, q_s21, Nat.add_sub_cancel, q_or, q_and, q_shl, true_or, or_true, false_or, or_false, true_and, and_true, false_and, and_false, not_true_eq_false, not_false_eq_true, ne_eq, a1]
    · have hS := h.fr f1 (by decide) (by decide)
      have gS := g0.fm f2 (by decide) (by decide)
      have en := C_nextX (N := N) hS b2 b1
      have hPM : P' ≤ 9 ∧ M' ≤ 20 ∧ P' + M' = P + M + 1 ∧ P ≤ P' ∧ M ≤ M' := by
        rcases o with ⟨z1, z2, z3, _⟩ | ⟨z1, z2, z3, _⟩ <;> omega
      obtain ⟨hP', hM', hs, hPP, hMM⟩ := hPM
      have gv' : GV P' M' s' t' := by
        refine gv.kp hPP k1 k2 k3 k4 (fun j j1 j2 => ?_) (fun m m1 m2 => ?_)
        · rcases o with ⟨z1, rfl, rfl, v, e1, e2, e3, e4⟩ | ⟨z1, rfl, rfl, _⟩
          · rw [show j = P by omega]; exact ⟨v, e1, e2, e3, e4⟩
          · omega
        · rcases o with ⟨z1, rfl, rfl, _⟩ | ⟨z1, rfl, rfl, e⟩
          · omega
          · rw [show m = M by omega]; exact e
      by_cases c : q < n ∧ q < 76
      · rw [if_pos c] at en
        have hxq := (h.2.2 q c.1).1
        have hcq : chq n x q = x q := by unfold chq; exact if_pos c
        by_cases c59 : x q = 59
        · rw [M_249_t gS b3 b4 b1 (hcq.trans c59)]
          rw [c59] at en
          have fs : Fr [16] [] s' (s1 s' 16 2 (nI (q + 1))) := Fr.s1 (by decide)
          have ft : Fm [] [] [15] t' (s1 t' 0 15 (nI (q + 1))) := Fm.w10 (by decide)
          obtain ⟨r, s2, P2, M2, k2', t2, e1, e2, e3, e4, e5, e6, e7, e8, e9⟩ := ih (q + 1) P' M' (k + 1) (i + 1) (s1 s' 16 2 (nI (q + 1))) (s1 t' 0 15 (nI (q + 1))) f (g + 1) (by omega) (by omega) (by omega) (by omega) (hS.fr fs (by decide) (by decide)) (q_s1 _ _ _ _) (by rw [q_s1k (by decide)]; exact c3) hP' (by rw [q_s1k (by decide)]; exact c4) hM' (by omega) (gS.fm ft (by decide) (by decide)) (q_s1 _ _ _ _) (by rw [q_s1k (by decide)]; exact b4)
            (gv'.kp (Nat.le_refl _) (Kp.so (by decide)) (Kp.so (by decide)) (Kp.so (by decide)) (Kp.so (by decide)) (fun j j1 j2 => by omega) (fun j j1 j2 => by omega))
          refine ⟨r, s2, P2, M2, k2', t2, ?_, e2, f1.tr ((fs.mono (by decide) (by decide)).tr e3), f2.tr ((ft.mono (by decide) (by decide) (by decide)).tr e4), k1.tr ((Kp.so (by decide)).tr (e5.mono hPP)), k2.tr ((Kp.so (by decide)).tr (e6.mono hMM)), k3.tr ((Kp.so (by decide)).tr (e7.mono hPP)), k4.tr ((Kp.so (by decide)).tr (e8.mono hMM)), ?_⟩
          · rw [gC_RoadReader_readLines_2]
            simp (disch := omega) only [Option.bind_some, ↓reduceIte, ↓M_1, ↓M_2, L_0, L_1, L_2, L_3, L_4, L_5, L_6, L_7, L_8, L_9, L_10, L_11, L_12, L_13, L_20, L_24, L_26, L_30, L_31, L_32, L_39, L_40, L_48, L_57, L_76, L_80, L_90, L_91, L_97, L_99, L_100, L_255, L_273, L_1000, L_2000, q_ld, q_ldL, q_sto, q_stoL, q_add, q_sub, q_mul, q_dec, q_rem, q_div, q_lt_t, q_lt_f, q_le_t, q_le_f, q_eq_t, q_eq_f, q_em, q_me, q_ml, q_lm, q_mle, q_lem, q_s1, q_s1o, q_s1k, q_s12, q_s2, q_s2o, q_s2k, q_s21, Nat.add_sub_cancel, q_or, q_and, q_shl, true_or, or_true, false_or, or_false, true_and, and_true, false_and, and_false, not_true_eq_false, not_false_eq_true, ne_eq, a1, en, L_59, b2, e1]
          · rcases e9 with e9 | ⟨q2, y1, y2, y3, y4, y5, y6⟩
            · exact Or.inl e9
            · refine Or.inr ⟨q2, y1, y2, y3, y4, y5, y6.imp id (fun y => ⟨y.1, by omega, y.2.2.1, by omega, y.2.2.2.2.1, by omega, y.2.2.2.2.2.2⟩)⟩
        · rw [M_249_f gS b3 b4 b1 (fun z => c59 (hcq.symm.trans z)), M_48_0]
          refine ⟨nI 0, s', P', M', k + 1, t', ?_, rfl, f1, f2, k1, k2, k3, k4, Or.inr ⟨q, b1, bn, b2, b3, b4, Or.inl ⟨rfl, c.1⟩⟩⟩
          rw [gC_RoadReader_readLines_2]
          simp (disch := omega) only [Option.bind_some, ↓reduceIte, ↓M_1, ↓M_2, L_0, L_1, L_2, L_3, L_4, L_5, L_6, L_7, L_8, L_9, L_10, L_11, L_12, L_13, L_20, L_24, L_26, L_30, L_31, L_32, L_39, L_40, L_48, L_57, L_76, L_80, L_90, L_91, L_97, L_99, L_100, L_255, L_273, L_1000, L_2000, q_ld, q_ldL, q_sto, q_stoL, q_add, q_sub, q_mul, q_dec, q_rem, q_div, q_lt_t, q_lt_f, q_le_t, q_le_f, q_eq_t, q_eq_f, q_em, q_me, q_ml, q_lm, q_mle, q_lem, q_s1, q_s1o, q_s1k, q_s12, q_s2, q_s2o, q_s2k, q_s21, Nat.add_sub_cancel, q_or, q_and, q_shl, true_or, or_true, false_or, or_false, true_and, and_true, false_and, and_false, not_true_eq_false, not_false_eq_true, ne_eq, a1, en, L_59]
      · rw [if_neg c] at en
        have hcq : chq n x q = 255 := by unfold chq; exact if_neg c
        rw [M_249_f gS b3 b4 b1 (by omega), M_48_0]
        refine ⟨nI 1, s', P', M', k + 1, t', ?_, rfl, f1, f2, k1, k2, k3, k4, Or.inr ⟨q, b1, bn, b2, b3, b4, Or.inr ⟨rfl, hPP, hP', hMM, hM', by omega, c3, c4, gv'⟩⟩⟩
        rw [gC_RoadReader_readLines_2]
        simp (disch := omega) only [Option.bind_some, ↓reduceIte, ↓M_1, ↓M_2, L_0, L_1, L_2, L_3, L_4, L_5, L_6, L_7, L_8, L_9, L_10, L_11, L_12, L_13, L_20, L_24, L_26, L_30, L_31, L_32, L_39, L_40, L_48, L_57, L_76, L_80, L_90, L_91, L_97, L_99, L_100, L_255, L_273, L_1000, L_2000, q_ld, q_ldL, q_sto, q_stoL, q_add, q_sub, q_mul, q_dec, q_rem, q_div, q_lt_t, q_lt_f, q_le_t, q_le_f, q_eq_t, q_eq_f, q_em, q_me, q_ml, q_lm, q_mle, q_lem, q_s1, q_s1o, q_s1k, q_s12, q_s2, q_s2o, q_s2k, q_s21, Nat.add_sub_cancel, q_or, q_and, q_shl, true_or, or_true, false_or, or_false, true_and, and_true, false_and, and_false, not_true_eq_false, not_false_eq_true, ne_eq, a1, en]
theorem Fr_both {L K : List Nat} {s s' : vSt} {o k : Nat} {x : Int32} (f : Fr L K s s') (h : o ∉ L) : Fr L K (s1 s o k x) (s1 s' o k x) := ⟨fun o' ho => by
  by_cases c : o' = o
  · subst c
    rw [s1_1, s1_1, if_pos rfl, if_pos rfl, f.1 _ h]
  · rw [s1_ne c, s1_ne c, f.1 _ ho], fun o' ho => f.2 o' ho⟩
theorem wn {v : Int32} {a : Nat} (e : v = nI a) (ha : a < 2 ^ 31) : v.toInt.toNat = a := by rw [e, nI_toInt ha]; rfl
theorem k_roads {U : vSt → vSt → Prop} (hU : okU U) (hN : 100 ≤ N) : keeps0 N (RR U) fC_EachAddsALine_roads fM_EachAddsALineModel_roads := fun s t h => by
  obtain ⟨_, _, _, hX, _⟩ := id h
  obtain ⟨n, x, hn, d1, d2, d3⟩ := hX.d
  obtain ⟨t0, ht0⟩ : ∃ t0, t0 = s1 (s1 (s1 (s1 (s1 (s1 (s1 t 0 11 (nI 0)) 0 12 (nI 6)) 0 13 (nI n)) 0 14 (nI 76)) 0 15 (nI 0)) 0 16 (mI 1)) 0 8 (nI 0) := ⟨_, rfl⟩
  have g0 : Fm [] [] [8, 11, 12, 13, 14, 15, 16] t t0 := by
    rw [ht0]
    exact (Fm.w10 (by decide)).tr ((Fm.w10 (by decide)).tr ((Fm.w10 (by decide)).tr ((Fm.w10 (by decide)).tr ((Fm.w10 (by decide)).tr ((Fm.w10 (by decide)).tr (Fm.w10 (by decide)))))))
  have t15 : t0.1 0 15 = nI 0 := by rw [ht0]; simp (disch := omega) only [Option.bind_some, ↓reduceIte, ↓M_1, ↓M_2, L_0, L_1, L_2, L_3, L_4, L_5, L_6, L_7, L_8, L_9, L_10, L_11, L_12, L_13, L_20, L_24, L_26, L_30, L_31, L_32, L_39, L_40, L_48, L_57, L_76, L_80, L_90, L_91, L_97, L_99, L_100, L_255, L_273, L_1000, L_2000, q_ld, q_ldL, q_sto, q_stoL, q_add, q_sub, q_mul, q_dec, q_rem, q_div, q_lt_t, q_lt_f, q_le_t, q_le_f, q_eq_t, q_eq_f, q_em, q_me, q_ml, q_lm, q_mle, q_lem, q_s1, q_s1o, q_s1k, q_s12, q_s2, q_s2o, q_s2k, q_s21, Nat.add_sub_cancel, q_or, q_and, q_shl, true_or, or_true, false_or, or_false, true_and, and_true, false_and, and_false, not_true_eq_false, not_false_eq_true, ne_eq]
  have t16 : t0.1 0 16 = mI 1 := by rw [ht0]; simp (disch := omega) only [Option.bind_some, ↓reduceIte, ↓M_1, ↓M_2, L_0, L_1, L_2, L_3, L_4, L_5, L_6, L_7, L_8, L_9, L_10, L_11, L_12, L_13, L_20, L_24, L_26, L_30, L_31, L_32, L_39, L_40, L_48, L_57, L_76, L_80, L_90, L_91, L_97, L_99, L_100, L_255, L_273, L_1000, L_2000, q_ld, q_ldL, q_sto, q_stoL, q_add, q_sub, q_mul, q_dec, q_rem, q_div, q_lt_t, q_lt_f, q_le_t, q_le_f, q_eq_t, q_eq_f, q_em, q_me, q_ml, q_lm, q_mle, q_lem, q_s1, q_s1o, q_s1k, q_s12, q_s2, q_s2o, q_s2k, q_s21, Nat.add_sub_cancel, q_or, q_and, q_shl, true_or, or_true, false_or, or_false, true_and, and_true, false_and, and_false, not_true_eq_false, not_false_eq_true, ne_eq]
  have t8 : t0.1 0 8 = nI 0 := by rw [ht0]; simp (disch := omega) only [Option.bind_some, ↓reduceIte, ↓M_1, ↓M_2, L_0, L_1, L_2, L_3, L_4, L_5, L_6, L_7, L_8, L_9, L_10, L_11, L_12, L_13, L_20, L_24, L_26, L_30, L_31, L_32, L_39, L_40, L_48, L_57, L_76, L_80, L_90, L_91, L_97, L_99, L_100, L_255, L_273, L_1000, L_2000, q_ld, q_ldL, q_sto, q_stoL, q_add, q_sub, q_mul, q_dec, q_rem, q_div, q_lt_t, q_lt_f, q_le_t, q_le_f, q_eq_t, q_eq_f, q_em, q_me, q_ml, q_lm, q_mle, q_lem, q_s1, q_s1o, q_s1k, q_s12, q_s2, q_s2o, q_s2k, q_s21, Nat.add_sub_cancel, q_or, q_and, q_shl, true_or, or_true, false_or, or_false, true_and, and_true, false_and, and_false, not_true_eq_false, not_false_eq_true, ne_eq]
  have hMS : MSq n x t0 := ⟨hn, by rw [ht0]; simp (disch := omega) only [Option.bind_some, ↓reduceIte, ↓M_1, ↓M_2, L_0, L_1, L_2, L_3, L_4, L_5, L_6, L_7, L_8, L_9, L_10, L_11, L_12, L_13, L_20, L_24, L_26, L_30, L_31, L_32, L_39, L_40, L_48, L_57, L_76, L_80, L_90, L_91, L_97, L_99, L_100, L_255, L_273, L_1000, L_2000, q_ld, q_ldL, q_sto, q_stoL, q_add, q_sub, q_mul, q_dec, q_rem, q_div, q_lt_t, q_lt_f, q_le_t, q_le_f, q_eq_t, q_eq_f, q_em, q_me, q_ml, q_lm, q_mle, q_lem, q_s1, q_s1o, q_s1k, q_s12, q_s2, q_s2o, q_s2k, q_s21, Nat.add_sub_cancel, q_or, q_and, q_shl, true_or, or_true, false_or, or_false, true_and, and_true, false_and, and_false, not_true_eq_false, not_false_eq_true, ne_eq], by rw [ht0]; simp (disch := omega) only [Option.bind_some, ↓reduceIte, ↓M_1, ↓M_2, L_0, L_1, L_2, L_3, L_4, L_5, L_6, L_7, L_8, L_9, L_10, L_11, L_12, L_13, L_20, L_24, L_26, L_30, L_31, L_32, L_39, L_40, L_48, L_57, L_76, L_80, L_90, L_91, L_97, L_99, L_100, L_255, L_273, L_1000, L_2000, q_ld, q_ldL, q_sto, q_stoL, q_add, q_sub, q_mul, q_dec, q_rem, q_div, q_lt_t, q_lt_f, q_le_t, q_le_f, q_eq_t, q_eq_f, q_em, q_me, q_ml, q_lm, q_mle, q_lem, q_s1, q_s1o, q_s1k, q_s12, q_s2, q_s2o, q_s2k, q_s21, Nat.add_sub_cancel, q_or, q_and, q_shl, true_or, or_true, false_or, or_false, true_and, and_true, false_and, and_false, not_true_eq_false, not_false_eq_true, ne_eq], by rw [ht0]; simp (disch := omega) only [Option.bind_some, ↓reduceIte, ↓M_1, ↓M_2, L_0, L_1, L_2, L_3, L_4, L_5, L_6, L_7, L_8, L_9, L_10, L_11, L_12, L_13, L_20, L_24, L_26, L_30, L_31, L_32, L_39, L_40, L_48, L_57, L_76, L_80, L_90, L_91, L_97, L_99, L_100, L_255, L_273, L_1000, L_2000, q_ld, q_ldL, q_sto, q_stoL, q_add, q_sub, q_mul, q_dec, q_rem, q_div, q_lt_t, q_lt_f, q_le_t, q_le_f, q_eq_t, q_eq_f, q_em, q_me, q_ml, q_lm, q_mle, q_lem, q_s1, q_s1o, q_s1k, q_s12, q_s2, q_s2o, q_s2k, q_s21, Nat.add_sub_cancel, q_or, q_and, q_shl, true_or, or_true, false_or, or_false, true_and, and_true, false_and, and_false, not_true_eq_false, not_false_eq_true, ne_eq], fun k hk => ⟨(d3 k hk).1, by rw [g0.1 6 (by decide) (by decide)]; exact (d3 k hk).2.2⟩⟩
  have fc : Fr [1] [] s (s1 s 1 1 (nI 0)) := Fr.s1 (by decide)
  have hR : RR U (s1 s 1 1 (nI 0)) t0 := h.tx hU ⟨0, by omega, q_s1 _ _ _ _, t8, fun k hk => by omega⟩ fc g0 (by decide) (by decide) (by decide)
  by_cases c0 : n = 0
  · subst c0
    refine ⟨nI 0, s1 s 1 1 (nI 0), t0, ?_, ?_, hR⟩
    · simp (disch := omega) only [Option.bind_some, ↓reduceIte, ↓M_1, ↓M_2, L_0, L_1, L_2, L_3, L_4, L_5, L_6, L_7, L_8, L_9, L_10, L_11, L_12, L_13, L_20, L_24, L_26, L_30, L_31, L_32, L_39, L_40, L_48, L_57, L_76, L_80, L_90, L_91, L_97, L_99, L_100, L_255, L_273, L_1000, L_2000, q_ld, q_ldL, q_sto, q_stoL, q_add, q_sub, q_mul, q_dec, q_rem, q_div, q_lt_t, q_lt_f, q_le_t, q_le_f, q_eq_t, q_eq_f, q_em, q_me, q_ml, q_lm, q_mle, q_lem, q_s1, q_s1o, q_s1k, q_s12, q_s2, q_s2o, q_s2k, q_s21, Nat.add_sub_cancel, q_or, q_and, q_shl, true_or, or_true, false_or, or_false, true_and, and_true, false_and, and_false, not_true_eq_false, not_false_eq_true, ne_eq, fC_EachAddsALine_roads, gC_EachAddsALine_roads_0, fC_RoadReader_readText, gC_RoadReader_readText_0, d1, fC_Text_clear, gC_Text_clear_0]
    · rw [ht0]
      simp (disch := omega) only [Option.bind_some, ↓reduceIte, ↓M_1, ↓M_2, L_0, L_1, L_2, L_3, L_4, L_5, L_6, L_7, L_8, L_9, L_10, L_11, L_12, L_13, L_20, L_24, L_26, L_30, L_31, L_32, L_39, L_40, L_48, L_57, L_76, L_80, L_90, L_91, L_97, L_99, L_100, L_255, L_273, L_1000, L_2000, q_ld, q_ldL, q_sto, q_stoL, q_add, q_sub, q_mul, q_dec, q_rem, q_div, q_lt_t, q_lt_f, q_le_t, q_le_f, q_eq_t, q_eq_f, q_em, q_me, q_ml, q_lm, q_mle, q_lem, q_s1, q_s1o, q_s1k, q_s12, q_s2, q_s2o, q_s2k, q_s21, Nat.add_sub_cancel, q_or, q_and, q_shl, true_or, or_true, false_or, or_false, true_and, and_true, false_and, and_false, not_true_eq_false, not_false_eq_true, ne_eq, fM_EachAddsALineModel_roads, gM_EachAddsALineModel_roads_0, d2, fM_EachAddsALineModel_begin_m_text, gM_EachAddsALineModel_begin_m_text_0]
  · obtain ⟨w, hC, hM, hX0, hRO, h5, h6, hK, hU8, hMC⟩ := id hR
    have hb := hC.bd
    have p9 : s.1 9 6 = nI (w 5 0) := by have := hC.p; rw [q_s1o (by decide)] at this; exact this
    have m9 : s.1 9 7 = nI (w 5 1) := by have := hC.m; rw [q_s1o (by decide)] at this; exact this
    obtain ⟨s0, hs0⟩ : ∃ s0, s0 = s1 (s1 (s1 s 16 2 (nI 0)) 16 3 (nI (w 5 0))) 16 4 (nI (w 5 1)) := ⟨_, rfl⟩
    have f0 : Fr [16] [] s s0 := by rw [hs0]; exact (Fr.s1 (by decide)).tr ((Fr.s1 (by decide)).tr (Fr.s1 (by decide)))
    have s2 : s0.1 16 2 = nI 0 := by rw [hs0]; simp (disch := omega) only [Option.bind_some, ↓reduceIte, ↓M_1, ↓M_2, L_0, L_1, L_2, L_3, L_4, L_5, L_6, L_7, L_8, L_9, L_10, L_11, L_12, L_13, L_20, L_24, L_26, L_30, L_31, L_32, L_39, L_40, L_48, L_57, L_76, L_80, L_90, L_91, L_97, L_99, L_100, L_255, L_273, L_1000, L_2000, q_ld, q_ldL, q_sto, q_stoL, q_add, q_sub, q_mul, q_dec, q_rem, q_div, q_lt_t, q_lt_f, q_le_t, q_le_f, q_eq_t, q_eq_f, q_em, q_me, q_ml, q_lm, q_mle, q_lem, q_s1, q_s1o, q_s1k, q_s12, q_s2, q_s2o, q_s2k, q_s21, Nat.add_sub_cancel, q_or, q_and, q_shl, true_or, or_true, false_or, or_false, true_and, and_true, false_and, and_false, not_true_eq_false, not_false_eq_true, ne_eq]
    have s3 : s0.1 16 3 = nI (w 5 0) := by rw [hs0]; simp (disch := omega) only [Option.bind_some, ↓reduceIte, ↓M_1, ↓M_2, L_0, L_1, L_2, L_3, L_4, L_5, L_6, L_7, L_8, L_9, L_10, L_11, L_12, L_13, L_20, L_24, L_26, L_30, L_31, L_32, L_39, L_40, L_48, L_57, L_76, L_80, L_90, L_91, L_97, L_99, L_100, L_255, L_273, L_1000, L_2000, q_ld, q_ldL, q_sto, q_stoL, q_add, q_sub, q_mul, q_dec, q_rem, q_div, q_lt_t, q_lt_f, q_le_t, q_le_f, q_eq_t, q_eq_f, q_em, q_me, q_ml, q_lm, q_mle, q_lem, q_s1, q_s1o, q_s1k, q_s12, q_s2, q_s2o, q_s2k, q_s21, Nat.add_sub_cancel, q_or, q_and, q_shl, true_or, or_true, false_or, or_false, true_and, and_true, false_and, and_false, not_true_eq_false, not_false_eq_true, ne_eq]
    have s4 : s0.1 16 4 = nI (w 5 1) := by rw [hs0]; simp (disch := omega) only [Option.bind_some, ↓reduceIte, ↓M_1, ↓M_2, L_0, L_1, L_2, L_3, L_4, L_5, L_6, L_7, L_8, L_9, L_10, L_11, L_12, L_13, L_20, L_24, L_26, L_30, L_31, L_32, L_39, L_40, L_48, L_57, L_76, L_80, L_90, L_91, L_97, L_99, L_100, L_255, L_273, L_1000, L_2000, q_ld, q_ldL, q_sto, q_stoL, q_add, q_sub, q_mul, q_dec, q_rem, q_div, q_lt_t, q_lt_f, q_le_t, q_le_f, q_eq_t, q_eq_f, q_em, q_me, q_ml, q_lm, q_mle, q_lem, q_s1, q_s1o, q_s1k, q_s12, q_s2, q_s2o, q_s2k, q_s21, Nat.add_sub_cancel, q_or, q_and, q_shl, true_or, or_true, false_or, or_false, true_and, and_true, false_and, and_false, not_true_eq_false, not_false_eq_true, ne_eq]
    have hCS : CSt n x s0 := ⟨hn, by rw [f0.1 1 (by decide)]; exact d1, fun k hk => ⟨(d3 k hk).1, by rw [f0.1 2 (by decide)]; exact (d3 k hk).2.1⟩⟩
    have gv : GV (w 5 0) (w 5 1) s0 t0 := by
      have r10 : ∀ o, o ∈ [10, 11, 12, 13, 14] → ∀ j, s0.1 o j = (s1 s 1 1 (nI 0)).1 o j := fun o ho j => by
        have h1 : o ≠ 1 ∧ o ≠ 16 := by
          simp only [List.mem_cons, List.not_mem_nil, or_false] at ho
          omega
        rw [q_s1o h1.1, f0.1 o (by simp only [List.mem_cons, List.not_mem_nil, or_false]; exact h1.2)]
      refine ⟨fun j hj => ⟨w 0 j, (hC.ok.2.2.1 j hj).1, (hC.ok.2.2.1 j hj).2, by rw [r10 10 (by decide)]; exact hC.rd hj, hM.rd hj⟩, fun m hm => ?_⟩
      have hq := hC.ok.2.2.2 m hm
      exact ⟨w 1 m, w 2 m, w 3 m, w 4 m, hq.1, hq.2.1, hq.2.2.1, hq.2.2.2.1, hq.2.2.2.2, by rw [r10 11 (by decide)]; exact hC.a hm, by rw [r10 12 (by decide)]; exact hC.b hm, by rw [r10 13 (by decide)]; exact hC.h hm, by rw [r10 14 (by decide)]; exact hC.c hm, hM.a hm, hM.b hm, hM.h hm, hM.c hm⟩
    obtain ⟨r, s', P', M', k', t', a1, a2, a3, a4, k1, k2, k3, k4, o⟩ := lines_J (n := n) (x := x) hN 77 0 (w 5 0) (w 5 1) 0 0 s0 t0 N N (by omega) (by omega) (by omega) (by omega) hCS s2 s3 (by omega) s4 (by omega) (by omega) hMS t15 t16 gv
    have n0 : ¬ nI n = nI 0 := fun z => c0 ((nI_eq (by omega) (by omega)).mp z)
    have f3 : Fr [10, 11, 12, 13, 14, 16] [] s s' := (f0.mono (by decide) (by decide)).tr a3
    have s11 : s'.1 1 1 = nI n := by rw [f3.1 1 (by decide)]; exact d1
    have cst : fC_EachAddsALine_roads N s = (if r = nI 0 then gC_RoadReader_readText_60 N s' else if nI n ≤ (s'.1 16 2) then (fC_Roads_grow N (s'.1 16 3) (s'.1 16 4) s').bind fun z6 => some ((((s'.1 16 3) - (s'.1 9 6)) + (s'.1 16 4)) - (s'.1 9 7), z6) else gC_RoadReader_readText_60 N s').bind fun p1 => some (p1.1, s1 p1.2 1 1 (nI 0)) := by
      have e0 : fC_RoadReader_readLines N s0 = some (r, s') := a1
      have e1 : gC_RoadReader_readText_0 N s = (fC_RoadReader_readLines N s0).bind fun p4 => if p4.1 = 0 then gC_RoadReader_readText_60 N p4.2 else if (p4.2.1 1 1) ≤ (p4.2.1 16 2) then (some ((((p4.2.1 16 3) - (p4.2.1 9 6)) + (p4.2.1 16 4)) - (p4.2.1 9 7) : Int32)).bind fun v5 => (fC_Roads_grow N (p4.2.1 16 3) (p4.2.1 16 4) p4.2).bind fun z6 => some (v5, z6) else gC_RoadReader_readText_60 N p4.2 := by
        rw [gC_RoadReader_readText_0, d1, if_neg (show ¬ nI n = 0 from n0), hs0]
        simp only [Option.bind_some]
        rw [q_s1o (by decide), p9, q_s1o (by decide), q_s1o (by decide), m9, L_0]
      rw [fC_EachAddsALine_roads, gC_EachAddsALine_roads_0, fC_RoadReader_readText, e1, e0]
      simp only [Option.bind_some, s11, L_0]
      rfl
    have mst : fM_EachAddsALineModel_roads N t = gM_EachAddsALineModel_roads_263 N (nI P') (nI M') (nI k') t' := by
      rw [← a2, ht0]
      have e0 : t.1 0 0 = nI (w 5 0) := by have := hM.p; rw [g0.2.2 0 (by decide)] at this; exact this
      have e2 : t.1 0 2 = nI (w 5 1) := by have := hM.m; rw [g0.2.2 2 (by decide)] at this; exact this
      simp (disch := omega) only [Option.bind_some, ↓reduceIte, ↓M_1, ↓M_2, L_0, L_1, L_2, L_3, L_4, L_5, L_6, L_7, L_8, L_9, L_10, L_11, L_12, L_13, L_20, L_24, L_26, L_30, L_31, L_32, L_39, L_40, L_48, L_57, L_76, L_80, L_90, L_91, L_97, L_99, L_100, L_255, L_273, L_1000, L_2000, q_ld, q_ldL, q_sto, q_stoL, q_add, q_sub, q_mul, q_dec, q_rem, q_div, q_lt_t, q_lt_f, q_le_t, q_le_f, q_eq_t, q_eq_f, q_em, q_me, q_ml, q_lm, q_mle, q_lem, q_s1, q_s1o, q_s1k, q_s12, q_s2, q_s2o, q_s2k, q_s21, Nat.add_sub_cancel, q_or, q_and, q_shl, true_or, or_true, false_or, or_false, true_and, and_true, false_and, and_false, not_true_eq_false, not_false_eq_true, ne_eq, fM_EachAddsALineModel_roads, gM_EachAddsALineModel_roads_0, d2, fM_EachAddsALineModel_begin_m_text, gM_EachAddsALineModel_begin_m_text_0, e0, e2]
    have hn13 : t'.1 0 13 = nI n := by rw [a4.2.2 13 (by decide)]; exact hMS.2.1
    have f4 : Fr [10, 11, 12, 13, 14, 16] [] (s1 s 1 1 (nI 0)) (s1 s' 1 1 (nI 0)) := Fr_both f3 (by decide)
    -- an answer that leaves people and meetings
    have bad : ∀ q t'', q ≤ 76 → s'.1 16 2 = nI q → Fm [] [] [16] t' t'' → fC_EachAddsALine_roads N s = (gC_RoadReader_readText_60 N s').bind (fun p1 => some (p1.1, s1 p1.2 1 1 (nI 0))) → fM_EachAddsALineModel_roads N t = some (mI (q + 1), t'') → ∃ r s' t', fC_EachAddsALine_roads N s = some (r, s') ∧ fM_EachAddsALineModel_roads N t = some (r, t') ∧ RR U s' t' := by
      intro q t'' hq e2 ft e1 em
      rw [gC_RoadReader_readText_60, e2, Option.bind_some, M_1, q_ms, Nat.add_comm 1 q] at e1
      have g4 : Fm [1, 2, 3, 4, 5] [] [15, 16] t0 t'' := a4.tr (ft.mono (by decide) (by decide) (by decide))
      have kf : Kp [10] (w 5 0) s s' := (Kp.fr f0 (by decide)).tr k1
      have kg : Kp [11, 12, 13, 14] (w 5 1) s s' := (Kp.fr f0 (by decide)).tr k2
      have km : Kp [1] (w 5 0) t0 t'' := k3.tr (Kp.fm ft (by decide))
      have kn : Kp [2, 3, 4, 5] (w 5 1) t0 t'' := k4.tr (Kp.fm ft (by decide))
      refine ⟨_, _, _, e1, em, RR.w hU (w := w) (w' := w) ⟨hC.ok, hC.or, ?_, ?_, fun k hk => ?_, fun m hm => ⟨?_, ?_, ?_, ?_⟩, fun k hk => ?_⟩ ⟨hM.ok, ?_, ?_, fun k hk => ?_, fun m hm => ⟨?_, ?_, ?_, ?_⟩⟩ (Nat.le_refl _) hX0 hRO h5 h6 hK hU8 hMC f4 g4 (by decide) (by decide) (by decide)⟩
      · rw [f4.1 9 (by decide)]; exact hC.p
      · rw [f4.1 9 (by decide)]; exact hC.m
      · have := hC.rd hk; rw [q_s1o (by decide)] at this ⊢; rw [kf 10 (by decide) k hk]; exact this
      · have := hC.a hm; rw [q_s1o (by decide)] at this ⊢; rw [kg 11 (by decide) m hm]; exact this
      · have := hC.b hm; rw [q_s1o (by decide)] at this ⊢; rw [kg 12 (by decide) m hm]; exact this
      · have := hC.h hm; rw [q_s1o (by decide)] at this ⊢; rw [kg 13 (by decide) m hm]; exact this
      · have := hC.c hm; rw [q_s1o (by decide)] at this ⊢; rw [kg 14 (by decide) m hm]; exact this
      · rw [f4.1 15 (by decide)]; exact hC.o hk
      · rw [g4.2.2 0 (by decide)]; exact hM.p
      · rw [g4.2.2 2 (by decide)]; exact hM.m
      · rw [km 1 (by decide) k hk]; exact hM.rd hk
      · rw [kn 2 (by decide) m hm]; exact hM.a hm
      · rw [kn 3 (by decide) m hm]; exact hM.b hm
      · rw [kn 4 (by decide) m hm]; exact hM.h hm
      · rw [kn 5 (by decide) m hm]; exact hM.c hm
    rcases o with ⟨rfl, q, b1, b2, b3⟩ | ⟨q, b1, bn, b2, b3, b4, o⟩
    · rw [if_pos rfl] at cst
      refine bad q t' b1 b2 Fm.rf cst ?_
      have e282 : gM_EachAddsALineModel_roads_282 N (nI P') (nI M') (nI k') t' = some (mI (q + 1), t') := by
        rw [gM_EachAddsALineModel_roads_282, M_fine_f b3 (by omega), Option.bind_some, if_pos (zer_eq _), M_1]
        show some (mI 1 - t'.1 0 16, t') = _
        rw [b3, q_ms, Nat.add_comm 1 q]
      rw [mst, gM_EachAddsALineModel_roads_263, M_fault_f b3 (by omega), Option.bind_some, e282, ite_self]
    · by_cases cq : q < n
      · have cst2 : fC_EachAddsALine_roads N s = (gC_RoadReader_readText_60 N s').bind (fun p1 => some (p1.1, s1 p1.2 1 1 (nI 0))) := by
          rw [cst, b2, if_neg (nI_ge cq (by omega)), ite_self]
        refine bad q (s1 t' 0 16 (nI q)) b1 b2 (Fm.w10 (by decide)) cst2 ?_
        have b5 : (s1 t' 0 16 (nI q)).1 0 16 = nI q := q_s1 _ _ _ _
        rw [mst, gM_EachAddsALineModel_roads_263, hn13, b3, if_neg (nI_ge cq (by omega)), M_fault_t b4, Option.bind_some, gM_EachAddsALineModel_roads_282, M_fine_f b5 (by omega), Option.bind_some, if_pos (zer_eq _), M_1]
        show some (mI 1 - (s1 t' 0 16 (nI q)).1 0 16, s1 t' 0 16 (nI q)) = _
        rw [b5, q_ms, Nat.add_comm 1 q]
      · have eq : q = n := by omega
        subst eq
        rcases o with ⟨_, o⟩ | ⟨rfl, o1, o2, o3, o4, o5, o6, o7, o8⟩
        · omega
        · rw [if_neg (by decide : ¬ nI 1 = nI 0), b2, if_pos (Int32.le_refl _), o6, o7] at cst
          obtain ⟨w', hw'⟩ : ∃ w' : Nat → Nat → Nat, w' = fun i j => if i = 5 then (if j = 0 then P' else M') else (s'.1 (10 + i) j).toInt.toNat := ⟨_, rfl⟩
          have w50 : w' 5 0 = P' := by rw [hw']; rfl
          have w51 : w' 5 1 = M' := by rw [hw']; rfl
          have wi : ∀ i, i < 5 → ∀ j a, a < 2 ^ 31 → s'.1 (10 + i) j = nI a → w' i j = a := fun i hi j a ha e => by
            rw [hw']
            show (if i = 5 then (if j = 0 then P' else M') else (s'.1 (10 + i) j).toInt.toNat) = a
            rw [if_neg (by omega)]; exact wn e ha
          have A : ∀ j, j < P' → (1 ≤ w' 0 j ∧ w' 0 j ≤ 9) ∧ s'.1 10 j = nI (w' 0 j) ∧ t'.1 1 j = nI (w' 0 j) := fun j hj => by
            obtain ⟨v, z1, z2, z3, z4⟩ := o8.1 j hj
            rw [wi 0 (by omega) j v (by omega) z3]
            exact ⟨⟨z1, z2⟩, z3, z4⟩
          have B : ∀ m, m < M' → (w' 1 m < P' ∧ w' 2 m < P' ∧ w' 1 m ≠ w' 2 m ∧ w' 3 m ≤ 99 ∧ w' 4 m ≤ 9) ∧ (s'.1 11 m = nI (w' 1 m) ∧ s'.1 12 m = nI (w' 2 m) ∧ s'.1 13 m = nI (w' 3 m) ∧ s'.1 14 m = nI (w' 4 m)) ∧ t'.1 2 m = nI (w' 1 m) ∧ t'.1 3 m = nI (w' 2 m) ∧ t'.1 4 m = nI (w' 3 m) ∧ t'.1 5 m = nI (w' 4 m) := fun m hm => by
            obtain ⟨a, b, e, c, y1, y2, y3, y4, y5, z1, z2, z3, z4, z5, z6, z7, z8⟩ := o8.2 m hm
            rw [wi 1 (by omega) m a (by omega) z1, wi 2 (by omega) m b (by omega) z2, wi 3 (by omega) m e (by omega) z3, wi 4 (by omega) m c (by omega) z4]
            exact ⟨⟨y1, y2, y3, y4, y5⟩, ⟨z1, z2, z3, z4⟩, z5, z6, z7, z8⟩
          have hok : okW w' := ⟨by omega, by omega, fun k hk => (A k (by omega)).1, fun m hm => by have := (B m (by omega)).1; rw [w50]; exact this⟩
          have hCX : CX w' (s1 (s1 s' 9 6 (nI P')) 9 7 (nI M')) := by
            refine ⟨hok, ?_, ?_, fun k hk => ?_, fun m hm => ?_⟩
            · rw [w50]; simp (disch := omega) only [Option.bind_some, ↓reduceIte, ↓M_1, ↓M_2, L_0, L_1, L_2, L_3, L_4, L_5, L_6, L_7, L_8, L_9, L_10, L_11, L_12, L_13, L_20, L_24, L_26, L_30, L_31, L_32, L_39, L_40, L_48, L_57, L_76, L_80, L_90, L_91, L_97, L_99, L_100, L_255, L_273, L_1000, L_2000, q_ld, q_ldL, q_sto, q_stoL, q_add, q_sub, q_mul, q_dec, q_rem, q_div, q_lt_t, q_lt_f, q_le_t, q_le_f, q_eq_t, q_eq_f, q_em, q_me, q_ml, q_lm, q_mle, q_lem, q_s1, q_s1o, q_s1k, q_s12, q_s2, q_s2o, q_s2k, q_s21, Nat.add_sub_cancel, q_or, q_and, q_shl, true_or, or_true, false_or, or_false, true_and, and_true, false_and, and_false, not_true_eq_false, not_false_eq_true, ne_eq]
            · rw [w51]; simp (disch := omega) only [Option.bind_some, ↓reduceIte, ↓M_1, ↓M_2, L_0, L_1, L_2, L_3, L_4, L_5, L_6, L_7, L_8, L_9, L_10, L_11, L_12, L_13, L_20, L_24, L_26, L_30, L_31, L_32, L_39, L_40, L_48, L_57, L_76, L_80, L_90, L_91, L_97, L_99, L_100, L_255, L_273, L_1000, L_2000, q_ld, q_ldL, q_sto, q_stoL, q_add, q_sub, q_mul, q_dec, q_rem, q_div, q_lt_t, q_lt_f, q_le_t, q_le_f, q_eq_t, q_eq_f, q_em, q_me, q_ml, q_lm, q_mle, q_lem, q_s1, q_s1o, q_s1k, q_s12, q_s2, q_s2o, q_s2k, q_s21, Nat.add_sub_cancel, q_or, q_and, q_shl, true_or, or_true, false_or, or_false, true_and, and_true, false_and, and_false, not_true_eq_false, not_false_eq_true, ne_eq]
            · rw [q_s1o (by decide), q_s1o (by decide)]; exact (A k (by omega)).2.1
            · have := (B m (by omega)).2.1
              refine ⟨?_, ?_, ?_, ?_⟩
              · rw [q_s1o (by decide), q_s1o (by decide)]; exact this.1
              · rw [q_s1o (by decide), q_s1o (by decide)]; exact this.2.1
              · rw [q_s1o (by decide), q_s1o (by decide)]; exact this.2.2.1
              · rw [q_s1o (by decide), q_s1o (by decide)]; exact this.2.2.2
          obtain ⟨u, e, u1, u2, u3⟩ := CX_sort (N := N) (by omega) hCX
          have eg : fC_Roads_grow N (nI P') (nI M') s' = some u := by
            rw [fC_Roads_grow, gC_Roads_grow_0, Option.bind_some, Option.bind_some, u1, Option.bind_some]
          have ek : nI P' - s'.1 9 6 + nI M' - s'.1 9 7 = nI k' := by
            rw [f3.1 9 (by decide), p9, m9, q_sub (by omega), q_add, q_sub (by omega)]
            exact congrArg nI (by omega)
          rw [eg, Option.bind_some, Option.bind_some, ek] at cst
          have fu : Fr [9, 10, 11, 12, 13, 14, 15, 16] [] s u := (f3.mono (by decide) (by decide)).tr ((Fr.s1 (by decide)).tr ((Fr.s1 (by decide)).tr (u2.mono (by decide) (by decide))))
          have fu1 : Fr [1] [] u (s1 u 1 1 (nI 0)) := Fr.s1 (by decide)
          refine ⟨nI k', s1 u 1 1 (nI 0), s1 (s1 t' 0 0 (nI P')) 0 2 (nI M'), cst, ?_, RR.w hU (w := w) (w' := ws w' e) (u3.fr fu1 (by decide)) ?_ (show w 5 0 ≤ w' 5 0 by omega) hX0 hRO h5 h6 hK hU8 hMC (Fr_both fu (by decide)) ((a4.mono (L' := [1, 2, 3, 4, 5]) (K' := []) (F' := [0, 2, 15, 16]) (by decide) (by decide) (by decide)).tr ((Fm.w10 (by decide)).tr (Fm.w10 (by decide)))) (by decide) (by decide) (by decide)⟩
          · rw [mst, gM_EachAddsALineModel_roads_263, hn13, b3, if_pos (Int32.le_refl _), gM_EachAddsALineModel_roads_282, M_fine_t b4, Option.bind_some, if_neg (one_ne _)]
            rfl
          · refine MW.ws ⟨hok, ?_, ?_, fun k hk => ?_, fun m hm => ?_⟩
            · rw [w50]; simp (disch := omega) only [Option.bind_some, ↓reduceIte, ↓M_1, ↓M_2, L_0, L_1, L_2, L_3, L_4, L_5, L_6, L_7, L_8, L_9, L_10, L_11, L_12, L_13, L_20, L_24, L_26, L_30, L_31, L_32, L_39, L_40, L_48, L_57, L_76, L_80, L_90, L_91, L_97, L_99, L_100, L_255, L_273, L_1000, L_2000, q_ld, q_ldL, q_sto, q_stoL, q_add, q_sub, q_mul, q_dec, q_rem, q_div, q_lt_t, q_lt_f, q_le_t, q_le_f, q_eq_t, q_eq_f, q_em, q_me, q_ml, q_lm, q_mle, q_lem, q_s1, q_s1o, q_s1k, q_s12, q_s2, q_s2o, q_s2k, q_s21, Nat.add_sub_cancel, q_or, q_and, q_shl, true_or, or_true, false_or, or_false, true_and, and_true, false_and, and_false, not_true_eq_false, not_false_eq_true, ne_eq]
            · rw [w51]; simp (disch := omega) only [Option.bind_some, ↓reduceIte, ↓M_1, ↓M_2, L_0, L_1, L_2, L_3, L_4, L_5, L_6, L_7, L_8, L_9, L_10, L_11, L_12, L_13, L_20, L_24, L_26, L_30, L_31, L_32, L_39, L_40, L_48, L_57, L_76, L_80, L_90, L_91, L_97, L_99, L_100, L_255, L_273, L_1000, L_2000, q_ld, q_ldL, q_sto, q_stoL, q_add, q_sub, q_mul, q_dec, q_rem, q_div, q_lt_t, q_lt_f, q_le_t, q_le_f, q_eq_t, q_eq_f, q_em, q_me, q_ml, q_lm, q_mle, q_lem, q_s1, q_s1o, q_s1k, q_s12, q_s2, q_s2o, q_s2k, q_s21, Nat.add_sub_cancel, q_or, q_and, q_shl, true_or, or_true, false_or, or_false, true_and, and_true, false_and, and_false, not_true_eq_false, not_false_eq_true, ne_eq]
            · rw [q_s1o (by decide), q_s1o (by decide)]; exact (A k (by omega)).2.2
            · rw [q_s1o (by decide), q_s1o (by decide), q_s1o (by decide), q_s1o (by decide), q_s1o (by decide), q_s1o (by decide), q_s1o (by decide), q_s1o (by decide)]; exact (B m (by omega)).2.2
end LS
