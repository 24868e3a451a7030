/-! roads: the class' line of a meeting, on from its second letter -/
section RX
variable {N : Nat} {s : vSt} {n p M P : Nat} {x : Nat → Nat}
theorem C_isPer_t (h3 : s.1 16 3 = nI P) (hP : P ≤ 9) {y : Nat} (hy : 97 ≤ y ∧ y < 97 + P) : fC_RoadReader_isPerson N (nI (y - 97)) s = some (nI 1, s) := by
  simp (disch := omega) only [Option.bind_some, ↓reduceIte, ↓M_1, ↓M_2, L_0, L_1, L_2, L_3, L_4, L_5, L_6, L_7, L_8, L_9, L_10, L_11, L_12, L_13, L_20, L_24, L_26, L_30, L_31, L_32, L_39, L_40, L_48, L_57, L_76, L_80, L_90, L_91, L_97, L_99, L_100, L_255, L_273, L_1000, L_2000, q_ld, q_ldL, q_sto, q_stoL, q_add, q_sub, q_mul, q_dec, q_rem, q_div, q_lt_t, q_lt_f, q_le_t, q_le_f, q_eq_t, q_eq_f, q_em, q_me, q_ml, q_lm, q_mle, q_lem, q_s1, q_s1o, q_s1k, q_s12, q_s2, q_s2o, q_s2k, q_s21, Nat.add_sub_cancel, q_or, q_and, q_shl, true_or, or_true, false_or, or_false, true_and, and_true, false_and, and_false, not_true_eq_false, not_false_eq_true, ne_eq, fC_RoadReader_isPerson, gC_RoadReader_isPerson_0, h3]
theorem C_isPer_f {v : Int32} {y : Nat} (hv : SGc v y) (h3 : s.1 16 3 = nI P) (hP : P ≤ 9) (hy : ¬ (97 ≤ y ∧ y < 97 + P)) : fC_RoadReader_isPerson N (v - nI 97) s = some (nI 0, s) := by
  have e := C_isPersonR (N := N) hv h3 hP
  rw [if_neg hy, L_97] at e
  exact e
theorem C_meet_two (h : CSt n x s) (h1 : s.1 16 2 = nI p) (h3 : s.1 16 3 = nI P) (hP : P ≤ 9) (h4 : s.1 16 4 = nI M) (hM : M < 20) (hp : p ≤ 76) (hd : 97 ≤ chq n x p ∧ chq n x p < 97 + P) (hf : ¬ (97 ≤ chq n x (p + 1) ∧ chq n x (p + 1) < 97 + P) ∨ chq n x (p + 1) = chq n x p) : fC_RoadReader_readMeeting N s = some (nI 0, s1 s 16 2 (nI (p + 1))) := by
  have hh := chq_lt (n := n) (x := x) (p := p) (by omega)
  obtain ⟨v, e1, e2⟩ := C_nextR (N := N) h h1 hp
  have ev := e2.n.nn (by omega)
  subst ev
  have f1 : Fr [16] [] s (s1 s 16 2 (nI (p + 1))) := Fr.s1 (by decide)
  obtain ⟨v2, g1, g2⟩ := C_nextR (N := N) (h.fr f1 (by decide) (by decide)) (q_s1 _ _ _ _) (show p + 1 ≤ 76 by omega)
  have i1 := C_isPer_t (N := N) h3 hP hd
  have h3' : (s1 s 16 2 (nI (p + 1))).1 16 3 = nI P := by rw [q_s1k (by decide)]; exact h3
  by_cases c : 97 ≤ chq n x (p + 1) ∧ chq n x (p + 1) < 97 + P
  · have ec : chq n x (p + 1) = chq n x p := hf.resolve_left (fun z => z c)
    have ev2 := g2.n.nn (by omega)
    subst ev2
    have i2 := C_isPer_t (N := N) h3' hP hd
    rw [ec] at g1
    simp (disch := omega) only [Option.bind_some, ↓reduceIte, ↓M_1, ↓M_2, L_0, L_1, L_2, L_3, L_4, L_5, L_6, L_7, L_8, L_9, L_10, L_11, L_12, L_13, L_20, L_24, L_26, L_30, L_31, L_32, L_39, L_40, L_48, L_57, L_76, L_80, L_90, L_91, L_97, L_99, L_100, L_255, L_273, L_1000, L_2000, q_ld, q_ldL, q_sto, q_stoL, q_add, q_sub, q_mul, q_dec, q_rem, q_div, q_lt_t, q_lt_f, q_le_t, q_le_f, q_eq_t, q_eq_f, q_em, q_me, q_ml, q_lm, q_mle, q_lem, q_s1, q_s1o, q_s1k, q_s12, q_s2, q_s2o, q_s2k, q_s21, Nat.add_sub_cancel, q_or, q_and, q_shl, true_or, or_true, false_or, or_false, true_and, and_true, false_and, and_false, not_true_eq_false, not_false_eq_true, ne_eq, fC_RoadReader_readMeeting, gC_RoadReader_readMeeting_0, e1, h4, i1, h1, g1, i2]
  · have i2 := C_isPer_f (N := N) g2 h3' hP c
    simp (disch := omega) only [Option.bind_some, ↓reduceIte, ↓M_1, ↓M_2, L_0, L_1, L_2, L_3, L_4, L_5, L_6, L_7, L_8, L_9, L_10, L_11, L_12, L_13, L_20, L_24, L_26, L_30, L_31, L_32, L_39, L_40, L_48, L_57, L_76, L_80, L_90, L_91, L_97, L_99, L_100, L_255, L_273, L_1000, L_2000, q_ld, q_ldL, q_sto, q_stoL, q_add, q_sub, q_mul, q_dec, q_rem, q_div, q_lt_t, q_lt_f, q_le_t, q_le_f, q_eq_t, q_eq_f, q_em, q_me, q_ml, q_lm, q_mle, q_lem, q_s1, q_s1o, q_s1k, q_s12, q_s2, q_s2o, q_s2k, q_s21, Nat.add_sub_cancel, q_or, q_and, q_shl, true_or, or_true, false_or, or_false, true_and, and_true, false_and, and_false, not_true_eq_false, not_false_eq_true, ne_eq, fC_RoadReader_readMeeting, gC_RoadReader_readMeeting_0, e1, h4, i1, h1, g1, i2]
theorem C_meet_at (h : CSt n x s) (h1 : s.1 16 2 = nI p) (h3 : s.1 16 3 = nI P) (hP : P ≤ 9) (h4 : s.1 16 4 = nI M) (hM : M < 20) (hp : p ≤ 76) (hd : 97 ≤ chq n x p ∧ chq n x p < 97 + P) (hd2 : 97 ≤ chq n x (p + 1) ∧ chq n x (p + 1) < 97 + P) (hne : chq n x (p + 1) ≠ chq n x p) (hf : chq n x (p + 2) ≠ 64) : fC_RoadReader_readMeeting N s = some (nI 0, s1 (s1 s 16 2 (nI (p + 1))) 16 2 (nI (p + 2))) := by
  have hh := chq_lt (n := n) (x := x) (p := p) (by omega)
  have hh2 := chq_lt (n := n) (x := x) (p := p + 1) (by omega)
  obtain ⟨v, e1, e2⟩ := C_nextR (N := N) h h1 hp
  have ev := e2.n.nn (by omega)
  subst ev
  have f1 : Fr [16] [] s (s1 s 16 2 (nI (p + 1))) := Fr.s1 (by decide)
  have f2 : Fr [16] [] s (s1 (s1 s 16 2 (nI (p + 1))) 16 2 (nI (p + 2))) := f1.tr (Fr.s1 (by decide))
  obtain ⟨v2, g1, g2⟩ := C_nextR (N := N) (h.fr f1 (by decide) (by decide)) (q_s1 _ _ _ _) (show p + 1 ≤ 76 by omega)
  have ev2 := g2.n.nn (by omega)
  subst ev2
  obtain ⟨v3, j1, j2⟩ := C_nextR (N := N) (h.fr f2 (by decide) (by decide)) (q_s1 _ _ _ _) (show p + 2 ≤ 76 by omega)
  have i1 := C_isPer_t (N := N) h3 hP hd
  have h3' : (s1 s 16 2 (nI (p + 1))).1 16 3 = nI P := by rw [q_s1k (by decide)]; exact h3
  have i2 := C_isPer_t (N := N) h3' hP hd2
  have n3 : ¬ v3 = nI 64 := by rw [j2.n.eq (by omega)]; exact hf
  have n2 : chq n x (p + 1) - 97 ≠ chq n x p - 97 := by omega
  simp (disch := omega) only [Option.bind_some, ↓reduceIte, ↓M_1, ↓M_2, L_0, L_1, L_2, L_3, L_4, L_5, L_6, L_7, L_8, L_9, L_10, L_11, L_12, L_13, L_20, L_24, L_26, L_30, L_31, L_32, L_39, L_40, L_48, L_57, L_76, L_80, L_90, L_91, L_97, L_99, L_100, L_255, L_273, L_1000, L_2000, q_ld, q_ldL, q_sto, q_stoL, q_add, q_sub, q_mul, q_dec, q_rem, q_div, q_lt_t, q_lt_f, q_le_t, q_le_f, q_eq_t, q_eq_f, q_em, q_me, q_ml, q_lm, q_mle, q_lem, q_s1, q_s1o, q_s1k, q_s12, q_s2, q_s2o, q_s2k, q_s21, Nat.add_sub_cancel, q_or, q_and, q_shl, true_or, or_true, false_or, or_false, true_and, and_true, false_and, and_false, not_true_eq_false, not_false_eq_true, ne_eq, fC_RoadReader_readMeeting, gC_RoadReader_readMeeting_0, e1, h4, i1, h1, g1, i2, j1, L_64, n3]
theorem C_meet_go (h : CSt n x s) (h1 : s.1 16 2 = nI p) (h3 : s.1 16 3 = nI P) (hP : P ≤ 9) (h4 : s.1 16 4 = nI M) (hM : M < 20) (hp : p ≤ 76) (hd : 97 ≤ chq n x p ∧ chq n x p < 97 + P) (hd2 : 97 ≤ chq n x (p + 1) ∧ chq n x (p + 1) < 97 + P) (hne : chq n x (p + 1) ≠ chq n x p) (hf : chq n x (p + 2) = 64) : fC_RoadReader_readMeeting N s = (fC_RoadReader_readHour N (s1 (s1 (s1 (s1 (s1 s 16 2 (nI (p + 1))) 16 2 (nI (p + 2))) 16 2 (nI (p + 3))) 11 M (nI (chq n x p - 97))) 12 M (nI (chq n x (p + 1) - 97)))).bind fun p13 => if p13.1 = nI 0 then some (nI 0, p13.2) else (fC_RoadReader_readPrice N p13.2).bind fun p14 => if p14.1 = nI 0 then some (nI 0, p14.2) else some (nI 1, s1 p14.2 16 4 ((p14.2.1 16 4) + nI 1)) := by
  have hh := chq_lt (n := n) (x := x) (p := p) (by omega)
  have hh2 := chq_lt (n := n) (x := x) (p := p + 1) (by omega)
  have hh3 := chq_lt (n := n) (x := x) (p := p + 2) (by omega)
  obtain ⟨v, e1, e2⟩ := C_nextR (N := N) h h1 hp
  have ev := e2.n.nn (by omega)
  subst ev
  have f1 : Fr [16] [] s (s1 s 16 2 (nI (p + 1))) := Fr.s1 (by decide)
  have f2 : Fr [16] [] s (s1 (s1 s 16 2 (nI (p + 1))) 16 2 (nI (p + 2))) := f1.tr (Fr.s1 (by decide))
  obtain ⟨v2, g1, g2⟩ := C_nextR (N := N) (h.fr f1 (by decide) (by decide)) (q_s1 _ _ _ _) (show p + 1 ≤ 76 by omega)
  have ev2 := g2.n.nn (by omega)
  subst ev2
  obtain ⟨v3, j1, j2⟩ := C_nextR (N := N) (h.fr f2 (by decide) (by decide)) (q_s1 _ _ _ _) (show p + 2 ≤ 76 by omega)
  have ev3 := j2.n.nn (by omega)
  rw [hf] at ev3
  subst ev3
  have i1 := C_isPer_t (N := N) h3 hP hd
  have h3' : (s1 s 16 2 (nI (p + 1))).1 16 3 = nI P := by rw [q_s1k (by decide)]; exact h3
  have i2 := C_isPer_t (N := N) h3' hP hd2
  have n2 : chq n x (p + 1) - 97 ≠ chq n x p - 97 := by omega
  simp (disch := omega) only [Option.bind_some, ↓reduceIte, ↓M_1, ↓M_2, L_0, L_1, L_2, L_3, L_4, L_5, L_6, L_7, L_8, L_9, L_10, L_11, L_12, L_13, L_20, L_24, L_26, L_30, L_31, L_32, L_39, L_40, L_48, L_57, L_76, L_80, L_90, L_91, L_97, L_99, L_100, L_255, L_273, L_1000, L_2000, q_ld, q_ldL, q_sto, q_stoL, q_add, q_sub, q_mul, q_dec, q_rem, q_div, q_lt_t, q_lt_f, q_le_t, q_le_f, q_eq_t, q_eq_f, q_em, q_me, q_ml, q_lm, q_mle, q_lem, q_s1, q_s1o, q_s1k, q_s12, q_s2, q_s2o, q_s2k, q_s21, Nat.add_sub_cancel, q_or, q_and, q_shl, true_or, or_true, false_or, or_false, true_and, and_true, false_and, and_false, not_true_eq_false, not_false_eq_true, ne_eq, fC_RoadReader_readMeeting, gC_RoadReader_readMeeting_0, e1, h4, i1, h1, g1, i2, j1, L_64]
theorem C_line_m (h : CSt n x s) (h1 : s.1 16 2 = nI p) (hp : p ≤ 76) (hd : ¬ (49 ≤ chq n x p ∧ chq n x p ≤ 57)) {r : Int32} {s' : vSt} (e : fC_RoadReader_readMeeting N s = some (r, s')) (hr : r = nI 0 ∨ r = nI 1) : fC_RoadReader_readLine N s = some (r, s') := by
  rw [C_lineM h h1 hp hd, gC_RoadReader_readLine_25, e, Option.bind_some]
  exact if_pos (by rw [L_0, L_1]; exact hr)
end RX
