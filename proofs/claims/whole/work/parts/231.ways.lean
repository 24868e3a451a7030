/-! ways, needs, idle -/
theorem l_0 : (0 : Int64) = lN 0 := rfl
theorem l_1 : (1 : Int64) = lN 1 := rfl
theorem lN_0 {n : Nat} (h : n < 2 ^ 63) : (lN n = lN 0) = (n = 0) := propext (fb_lN_inj h (by decide))
section WS
variable {N : Nat} {U : vSt → vSt → Prop} {w : Nat → Nat → Nat} {s t : vSt} {u v k go no : Nat}
theorem M_isFree (h : MW w t) (h35 : t.1 0 35 = gI go) (h37 : t.1 0 37 = gI no) {a : Nat} (ha : a < 2 * w 5 1) : fM_EachAddsALineModel_isFree N (nI a) t = some (if fre w go no a then nI 1 else nI 0, t) := by
  have hb := h.bd
  have h2 := gt_lt h.ok ha
  have e1 := gI_eq (g := go) (m := a / 2) (by omega)
  have e2 := gI_eq (g := no) (m := gt w a) (by omega)
  have eg := M_getter (N := N) h ha
  by_cases c1 : a / 2 = go
  · rw [if_neg (fun z => z.1 c1)]
    simp (disch := omega) only [Option.bind_some, ↓reduceIte, ↓M_1, ↓M_2, L_0, L_1, L_2, L_3, L_4, L_5, L_6, L_7, L_8, L_9, L_10, L_11, L_12, L_13, L_20, L_24, L_26, L_30, L_31, L_32, L_39, L_40, L_48, L_57, L_76, L_80, L_90, L_91, L_97, L_99, L_100, L_255, L_273, L_1000, L_2000, q_ld, q_ldL, q_sto, q_stoL, q_add, q_sub, q_mul, q_dec, q_rem, q_div, q_lt_t, q_lt_f, q_le_t, q_le_f, q_eq_t, q_eq_f, q_em, q_me, q_ml, q_lm, q_mle, q_lem, q_s1, q_s1o, q_s1k, q_s12, q_s2, q_s2o, q_s2k, q_s21, Nat.add_sub_cancel, q_or, q_and, q_shl, true_or, or_true, false_or, or_false, true_and, and_true, false_and, and_false, not_true_eq_false, not_false_eq_true, ne_eq, fM_EachAddsALineModel_isFree, gM_EachAddsALineModel_isFree_0, gM_EachAddsALineModel_isFree_26, h35, e1, eq_true c1]
  · by_cases c2 : gt w a = no
    · rw [if_neg (fun z => z.2 c2)]
      simp (disch := omega) only [Option.bind_some, ↓reduceIte, ↓M_1, ↓M_2, L_0, L_1, L_2, L_3, L_4, L_5, L_6, L_7, L_8, L_9, L_10, L_11, L_12, L_13, L_20, L_24, L_26, L_30, L_31, L_32, L_39, L_40, L_48, L_57, L_76, L_80, L_90, L_91, L_97, L_99, L_100, L_255, L_273, L_1000, L_2000, q_ld, q_ldL, q_sto, q_stoL, q_add, q_sub, q_mul, q_dec, q_rem, q_div, q_lt_t, q_lt_f, q_le_t, q_le_f, q_eq_t, q_eq_f, q_em, q_me, q_ml, q_lm, q_mle, q_lem, q_s1, q_s1o, q_s1k, q_s12, q_s2, q_s2o, q_s2k, q_s21, Nat.add_sub_cancel, q_or, q_and, q_shl, true_or, or_true, false_or, or_false, true_and, and_true, false_and, and_false, not_true_eq_false, not_false_eq_true, ne_eq, fM_EachAddsALineModel_isFree, gM_EachAddsALineModel_isFree_0, gM_EachAddsALineModel_isFree_26, h35, e1, eq_false c1, eg, h37, e2, eq_true c2]
    · rw [if_pos ⟨c1, c2⟩]
      simp (disch := omega) only [Option.bind_some, ↓reduceIte, ↓M_1, ↓M_2, L_0, L_1, L_2, L_3, L_4, L_5, L_6, L_7, L_8, L_9, L_10, L_11, L_12, L_13, L_20, L_24, L_26, L_30, L_31, L_32, L_39, L_40, L_48, L_57, L_76, L_80, L_90, L_91, L_97, L_99, L_100, L_255, L_273, L_1000, L_2000, q_ld, q_ldL, q_sto, q_stoL, q_add, q_sub, q_mul, q_dec, q_rem, q_div, q_lt_t, q_lt_f, q_le_t, q_le_f, q_eq_t, q_eq_f, q_em, q_me, q_ml, q_lm, q_mle, q_lem, q_s1, q_s1o, q_s1k, q_s12, q_s2, q_s2o, q_s2k, q_s21, Nat.add_sub_cancel, q_or, q_and, q_shl, true_or, or_true, false_or, or_false, true_and, and_true, false_and, and_false, not_true_eq_false, not_false_eq_true, ne_eq, fM_EachAddsALineModel_isFree, gM_EachAddsALineModel_isFree_0, gM_EachAddsALineModel_isFree_26, h35, e1, eq_false c1, eg, h37, e2, eq_false c2]
theorem M_cw63 (R : Int32 → Int32 → Int32 → Int64 → Int32 → vSt → Option (Int64 × vSt)) {P : Nat → Nat} {a x0 : Nat} {q : Int64} {j : Int32} (h : MW w t) (hN : 60 ≤ N) (ha : a < 2 * w 5 1) (h30 : t.1 0 30 = nI (2 * w 5 1)) (h35 : t.1 0 35 = gI go) (h37 : t.1 0 37 = gI no)
    (hP : ∀ o, o < 2 * w 5 1 → fol w a o → t.2 14 o = lN (P o)) (h14 : t.2 14 a = lN x0) :
    ∃ z, gM_EachAddsALineModel_countWays_63 N R N (nI u) (nI v) (nI k) q j (nI a) (nI 0) t = gM_EachAddsALineModel_countWays_115 N R (nI u) (nI v) (nI k) q j (nI a) z ∧ Fm [] [14] [] t z ∧ (∀ o, o ≠ a → z.2 14 o = t.2 14 o) ∧ z.2 14 a = lN (x0 + if fre w go no a then fb_sm (fun o => if fol w a o then P o else 0) (2 * w 5 1) else 0) := by
  have hb := h.bd
  have ef := M_isFree (N := N) h h35 h37 ha
  by_cases c : fre w go no a
  · rw [if_pos c]
    refine loopU (fun f i z => gM_EachAddsALineModel_countWays_63 N R f (nI u) (nI v) (nI k) q j (nI a) (nI i) z) (2 * w 5 1) (fun i z => i ≤ 2 * w 5 1 ∧ Fm [] [14] [] t z ∧ (∀ o, o ≠ a → z.2 14 o = t.2 14 o) ∧ z.2 14 a = lN (x0 + fb_sm (fun o => if fol w a o then P o else 0) i)) (fun o => ∃ z, o = gM_EachAddsALineModel_countWays_115 N R (nI u) (nI v) (nI k) q j (nI a) z ∧ Fm [] [14] [] t z ∧ (∀ o, o ≠ a → z.2 14 o = t.2 14 o) ∧ z.2 14 a = lN (x0 + fb_sm (fun o => if fol w a o then P o else 0) (2 * w 5 1))) ?_ ?_ (2 * w 5 1) N 0 t (by omega) (by omega) ⟨by omega, Fm.rf, fun _ _ => rfl, h14⟩
    · rintro f i z hi ⟨g1, g2, g3, g4⟩
      have hz : MW w z := h.fm g2 (by decide) (by decide)
      have z30 : z.1 0 30 = nI (2 * w 5 1) := (g2.2.2 30 (by decide)).trans h30
      have ez := M_isFree (N := N) hz ((g2.2.2 35 (by decide)).trans h35) ((g2.2.2 37 (by decide)).trans h37) ha
      rw [if_pos c] at ez
      have efo := M_follows (N := N) hz ha hi
      by_cases d : fol w a i
      · rw [if_pos d] at efo
        have ne : i ≠ a := fun y => by
          rw [y] at d
          exact gv_ne h.ok ha d.1
        have e1 : z.2 14 i = lN (P i) := (g3 i ne).trans (hP i hi d)
        refine Or.inl ⟨s2 z 14 a (lN (x0 + fb_sm (fun o => if fol w a o then P o else 0) (i + 1))), ?_, by omega, g2.tr (Fm.w2 (by decide)), fun o ho => ?_, q_s2 _ _ _ _⟩
        · rw [gM_EachAddsALineModel_countWays_63, fb_sm_succ, if_pos d, ← Nat.add_assoc, ← lN_add, ← e1, ← g4]
          simp (disch := omega) only [Option.bind_some, ↓reduceIte, ↓M_1, ↓M_2, L_0, L_1, L_2, L_3, L_4, L_5, L_6, L_7, L_8, L_9, L_10, L_11, L_12, L_13, L_20, L_24, L_26, L_30, L_31, L_32, L_39, L_40, L_48, L_57, L_76, L_80, L_90, L_91, L_97, L_99, L_100, L_255, L_273, L_1000, L_2000, q_ld, q_ldL, q_sto, q_stoL, q_add, q_sub, q_mul, q_dec, q_rem, q_div, q_lt_t, q_lt_f, q_le_t, q_le_f, q_eq_t, q_eq_f, q_em, q_me, q_ml, q_lm, q_mle, q_lem, q_s1, q_s1o, q_s1k, q_s12, q_s2, q_s2o, q_s2k, q_s21, Nat.add_sub_cancel, q_or, q_and, q_shl, true_or, or_true, false_or, or_false, true_and, and_true, false_and, and_false, not_true_eq_false, not_false_eq_true, ne_eq, z30, ez, efo, gM_EachAddsALineModel_countWays_109]
        · rw [q_s2k ho]; exact g3 o ho
      · rw [if_neg d] at efo
        refine Or.inl ⟨z, ?_, by omega, g2, g3, ?_⟩
        · rw [gM_EachAddsALineModel_countWays_63]
          simp (disch := omega) only [Option.bind_some, ↓reduceIte, ↓M_1, ↓M_2, L_0, L_1, L_2, L_3, L_4, L_5, L_6, L_7, L_8, L_9, L_10, L_11, L_12, L_13, L_20, L_24, L_26, L_30, L_31, L_32, L_39, L_40, L_48, L_57, L_76, L_80, L_90, L_91, L_97, L_99, L_100, L_255, L_273, L_1000, L_2000, q_ld, q_ldL, q_sto, q_stoL, q_add, q_sub, q_mul, q_dec, q_rem, q_div, q_lt_t, q_lt_f, q_le_t, q_le_f, q_eq_t, q_eq_f, q_em, q_me, q_ml, q_lm, q_mle, q_lem, q_s1, q_s1o, q_s1k, q_s12, q_s2, q_s2o, q_s2k, q_s21, Nat.add_sub_cancel, q_or, q_and, q_shl, true_or, or_true, false_or, or_false, true_and, and_true, false_and, and_false, not_true_eq_false, not_false_eq_true, ne_eq, z30, ez, efo, gM_EachAddsALineModel_countWays_109]
        · rw [fb_sm_succ, if_neg d, Nat.add_zero]; exact g4
    · rintro f z ⟨g1, g2, g3, g4⟩
      have z30 : z.1 0 30 = nI (2 * w 5 1) := (g2.2.2 30 (by decide)).trans h30
      refine ⟨z, ?_, g2, g3, g4⟩
      try simp only
      rw [gM_EachAddsALineModel_countWays_63]
      simp (disch := omega) only [Option.bind_some, ↓reduceIte, ↓M_1, ↓M_2, L_0, L_1, L_2, L_3, L_4, L_5, L_6, L_7, L_8, L_9, L_10, L_11, L_12, L_13, L_20, L_24, L_26, L_30, L_31, L_32, L_39, L_40, L_48, L_57, L_76, L_80, L_90, L_91, L_97, L_99, L_100, L_255, L_273, L_1000, L_2000, q_ld, q_ldL, q_sto, q_stoL, q_add, q_sub, q_mul, q_dec, q_rem, q_div, q_lt_t, q_lt_f, q_le_t, q_le_f, q_eq_t, q_eq_f, q_em, q_me, q_ml, q_lm, q_mle, q_lem, q_s1, q_s1o, q_s1k, q_s12, q_s2, q_s2o, q_s2k, q_s21, Nat.add_sub_cancel, q_or, q_and, q_shl, true_or, or_true, false_or, or_false, true_and, and_true, false_and, and_false, not_true_eq_false, not_false_eq_true, ne_eq, z30]
  · rw [if_neg c] at ef ⊢
    refine ⟨t, ?_, Fm.rf, fun _ _ => rfl, h14⟩
    obtain ⟨n, rfl⟩ : ∃ n, N = n + 1 := ⟨N - 1, by omega⟩
    rw [gM_EachAddsALineModel_countWays_63]
    simp (disch := omega) only [Option.bind_some, ↓reduceIte, ↓M_1, ↓M_2, L_0, L_1, L_2, L_3, L_4, L_5, L_6, L_7, L_8, L_9, L_10, L_11, L_12, L_13, L_20, L_24, L_26, L_30, L_31, L_32, L_39, L_40, L_48, L_57, L_76, L_80, L_90, L_91, L_97, L_99, L_100, L_255, L_273, L_1000, L_2000, q_ld, q_ldL, q_sto, q_stoL, q_add, q_sub, q_mul, q_dec, q_rem, q_div, q_lt_t, q_lt_f, q_le_t, q_le_f, q_eq_t, q_eq_f, q_em, q_me, q_ml, q_lm, q_mle, q_lem, q_s1, q_s1o, q_s1k, q_s12, q_s2, q_s2o, q_s2k, q_s21, Nat.add_sub_cancel, q_or, q_and, q_shl, true_or, or_true, false_or, or_false, true_and, and_true, false_and, and_false, not_true_eq_false, not_false_eq_true, ne_eq, h30, ef]
theorem M_countWays (h : MW w t) (hN : 60 ≤ N) (hu : u < w 5 0) (hv : v < w 5 0) (hk : k < 1000) (h35 : t.1 0 35 = gI go) (h37 : t.1 0 37 = gI no) :
    ∃ z, fM_EachAddsALineModel_countWays N (nI u) (nI v) (nI k) t = some (lN (cw w u v k go no), z) ∧ Fm [11] [14] [30] t z ∧ cw w u v k go no < 2 ^ 41 := by
  have hb := h.bd
  obtain ⟨t0, e, a1, a2, a3, a4, a5⟩ := M_findOrder (N := N) h hN
  have h0 : MW w t0 := h.fm a2 (by decide) (by decide)
  have hlt := cw_lt (u := u) (v := v) (k := k) (go := go) (no := no) h.ok a5
  have eall : cw w u v k go no = fb_sm (fun j => if gt w (e j) = v then TP w u k go no (e j) else 0) (2 * w 5 1) := (sm_perm a5 (fun s => if gt w s = v then TP w u k go no s else 0)).symm
  rw [eall] at hlt ⊢
  simp (disch := omega) only [Option.bind_some, ↓reduceIte, ↓M_1, ↓M_2, L_0, L_1, L_2, L_3, L_4, L_5, L_6, L_7, L_8, L_9, L_10, L_11, L_12, L_13, L_20, L_24, L_26, L_30, L_31, L_32, L_39, L_40, L_48, L_57, L_76, L_80, L_90, L_91, L_97, L_99, L_100, L_255, L_273, L_1000, L_2000, q_ld, q_ldL, q_sto, q_stoL, q_add, q_sub, q_mul, q_dec, q_rem, q_div, q_lt_t, q_lt_f, q_le_t, q_le_f, q_eq_t, q_eq_f, q_em, q_me, q_ml, q_lm, q_mle, q_lem, q_s1, q_s1o, q_s1k, q_s12, q_s2, q_s2o, q_s2k, q_s21, Nat.add_sub_cancel, q_or, q_and, q_shl, true_or, or_true, false_or, or_false, true_and, and_true, false_and, and_false, not_true_eq_false, not_false_eq_true, ne_eq, fM_EachAddsALineModel_countWays, gM_EachAddsALineModel_countWays_0, a1]
  rw [l_0]
  refine loopU (fun f i z => gM_EachAddsALineModel_countWays_10 N f (nI u) (nI v) (nI k) (lN (fb_sm (fun j => if gt w (e j) = v then TP w u k go no (e j) else 0) i)) (nI i) z) (2 * w 5 1) (fun i z => i ≤ 2 * w 5 1 ∧ Fm [11] [14] [30] t z ∧ Fm [] [14] [] t0 z ∧ ∀ j, j < i → z.2 14 (e j) = lN (TP w u k go no (e j))) (fun o => ∃ z, o = some (lN (fb_sm (fun j => if gt w (e j) = v then TP w u k go no (e j) else 0) (2 * w 5 1)), z) ∧ Fm [11] [14] [30] t z ∧ fb_sm (fun j => if gt w (e j) = v then TP w u k go no (e j) else 0) (2 * w 5 1) < 2 ^ 41) ?_ ?_ (2 * w 5 1) N 0 t0 (by omega) (by omega) ⟨by omega, a2.mono (by decide) (by decide) (by decide), Fm.rf, fun j hj => by omega⟩
  · rintro f i z hi ⟨g1, g2, g3, g4⟩
    have hz : MW w z := h.fm g2 (by decide) (by decide)
    have ha := a5.1 i hi
    have z11 : z.1 11 i = nI (e i) := by rw [g3.1 11 (by decide) (by decide)]; exact a4 i hi
    have z30 : z.1 0 30 = nI (2 * w 5 1) := by rw [g3.2.2 30 (by decide)]; exact a3
    have z35 : z.1 0 35 = gI go := (g2.2.2 35 (by decide)).trans h35
    have z37 : z.1 0 37 = gI no := (g2.2.2 37 (by decide)).trans h37
    have eb := M_begins (N := N) hz ha hu hk
    have ef := M_isFree (N := N) hz z35 z37 ha
    have hrec := TP_rec (u := u) (k := k) (go := go) (no := no) h.ok ha
    have fz2 : Fm [] [14] [] z (s2 z 14 (e i) (lN (if beg w u k (e i) ∧ fre w go no (e i) then 1 else 0))) := Fm.w2 (by decide)
    have hz2 : MW w (s2 z 14 (e i) (lN (if beg w u k (e i) ∧ fre w go no (e i) then 1 else 0))) := hz.fm fz2 (by decide) (by decide)
    obtain ⟨z', x1, x2, x3, x4⟩ := M_cw63 (N := N) (u := u) (v := v) (k := k) (go := go) (no := no) (gM_EachAddsALineModel_countWays_10 N f) (P := TP w u k go no) (x0 := if beg w u k (e i) ∧ fre w go no (e i) then 1 else 0) (q := lN (fb_sm (fun j => if gt w (e j) = v then TP w u k go no (e j) else 0) i)) (j := nI i) hz2 hN ha z30 z35 z37 (fun o ho hf => by
      have ne : o ≠ e i := fun y => by
        rw [y] at hf
        exact gv_ne h.ok ha hf.1
      rw [q_s2k ne]
      obtain ⟨j, j1, j2⟩ := srt_onto a5 ho
      have hji : j < i := srt_pos a5 hi j1 (by rw [j2]; exact fol_lt h.ok ho hf)
      rw [← j2]
      exact g4 j hji) (q_s2 _ _ _ _)
    have hz' : MW w z' := hz2.fm x2 (by decide) (by decide)
    have eg := M_getter (N := N) hz' ha
    have eT : z'.2 14 (e i) = lN (TP w u k go no (e i)) := by
      rw [x4, hrec]
      unfold FP
      by_cases c : fre w go no (e i)
      · rw [if_pos c, if_pos c]
        by_cases d : beg w u k (e i)
        · rw [if_pos d, if_pos ⟨d, c⟩]
        · rw [if_neg d, if_neg (fun y => d y.1)]
      · rw [if_neg c, if_neg c, if_neg (fun y => c y.2)]
    have estep : gM_EachAddsALineModel_countWays_10 N (f + 1) (nI u) (nI v) (nI k) (lN (fb_sm (fun j => if gt w (e j) = v then TP w u k go no (e j) else 0) i)) (nI i) z = gM_EachAddsALineModel_countWays_115 N (gM_EachAddsALineModel_countWays_10 N f) (nI u) (nI v) (nI k) (lN (fb_sm (fun j => if gt w (e j) = v then TP w u k go no (e j) else 0) i)) (nI i) (nI (e i)) z' := by
      rw [← x1, gM_EachAddsALineModel_countWays_10]
      by_cases d : beg w u k (e i)
      · rw [if_pos d] at eb
        by_cases c : fre w go no (e i)
        · rw [if_pos c] at ef
          rw [show (if beg w u k (e i) ∧ fre w go no (e i) then (1 : Nat) else 0) = 1 from if_pos ⟨d, c⟩]
          simp (disch := omega) only [Option.bind_some, ↓reduceIte, ↓M_1, ↓M_2, L_0, L_1, L_2, L_3, L_4, L_5, L_6, L_7, L_8, L_9, L_10, L_11, L_12, L_13, L_20, L_24, L_26, L_30, L_31, L_32, L_39, L_40, L_48, L_57, L_76, L_80, L_90, L_91, L_97, L_99, L_100, L_255, L_273, L_1000, L_2000, q_ld, q_ldL, q_sto, q_stoL, q_add, q_sub, q_mul, q_dec, q_rem, q_div, q_lt_t, q_lt_f, q_le_t, q_le_f, q_eq_t, q_eq_f, q_em, q_me, q_ml, q_lm, q_mle, q_lem, q_s1, q_s1o, q_s1k, q_s12, q_s2, q_s2o, q_s2k, q_s21, Nat.add_sub_cancel, q_or, q_and, q_shl, true_or, or_true, false_or, or_false, true_and, and_true, false_and, and_false, not_true_eq_false, not_false_eq_true, ne_eq, z30, z11, eb, ef, gM_EachAddsALineModel_countWays_59, l_1]
        · rw [if_neg c] at ef
          rw [if_neg (fun y : beg w u k (e i) ∧ fre w go no (e i) => c y.2)]
          simp (disch := omega) only [Option.bind_some, ↓reduceIte, ↓M_1, ↓M_2, L_0, L_1, L_2, L_3, L_4, L_5, L_6, L_7, L_8, L_9, L_10, L_11, L_12, L_13, L_20, L_24, L_26, L_30, L_31, L_32, L_39, L_40, L_48, L_57, L_76, L_80, L_90, L_91, L_97, L_99, L_100, L_255, L_273, L_1000, L_2000, q_ld, q_ldL, q_sto, q_stoL, q_add, q_sub, q_mul, q_dec, q_rem, q_div, q_lt_t, q_lt_f, q_le_t, q_le_f, q_eq_t, q_eq_f, q_em, q_me, q_ml, q_lm, q_mle, q_lem, q_s1, q_s1o, q_s1k, q_s12, q_s2, q_s2o, q_s2k, q_s21, Nat.add_sub_cancel, q_or, q_and, q_shl, true_or, or_true, false_or, or_false, true_and, and_true, false_and, and_false, not_true_eq_false, not_false_eq_true, ne_eq, z30, z11, eb, ef, gM_EachAddsALineModel_countWays_58, gM_EachAddsALineModel_countWays_59, l_0]
      · rw [if_neg d] at eb
        rw [if_neg (fun y : beg w u k (e i) ∧ fre w go no (e i) => d y.1)]
        simp (disch := omega) only [Option.bind_some, ↓reduceIte, ↓M_1, ↓M_2, L_0, L_1, L_2, L_3, L_4, L_5, L_6, L_7, L_8, L_9, L_10, L_11, L_12, L_13, L_20, L_24, L_26, L_30, L_31, L_32, L_39, L_40, L_48, L_57, L_76, L_80, L_90, L_91, L_97, L_99, L_100, L_255, L_273, L_1000, L_2000, q_ld, q_ldL, q_sto, q_stoL, q_add, q_sub, q_mul, q_dec, q_rem, q_div, q_lt_t, q_lt_f, q_le_t, q_le_f, q_eq_t, q_eq_f, q_em, q_me, q_ml, q_lm, q_mle, q_lem, q_s1, q_s1o, q_s1k, q_s12, q_s2, q_s2o, q_s2k, q_s21, Nat.add_sub_cancel, q_or, q_and, q_shl, true_or, or_true, false_or, or_false, true_and, and_true, false_and, and_false, not_true_eq_false, not_false_eq_true, ne_eq, z30, z11, eb, gM_EachAddsALineModel_countWays_58, gM_EachAddsALineModel_countWays_59, l_0]
    have f3 : Fm [] [14] [] t0 z' := (g3.tr fz2).tr x2
    refine Or.inl ⟨z', ?_, by omega, g2.tr ((fz2.tr x2).mono (by decide) (by decide) (by decide)), f3, fun j hj => ?_⟩
    · try simp only
      rw [estep, fb_sm_succ, gM_EachAddsALineModel_countWays_115]
      by_cases c : gt w (e i) = v
      · rw [if_pos c]
        simp (disch := omega) only [Option.bind_some, ↓reduceIte, ↓M_1, ↓M_2, L_0, L_1, L_2, L_3, L_4, L_5, L_6, L_7, L_8, L_9, L_10, L_11, L_12, L_13, L_20, L_24, L_26, L_30, L_31, L_32, L_39, L_40, L_48, L_57, L_76, L_80, L_90, L_91, L_97, L_99, L_100, L_255, L_273, L_1000, L_2000, q_ld, q_ldL, q_sto, q_stoL, q_add, q_sub, q_mul, q_dec, q_rem, q_div, q_lt_t, q_lt_f, q_le_t, q_le_f, q_eq_t, q_eq_f, q_em, q_me, q_ml, q_lm, q_mle, q_lem, q_s1, q_s1o, q_s1k, q_s12, q_s2, q_s2o, q_s2k, q_s21, Nat.add_sub_cancel, q_or, q_and, q_shl, true_or, or_true, false_or, or_false, true_and, and_true, false_and, and_false, not_true_eq_false, not_false_eq_true, ne_eq, eg, c, eT, lN_add, gM_EachAddsALineModel_countWays_138]
      · rw [if_neg c]
        have hg := gt_lt h.ok ha
        simp (disch := omega) only [Option.bind_some, ↓reduceIte, ↓M_1, ↓M_2, L_0, L_1, L_2, L_3, L_4, L_5, L_6, L_7, L_8, L_9, L_10, L_11, L_12, L_13, L_20, L_24, L_26, L_30, L_31, L_32, L_39, L_40, L_48, L_57, L_76, L_80, L_90, L_91, L_97, L_99, L_100, L_255, L_273, L_1000, L_2000, q_ld, q_ldL, q_sto, q_stoL, q_add, q_sub, q_mul, q_dec, q_rem, q_div, q_lt_t, q_lt_f, q_le_t, q_le_f, q_eq_t, q_eq_f, q_em, q_me, q_ml, q_lm, q_mle, q_lem, q_s1, q_s1o, q_s1k, q_s12, q_s2, q_s2o, q_s2k, q_s21, Nat.add_sub_cancel, q_or, q_and, q_shl, true_or, or_true, false_or, or_false, true_and, and_true, false_and, and_false, not_true_eq_false, not_false_eq_true, ne_eq, eg, l_0, lN_add, gM_EachAddsALineModel_countWays_138]
    · by_cases c : j = i
      · rw [c]; exact eT
      · have ne : e j ≠ e i := fun y => c (srt_inj a5 (by omega) hi y)
        rw [x3 _ ne, q_s2k ne]
        exact g4 j (by omega)
  · rintro f z ⟨g1, g2, g3, g4⟩
    have z30 : z.1 0 30 = nI (2 * w 5 1) := by rw [g3.2.2 30 (by decide)]; exact a3
    refine ⟨z, ?_, g2, hlt⟩
    try simp only
    rw [gM_EachAddsALineModel_countWays_10]
    simp (disch := omega) only [Option.bind_some, ↓reduceIte, ↓M_1, ↓M_2, L_0, L_1, L_2, L_3, L_4, L_5, L_6, L_7, L_8, L_9, L_10, L_11, L_12, L_13, L_20, L_24, L_26, L_30, L_31, L_32, L_39, L_40, L_48, L_57, L_76, L_80, L_90, L_91, L_97, L_99, L_100, L_255, L_273, L_1000, L_2000, q_ld, q_ldL, q_sto, q_stoL, q_add, q_sub, q_mul, q_dec, q_rem, q_div, q_lt_t, q_lt_f, q_le_t, q_le_f, q_eq_t, q_eq_f, q_em, q_me, q_ml, q_lm, q_mle, q_lem, q_s1, q_s1o, q_s1k, q_s12, q_s2, q_s2o, q_s2k, q_s21, Nat.add_sub_cancel, q_or, q_and, q_shl, true_or, or_true, false_or, or_false, true_and, and_true, false_and, and_false, not_true_eq_false, not_false_eq_true, ne_eq, z30]
def wy (w : Nat → Nat → Nat) (T : Nat → Nat) (u r n : Nat) : Nat := fb_sm (fun s => if beg w u r s then T s else 0) n
theorem wy_hop (h : okW w) (T : Nat → Nat) (u r : Nat) {m : Nat} (hm : m < w 5 1) : wy w T u r (2 * (m + 1)) = wy w T u r (2 * m) + (if (w 1 m = u ∨ w 2 m = u) ∧ beg w u r (ix w m u) then T (ix w m u) else 0) := by
  have hq := (h.2.2.2 m hm).2.2.1
  unfold wy
  rw [show 2 * (m + 1) = 2 * m + 1 + 1 by omega, fb_sm_succ, fb_sm_succ]
  by_cases c1 : w 1 m = u
  · have n2 : ¬ beg w u r (2 * m + 1) := fun z => hq (by have := z.1; rw [gv_1] at this; rw [c1, this])
    rw [if_neg n2, Nat.add_zero, show ix w m u = 2 * m from if_pos c1]
    by_cases d : beg w u r (2 * m)
    · rw [if_pos d, if_pos ⟨Or.inl c1, d⟩]
    · rw [if_neg d, if_neg (fun z => d z.2)]
  · have n1 : ¬ beg w u r (2 * m) := fun z => c1 (by have := z.1; rw [gv_0] at this; exact this)
    rw [if_neg n1, Nat.add_zero, show ix w m u = 2 * m + 1 from if_neg c1]
    by_cases d : beg w u r (2 * m + 1)
    · have c2 : w 2 m = u := by have := d.1; rw [gv_1] at this; exact this
      rw [if_pos d, if_pos ⟨Or.inr c2, d⟩]
    · rw [if_neg d, if_neg (fun z => d z.2)]
theorem C_waysOn {T : Nat → Nat} {r : Nat} (h : CW w s) (hN : 60 ≤ N) (hu : u < w 5 0) (hr' : r < 1000) (hT : ∀ o, o < 2 * w 5 1 → beg w u r o → s.2 44 (sw o) = lN (T o)) : fC_Paths_waysOn N (nI u) (nI r) s = some (lN (wy w T u r (2 * w 5 1)), s) := by
  have hb := h.bd
  simp (disch := omega) only [Option.bind_some, ↓reduceIte, ↓M_1, ↓M_2, L_0, L_1, L_2, L_3, L_4, L_5, L_6, L_7, L_8, L_9, L_10, L_11, L_12, L_13, L_20, L_24, L_26, L_30, L_31, L_32, L_39, L_40, L_48, L_57, L_76, L_80, L_90, L_91, L_97, L_99, L_100, L_255, L_273, L_1000, L_2000, q_ld, q_ldL, q_sto, q_stoL, q_add, q_sub, q_mul, q_dec, q_rem, q_div, q_lt_t, q_lt_f, q_le_t, q_le_f, q_eq_t, q_eq_f, q_em, q_me, q_ml, q_lm, q_mle, q_lem, q_s1, q_s1o, q_s1k, q_s12, q_s2, q_s2o, q_s2k, q_s21, Nat.add_sub_cancel, q_or, q_and, q_shl, true_or, or_true, false_or, or_false, true_and, and_true, false_and, and_false, not_true_eq_false, not_false_eq_true, ne_eq, fC_Paths_waysOn, gC_Paths_waysOn_0, l_0]
  refine loopS (fun f i (a : Nat) => gC_Paths_waysOn_5 N f (nI u) (nI r) (lN a) (nI i) s) (fun i => wy w T u r (2 * i)) (w 5 1) _ (fun f m hm => ?_) (fun f => ?_) N (by omega)
  · have ha := C_isAt (N := N) h hm hu
    have h3 : w 3 m ≤ 99 := (h.ok.2.2.2 m hm).2.2.2.1
    have es := wy_hop h.ok T u r hm
    show gC_Paths_waysOn_5 N (f + 1) (nI u) (nI r) (lN (wy w T u r (2 * m))) (nI m) s = gC_Paths_waysOn_5 N f (nI u) (nI r) (lN (wy w T u r (2 * (m + 1)))) (nI (m + 1)) s
    rw [es]
    generalize wy w T u r (2 * m) = a
    by_cases c : w 1 m = u ∨ w 2 m = u
    · rw [if_pos c] at ha
      by_cases d : r ≤ w 3 m
      · have hbg : beg w u r (ix w m u) := ⟨ix_gv c, by rw [ix_hr]; exact d⟩
        have hi := ix_lt (w := w) u hm
        have hsw := sw_lt hi
        have k1 := hT _ hi hbg
        have ep := C_place (N := N) h hm c hu
        rw [if_pos ⟨c, hbg⟩, gC_Paths_waysOn_5]
        simp (disch := omega) only [Option.bind_some, ↓reduceIte, ↓M_1, ↓M_2, L_0, L_1, L_2, L_3, L_4, L_5, L_6, L_7, L_8, L_9, L_10, L_11, L_12, L_13, L_20, L_24, L_26, L_30, L_31, L_32, L_39, L_40, L_48, L_57, L_76, L_80, L_90, L_91, L_97, L_99, L_100, L_255, L_273, L_1000, L_2000, q_ld, q_ldL, q_sto, q_stoL, q_add, q_sub, q_mul, q_dec, q_rem, q_div, q_lt_t, q_lt_f, q_le_t, q_le_f, q_eq_t, q_eq_f, q_em, q_me, q_ml, q_lm, q_mle, q_lem, q_s1, q_s1o, q_s1k, q_s12, q_s2, q_s2o, q_s2k, q_s21, Nat.add_sub_cancel, q_or, q_and, q_shl, true_or, or_true, false_or, or_false, true_and, and_true, false_and, and_false, not_true_eq_false, not_false_eq_true, ne_eq, h.m, ha, h.h hm, C_otherAt h hm hu, ep, k1, lN_add, gC_Paths_waysOn_71]
      · rw [if_neg (fun z => d (by have := z.2.2; rw [ix_hr] at this; exact this)), Nat.add_zero a, gC_Paths_waysOn_5]
        simp (disch := omega) only [Option.bind_some, ↓reduceIte, ↓M_1, ↓M_2, L_0, L_1, L_2, L_3, L_4, L_5, L_6, L_7, L_8, L_9, L_10, L_11, L_12, L_13, L_20, L_24, L_26, L_30, L_31, L_32, L_39, L_40, L_48, L_57, L_76, L_80, L_90, L_91, L_97, L_99, L_100, L_255, L_273, L_1000, L_2000, q_ld, q_ldL, q_sto, q_stoL, q_add, q_sub, q_mul, q_dec, q_rem, q_div, q_lt_t, q_lt_f, q_le_t, q_le_f, q_eq_t, q_eq_f, q_em, q_me, q_ml, q_lm, q_mle, q_lem, q_s1, q_s1o, q_s1k, q_s12, q_s2, q_s2o, q_s2k, q_s21, Nat.add_sub_cancel, q_or, q_and, q_shl, true_or, or_true, false_or, or_false, true_and, and_true, false_and, and_false, not_true_eq_false, not_false_eq_true, ne_eq, h.m, ha, h.h hm, gC_Paths_waysOn_71]
    · rw [if_neg c] at ha
      rw [if_neg (fun z => c z.1), Nat.add_zero a, gC_Paths_waysOn_5]
      simp (disch := omega) only [Option.bind_some, ↓reduceIte, ↓M_1, ↓M_2, L_0, L_1, L_2, L_3, L_4, L_5, L_6, L_7, L_8, L_9, L_10, L_11, L_12, L_13, L_20, L_24, L_26, L_30, L_31, L_32, L_39, L_40, L_48, L_57, L_76, L_80, L_90, L_91, L_97, L_99, L_100, L_255, L_273, L_1000, L_2000, q_ld, q_ldL, q_sto, q_stoL, q_add, q_sub, q_mul, q_dec, q_rem, q_div, q_lt_t, q_lt_f, q_le_t, q_le_f, q_eq_t, q_eq_f, q_em, q_me, q_ml, q_lm, q_mle, q_lem, q_s1, q_s1o, q_s1k, q_s12, q_s2, q_s2o, q_s2k, q_s21, Nat.add_sub_cancel, q_or, q_and, q_shl, true_or, or_true, false_or, or_false, true_and, and_true, false_and, and_false, not_true_eq_false, not_false_eq_true, ne_eq, h.m, ha, gC_Paths_waysOn_71]
  · show gC_Paths_waysOn_5 N (f + 1) (nI u) (nI r) (lN (wy w T u r (2 * w 5 1))) (nI (w 5 1)) s = _
    rw [gC_Paths_waysOn_5]
    simp (disch := omega) only [Option.bind_some, ↓reduceIte, ↓M_1, ↓M_2, L_0, L_1, L_2, L_3, L_4, L_5, L_6, L_7, L_8, L_9, L_10, L_11, L_12, L_13, L_20, L_24, L_26, L_30, L_31, L_32, L_39, L_40, L_48, L_57, L_76, L_80, L_90, L_91, L_97, L_99, L_100, L_255, L_273, L_1000, L_2000, q_ld, q_ldL, q_sto, q_stoL, q_add, q_sub, q_mul, q_dec, q_rem, q_div, q_lt_t, q_lt_f, q_le_t, q_le_f, q_eq_t, q_eq_f, q_em, q_me, q_ml, q_lm, q_mle, q_lem, q_s1, q_s1o, q_s1k, q_s12, q_s2, q_s2o, q_s2k, q_s21, Nat.add_sub_cancel, q_or, q_and, q_shl, true_or, or_true, false_or, or_false, true_and, and_true, false_and, and_false, not_true_eq_false, not_false_eq_true, ne_eq, h.m]
theorem tL : ∀ k : Int32, k = nI 0 ∨ k = nI 1 → k.toInt64 = lN (if k = nI 1 then 1 else 0) := fun k hk => by
  rcases hk with rfl | rfl <;> decide
theorem C_waysBehind {T : Nat → Nat} (h : CW w s) (hN : 60 ≤ N) (hv : v < w 5 0) {a : Nat} (ha : a < 2 * w 5 1) (hT : ∀ o, o < 2 * w 5 1 → beg w (gt w a) (rd w a) o → s.2 44 (sw o) = lN (T o)) : fC_Paths_waysBehind N (nI (sw a)) (nI v) s = some (lN (FN w v 100 100 T a), s) := by
  have hb := h.bd
  have eg := C_getter (N := N) h ha
  have er := C_ready (N := N) h ha
  have h9 := gt_lt h.ok ha
  have hrd := rd_le h.ok ha
  have ew := C_waysOn (N := N) (T := T) h hN h9 (show rd w a < 1000 by omega) hT
  have e0 : (nI 0).toInt64 = lN 0 := by decide
  have e1 : (nI 1).toInt64 = lN 1 := by decide
  have eF : FN w v 100 100 T a = (if gt w a = v then 1 else 0) + wy w T (gt w a) (rd w a) (2 * w 5 1) := if_pos ⟨by omega, by omega⟩
  rw [eF]
  by_cases c : gt w a = v
  · rw [if_pos c, ← lN_add]
    rw [c] at ew eg ⊢
    simp (disch := omega) only [Option.bind_some, ↓reduceIte, ↓M_1, ↓M_2, L_0, L_1, L_2, L_3, L_4, L_5, L_6, L_7, L_8, L_9, L_10, L_11, L_12, L_13, L_20, L_24, L_26, L_30, L_31, L_32, L_39, L_40, L_48, L_57, L_76, L_80, L_90, L_91, L_97, L_99, L_100, L_255, L_273, L_1000, L_2000, q_ld, q_ldL, q_sto, q_stoL, q_add, q_sub, q_mul, q_dec, q_rem, q_div, q_lt_t, q_lt_f, q_le_t, q_le_f, q_eq_t, q_eq_f, q_em, q_me, q_ml, q_lm, q_mle, q_lem, q_s1, q_s1o, q_s1k, q_s12, q_s2, q_s2o, q_s2k, q_s21, Nat.add_sub_cancel, q_or, q_and, q_shl, true_or, or_true, false_or, or_false, true_and, and_true, false_and, and_false, not_true_eq_false, not_false_eq_true, ne_eq, fC_Paths_waysBehind, gC_Paths_waysBehind_0, gC_Paths_waysBehind_19, eg, er, ew, e1]
  · rw [if_neg c, ← lN_add]
    simp (disch := omega) only [Option.bind_some, ↓reduceIte, ↓M_1, ↓M_2, L_0, L_1, L_2, L_3, L_4, L_5, L_6, L_7, L_8, L_9, L_10, L_11, L_12, L_13, L_20, L_24, L_26, L_30, L_31, L_32, L_39, L_40, L_48, L_57, L_76, L_80, L_90, L_91, L_97, L_99, L_100, L_255, L_273, L_1000, L_2000, q_ld, q_ldL, q_sto, q_stoL, q_add, q_sub, q_mul, q_dec, q_rem, q_div, q_lt_t, q_lt_f, q_le_t, q_le_f, q_eq_t, q_eq_f, q_em, q_me, q_ml, q_lm, q_mle, q_lem, q_s1, q_s1o, q_s1k, q_s12, q_s2, q_s2o, q_s2k, q_s21, Nat.add_sub_cancel, q_or, q_and, q_shl, true_or, or_true, false_or, or_false, true_and, and_true, false_and, and_false, not_true_eq_false, not_false_eq_true, ne_eq, fC_Paths_waysBehind, gC_Paths_waysBehind_0, gC_Paths_waysBehind_19, eg, er, ew, e0]
theorem C_countWays (h : CW w s) (hN : 60 ≤ N) (hu : u < w 5 0) (hv : v < w 5 0) (hk : k < 1000) : ∃ z, fC_Paths_countWays N (nI u) (nI v) (nI k) s = some (lN (cw w u v k 100 100), z) ∧ Fr [] [44] s z := by
  have hb := h.bd
  have em : nI (w 5 1) - nI 1 = nI (w 5 1) + mI 1 := Int32.sub_eq_add_neg _ _
  simp (disch := omega) only [Option.bind_some, ↓reduceIte, ↓M_1, ↓M_2, L_0, L_1, L_2, L_3, L_4, L_5, L_6, L_7, L_8, L_9, L_10, L_11, L_12, L_13, L_20, L_24, L_26, L_30, L_31, L_32, L_39, L_40, L_48, L_57, L_76, L_80, L_90, L_91, L_97, L_99, L_100, L_255, L_273, L_1000, L_2000, q_ld, q_ldL, q_sto, q_stoL, q_add, q_mul, q_rem, q_div, q_lt_t, q_lt_f, q_le_t, q_le_f, q_eq_t, q_eq_f, q_em, q_me, q_ml, q_lm, q_mle, q_lem, q_s1, q_s1o, q_s1k, q_s12, q_s2, q_s2o, q_s2k, q_s21, Nat.add_sub_cancel, q_or, q_and, q_shl, true_or, or_true, false_or, or_false, true_and, and_true, false_and, and_false, not_true_eq_false, not_false_eq_true, ne_eq, fC_Paths_countWays, gC_Paths_countWays_0, h.m, em]
  refine loopD (fun f i z => gC_Paths_countWays_11 N f (nI u) (nI v) (nI k) (nI i + mI 1) z) (w 5 1) (fun i z => i ≤ w 5 1 ∧ Fr [] [44] s z ∧ ∀ j o, j < w 5 1 → i ≤ j → o < 2 * w 5 1 → o / 2 = w 6 j → z.2 44 (sw o) = lN (TN w v 100 100 o))
    (fun o => ∃ z, o = some (lN (cw w u v k 100 100), z) ∧ Fr [] [44] s z) ?_ ?_ (w 5 1) N s (Nat.le_refl _) (by omega) ⟨Nat.le_refl _, Fr.rf, fun j o h1 h2 => by omega⟩
  · rintro f i z hi ⟨h1, h2, h5⟩
    have hz : CW w z := h.fr h2 (by decide)
    have e1 : nI (i + 1) + mI 1 = nI i := q_dec (by omega)
    have hm := h.or.1 i hi
    have eo : z.1 15 i = nI (w 6 i) := hz.o hi
    have hKz : ∀ z' : vSt, (∀ o, o < 2 * w 5 1 → o / 2 ≠ w 6 i → z'.2 44 (sw o) = z.2 44 (sw o)) → ∀ a, a < 2 * w 5 1 → a / 2 = w 6 i → ∀ o, o < 2 * w 5 1 → beg w (gt w a) (rd w a) o → z'.2 44 (sw o) = lN (TN w v 100 100 o) := fun z' hz' a ha1 ha2 o ho hbg => by
      have hlt := Nat.lt_of_lt_of_le (rd_gt h.ok ha1) hbg.2
      have hne : o / 2 ≠ w 6 i := fun y => by
        unfold hr at hlt
        rw [ha2, y] at hlt
        exact absurd hlt (Nat.lt_irrefl _)
      obtain ⟨j, j1, j2⟩ := h.or.2.2 (o / 2) (by omega)
      have hkj : i < j := by
        rcases Nat.lt_trichotomy i j with d | d | d
        · exact d
        · subst d; exact absurd j2.symm hne
        · have := h.or.2.1 j i d hi
          rw [j2, ← ha2] at this
          unfold hr at hlt
          omega
      exact (hz' o ho hne).trans (h5 j o j1 (by omega) ho j2.symm)
    have ha0 : 2 * w 6 i + 1 < 2 * w 5 1 := by omega
    have ha1 : 2 * w 6 i < 2 * w 5 1 := by omega
    have r0 := C_waysBehind (N := N) (v := v) (T := TN w v 100 100) hz hN hv ha0 (hKz z (fun _ _ _ => rfl) _ ha0 (by omega))
    rw [sw_1, ← TN_rec h.ok ha0] at r0
    have hz1 : CW w (s2 z 44 (2 * w 6 i) (lN (TN w v 100 100 (2 * w 6 i + 1)))) := hz.fr (Fr.s2 (L := []) (K := [44]) (by decide)) (by decide)
    have r1 := C_waysBehind (N := N) (v := v) (T := TN w v 100 100) hz1 hN hv ha1 (hKz _ (fun o ho hne => q_s2k (fun y => hne (by have := sw_half o; omega))) _ ha1 (by omega))
    rw [sw_0, ← TN_rec h.ok ha1] at r1
    refine Or.inl ⟨s2 (s2 z 44 (2 * w 6 i) (lN (TN w v 100 100 (2 * w 6 i + 1)))) 44 (2 * w 6 i + 1) (lN (TN w v 100 100 (2 * w 6 i))), ?_, by omega, (h2.tr (Fr.s2 (by decide))).tr (Fr.s2 (by decide)), fun j o j1 j2 o1 o2 => ?_⟩
    · try simp only [e1]
      rw [gC_Paths_countWays_11]
      simp (disch := omega) only [Option.bind_some, ↓reduceIte, ↓M_1, ↓M_2, L_0, L_1, L_2, L_3, L_4, L_5, L_6, L_7, L_8, L_9, L_10, L_11, L_12, L_13, L_20, L_24, L_26, L_30, L_31, L_32, L_39, L_40, L_48, L_57, L_76, L_80, L_90, L_91, L_97, L_99, L_100, L_255, L_273, L_1000, L_2000, q_ld, q_ldL, q_sto, q_stoL, q_add, q_sub, q_mul, q_rem, q_div, q_lt_t, q_lt_f, q_le_t, q_le_f, q_eq_t, q_eq_f, q_em, q_me, q_ml, q_lm, q_mle, q_lem, q_s1, q_s1o, q_s1k, q_s12, q_s2, q_s2o, q_s2k, q_s21, Nat.add_sub_cancel, q_or, q_and, q_shl, true_or, or_true, false_or, or_false, true_and, and_true, false_and, and_false, not_true_eq_false, not_false_eq_true, ne_eq, eo, r0, r1]
    · by_cases d : j = i
      · subst d
        have oo : o = 2 * w 6 j ∨ o = 2 * w 6 j + 1 := by omega
        rcases oo with oo | oo
        · rw [oo, sw_0, q_s2]
        · rw [oo, sw_1, q_s2k (by omega), q_s2]
      · have hne : o / 2 ≠ w 6 i := fun y => by
          rcases Nat.lt_trichotomy j i with g | g | g
          · omega
          · exact d g
          · have := h.or.2.1 i j g j1
            rw [← o2, y] at this
            omega
        have hh := sw_half o
        rw [q_s2k (by omega), q_s2k (by omega)]
        exact h5 j o j1 (by omega) o1 o2
  · rintro f z ⟨h1, h2, h5⟩
    have hz : CW w z := h.fr h2 (by decide)
    have ew := C_waysOn (N := N) (T := TN w v 100 100) hz hN hu hk (fun o ho _ => by
      obtain ⟨j, j1, j2⟩ := h.or.2.2 (o / 2) (by omega)
      exact h5 j o j1 (by omega) ho j2.symm)
    rw [show wy w (TN w v 100 100) u k (2 * w 5 1) = cw w u v k 100 100 from (cw_back h.ok).symm] at ew
    refine ⟨z, ?_, h2⟩
    show gC_Paths_countWays_11 N (f + 1) (nI u) (nI v) (nI k) (nI 0 + mI 1) z = _
    rw [gC_Paths_countWays_11, if_pos (by decide), ew]
    simp (disch := omega) only [Option.bind_some, ↓reduceIte, ↓M_1, ↓M_2, L_0, L_1, L_2, L_3, L_4, L_5, L_6, L_7, L_8, L_9, L_10, L_11, L_12, L_13, L_20, L_24, L_26, L_30, L_31, L_32, L_39, L_40, L_48, L_57, L_76, L_80, L_90, L_91, L_97, L_99, L_100, L_255, L_273, L_1000, L_2000, q_ld, q_ldL, q_sto, q_stoL, q_add, q_sub, q_mul, q_dec, q_rem, q_div, q_lt_t, q_lt_f, q_le_t, q_le_f, q_eq_t, q_eq_f, q_em, q_me, q_ml, q_lm, q_mle, q_lem, q_s1, q_s1o, q_s1k, q_s12, q_s2, q_s2o, q_s2k, q_s21, Nat.add_sub_cancel, q_or, q_and, q_shl, true_or, or_true, false_or, or_false, true_and, and_true, false_and, and_false, not_true_eq_false, not_false_eq_true, ne_eq]
theorem keeps3L_trip (hU : okU U) {fC fM : Nat → Int32 → Int32 → Int32 → vSt → Option (Int64 × vSt)}
    (c0 : ∀ w s a b c, CW w s → fC_EachAddsALine_isTrip N a b c s = some (0, s) → fC N a b c s = some (-1, s))
    (m0 : ∀ w t a b c, MW w t → fM_EachAddsALineModel_isTrip N a b c (s1 t 0 11 (nI 0)) = some (0, s1 t 0 11 (nI 0)) → fM N a b c t = some (-1, s1 t 0 11 (nI 0)))
    (h : ∀ s t w u v k, RR U s t → CW w s → MW w t → u < w 5 0 → v < w 5 0 → k < 100 → fC_EachAddsALine_isTrip N (nI u) (nI v) (nI k) s = some (nI 1, s) → fM_EachAddsALineModel_isTrip N (nI u) (nI v) (nI k) (s1 t 0 11 (nI 0)) = some (nI 1, s1 t 0 11 (nI 0)) → ∃ r s' t', fC N (nI u) (nI v) (nI k) s = some (r, s') ∧ fM N (nI u) (nI v) (nI k) t = some (r, t') ∧ RR U s' t') : keeps3L N (RR U) fC fM := fun s t hr a b c => by
  obtain ⟨w, h1, h2, _⟩ := id hr
  have h2' := M_rd0 h2 (nI 0)
  by_cases d : trip w a b c
  · obtain ⟨⟨u, hu, rfl⟩, ⟨v, hv, rfl⟩, ⟨k, hk, rfl⟩⟩ := d
    exact h s t w u v k hr h1 h2 hu hv hk (C_isTrip_t h1 hu hv hk) (M_isTrip_t h2' hu hv hk)
  · exact ⟨_, _, _, c0 w s a b c h1 (C_isTrip_f h1 d), m0 w t a b c h2 (M_isTrip_f h2' d), hr.k0 hU⟩
theorem k_ways (hU : okU U) (hN : 200 ≤ N) : keeps3L N (RR U) fC_EachAddsALine_ways fM_EachAddsALineModel_ways := by
  refine keeps3L_trip hU (fun w s a b c hw e => by simp (disch := omega) only [Option.bind_some, ↓reduceIte, ↓M_1, ↓M_2, L_0, L_1, L_2, L_3, L_4, L_5, L_6, L_7, L_8, L_9, L_10, L_11, L_12, L_13, L_20, L_24, L_26, L_30, L_31, L_32, L_39, L_40, L_48, L_57, L_76, L_80, L_90, L_91, L_97, L_99, L_100, L_255, L_273, L_1000, L_2000, q_ld, q_ldL, q_sto, q_stoL, q_add, q_sub, q_mul, q_dec, q_rem, q_div, q_lt_t, q_lt_f, q_le_t, q_le_f, q_eq_t, q_eq_f, q_em, q_me, q_ml, q_lm, q_mle, q_lem, q_s1, q_s1o, q_s1k, q_s12, q_s2, q_s2o, q_s2k, q_s21, Nat.add_sub_cancel, q_or, q_and, q_shl, true_or, or_true, false_or, or_false, true_and, and_true, false_and, and_false, not_true_eq_false, not_false_eq_true, ne_eq, fC_EachAddsALine_ways, gC_EachAddsALine_ways_0, e]) (fun w t a b c hw e => by simp (disch := omega) only [Option.bind_some, ↓reduceIte, ↓M_1, ↓M_2, L_0, L_1, L_2, L_3, L_4, L_5, L_6, L_7, L_8, L_9, L_10, L_11, L_12, L_13, L_20, L_24, L_26, L_30, L_31, L_32, L_39, L_40, L_48, L_57, L_76, L_80, L_90, L_91, L_97, L_99, L_100, L_255, L_273, L_1000, L_2000, q_ld, q_ldL, q_sto, q_stoL, q_add, q_sub, q_mul, q_dec, q_rem, q_div, q_lt_t, q_lt_f, q_le_t, q_le_f, q_eq_t, q_eq_f, q_em, q_me, q_ml, q_lm, q_mle, q_lem, q_s1, q_s1o, q_s1k, q_s12, q_s2, q_s2o, q_s2k, q_s21, Nat.add_sub_cancel, q_or, q_and, q_shl, true_or, or_true, false_or, or_false, true_and, and_true, false_and, and_false, not_true_eq_false, not_false_eq_true, ne_eq, fM_EachAddsALineModel_ways, gM_EachAddsALineModel_ways_0, e]) (fun s t w u v k hr h1 h2 hu hv hk ec em => ?_)
  have hmc := hr.mc.r
  have h2' := M_rd0 h2 (nI 0)
  obtain ⟨z, x1, x2⟩ := C_countWays (N := N) h1 (by omega) hu hv (show k < 1000 by omega)
  obtain ⟨y, y1, y2, y3⟩ := M_countWays (N := N) (go := 100) (no := 100) h2' (by omega) hu hv (show k < 1000 by omega) (by simp (disch := omega) only [Option.bind_some, ↓reduceIte, ↓M_1, ↓M_2, L_0, L_1, L_2, L_3, L_4, L_5, L_6, L_7, L_8, L_9, L_10, L_11, L_12, L_13, L_20, L_24, L_26, L_30, L_31, L_32, L_39, L_40, L_48, L_57, L_76, L_80, L_90, L_91, L_97, L_99, L_100, L_255, L_273, L_1000, L_2000, q_ld, q_ldL, q_sto, q_stoL, q_add, q_sub, q_mul, q_dec, q_rem, q_div, q_lt_t, q_lt_f, q_le_t, q_le_f, q_eq_t, q_eq_f, q_em, q_me, q_ml, q_lm, q_mle, q_lem, q_s1, q_s1o, q_s1k, q_s12, q_s2, q_s2o, q_s2k, q_s21, Nat.add_sub_cancel, q_or, q_and, q_shl, true_or, or_true, false_or, or_false, true_and, and_true, false_and, and_false, not_true_eq_false, not_false_eq_true, ne_eq]; exact hmc.2.1) (by simp (disch := omega) only [Option.bind_some, ↓reduceIte, ↓M_1, ↓M_2, L_0, L_1, L_2, L_3, L_4, L_5, L_6, L_7, L_8, L_9, L_10, L_11, L_12, L_13, L_20, L_24, L_26, L_30, L_31, L_32, L_39, L_40, L_48, L_57, L_76, L_80, L_90, L_91, L_97, L_99, L_100, L_255, L_273, L_1000, L_2000, q_ld, q_ldL, q_sto, q_stoL, q_add, q_sub, q_mul, q_dec, q_rem, q_div, q_lt_t, q_lt_f, q_le_t, q_le_f, q_eq_t, q_eq_f, q_em, q_me, q_ml, q_lm, q_mle, q_lem, q_s1, q_s1o, q_s1k, q_s12, q_s2, q_s2o, q_s2k, q_s21, Nat.add_sub_cancel, q_or, q_and, q_shl, true_or, or_true, false_or, or_false, true_and, and_true, false_and, and_false, not_true_eq_false, not_false_eq_true, ne_eq]; exact hmc.2.2.1)
  refine ⟨lN (cw w u v k 100 100), z, y, ?_, ?_, hr.fr hU x2 ((Fm.w10 (by decide)).tr (y2.mono (by decide) (by decide) (by decide)) : Fm [11] [14] [11, 30] t y) (by decide) (by decide) (by decide)⟩
  · simp (disch := omega) only [Option.bind_some, ↓reduceIte, ↓M_1, ↓M_2, L_0, L_1, L_2, L_3, L_4, L_5, L_6, L_7, L_8, L_9, L_10, L_11, L_12, L_13, L_20, L_24, L_26, L_30, L_31, L_32, L_39, L_40, L_48, L_57, L_76, L_80, L_90, L_91, L_97, L_99, L_100, L_255, L_273, L_1000, L_2000, q_ld, q_ldL, q_sto, q_stoL, q_add, q_sub, q_mul, q_dec, q_rem, q_div, q_lt_t, q_lt_f, q_le_t, q_le_f, q_eq_t, q_eq_f, q_em, q_me, q_ml, q_lm, q_mle, q_lem, q_s1, q_s1o, q_s1k, q_s12, q_s2, q_s2o, q_s2k, q_s21, Nat.add_sub_cancel, q_or, q_and, q_shl, true_or, or_true, false_or, or_false, true_and, and_true, false_and, and_false, not_true_eq_false, not_false_eq_true, ne_eq, fC_EachAddsALine_ways, gC_EachAddsALine_ways_0, ec, x1]
  · simp (disch := omega) only [Option.bind_some, ↓reduceIte, ↓M_1, ↓M_2, L_0, L_1, L_2, L_3, L_4, L_5, L_6, L_7, L_8, L_9, L_10, L_11, L_12, L_13, L_20, L_24, L_26, L_30, L_31, L_32, L_39, L_40, L_48, L_57, L_76, L_80, L_90, L_91, L_97, L_99, L_100, L_255, L_273, L_1000, L_2000, q_ld, q_ldL, q_sto, q_stoL, q_add, q_sub, q_mul, q_dec, q_rem, q_div, q_lt_t, q_lt_f, q_le_t, q_le_f, q_eq_t, q_eq_f, q_em, q_me, q_ml, q_lm, q_mle, q_lem, q_s1, q_s1o, q_s1k, q_s12, q_s2, q_s2o, q_s2k, q_s21, Nat.add_sub_cancel, q_or, q_and, q_shl, true_or, or_true, false_or, or_false, true_and, and_true, false_and, and_false, not_true_eq_false, not_false_eq_true, ne_eq, fM_EachAddsALineModel_ways, gM_EachAddsALineModel_ways_0, em, y1]
end WS
