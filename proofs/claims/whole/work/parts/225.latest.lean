/-! latest, far, answer, ask, worst -/
section LA
variable {N : Nat} {U : vSt → vSt → Prop} {w : Nat → Nat → Nat} {s t : vSt} {u v k bb : Nat}
theorem TA_reach (h : okW w) (hbb : bb ≤ 99) : ∀ s, s < 2 * w 5 1 → (TA w v bb 0 0 s ≠ fC ↔ (TB w v 0 1000000 0 100 s).1 ≤ bb) := by
  have w00 : ∀ s, wo w 0 s = 0 := fun s => (if_neg (by decide)).trans (if_neg (by decide))
  refine downI (fun s hs => hr_le h hs) _ (fun s hs ih => ?_)
  have nog : ¬ s / 2 = 100 := by have := h.2.1; omega
  have hK := TA_rec (v := v) (bb := bb) (br := 0) (me := 0) h hs
  have e0 : FA w v bb 0 0 (TA w v bb 0 0) s = min (if gt w s = v ∧ hr w s ≤ bb then 0 else fC) (lf w 0 (TA w v bb 0 0) (gt w s) (rd w s) (2 * w 5 1)) := if_neg (by rw [Nat.zero_testBit]; decide)
  rw [e0] at hK
  have hub := lf_ub (w := w) (me := 0) (K := TA w v bb 0 0) (u := gt w s) (r := rd w s) (2 * w 5 1)
  have hat := lf_att (w := w) (me := 0) (K := TA w v bb 0 0) (u := gt w s) (r := rd w s) (2 * w 5 1)
  have wbn : ∀ o, o < 2 * w 5 1 → (wb w 0 (TA w v bb 0 0) o ≠ fC ↔ TA w v bb 0 0 o ≠ fC) := fun o ho => by
    have := wb_ok (me := 0) h ho (TA_ok (v := v) (bb := bb) (br := 0) (me := 0) h ho)
    have hw := wc_bd h 0 ho
    have hk := TA_ok (v := v) (bb := bb) (br := 0) (me := 0) h ho
    unfold wb
    by_cases c : TA w v bb 0 0 o = fC
    · rw [if_pos c]
      exact ⟨fun z => absurd rfl z, fun z => absurd c z⟩
    · rw [if_neg c]
      refine ⟨fun _ => c, fun _ => ?_⟩
      rcases hk with hk | hk
      · exact absurd hk c
      · unfold fC; omega
  have lfn : lf w 0 (TA w v bb 0 0) (gt w s) (rd w s) (2 * w 5 1) ≠ fC ↔ ∃ o, o < 2 * w 5 1 ∧ fol w o s ∧ (TB w v 0 1000000 0 100 o).1 ≤ bb := by
    constructor
    · intro z
      rcases hat with y | ⟨o, o1, o2, o3⟩
      · exact absurd y z
      · rw [o3] at z
        exact ⟨o, o1, o2, (ih o o1 (fol_lt h hs o2)).mp ((wbn o o1).mp z)⟩
    · rintro ⟨o, o1, o2, o3⟩ z
      have h1 := (wbn o o1).mpr ((ih o o1 (fol_lt h hs o2)).mpr o3)
      have h2 := hub.2 o o1 o2
      have h3 := wb_ok (me := 0) h o1 (TA_ok (v := v) (bb := bb) (br := 0) (me := 0) h o1)
      rw [z] at h2
      unfold fC at h1 h2 h3
      omega
  have lbd := lf_bd (me := 0) (u := gt w s) (r := rd w s) (K := TA w v bb 0 0) h (Nat.le_refl _) (fun o ho _ => TA_ok h ho)
  generalize lf w 0 (TA w v bb 0 0) (gt w s) (rd w s) (2 * w 5 1) = l at hK lfn lbd
  rw [hK]
  constructor
  · intro z
    by_cases c : gt w s = v ∧ hr w s ≤ bb
    · have := TB_e (v := v) (what := 0) (bb := 1000000) (br := 0) (go := 100) h hs c.1 (by omega) nog
      rw [if_pos rfl] at this
      unfold lessP at this
      simp only at this
      omega
    · rw [if_neg c] at z
      have hl : l ≠ fC := fun y => by rw [y] at z; exact z (by unfold fC; omega)
      obtain ⟨o, o1, o2, o3⟩ := lfn.mp hl
      have := TB_o (v := v) (what := 0) (bb := 1000000) (br := 0) (go := 100) h hs o1 o2 (Nat.zero_testBit _) nog (by omega)
      unfold prP at this
      rw [w00] at this
      unfold lessP at this
      simp only at this
      omega
  · intro z
    rcases TB_att (v := v) (what := 0) (bb := 1000000) (br := 0) (go := 100) h hs with y | ⟨z1, z2, z3, z4⟩ | ⟨o, z1, z2, z3, z4, z5, z6⟩
    · rw [y] at z
      simp only at z
      omega
    · rw [z4, if_pos rfl] at z
      rw [if_pos ⟨z1, z⟩]
      unfold fC at lbd ⊢
      omega
    · rw [z6] at z
      unfold prP at z
      rw [w00] at z
      have hl := lfn.mpr ⟨o, z1, z2, z⟩
      have b0 : (if gt w s = v ∧ hr w s ≤ bb then (0 : Int) else fC) = 0 ∨ (if gt w s = v ∧ hr w s ≤ bb then (0 : Int) else fC) = fC := by
        split
        · exact Or.inl rfl
        · exact Or.inr rfl
      generalize (if gt w s = v ∧ hr w s ≤ bb then (0 : Int) else fC) = b at b0
      unfold fC at lbd b0 hl ⊢
      omega
/-- the latest hour at which it can be written, one above; 0: none -/
def lat (w : Nat → Nat → Nat) (u v bb n : Nat) : Nat := fz (fun s x => if gv w s = u ∧ (TB w v 0 1000000 0 100 s).1 ≤ bb then max x (hr w s + 1) else x) 0 n
theorem lat_ok (h : okW w) {n : Nat} (hn : n ≤ 2 * w 5 1) : lat w u v bb n ≤ 100 ∧ ∀ e, (e < lat w u v bb n) ↔ ∃ s, s < n ∧ gv w s = u ∧ e ≤ hr w s ∧ (TB w v 0 1000000 0 100 s).1 ≤ bb := by
  refine fz_ind (f := fun s x => if gv w s = u ∧ (TB w v 0 1000000 0 100 s).1 ≤ bb then max x (hr w s + 1) else x) (z := 0) (n := n) (fun i a => a ≤ 100 ∧ ∀ e, (e < a) ↔ ∃ s, s < i ∧ gv w s = u ∧ e ≤ hr w s ∧ (TB w v 0 1000000 0 100 s).1 ≤ bb) ⟨by omega, fun e => ⟨fun z => by omega, fun ⟨s, z, _⟩ => by omega⟩⟩ (fun i a hi ha => ?_) n (Nat.le_refl _)
  have h9 := hr_le h (s := i) (by omega)
  by_cases c : gv w i = u ∧ (TB w v 0 1000000 0 100 i).1 ≤ bb
  · rw [if_pos c]
    refine ⟨by omega, fun e => ⟨fun z => ?_, ?_⟩⟩
    · by_cases d : e < a
      · obtain ⟨s, z1, z2⟩ := (ha.2 e).mp d
        exact ⟨s, by omega, z2⟩
      · exact ⟨i, by omega, c.1, by omega, c.2⟩
    · rintro ⟨s, z1, z2, z3, z4⟩
      by_cases d : s = i
      · subst d; omega
      · have := (ha.2 e).mpr ⟨s, by omega, z2, z3, z4⟩; omega
  · rw [if_neg c]
    refine ⟨ha.1, fun e => ⟨fun z => ?_, ?_⟩⟩
    · obtain ⟨s, z1, z2⟩ := (ha.2 e).mp z
      exact ⟨s, by omega, z2⟩
    · rintro ⟨s, z1, z2, z3, z4⟩
      by_cases d : s = i
      · subst d; exact absurd ⟨z2, z4⟩ c
      · exact (ha.2 e).mpr ⟨s, by omega, z2, z3, z4⟩
def laI (x : Nat) : Int32 := if x = 0 then mI 2 else nI (x - 1)
theorem laI_s (x : Nat) : laI (x + 1) = nI x := if_neg (Nat.succ_ne_zero x)
theorem laI_max {a e : Nat} (ha : a ≤ 100) (he : e ≤ 99) : (if laI a < nI e then nI e else laI a) = laI (max a (e + 1)) := by
  cases a with
  | zero =>
    rw [show max 0 (e + 1) = e + 1 by omega, laI_s, show laI 0 = mI 2 from rfl, if_pos (of_eq_true (q_ml (a := e) (b := 2) (by omega) (by decide) (by omega)))]
  | succ b => rw [show max (b + 1) (e + 1) = max b e + 1 by omega, laI_s, laI_s, q_max (by omega) (by omega)]
theorem C_latestStart (h : CW w s) (hN : 200 ≤ N) (hu : u < w 5 0) (hv : v < w 5 0) (hbb : bb ≤ 99) : ∃ z, fC_Paths_latestStart N (nI u) (nI v) (nI bb) s = some (laI (lat w u v bb (2 * w 5 1)), z) ∧ Fr [41, 43] [] s z := by
  have hb := h.bd
  obtain ⟨z, a1, a2, a3, a4, a5⟩ := C_aim (N := N) (me := 0) h (by omega) (by decide) hv (show bb < 2 ^ 31 by omega) shuts0
  have hz : CW w z := h.fr a2 (by decide)
  refine ⟨z, ?_, a2⟩
  simp (disch := omega) only [Option.bind_some, ↓reduceIte, ↓M_1, ↓M_2, L_0, L_1, L_2, L_3, L_4, L_5, L_6, L_7, L_8, L_9, L_10, L_11, L_12, L_13, L_20, L_24, L_26, L_30, L_31, L_32, L_39, L_40, L_48, L_57, L_76, L_80, L_90, L_91, L_97, L_99, L_100, L_255, L_273, L_1000, L_2000, q_ld, q_ldL, q_sto, q_stoL, q_add, q_sub, q_mul, q_dec, q_rem, q_div, q_lt_t, q_lt_f, q_le_t, q_le_f, q_eq_t, q_eq_f, q_em, q_me, q_ml, q_lm, q_mle, q_lem, q_s1, q_s1o, q_s1k, q_s12, q_s2, q_s2o, q_s2k, q_s21, Nat.add_sub_cancel, q_or, q_and, q_shl, true_or, or_true, false_or, or_false, true_and, and_true, false_and, and_false, not_true_eq_false, not_false_eq_true, ne_eq, fC_Paths_latestStart, gC_Paths_latestStart_0, a1]
  refine loopS (fun f i (a : Nat) => gC_Paths_latestStart_15 N f (nI u) (laI a) (nI i) z) (fun i => lat w u v bb (2 * i)) (w 5 1) _ (fun f m hm => ?_) (fun f => ?_) N (by omega)
  · have ew := C_weightBy (N := N) (K := TA w v bb 0 0) hz a4 (by decide) hu (show 0 < 1000 by decide) hm (fun o ho _ => ⟨a5 o ho, TA_ok h.ok ho⟩)
    have hok := (lat_ok (u := u) (v := v) (bb := bb) h.ok (n := 2 * m) (by omega)).1
    have hi := ix_lt (w := w) u hm
    have es : lat w u v bb (2 * (m + 1)) = if w 1 m = u ∨ w 2 m = u then (if (TB w v 0 1000000 0 100 (ix w m u)).1 ≤ bb then max (lat w u v bb (2 * m)) (w 3 m + 1) else lat w u v bb (2 * m)) else lat w u v bb (2 * m) := by
      have q1 := fz_hop (f := fun s x => if gv w s = u ∧ (TB w v 0 1000000 0 100 s).1 ≤ bb then max x (hr w s + 1) else x) (z := 0) h.ok u (fun s x hs hg => if_neg (fun z => hg z.1)) (show m + 1 ≤ w 5 1 by omega)
      have q0 := fz_hop (f := fun s x => if gv w s = u ∧ (TB w v 0 1000000 0 100 s).1 ≤ bb then max x (hr w s + 1) else x) (z := 0) h.ok u (fun s x hs hg => if_neg (fun z => hg z.1)) (show m ≤ w 5 1 by omega)
      unfold lat
      rw [q1, fz, ← q0]
      by_cases c : w 1 m = u ∨ w 2 m = u
      · rw [if_pos c, if_pos c, ix_hr]
        have hg := ix_gv (w := w) (m := m) (u := u) c
        by_cases d : (TB w v 0 1000000 0 100 (ix w m u)).1 ≤ bb
        · rw [if_pos ⟨hg, d⟩, if_pos d]
        · rw [if_neg (fun z => d z.2), if_neg d]
      · rw [if_neg c, if_neg c]
    show gC_Paths_latestStart_15 N (f + 1) (nI u) (laI (lat w u v bb (2 * m))) (nI m) z = gC_Paths_latestStart_15 N f (nI u) (laI (lat w u v bb (2 * (m + 1)))) (nI (m + 1)) z
    rw [es]
    generalize lat w u v bb (2 * m) = a at hok
    have h3 : w 3 m ≤ 99 := (h.ok.2.2.2 m hm).2.2.2.1
    have skip : fC_Paths_weightBy N (nI m) (nI u) (nI 0) z = some (iZ fC, z) → gC_Paths_latestStart_15 N (f + 1) (nI u) (laI a) (nI m) z = gC_Paths_latestStart_15 N f (nI u) (laI a) (nI (m + 1)) z := fun y => by
      rw [← z_F] at y
      rw [gC_Paths_latestStart_15]
      simp (disch := omega) only [Option.bind_some, ↓reduceIte, ↓M_1, ↓M_2, L_0, L_1, L_2, L_3, L_4, L_5, L_6, L_7, L_8, L_9, L_10, L_11, L_12, L_13, L_20, L_24, L_26, L_30, L_31, L_32, L_39, L_40, L_48, L_57, L_76, L_80, L_90, L_91, L_97, L_99, L_100, L_255, L_273, L_1000, L_2000, q_ld, q_ldL, q_sto, q_stoL, q_add, q_sub, q_mul, q_dec, q_rem, q_div, q_lt_t, q_lt_f, q_le_t, q_le_f, q_eq_t, q_eq_f, q_em, q_me, q_ml, q_lm, q_mle, q_lem, q_s1, q_s1o, q_s1k, q_s12, q_s2, q_s2o, q_s2k, q_s21, Nat.add_sub_cancel, q_or, q_and, q_shl, true_or, or_true, false_or, or_false, true_and, and_true, false_and, and_false, not_true_eq_false, not_false_eq_true, ne_eq, hz.m, y, L_1048576, gC_Paths_latestStart_57]
    by_cases c : w 1 m = u ∨ w 2 m = u
    · rw [if_pos c]
      have hbg : beg w u 0 (ix w m u) := ⟨ix_gv c, Nat.zero_le _⟩
      rw [if_pos ⟨c, hbg⟩] at ew
      have hre := TA_reach (v := v) h.ok hbb _ hi
      by_cases d : (TB w v 0 1000000 0 100 (ix w m u)).1 ≤ bb
      · rw [if_pos d]
        have hk := TA_ok (v := v) (bb := bb) (br := 0) (me := 0) h.ok hi
        have hwc := wc_bd h.ok 0 hi
        have hne : wb w 0 (TA w v bb 0 0) (ix w m u) ≠ 1048576 := by
          unfold wb
          rw [if_neg (hre.mpr d)]
          rcases hk with hk | hk
          · exact absurd hk (hre.mpr d)
          · omega
        have hwk := wb_ok (me := 0) h.ok hi hk
        generalize wb w 0 (TA w v bb 0 0) (ix w m u) = b at ew hne hwk
        unfold fC at hwk
        have e1 : (iZ b = nI 1048576) = False := by
          rw [z_F, z_eq (by omega) (by omega) (by decide) (by decide)]
          exact eq_false hne
        have e2 := laI_max hok h3
        rw [gC_Paths_latestStart_15]
        simp (disch := omega) only [Option.bind_some, ↓reduceIte, ↓M_1, ↓M_2, L_0, L_1, L_2, L_3, L_4, L_5, L_6, L_7, L_8, L_9, L_10, L_11, L_12, L_13, L_20, L_24, L_26, L_30, L_31, L_32, L_39, L_40, L_48, L_57, L_76, L_80, L_90, L_91, L_97, L_99, L_100, L_255, L_273, L_1000, L_2000, q_ld, q_ldL, q_sto, q_stoL, q_add, q_sub, q_mul, q_dec, q_rem, q_div, q_lt_t, q_lt_f, q_le_t, q_le_f, q_eq_t, q_eq_f, q_em, q_me, q_ml, q_lm, q_mle, q_lem, q_s1, q_s1o, q_s1k, q_s12, q_s2, q_s2o, q_s2k, q_s21, Nat.add_sub_cancel, q_or, q_and, q_shl, true_or, or_true, false_or, or_false, true_and, and_true, false_and, and_false, not_true_eq_false, not_false_eq_true, ne_eq, hz.m, ew, e1, L_1048576, hz.h hm, e2, gC_Paths_latestStart_57]
      · rw [if_neg d]
        refine skip ?_
        rw [ew]
        have hn : ¬ TA w v bb 0 0 (ix w m u) ≠ fC := fun y => d (hre.mp y)
        rw [show wb w 0 (TA w v bb 0 0) (ix w m u) = fC from if_pos (Classical.byContradiction hn)]
    · rw [if_neg c]
      rw [if_neg (fun y => c y.1)] at ew
      exact skip ew
  · show gC_Paths_latestStart_15 N (f + 1) (nI u) (laI (lat w u v bb (2 * w 5 1))) (nI (w 5 1)) z = _
    rw [gC_Paths_latestStart_15]
    simp (disch := omega) only [Option.bind_some, ↓reduceIte, ↓M_1, ↓M_2, L_0, L_1, L_2, L_3, L_4, L_5, L_6, L_7, L_8, L_9, L_10, L_11, L_12, L_13, L_20, L_24, L_26, L_30, L_31, L_32, L_39, L_40, L_48, L_57, L_76, L_80, L_90, L_91, L_97, L_99, L_100, L_255, L_273, L_1000, L_2000, q_ld, q_ldL, q_sto, q_stoL, q_add, q_sub, q_mul, q_dec, q_rem, q_div, q_lt_t, q_lt_f, q_le_t, q_le_f, q_eq_t, q_eq_f, q_em, q_me, q_ml, q_lm, q_mle, q_lem, q_s1, q_s1o, q_s1k, q_s12, q_s2, q_s2o, q_s2k, q_s21, Nat.add_sub_cancel, q_or, q_and, q_shl, true_or, or_true, false_or, or_false, true_and, and_true, false_and, and_false, not_true_eq_false, not_false_eq_true, ne_eq, hz.m]
theorem M_latest26 (h : MW w t) (hN : 200 ≤ N) (hu : u < w 5 0) (hv : v < w 5 0) (hbb : bb ≤ 99) (h33 : t.1 0 33 = nI 0) (h34 : t.1 0 34 = nI 1000000) (h35 : t.1 0 35 = gI 100) : ∃ z, gM_EachAddsALineModel_latest_26 N N (nI u) (nI v) (nI bb) (nI 99) t = some (laI (lat w u v bb (2 * w 5 1)), z) ∧ Fm [11, 12, 13] [] [30] t z := by
  have hb := h.bd
  have hL := lat_ok (u := u) (v := v) (bb := bb) h.ok (n := 2 * w 5 1) (Nat.le_refl _)
  have e99 : nI 99 = nI 100 + mI 1 := by decide
  rw [e99]
  refine loopD (fun f k z => gM_EachAddsALineModel_latest_26 N f (nI u) (nI v) (nI bb) (nI k + mI 1) z) 100 (fun k z => k ≤ 100 ∧ lat w u v bb (2 * w 5 1) ≤ k ∧ Fm [11, 12, 13] [] [30] t z) (fun o => ∃ z, o = some (laI (lat w u v bb (2 * w 5 1)), z) ∧ Fm [11, 12, 13] [] [30] t z) ?_ ?_ 100 N t (Nat.le_refl _) (by omega) ⟨Nat.le_refl _, hL.1, Fm.rf⟩
  · rintro f k z hk ⟨h1, h2, h3⟩
    have hz : MW w z := h.fm h3 (by decide) (by decide)
    have e1 : nI (k + 1) + mI 1 = nI k := q_dec (by omega)
    obtain ⟨z', x1, x2⟩ := M_soonest0 (N := N) (br := 0) (go := 100) (k := k) hz (by omega) hu hv (by omega) (by decide) ((h3.2.2 33 (by decide)).trans h33) ((h3.2.2 34 (by decide)).trans h34) ((h3.2.2 35 (by decide)).trans h35)
    have hm := arr_min (br := 0) (go := 100) (u := u) (k := k) (v := v) h.ok hbb
    have hbd := arr_bd (br := 0) (go := 100) (u := u) (k := k) (v := v) h.ok
    have hlk : k < lat w u v bb (2 * w 5 1) ↔ arr w 0 100 u k v ≤ bb := by
      rw [hm, hL.2 k]
      exact ⟨fun ⟨s, s1, s2, s3, s4⟩ => ⟨s, s1, ⟨s2, s3⟩, s4⟩, fun ⟨s, s1, s2, s4⟩ => ⟨s, s1, s2.1, s2.2, s4⟩⟩
    simp only [e1]
    rw [gM_EachAddsALineModel_latest_26]
    generalize arr w 0 100 u k v = a at x1 hbd hlk
    by_cases c : a ≤ bb
    · have hlat : lat w u v bb (2 * w 5 1) = k + 1 := by have := hlk.mpr c; omega
      refine Or.inr ⟨z', ?_, h3.tr x2⟩
      rw [hlat, show laI (k + 1) = nI k from if_neg (by omega)]
      simp (disch := omega) only [Option.bind_some, ↓reduceIte, ↓M_1, ↓M_2, L_0, L_1, L_2, L_3, L_4, L_5, L_6, L_7, L_8, L_9, L_10, L_11, L_12, L_13, L_20, L_24, L_26, L_30, L_31, L_32, L_39, L_40, L_48, L_57, L_76, L_80, L_90, L_91, L_97, L_99, L_100, L_255, L_273, L_1000, L_2000, q_ld, q_ldL, q_sto, q_stoL, q_add, q_sub, q_mul, q_rem, q_div, q_lt_t, q_lt_f, q_le_t, q_le_f, q_eq_t, q_eq_f, q_em, q_me, q_ml, q_lm, q_mle, q_lem, q_s1, q_s1o, q_s1k, q_s12, q_s2, q_s2o, q_s2k, q_s21, Nat.add_sub_cancel, q_or, q_and, q_shl, true_or, or_true, false_or, or_false, true_and, and_true, false_and, and_false, not_true_eq_false, not_false_eq_true, ne_eq, x1]
    · refine Or.inl ⟨z', ?_, by omega, ?_, h3.tr x2⟩
      · simp (disch := omega) only [Option.bind_some, ↓reduceIte, ↓M_1, ↓M_2, L_0, L_1, L_2, L_3, L_4, L_5, L_6, L_7, L_8, L_9, L_10, L_11, L_12, L_13, L_20, L_24, L_26, L_30, L_31, L_32, L_39, L_40, L_48, L_57, L_76, L_80, L_90, L_91, L_97, L_99, L_100, L_255, L_273, L_1000, L_2000, q_ld, q_ldL, q_sto, q_stoL, q_add, q_sub, q_mul, q_rem, q_div, q_lt_t, q_lt_f, q_le_t, q_le_f, q_eq_t, q_eq_f, q_em, q_me, q_ml, q_lm, q_mle, q_lem, q_s1, q_s1o, q_s1k, q_s12, q_s2, q_s2o, q_s2k, q_s21, Nat.add_sub_cancel, q_or, q_and, q_shl, true_or, or_true, false_or, or_false, true_and, and_true, false_and, and_false, not_true_eq_false, not_false_eq_true, ne_eq, x1]
      · have : ¬ k < lat w u v bb (2 * w 5 1) := fun y => c (hlk.mp y)
        omega
  · rintro f z ⟨h1, h2, h3⟩
    refine ⟨z, ?_, h3⟩
    show gM_EachAddsALineModel_latest_26 N (f + 1) (nI u) (nI v) (nI bb) (nI 0 + mI 1) z = _
    rw [gM_EachAddsALineModel_latest_26, if_pos (by decide), show lat w u v bb (2 * w 5 1) = 0 by omega]
    rfl
theorem k_latest (hU : okU U) (hN : 200 ≤ N) : keeps3 N (RR U) fC_EachAddsALine_latest fM_EachAddsALineModel_latest := by
  refine keeps3_trip hU (fun w s a b c hw e => by simp (disch := omega) only [Option.bind_some, ↓reduceIte, ↓M_1, ↓M_2, L_0, L_1, L_2, L_3, L_4, L_5, L_6, L_7, L_8, L_9, L_10, L_11, L_12, L_13, L_20, L_24, L_26, L_30, L_31, L_32, L_39, L_40, L_48, L_57, L_76, L_80, L_90, L_91, L_97, L_99, L_100, L_255, L_273, L_1000, L_2000, q_ld, q_ldL, q_sto, q_stoL, q_add, q_sub, q_mul, q_dec, q_rem, q_div, q_lt_t, q_lt_f, q_le_t, q_le_f, q_eq_t, q_eq_f, q_em, q_me, q_ml, q_lm, q_mle, q_lem, q_s1, q_s1o, q_s1k, q_s12, q_s2, q_s2o, q_s2k, q_s21, Nat.add_sub_cancel, q_or, q_and, q_shl, true_or, or_true, false_or, or_false, true_and, and_true, false_and, and_false, not_true_eq_false, not_false_eq_true, ne_eq, fC_EachAddsALine_latest, gC_EachAddsALine_latest_0, e]) (fun w t a b c hw e => by simp (disch := omega) only [Option.bind_some, ↓reduceIte, ↓M_1, ↓M_2, L_0, L_1, L_2, L_3, L_4, L_5, L_6, L_7, L_8, L_9, L_10, L_11, L_12, L_13, L_20, L_24, L_26, L_30, L_31, L_32, L_39, L_40, L_48, L_57, L_76, L_80, L_90, L_91, L_97, L_99, L_100, L_255, L_273, L_1000, L_2000, q_ld, q_ldL, q_sto, q_stoL, q_add, q_sub, q_mul, q_dec, q_rem, q_div, q_lt_t, q_lt_f, q_le_t, q_le_f, q_eq_t, q_eq_f, q_em, q_me, q_ml, q_lm, q_mle, q_lem, q_s1, q_s1o, q_s1k, q_s12, q_s2, q_s2o, q_s2k, q_s21, Nat.add_sub_cancel, q_or, q_and, q_shl, true_or, or_true, false_or, or_false, true_and, and_true, false_and, and_false, not_true_eq_false, not_false_eq_true, ne_eq, fM_EachAddsALineModel_latest, gM_EachAddsALineModel_latest_0, e]) (fun s t w u v k hr h1 h2 hu hv hk ec em => ?_)
  have hmc := hr.mc.r
  have g0 : Fm [] [] [11, 33] t (s1 (s1 t 0 11 (nI 0)) 0 33 (nI 0)) := (Fm.w10 (by decide)).tr (Fm.w10 (by decide))
  have h3 : MW w (s1 (s1 t 0 11 (nI 0)) 0 33 (nI 0)) := h2.fm g0 (by decide) (by decide)
  obtain ⟨s', x1, x2⟩ := C_latestStart (N := N) (bb := k) h1 hN hu hv (by omega)
  obtain ⟨t', y1, y2⟩ := M_latest26 (N := N) (bb := k) h3 hN hu hv (by omega) (by simp (disch := omega) only [Option.bind_some, ↓reduceIte, ↓M_1, ↓M_2, L_0, L_1, L_2, L_3, L_4, L_5, L_6, L_7, L_8, L_9, L_10, L_11, L_12, L_13, L_20, L_24, L_26, L_30, L_31, L_32, L_39, L_40, L_48, L_57, L_76, L_80, L_90, L_91, L_97, L_99, L_100, L_255, L_273, L_1000, L_2000, q_ld, q_ldL, q_sto, q_stoL, q_add, q_sub, q_mul, q_dec, q_rem, q_div, q_lt_t, q_lt_f, q_le_t, q_le_f, q_eq_t, q_eq_f, q_em, q_me, q_ml, q_lm, q_mle, q_lem, q_s1, q_s1o, q_s1k, q_s12, q_s2, q_s2o, q_s2k, q_s21, Nat.add_sub_cancel, q_or, q_and, q_shl, true_or, or_true, false_or, or_false, true_and, and_true, false_and, and_false, not_true_eq_false, not_false_eq_true, ne_eq]) (by simp (disch := omega) only [Option.bind_some, ↓reduceIte, ↓M_1, ↓M_2, L_0, L_1, L_2, L_3, L_4, L_5, L_6, L_7, L_8, L_9, L_10, L_11, L_12, L_13, L_20, L_24, L_26, L_30, L_31, L_32, L_39, L_40, L_48, L_57, L_76, L_80, L_90, L_91, L_97, L_99, L_100, L_255, L_273, L_1000, L_2000, q_ld, q_ldL, q_sto, q_stoL, q_add, q_sub, q_mul, q_dec, q_rem, q_div, q_lt_t, q_lt_f, q_le_t, q_le_f, q_eq_t, q_eq_f, q_em, q_me, q_ml, q_lm, q_mle, q_lem, q_s1, q_s1o, q_s1k, q_s12, q_s2, q_s2o, q_s2k, q_s21, Nat.add_sub_cancel, q_or, q_and, q_shl, true_or, or_true, false_or, or_false, true_and, and_true, false_and, and_false, not_true_eq_false, not_false_eq_true, ne_eq]; exact hmc.1) (by simp (disch := omega) only [Option.bind_some, ↓reduceIte, ↓M_1, ↓M_2, L_0, L_1, L_2, L_3, L_4, L_5, L_6, L_7, L_8, L_9, L_10, L_11, L_12, L_13, L_20, L_24, L_26, L_30, L_31, L_32, L_39, L_40, L_48, L_57, L_76, L_80, L_90, L_91, L_97, L_99, L_100, L_255, L_273, L_1000, L_2000, q_ld, q_ldL, q_sto, q_stoL, q_add, q_sub, q_mul, q_dec, q_rem, q_div, q_lt_t, q_lt_f, q_le_t, q_le_f, q_eq_t, q_eq_f, q_em, q_me, q_ml, q_lm, q_mle, q_lem, q_s1, q_s1o, q_s1k, q_s12, q_s2, q_s2o, q_s2k, q_s21, Nat.add_sub_cancel, q_or, q_and, q_shl, true_or, or_true, false_or, or_false, true_and, and_true, false_and, and_false, not_true_eq_false, not_false_eq_true, ne_eq]; exact hmc.2.1)
  refine ⟨laI (lat w u v k (2 * w 5 1)), s', t', ?_, ?_, hr.fr hU x2 ((g0.mono (by decide) (by decide) (by decide)).tr (y2.mono (by decide) (by decide) (by decide)) : Fm [11, 12, 13] [] [11, 30, 33] t t') (by decide) (by decide) (by decide)⟩
  · simp (disch := omega) only [Option.bind_some, ↓reduceIte, ↓M_1, ↓M_2, L_0, L_1, L_2, L_3, L_4, L_5, L_6, L_7, L_8, L_9, L_10, L_11, L_12, L_13, L_20, L_24, L_26, L_30, L_31, L_32, L_39, L_40, L_48, L_57, L_76, L_80, L_90, L_91, L_97, L_99, L_100, L_255, L_273, L_1000, L_2000, q_ld, q_ldL, q_sto, q_stoL, q_add, q_sub, q_mul, q_dec, q_rem, q_div, q_lt_t, q_lt_f, q_le_t, q_le_f, q_eq_t, q_eq_f, q_em, q_me, q_ml, q_lm, q_mle, q_lem, q_s1, q_s1o, q_s1k, q_s12, q_s2, q_s2o, q_s2k, q_s21, Nat.add_sub_cancel, q_or, q_and, q_shl, true_or, or_true, false_or, or_false, true_and, and_true, false_and, and_false, not_true_eq_false, not_false_eq_true, ne_eq, fC_EachAddsALine_latest, gC_EachAddsALine_latest_0, ec, x1]
  · simp (disch := omega) only [Option.bind_some, ↓reduceIte, ↓M_1, ↓M_2, L_0, L_1, L_2, L_3, L_4, L_5, L_6, L_7, L_8, L_9, L_10, L_11, L_12, L_13, L_20, L_24, L_26, L_30, L_31, L_32, L_39, L_40, L_48, L_57, L_76, L_80, L_90, L_91, L_97, L_99, L_100, L_255, L_273, L_1000, L_2000, q_ld, q_ldL, q_sto, q_stoL, q_add, q_sub, q_mul, q_dec, q_rem, q_div, q_lt_t, q_lt_f, q_le_t, q_le_f, q_eq_t, q_eq_f, q_em, q_me, q_ml, q_lm, q_mle, q_lem, q_s1, q_s1o, q_s1k, q_s12, q_s2, q_s2o, q_s2k, q_s21, Nat.add_sub_cancel, q_or, q_and, q_shl, true_or, or_true, false_or, or_false, true_and, and_true, false_and, and_false, not_true_eq_false, not_false_eq_true, ne_eq, fM_EachAddsALineModel_latest, gM_EachAddsALineModel_latest_0, em, y1]
end LA
