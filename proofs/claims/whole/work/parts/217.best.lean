/-! the best of what follows: by hour, by hands, by price -/
def wo (w : Nat → Nat → Nat) (what s : Nat) : Nat := if what = 2 then w 4 (s / 2) else if what = 1 then 1 else 0
def bas (w : Nat → Nat → Nat) (v what bb go s : Nat) : Nat × Nat := if gt w s = v ∧ hr w s ≤ bb ∧ ¬ s / 2 = go then (if what = 0 then hr w s else wo w what s, 1) else (1000000, 1000000)
def prP (w : Nat → Nat → Nat) (what : Nat) (T : Nat → Nat × Nat) (s o : Nat) : Nat × Nat := ((T o).1 + wo w what s, (T o).2 + 1)
def stp (w : Nat → Nat → Nat) (what : Nat) (T : Nat → Nat × Nat) (s o : Nat) (x : Nat × Nat) : Nat × Nat := if fol w o s ∧ (T o).1 < 1000000 ∧ lessP (prP w what T s o) x then prP w what T s o else x
def FB (w : Nat → Nat → Nat) (v what bb br go : Nat) (T : Nat → Nat × Nat) (s : Nat) : Nat × Nat := if br.testBit (gt w s) = true ∨ s / 2 = go then bas w v what bb go s else fz (stp w what T s) (bas w v what bb go s) (2 * w 5 1)
def TB (w : Nat → Nat → Nat) (v what bb br go : Nat) : Nat → Nat × Nat := itr (FB w v what bb br go) (0, 0) 100
section TBs
variable {w : Nat → Nat → Nat} {v what bb br go : Nat}
theorem TB_rec (h : okW w) {s : Nat} (hs : s < 2 * w 5 1) : TB w v what bb br go s = FB w v what bb br go (TB w v what bb br go) s := by
  refine itr_rec (n := 2 * w 5 1) (key := hr w) (fun s hs => hr_le h hs) _ _ (fun T T' s hs hT => ?_) s hs
  unfold FB
  split
  · rfl
  · refine fz_cong (fun o x ho => ?_)
    unfold stp prP
    by_cases c : fol w o s
    · rw [hT o ho (fol_lt h hs c)]
    · rw [if_neg (fun z => c z.1), if_neg (fun z => c z.1)]
theorem wo_le (h : okW w) (what : Nat) {s : Nat} (hs : s < 2 * w 5 1) : wo w what s ≤ 9 := by
  have := (h.2.2.2 (s / 2) (by omega)).2.2.2.2
  unfold wo
  split
  · exact this
  · split <;> omega
theorem stp_ub (T : Nat → Nat × Nat) (s : Nat) (x0 : Nat × Nat) (n : Nat) : ¬ lessP x0 (fz (stp w what T s) x0 n) ∧ ∀ o, o < n → fol w o s → (T o).1 < 1000000 → ¬ lessP (prP w what T s o) (fz (stp w what T s) x0 n) := by
  refine fz_ind (f := stp w what T s) (z := x0) (n := n) (fun k a => ¬ lessP x0 a ∧ ∀ o, o < k → fol w o s → (T o).1 < 1000000 → ¬ lessP (prP w what T s o) a) ⟨fun z => by unfold lessP at z; omega, fun o ho => by omega⟩ (fun k a hk hq => ?_) n (Nat.le_refl _)
  obtain ⟨h1, h2⟩ := hq
  unfold stp
  by_cases c : fol w k s ∧ (T k).1 < 1000000 ∧ lessP (prP w what T s k) a
  · rw [if_pos c]
    have c3 := c.2.2
    refine ⟨fun z => h1 ?_, fun o ho g1 g2 z => ?_⟩
    · unfold lessP at z c3 ⊢; omega
    · by_cases d : o = k
      · subst d; unfold lessP at z; omega
      · refine h2 o (by omega) g1 g2 ?_
        unfold lessP at z c3 ⊢; omega
  · rw [if_neg c]
    refine ⟨h1, fun o ho g1 g2 z => ?_⟩
    by_cases d : o = k
    · subst d; exact c ⟨g1, g2, z⟩
    · exact h2 o (by omega) g1 g2 z
theorem stp_att (T : Nat → Nat × Nat) (s : Nat) (x0 : Nat × Nat) (n : Nat) : fz (stp w what T s) x0 n = x0 ∨ ∃ o, o < n ∧ fol w o s ∧ (T o).1 < 1000000 ∧ fz (stp w what T s) x0 n = prP w what T s o := by
  refine fz_ind (f := stp w what T s) (z := x0) (n := n) (fun k a => a = x0 ∨ ∃ o, o < k ∧ fol w o s ∧ (T o).1 < 1000000 ∧ a = prP w what T s o) (Or.inl rfl) (fun k a hk hq => ?_) n (Nat.le_refl _)
  unfold stp
  by_cases c : fol w k s ∧ (T k).1 < 1000000 ∧ lessP (prP w what T s k) a
  · rw [if_pos c]
    exact Or.inr ⟨k, by omega, c.1, c.2.1, rfl⟩
  · rw [if_neg c]
    refine hq.imp id (fun ⟨o, h1, h2⟩ => ⟨o, by omega, h2⟩)
theorem TB_e (h : okW w) {s : Nat} (hs : s < 2 * w 5 1) (h1 : gt w s = v) (h2 : hr w s ≤ bb) (h3 : ¬ s / 2 = go) : ¬ lessP (if what = 0 then hr w s else wo w what s, 1) (TB w v what bb br go s) := by
  rw [TB_rec h hs]
  have e : bas w v what bb go s = (if what = 0 then hr w s else wo w what s, 1) := if_pos ⟨h1, h2, h3⟩
  unfold FB
  by_cases c : br.testBit (gt w s) = true ∨ s / 2 = go
  · rw [if_pos c, e]; intro z; unfold lessP at z; omega
  · rw [if_neg c, ← e]; exact (stp_ub _ s _ _).1
theorem TB_o (h : okW w) {s o : Nat} (hs : s < 2 * w 5 1) (ho : o < 2 * w 5 1) (h1 : fol w o s) (h2 : br.testBit (gt w s) = false) (h3 : ¬ s / 2 = go) (h4 : (TB w v what bb br go o).1 < 1000000) : ¬ lessP (prP w what (TB w v what bb br go) s o) (TB w v what bb br go s) := by
  rw [TB_rec h hs]
  unfold FB
  rw [if_neg (by rw [h2]; rintro (z | z); cases z; exact h3 z)]
  exact (stp_ub _ s _ _).2 o ho h1 h4
theorem TB_att (h : okW w) {s : Nat} (hs : s < 2 * w 5 1) : TB w v what bb br go s = (1000000, 1000000) ∨ (gt w s = v ∧ hr w s ≤ bb ∧ (¬ s / 2 = go) ∧ TB w v what bb br go s = (if what = 0 then hr w s else wo w what s, 1)) ∨ ∃ o, o < 2 * w 5 1 ∧ fol w o s ∧ (TB w v what bb br go o).1 < 1000000 ∧ br.testBit (gt w s) = false ∧ (¬ s / 2 = go) ∧ TB w v what bb br go s = prP w what (TB w v what bb br go) s o := by
  have hb : bas w v what bb go s = (1000000, 1000000) ∨ (gt w s = v ∧ hr w s ≤ bb ∧ (¬ s / 2 = go) ∧ bas w v what bb go s = (if what = 0 then hr w s else wo w what s, 1)) := by
    unfold bas
    by_cases c : gt w s = v ∧ hr w s ≤ bb ∧ ¬ s / 2 = go
    · rw [if_pos c]; exact Or.inr ⟨c.1, c.2.1, c.2.2, rfl⟩
    · rw [if_neg c]; exact Or.inl rfl
  have hr := TB_rec (v := v) (what := what) (bb := bb) (br := br) (go := go) h hs
  have hF : FB w v what bb br go (TB w v what bb br go) s = bas w v what bb go s ∨ ∃ o, o < 2 * w 5 1 ∧ fol w o s ∧ (TB w v what bb br go o).1 < 1000000 ∧ br.testBit (gt w s) = false ∧ (¬ s / 2 = go) ∧ FB w v what bb br go (TB w v what bb br go) s = prP w what (TB w v what bb br go) s o := by
    unfold FB
    by_cases c : br.testBit (gt w s) = true ∨ s / 2 = go
    · rw [if_pos c]; exact Or.inl rfl
    · rw [if_neg c]
      rcases stp_att (what := what) (w := w) (TB w v what bb br go) s (bas w v what bb go s) (2 * w 5 1) with z | ⟨o, z1, z2, z3, z4⟩
      · exact Or.inl z
      · exact Or.inr ⟨o, z1, z2, z3, eq_false_of_ne_true (fun y => c (Or.inl y)), fun y => c (Or.inr y), z4⟩
  rcases hF with z | ⟨o, z1, z2, z3, z4, z5, z6⟩
  · rw [hr, z]
    exact hb.imp id Or.inl
  · exact Or.inr (Or.inr ⟨o, z1, z2, z3, z4, z5, hr.trans z6⟩)
theorem TB_bd (h : okW w) : ∀ s, s < 2 * w 5 1 → TB w v what bb br go s = (1000000, 1000000) ∨ ((TB w v what bb br go s).1 ≤ 99 + 9 * (TB w v what bb br go s).2 ∧ 1 ≤ (TB w v what bb br go s).2 ∧ (TB w v what bb br go s).2 + hr w s ≤ 100) := by
  refine downI (fun s hs => hr_le h hs) _ (fun s hs ih => ?_)
  have h9 := hr_le h hs
  have hw := wo_le h what hs
  rcases TB_att (v := v) (what := what) (bb := bb) (br := br) (go := go) h hs with z | ⟨z1, z2, z3, z4⟩ | ⟨o, z1, z2, z3, z4, z5, z6⟩
  · exact Or.inl z
  · rw [z4]
    refine Or.inr ⟨?_, Nat.le_refl _, by show 1 + hr w s ≤ 100; omega⟩
    show (if what = 0 then hr w s else wo w what s) ≤ 99 + 9 * 1
    split <;> omega
  · have hl := fol_lt h hs z2
    rw [z6]
    unfold prP
    rcases ih o z1 hl with y | ⟨y1, y2, y3⟩
    · rw [y] at z3; exact absurd z3 (by decide)
    · refine Or.inr ⟨?_, ?_, ?_⟩
      · show (TB w v what bb br go o).1 + wo w what s ≤ 99 + 9 * ((TB w v what bb br go o).2 + 1); omega
      · show 1 ≤ (TB w v what bb br go o).2 + 1; omega
      · show (TB w v what bb br go o).2 + 1 + hr w s ≤ 100; omega
theorem TB_lt (h : okW w) {s : Nat} (hs : s < 2 * w 5 1) : (TB w v what bb br go s).1 ≤ 1000000 ∧ (TB w v what bb br go s).2 ≤ 1000000 ∧ 1 ≤ (TB w v what bb br go s).2 ∧ ((TB w v what bb br go s).1 < 1000000 → (TB w v what bb br go s).1 ≤ 2000 ∧ (TB w v what bb br go s).2 ≤ 100) := by
  rcases TB_bd (v := v) (what := what) (bb := bb) (br := br) (go := go) h s hs with z | ⟨z1, z2, z3⟩
  · rw [z]; exact ⟨by decide, by decide, by decide, fun y => absurd y (by decide)⟩
  · exact ⟨by omega, by omega, z2, fun _ => ⟨by omega, by omega⟩⟩
/-- at most as many meetings as stand behind -/
theorem TB_cnt (h : okW w) (ho : okO w) : ∀ s, s < 2 * w 5 1 → ∀ k, k < w 5 1 → w 6 k = s / 2 → TB w v what bb br go s = (1000000, 1000000) ∨ (TB w v what bb br go s).2 + k ≤ w 5 1 := by
  refine downI (fun s hs => hr_le h hs) _ (fun s hs ih k hk e => ?_)
  rcases TB_att (v := v) (what := what) (bb := bb) (br := br) (go := go) h hs with z | ⟨z1, z2, z3, z4⟩ | ⟨o, z1, z2, z3, z4, z5, z6⟩
  · exact Or.inl z
  · rw [z4]
    exact Or.inr (by show 1 + k ≤ w 5 1; omega)
  · have hl := fol_lt h hs z2
    obtain ⟨j, j1, j2⟩ := ho.2.2 (o / 2) (by omega)
    have hkj : k < j := by
      rcases Nat.lt_trichotomy k j with d | d | d
      · exact d
      · subst d
        rw [e] at j2
        unfold hr at hl
        rw [j2] at hl
        exact absurd hl (Nat.lt_irrefl _)
      · have := ho.2.1 j k d hk
        rw [e, j2] at this
        unfold hr at hl
        omega
    rw [z6]
    unfold prP
    rcases ih o z1 hl j j1 j2 with y | y
    · rw [y] at z3; exact absurd z3 (by decide)
    · refine Or.inr ?_
      show (TB w v what bb br go o).2 + 1 + k ≤ w 5 1
      omega
theorem TB_M (h : okW w) (ho : okO w) {s : Nat} (hs : s < 2 * w 5 1) (hf : (TB w v what bb br go s).1 < 1000000) : (TB w v what bb br go s).2 ≤ w 5 1 := by
  obtain ⟨k, k1, k2⟩ := ho.2.2 (s / 2) (by omega)
  rcases TB_cnt (v := v) (what := what) (bb := bb) (br := br) (go := go) h ho s hs k k1 k2 with y | y
  · rw [y] at hf; exact absurd hf (by decide)
  · omega
end TBs
/-! the reference finds the best -/
section MF
variable {N : Nat} {w : Nat → Nat → Nat} {t : vSt} {v what bb br go : Nat}
theorem M_worth (h : MW w t) {a : Nat} (ha : a < 2 * w 5 1) (hw : what < 3) : fM_EachAddsALineModel_worth N (nI a) (nI what) t = some (nI (wo w what a), t) := by
  have hb := h.bd
  unfold wo
  by_cases c : what = 2
  · rw [if_pos c]
    simp (disch := omega) only [Option.bind_some, ↓reduceIte, ↓M_1, ↓M_2, L_0, L_1, L_2, L_3, L_4, L_5, L_6, L_7, L_8, L_9, L_10, L_11, L_12, L_13, L_20, L_24, L_26, L_30, L_31, L_32, L_39, L_40, L_48, L_57, L_76, L_80, L_90, L_91, L_97, L_99, L_100, L_255, L_273, L_1000, L_2000, q_ld, q_ldL, q_sto, q_stoL, q_add, q_sub, q_mul, q_dec, q_rem, q_div, q_lt_t, q_lt_f, q_le_t, q_le_f, q_eq_t, q_eq_f, q_em, q_me, q_ml, q_lm, q_mle, q_lem, q_s1, q_s1o, q_s1k, q_s12, q_s2, q_s2o, q_s2k, q_s21, Nat.add_sub_cancel, q_or, q_and, q_shl, true_or, or_true, false_or, or_false, true_and, and_true, false_and, and_false, not_true_eq_false, not_false_eq_true, ne_eq, fM_EachAddsALineModel_worth, gM_EachAddsALineModel_worth_0, h.c (m := a / 2) (by omega)]
  · rw [if_neg c]
    by_cases d : what = 1
    · rw [if_pos d]
      simp (disch := omega) only [Option.bind_some, ↓reduceIte, ↓M_1, ↓M_2, L_0, L_1, L_2, L_3, L_4, L_5, L_6, L_7, L_8, L_9, L_10, L_11, L_12, L_13, L_20, L_24, L_26, L_30, L_31, L_32, L_39, L_40, L_48, L_57, L_76, L_80, L_90, L_91, L_97, L_99, L_100, L_255, L_273, L_1000, L_2000, q_ld, q_ldL, q_sto, q_stoL, q_add, q_sub, q_mul, q_dec, q_rem, q_div, q_lt_t, q_lt_f, q_le_t, q_le_f, q_eq_t, q_eq_f, q_em, q_me, q_ml, q_lm, q_mle, q_lem, q_s1, q_s1o, q_s1k, q_s12, q_s2, q_s2o, q_s2k, q_s21, Nat.add_sub_cancel, q_or, q_and, q_shl, true_or, or_true, false_or, or_false, true_and, and_true, false_and, and_false, not_true_eq_false, not_false_eq_true, ne_eq, fM_EachAddsALineModel_worth, gM_EachAddsALineModel_worth_0]
    · rw [if_neg d]
      simp (disch := omega) only [Option.bind_some, ↓reduceIte, ↓M_1, ↓M_2, L_0, L_1, L_2, L_3, L_4, L_5, L_6, L_7, L_8, L_9, L_10, L_11, L_12, L_13, L_20, L_24, L_26, L_30, L_31, L_32, L_39, L_40, L_48, L_57, L_76, L_80, L_90, L_91, L_97, L_99, L_100, L_255, L_273, L_1000, L_2000, q_ld, q_ldL, q_sto, q_stoL, q_add, q_sub, q_mul, q_dec, q_rem, q_div, q_lt_t, q_lt_f, q_le_t, q_le_f, q_eq_t, q_eq_f, q_em, q_me, q_ml, q_lm, q_mle, q_lem, q_s1, q_s1o, q_s1k, q_s12, q_s2, q_s2o, q_s2k, q_s21, Nat.add_sub_cancel, q_or, q_and, q_shl, true_or, or_true, false_or, or_false, true_and, and_true, false_and, and_false, not_true_eq_false, not_false_eq_true, ne_eq, fM_EachAddsALineModel_worth, gM_EachAddsALineModel_worth_0]
theorem M_fb158 (R : Int32 → Int32 → Int32 → vSt → Option vSt) {T : Nat → Nat × Nat} {a : Nat} {z : Int32} {x0 : Nat × Nat} (h : MW w t) (hN : 60 ≤ N) (ha : a < 2 * w 5 1) (hw : what < 3) (h30 : t.1 0 30 = nI (2 * w 5 1))
    (hT : ∀ o, o < 2 * w 5 1 → fol w o a → t.1 12 o = nI (T o).1 ∧ t.1 13 o = nI (T o).2 ∧ (T o).1 ≤ 1000000 ∧ (T o).2 ≤ 1000000) (h12 : t.1 12 a = nI x0.1) (h13 : t.1 13 a = nI x0.2) (hx : x0.1 < 2000000 ∧ x0.2 < 2000000) :
    ∃ u, gM_EachAddsALineModel_findBest_158 N R N (nI v) (nI what) z (nI a) (nI 0) t = R (nI v) (nI what) (z + mI 1) u ∧ Fm [12, 13] [] [] t u ∧ (∀ o, o ≠ a → u.1 12 o = t.1 12 o ∧ u.1 13 o = t.1 13 o) ∧ u.1 12 a = nI (fz (stp w what T a) x0 (2 * w 5 1)).1 ∧ u.1 13 a = nI (fz (stp w what T a) x0 (2 * w 5 1)).2 := by
  have hb := h.bd
  refine loopU (fun f i u => gM_EachAddsALineModel_findBest_158 N R f (nI v) (nI what) z (nI a) (nI i) u) (2 * w 5 1) (fun i u => i ≤ 2 * w 5 1 ∧ Fm [12, 13] [] [] t u ∧ (∀ o, o ≠ a → u.1 12 o = t.1 12 o ∧ u.1 13 o = t.1 13 o) ∧ (u.1 12 a = nI (fz (stp w what T a) x0 i).1 ∧ u.1 13 a = nI (fz (stp w what T a) x0 i).2) ∧ (fz (stp w what T a) x0 i).1 < 2000000 ∧ (fz (stp w what T a) x0 i).2 < 2000000)
    (fun o => ∃ u, o = R (nI v) (nI what) (z + mI 1) u ∧ Fm [12, 13] [] [] t u ∧ (∀ o, o ≠ a → u.1 12 o = t.1 12 o ∧ u.1 13 o = t.1 13 o) ∧ u.1 12 a = nI (fz (stp w what T a) x0 (2 * w 5 1)).1 ∧ u.1 13 a = nI (fz (stp w what T a) x0 (2 * w 5 1)).2) ?_ ?_ (2 * w 5 1) N 0 t (by omega) (by omega) ⟨by omega, Fm.rf, fun _ _ => ⟨rfl, rfl⟩, ⟨h12, h13⟩, hx.1, hx.2⟩
  · rintro f i u hi ⟨h1, h2, h3, h4, h5, h6⟩
    have hu : MW w u := h.fm h2 (by decide) (by decide)
    have u30 : u.1 0 30 = nI (2 * w 5 1) := (h2.2.2 30 (by decide)).trans h30
    have ef := M_follows (N := N) hu hi ha
    have es : fz (stp w what T a) x0 (i + 1) = stp w what T a i (fz (stp w what T a) x0 i) := rfl
    by_cases c : fol w i a
    · rw [if_pos c] at ef
      have ne : i ≠ a := fun y => by
        subst y
        exact gv_ne h.ok ha c.1
      obtain ⟨t1, t2, t3, t4⟩ := hT i hi c
      rw [← (h3 i ne).1] at t1
      rw [← (h3 i ne).2] at t2
      by_cases d : (T i).1 < 1000000
      · have ew := M_worth (N := N) (what := what) hu ha hw
        have hw9 := wo_le h.ok what ha
        have el := M_isLess (N := N) (t := u) (a := (T i).1 + wo w what a) (n := (T i).2 + 1) (b := (fz (stp w what T a) x0 i).1) (m := (fz (stp w what T a) x0 i).2) (by omega) (by omega) (by omega) (by omega)
        by_cases g : lessP ((T i).1 + wo w what a, (T i).2 + 1) (fz (stp w what T a) x0 i)
        · have e2 : stp w what T a i (fz (stp w what T a) x0 i) = ((T i).1 + wo w what a, (T i).2 + 1) := if_pos ⟨c, d, g⟩
          rw [if_pos g] at el
          refine Or.inl ⟨s1 (s1 u 12 a (nI ((T i).1 + wo w what a))) 13 a (nI ((T i).2 + 1)), ?_, by omega, (h2.tr (Fm.w1 (by decide) (by decide))).tr (Fm.w1 (by decide) (by decide)), fun o ho => ⟨?_, ?_⟩, ⟨?_, ?_⟩, ?_, ?_⟩
          · rw [gM_EachAddsALineModel_findBest_158]
            simp (disch := omega) only [Option.bind_some, ↓reduceIte, ↓M_1, ↓M_2, L_0, L_1, L_2, L_3, L_4, L_5, L_6, L_7, L_8, L_9, L_10, L_11, L_12, L_13, L_20, L_24, L_26, L_30, L_31, L_32, L_39, L_40, L_48, L_57, L_76, L_80, L_90, L_91, L_97, L_99, L_100, L_255, L_273, L_1000, L_2000, q_ld, q_ldL, q_sto, q_stoL, q_add, q_sub, q_mul, q_dec, q_rem, q_div, q_lt_t, q_lt_f, q_le_t, q_le_f, q_eq_t, q_eq_f, q_em, q_me, q_ml, q_lm, q_mle, q_lem, q_s1, q_s1o, q_s1k, q_s12, q_s2, q_s2o, q_s2k, q_s21, Nat.add_sub_cancel, q_or, q_and, q_shl, true_or, or_true, false_or, or_false, true_and, and_true, false_and, and_false, not_true_eq_false, not_false_eq_true, ne_eq, u30, ef, t1, t2, ew, h4.1, h4.2, el, L_1000000, gM_EachAddsALineModel_findBest_270]
          · simp (disch := omega) only [Option.bind_some, ↓reduceIte, ↓M_1, ↓M_2, L_0, L_1, L_2, L_3, L_4, L_5, L_6, L_7, L_8, L_9, L_10, L_11, L_12, L_13, L_20, L_24, L_26, L_30, L_31, L_32, L_39, L_40, L_48, L_57, L_76, L_80, L_90, L_91, L_97, L_99, L_100, L_255, L_273, L_1000, L_2000, q_ld, q_ldL, q_sto, q_stoL, q_add, q_sub, q_mul, q_dec, q_rem, q_div, q_lt_t, q_lt_f, q_le_t, q_le_f, q_eq_t, q_eq_f, q_em, q_me, q_ml, q_lm, q_mle, q_lem, q_s1, q_s1o, q_s1k, q_s12, q_s2, q_s2o, q_s2k, q_s21, Nat.add_sub_cancel, q_or, q_and, q_shl, true_or, or_true, false_or, or_false, true_and, and_true, false_and, and_false, not_true_eq_false, not_false_eq_true, ne_eq]; exact (h3 o ho).1
          · simp (disch := omega) only [Option.bind_some, ↓reduceIte, ↓M_1, ↓M_2, L_0, L_1, L_2, L_3, L_4, L_5, L_6, L_7, L_8, L_9, L_10, L_11, L_12, L_13, L_20, L_24, L_26, L_30, L_31, L_32, L_39, L_40, L_48, L_57, L_76, L_80, L_90, L_91, L_97, L_99, L_100, L_255, L_273, L_1000, L_2000, q_ld, q_ldL, q_sto, q_stoL, q_add, q_sub, q_mul, q_dec, q_rem, q_div, q_lt_t, q_lt_f, q_le_t, q_le_f, q_eq_t, q_eq_f, q_em, q_me, q_ml, q_lm, q_mle, q_lem, q_s1, q_s1o, q_s1k, q_s12, q_s2, q_s2o, q_s2k, q_s21, Nat.add_sub_cancel, q_or, q_and, q_shl, true_or, or_true, false_or, or_false, true_and, and_true, false_and, and_false, not_true_eq_false, not_false_eq_true, ne_eq]; exact (h3 o ho).2
          · rw [es, e2]; simp (disch := omega) only [Option.bind_some, ↓reduceIte, ↓M_1, ↓M_2, L_0, L_1, L_2, L_3, L_4, L_5, L_6, L_7, L_8, L_9, L_10, L_11, L_12, L_13, L_20, L_24, L_26, L_30, L_31, L_32, L_39, L_40, L_48, L_57, L_76, L_80, L_90, L_91, L_97, L_99, L_100, L_255, L_273, L_1000, L_2000, q_ld, q_ldL, q_sto, q_stoL, q_add, q_sub, q_mul, q_dec, q_rem, q_div, q_lt_t, q_lt_f, q_le_t, q_le_f, q_eq_t, q_eq_f, q_em, q_me, q_ml, q_lm, q_mle, q_lem, q_s1, q_s1o, q_s1k, q_s12, q_s2, q_s2o, q_s2k, q_s21, Nat.add_sub_cancel, q_or, q_and, q_shl, true_or, or_true, false_or, or_false, true_and, and_true, false_and, and_false, not_true_eq_false, not_false_eq_true, ne_eq]
          · rw [es, e2]; simp (disch := omega) only [Option.bind_some, ↓reduceIte, ↓M_1, ↓M_2, L_0, L_1, L_2, L_3, L_4, L_5, L_6, L_7, L_8, L_9, L_10, L_11, L_12, L_13, L_20, L_24, L_26, L_30, L_31, L_32, L_39, L_40, L_48, L_57, L_76, L_80, L_90, L_91, L_97, L_99, L_100, L_255, L_273, L_1000, L_2000, q_ld, q_ldL, q_sto, q_stoL, q_add, q_sub, q_mul, q_dec, q_rem, q_div, q_lt_t, q_lt_f, q_le_t, q_le_f, q_eq_t, q_eq_f, q_em, q_me, q_ml, q_lm, q_mle, q_lem, q_s1, q_s1o, q_s1k, q_s12, q_s2, q_s2o, q_s2k, q_s21, Nat.add_sub_cancel, q_or, q_and, q_shl, true_or, or_true, false_or, or_false, true_and, and_true, false_and, and_false, not_true_eq_false, not_false_eq_true, ne_eq]
          · rw [es, e2]; show (T i).1 + wo w what a < 2000000; omega
          · rw [es, e2]; show (T i).2 + 1 < 2000000; omega
        · have e2 : stp w what T a i (fz (stp w what T a) x0 i) = fz (stp w what T a) x0 i := if_neg (fun y => g y.2.2)
          rw [if_neg g] at el
          refine Or.inl ⟨u, ?_, by omega, h2, h3, ?_, ?_⟩
          · rw [gM_EachAddsALineModel_findBest_158]
            simp (disch := omega) only [Option.bind_some, ↓reduceIte, ↓M_1, ↓M_2, L_0, L_1, L_2, L_3, L_4, L_5, L_6, L_7, L_8, L_9, L_10, L_11, L_12, L_13, L_20, L_24, L_26, L_30, L_31, L_32, L_39, L_40, L_48, L_57, L_76, L_80, L_90, L_91, L_97, L_99, L_100, L_255, L_273, L_1000, L_2000, q_ld, q_ldL, q_sto, q_stoL, q_add, q_sub, q_mul, q_dec, q_rem, q_div, q_lt_t, q_lt_f, q_le_t, q_le_f, q_eq_t, q_eq_f, q_em, q_me, q_ml, q_lm, q_mle, q_lem, q_s1, q_s1o, q_s1k, q_s12, q_s2, q_s2o, q_s2k, q_s21, Nat.add_sub_cancel, q_or, q_and, q_shl, true_or, or_true, false_or, or_false, true_and, and_true, false_and, and_false, not_true_eq_false, not_false_eq_true, ne_eq, u30, ef, t1, t2, ew, h4.1, h4.2, el, L_1000000, gM_EachAddsALineModel_findBest_270]
          · rw [es, e2]; exact h4
          · rw [es, e2]; exact ⟨h5, h6⟩
      · have e2 : stp w what T a i (fz (stp w what T a) x0 i) = fz (stp w what T a) x0 i := if_neg (fun y => d y.2.1)
        refine Or.inl ⟨u, ?_, by omega, h2, h3, ?_, ?_⟩
        · rw [gM_EachAddsALineModel_findBest_158]
          simp (disch := omega) only [Option.bind_some, ↓reduceIte, ↓M_1, ↓M_2, L_0, L_1, L_2, L_3, L_4, L_5, L_6, L_7, L_8, L_9, L_10, L_11, L_12, L_13, L_20, L_24, L_26, L_30, L_31, L_32, L_39, L_40, L_48, L_57, L_76, L_80, L_90, L_91, L_97, L_99, L_100, L_255, L_273, L_1000, L_2000, q_ld, q_ldL, q_sto, q_stoL, q_add, q_sub, q_mul, q_dec, q_rem, q_div, q_lt_t, q_lt_f, q_le_t, q_le_f, q_eq_t, q_eq_f, q_em, q_me, q_ml, q_lm, q_mle, q_lem, q_s1, q_s1o, q_s1k, q_s12, q_s2, q_s2o, q_s2k, q_s21, Nat.add_sub_cancel, q_or, q_and, q_shl, true_or, or_true, false_or, or_false, true_and, and_true, false_and, and_false, not_true_eq_false, not_false_eq_true, ne_eq, u30, ef, t1, t2, L_1000000, gM_EachAddsALineModel_findBest_270]
        · rw [es, e2]; exact h4
        · rw [es, e2]; exact ⟨h5, h6⟩
    · rw [if_neg c] at ef
      have e2 : stp w what T a i (fz (stp w what T a) x0 i) = fz (stp w what T a) x0 i := if_neg (fun y => c y.1)
      refine Or.inl ⟨u, ?_, by omega, h2, h3, ?_, ?_⟩
      · rw [gM_EachAddsALineModel_findBest_158]
        simp (disch := omega) only [Option.bind_some, ↓reduceIte, ↓M_1, ↓M_2, L_0, L_1, L_2, L_3, L_4, L_5, L_6, L_7, L_8, L_9, L_10, L_11, L_12, L_13, L_20, L_24, L_26, L_30, L_31, L_32, L_39, L_40, L_48, L_57, L_76, L_80, L_90, L_91, L_97, L_99, L_100, L_255, L_273, L_1000, L_2000, q_ld, q_ldL, q_sto, q_stoL, q_add, q_sub, q_mul, q_dec, q_rem, q_div, q_lt_t, q_lt_f, q_le_t, q_le_f, q_eq_t, q_eq_f, q_em, q_me, q_ml, q_lm, q_mle, q_lem, q_s1, q_s1o, q_s1k, q_s12, q_s2, q_s2o, q_s2k, q_s21, Nat.add_sub_cancel, q_or, q_and, q_shl, true_or, or_true, false_or, or_false, true_and, and_true, false_and, and_false, not_true_eq_false, not_false_eq_true, ne_eq, u30, ef, gM_EachAddsALineModel_findBest_270]
      · rw [es, e2]; exact h4
      · rw [es, e2]; exact ⟨h5, h6⟩
  · rintro f u ⟨h1, h2, h3, h4, h5, h6⟩
    have u30 : u.1 0 30 = nI (2 * w 5 1) := (h2.2.2 30 (by decide)).trans h30
    refine ⟨u, ?_, h2, h3, h4.1, h4.2⟩
    show gM_EachAddsALineModel_findBest_158 N R (f + 1) (nI v) (nI what) z (nI a) (nI (2 * w 5 1)) u = _
    rw [gM_EachAddsALineModel_findBest_158]
    simp (disch := omega) only [Option.bind_some, ↓reduceIte, ↓M_1, ↓M_2, L_0, L_1, L_2, L_3, L_4, L_5, L_6, L_7, L_8, L_9, L_10, L_11, L_12, L_13, L_20, L_24, L_26, L_30, L_31, L_32, L_39, L_40, L_48, L_57, L_76, L_80, L_90, L_91, L_97, L_99, L_100, L_255, L_273, L_1000, L_2000, q_ld, q_ldL, q_sto, q_stoL, q_add, q_sub, q_mul, q_dec, q_rem, q_div, q_lt_t, q_lt_f, q_le_t, q_le_f, q_eq_t, q_eq_f, q_em, q_me, q_ml, q_lm, q_mle, q_lem, q_s1, q_s1o, q_s1k, q_s12, q_s2, q_s2o, q_s2k, q_s21, Nat.add_sub_cancel, q_or, q_and, q_shl, true_or, or_true, false_or, or_false, true_and, and_true, false_and, and_false, not_true_eq_false, not_false_eq_true, ne_eq, u30, gM_EachAddsALineModel_findBest_276]
/-- what the ends of ways are weighed -/
theorem M_fbHead (f : Nat) {a k : Nat} (h : MW w t) (ha : a < 2 * w 5 1) (hv : v < w 5 0) (hw : what < 3) (hbb : bb < 2 ^ 31) (hk : k < 40) (h34 : t.1 0 34 = nI bb) (h35 : t.1 0 35 = gI go) (e11 : t.1 11 k = nI a) :
    gM_EachAddsALineModel_findBest_11 N (f + 1) (nI v) (nI what) (nI k) t = gM_EachAddsALineModel_findBest_124 N (gM_EachAddsALineModel_findBest_11 N f) (nI v) (nI what) (nI k) (nI a) (nI a) (nI (bas w v what bb go a).2) (s1 t 12 a (nI (bas w v what bb go a).1)) := by
  have hb := h.bd
  have h1 := hr_le h.ok ha
  have h2 := gt_lt h.ok ha
  have h3 : t.1 4 (a / 2) = nI (hr w a) := h.h (m := a / 2) (by omega)
  have eg := M_getter (N := N) h ha
  have eq := gI_eq (g := go) (m := a / 2) (by omega)
  by_cases c1 : gt w a = v
  · by_cases c2 : hr w a ≤ bb
    · by_cases c3 : a / 2 = go
      · rw [show bas w v what bb go a = (1000000, 1000000) from if_neg (fun z => z.2.2 c3), gM_EachAddsALineModel_findBest_11]
        simp (disch := omega) only [Option.bind_some, ↓reduceIte, ↓M_1, ↓M_2, L_0, L_1, L_2, L_3, L_4, L_5, L_6, L_7, L_8, L_9, L_10, L_11, L_12, L_13, L_20, L_24, L_26, L_30, L_31, L_32, L_39, L_40, L_48, L_57, L_76, L_80, L_90, L_91, L_97, L_99, L_100, L_255, L_273, L_1000, L_2000, q_ld, q_ldL, q_sto, q_stoL, q_add, q_sub, q_mul, q_dec, q_rem, q_div, q_lt_t, q_lt_f, q_le_t, q_le_f, q_eq_t, q_eq_f, q_em, q_me, q_ml, q_lm, q_mle, q_lem, q_s1, q_s1o, q_s1k, q_s12, q_s2, q_s2o, q_s2k, q_s21, Nat.add_sub_cancel, q_or, q_and, q_shl, true_or, or_true, false_or, or_false, true_and, and_true, false_and, and_false, not_true_eq_false, not_false_eq_true, ne_eq, e11, eg, h3, h34, h35, eq, eq_true c3, gM_EachAddsALineModel_findBest_64, gM_EachAddsALineModel_findBest_65, gM_EachAddsALineModel_findBest_106, L_1000000]
      · rw [show bas w v what bb go a = (if what = 0 then hr w a else wo w what a, 1) from if_pos ⟨c1, c2, c3⟩, gM_EachAddsALineModel_findBest_11]
        by_cases c4 : what = 0
        · rw [if_pos c4]
          simp (disch := omega) only [Option.bind_some, ↓reduceIte, ↓M_1, ↓M_2, L_0, L_1, L_2, L_3, L_4, L_5, L_6, L_7, L_8, L_9, L_10, L_11, L_12, L_13, L_20, L_24, L_26, L_30, L_31, L_32, L_39, L_40, L_48, L_57, L_76, L_80, L_90, L_91, L_97, L_99, L_100, L_255, L_273, L_1000, L_2000, q_ld, q_ldL, q_sto, q_stoL, q_add, q_sub, q_mul, q_dec, q_rem, q_div, q_lt_t, q_lt_f, q_le_t, q_le_f, q_eq_t, q_eq_f, q_em, q_me, q_ml, q_lm, q_mle, q_lem, q_s1, q_s1o, q_s1k, q_s12, q_s2, q_s2o, q_s2k, q_s21, Nat.add_sub_cancel, q_or, q_and, q_shl, true_or, or_true, false_or, or_false, true_and, and_true, false_and, and_false, not_true_eq_false, not_false_eq_true, ne_eq, e11, eg, h3, h34, h35, eq, c3, gM_EachAddsALineModel_findBest_65, gM_EachAddsALineModel_findBest_106, L_1000000]
        · rw [if_neg c4]
          simp (disch := omega) only [Option.bind_some, ↓reduceIte, ↓M_1, ↓M_2, L_0, L_1, L_2, L_3, L_4, L_5, L_6, L_7, L_8, L_9, L_10, L_11, L_12, L_13, L_20, L_24, L_26, L_30, L_31, L_32, L_39, L_40, L_48, L_57, L_76, L_80, L_90, L_91, L_97, L_99, L_100, L_255, L_273, L_1000, L_2000, q_ld, q_ldL, q_sto, q_stoL, q_add, q_sub, q_mul, q_dec, q_rem, q_div, q_lt_t, q_lt_f, q_le_t, q_le_f, q_eq_t, q_eq_f, q_em, q_me, q_ml, q_lm, q_mle, q_lem, q_s1, q_s1o, q_s1k, q_s12, q_s2, q_s2o, q_s2k, q_s21, Nat.add_sub_cancel, q_or, q_and, q_shl, true_or, or_true, false_or, or_false, true_and, and_true, false_and, and_false, not_true_eq_false, not_false_eq_true, ne_eq, e11, eg, h3, h34, h35, eq, c3, gM_EachAddsALineModel_findBest_65, gM_EachAddsALineModel_findBest_106, L_1000000, M_worth h ha hw]
    · rw [show bas w v what bb go a = (1000000, 1000000) from if_neg (fun z => c2 z.2.1), gM_EachAddsALineModel_findBest_11]
      simp (disch := omega) only [Option.bind_some, ↓reduceIte, ↓M_1, ↓M_2, L_0, L_1, L_2, L_3, L_4, L_5, L_6, L_7, L_8, L_9, L_10, L_11, L_12, L_13, L_20, L_24, L_26, L_30, L_31, L_32, L_39, L_40, L_48, L_57, L_76, L_80, L_90, L_91, L_97, L_99, L_100, L_255, L_273, L_1000, L_2000, q_ld, q_ldL, q_sto, q_stoL, q_add, q_sub, q_mul, q_dec, q_rem, q_div, q_lt_t, q_lt_f, q_le_t, q_le_f, q_eq_t, q_eq_f, q_em, q_me, q_ml, q_lm, q_mle, q_lem, q_s1, q_s1o, q_s1k, q_s12, q_s2, q_s2o, q_s2k, q_s21, Nat.add_sub_cancel, q_or, q_and, q_shl, true_or, or_true, false_or, or_false, true_and, and_true, false_and, and_false, not_true_eq_false, not_false_eq_true, ne_eq, e11, eg, h3, h34, gM_EachAddsALineModel_findBest_64, gM_EachAddsALineModel_findBest_65, gM_EachAddsALineModel_findBest_106, L_1000000]
  · rw [show bas w v what bb go a = (1000000, 1000000) from if_neg (fun z => c1 z.1), gM_EachAddsALineModel_findBest_11]
    simp (disch := omega) only [Option.bind_some, ↓reduceIte, ↓M_1, ↓M_2, L_0, L_1, L_2, L_3, L_4, L_5, L_6, L_7, L_8, L_9, L_10, L_11, L_12, L_13, L_20, L_24, L_26, L_30, L_31, L_32, L_39, L_40, L_48, L_57, L_76, L_80, L_90, L_91, L_97, L_99, L_100, L_255, L_273, L_1000, L_2000, q_ld, q_ldL, q_sto, q_stoL, q_add, q_sub, q_mul, q_dec, q_rem, q_div, q_lt_t, q_lt_f, q_le_t, q_le_f, q_eq_t, q_eq_f, q_em, q_me, q_ml, q_lm, q_mle, q_lem, q_s1, q_s1o, q_s1k, q_s12, q_s2, q_s2o, q_s2k, q_s21, Nat.add_sub_cancel, q_or, q_and, q_shl, true_or, or_true, false_or, or_false, true_and, and_true, false_and, and_false, not_true_eq_false, not_false_eq_true, ne_eq, e11, eg, gM_EachAddsALineModel_findBest_64, gM_EachAddsALineModel_findBest_65, gM_EachAddsALineModel_findBest_106, L_1000000]
theorem bas_lt (h : okW w) {s : Nat} (hs : s < 2 * w 5 1) : (bas w v what bb go s).1 < 2000000 ∧ (bas w v what bb go s).2 < 2000000 := by
  have h1 := hr_le h hs
  have h2 := wo_le h what hs
  unfold bas
  split
  · refine ⟨?_, (by decide : 1 < 2000000)⟩
    show (if what = 0 then hr w s else wo w what s) < 2000000
    split <;> omega
  · exact ⟨(by decide : 1000000 < 2000000), (by decide : 1000000 < 2000000)⟩
theorem M_findBest (h : MW w t) (hN : 60 ≤ N) (hv : v < w 5 0) (hw : what < 3) (hbb : bb < 2 ^ 31) (hbr : br < 512) (h33 : t.1 0 33 = nI br) (h34 : t.1 0 34 = nI bb) (h35 : t.1 0 35 = gI go) :
    ∃ u, fM_EachAddsALineModel_findBest N (nI v) (nI what) t = some u ∧ Fm [11, 12, 13] [] [30] t u ∧ u.1 0 30 = nI (2 * w 5 1) ∧ ∀ s, s < 2 * w 5 1 → u.1 12 s = nI (TB w v what bb br go s).1 ∧ u.1 13 s = nI (TB w v what bb br go s).2 := by
  have hb := h.bd
  obtain ⟨t0, e, a1, a2, a3, a4, a5⟩ := M_findOrder (N := N) h hN
  have em : nI (2 * w 5 1) - nI 1 = nI (2 * w 5 1) + mI 1 := Int32.sub_eq_add_neg _ _
  have h0 : MW w t0 := h.fm a2 (by decide) (by decide)
  simp (disch := omega) only [Option.bind_some, ↓reduceIte, ↓M_1, ↓M_2, L_0, L_1, L_2, L_3, L_4, L_5, L_6, L_7, L_8, L_9, L_10, L_11, L_12, L_13, L_20, L_24, L_26, L_30, L_31, L_32, L_39, L_40, L_48, L_57, L_76, L_80, L_90, L_91, L_97, L_99, L_100, L_255, L_273, L_1000, L_2000, q_ld, q_ldL, q_sto, q_stoL, q_add, q_mul, q_rem, q_div, q_lt_t, q_lt_f, q_le_t, q_le_f, q_eq_t, q_eq_f, q_em, q_me, q_ml, q_lm, q_mle, q_lem, q_s1, q_s1o, q_s1k, q_s12, q_s2, q_s2o, q_s2k, q_s21, Nat.add_sub_cancel, q_or, q_and, q_shl, true_or, or_true, false_or, or_false, true_and, and_true, false_and, and_false, not_true_eq_false, not_false_eq_true, ne_eq, fM_EachAddsALineModel_findBest, gM_EachAddsALineModel_findBest_0, a1, a3, em]
  refine loopD (fun f k u => gM_EachAddsALineModel_findBest_11 N f (nI v) (nI what) (nI k + mI 1) u) (2 * w 5 1) (fun k u => k ≤ 2 * w 5 1 ∧ Fm [12, 13] [] [] t0 u ∧ ∀ j, j < 2 * w 5 1 → k ≤ j → u.1 12 (e j) = nI (TB w v what bb br go (e j)).1 ∧ u.1 13 (e j) = nI (TB w v what bb br go (e j)).2)
    (fun o => ∃ u, o = some u ∧ Fm [11, 12, 13] [] [30] t u ∧ u.1 0 30 = nI (2 * w 5 1) ∧ ∀ s, s < 2 * w 5 1 → u.1 12 s = nI (TB w v what bb br go s).1 ∧ u.1 13 s = nI (TB w v what bb br go s).2) ?_ ?_ (2 * w 5 1) N t0 (Nat.le_refl _) (by omega) ⟨Nat.le_refl _, Fm.rf, fun j h1 h2 => by omega⟩
  · rintro f k u hk ⟨h1, h2, h3⟩
    have hu : MW w u := h0.fm h2 (by decide) (by decide)
    have ha := a5.1 k (by omega)
    have e1 : nI (k + 1) + mI 1 = nI k := q_dec (by omega)
    have e11 : u.1 11 k = nI (e k) := by rw [h2.1 11 (by decide) (by decide)]; exact a4 k (by omega)
    have u33 : u.1 0 33 = nI br := by rw [h2.2.2 33 (by decide), a2.2.2 33 (by decide)]; exact h33
    have u34 : u.1 0 34 = nI bb := by rw [h2.2.2 34 (by decide), a2.2.2 34 (by decide)]; exact h34
    have u35 : u.1 0 35 = gI go := by rw [h2.2.2 35 (by decide), a2.2.2 35 (by decide)]; exact h35
    have u30 : u.1 0 30 = nI (2 * w 5 1) := by rw [h2.2.2 30 (by decide)]; exact a3
    have hd := M_fbHead (N := N) (what := what) (v := v) (bb := bb) (go := go) f hu ha hv hw hbb (by omega) u34 u35 e11
    have hz : MW w (s1 (s1 u 12 (e k) (nI (bas w v what bb go (e k)).1)) 13 (e k) (nI (bas w v what bb go (e k)).2)) := (hu.fm (Fm.w1 (L := [12, 13]) (K := []) (F := []) (by decide) (by decide)) (by decide) (by decide)).fm (Fm.w1 (L := [12, 13]) (K := []) (F := []) (by decide) (by decide)) (by decide) (by decide)
    have h9 := gt_lt h.ok ha
    have eg := M_getter (N := N) hz ha
    have eh := M_has (N := N) (s := s1 (s1 u 12 (e k) (nI (bas w v what bb go (e k)).1)) 13 (e k) (nI (bas w v what bb go (e k)).2)) (b := br) (k := gt w (e k)) (by omega) (by omega)
    have eq := gI_eq (g := go) (m := e k / 2) (by omega)
    have er := TB_rec (v := v) (what := what) (bb := bb) (br := br) (go := go) h.ok ha
    have hf0 : Fm [12, 13] [] [] u (s1 (s1 u 12 (e k) (nI (bas w v what bb go (e k)).1)) 13 (e k) (nI (bas w v what bb go (e k)).2)) := (Fm.w1 (by decide) (by decide)).tr (Fm.w1 (by decide) (by decide))
    have old : ∀ o, o ≠ e k → (s1 (s1 u 12 (e k) (nI (bas w v what bb go (e k)).1)) 13 (e k) (nI (bas w v what bb go (e k)).2)).1 12 o = u.1 12 o ∧ (s1 (s1 u 12 (e k) (nI (bas w v what bb go (e k)).1)) 13 (e k) (nI (bas w v what bb go (e k)).2)).1 13 o = u.1 13 o := fun o ho => by
      simp (disch := omega) only [Option.bind_some, ↓reduceIte, ↓M_1, ↓M_2, L_0, L_1, L_2, L_3, L_4, L_5, L_6, L_7, L_8, L_9, L_10, L_11, L_12, L_13, L_20, L_24, L_26, L_30, L_31, L_32, L_39, L_40, L_48, L_57, L_76, L_80, L_90, L_91, L_97, L_99, L_100, L_255, L_273, L_1000, L_2000, q_ld, q_ldL, q_sto, q_stoL, q_add, q_sub, q_mul, q_dec, q_rem, q_div, q_lt_t, q_lt_f, q_le_t, q_le_f, q_eq_t, q_eq_f, q_em, q_me, q_ml, q_lm, q_mle, q_lem, q_s1, q_s1o, q_s1k, q_s12, q_s2, q_s2o, q_s2k, q_s21, Nat.add_sub_cancel, q_or, q_and, q_shl, true_or, or_true, false_or, or_false, true_and, and_true, false_and, and_false, not_true_eq_false, not_false_eq_true, ne_eq]
    simp only [e1, hd]
    by_cases c : br.testBit (gt w (e k)) = true ∨ e k / 2 = go
    · refine Or.inl ⟨s1 (s1 u 12 (e k) (nI (bas w v what bb go (e k)).1)) 13 (e k) (nI (bas w v what bb go (e k)).2), ?_, by omega, h2.tr hf0, fun j hj1 hj2 => ?_⟩
      · rw [gM_EachAddsALineModel_findBest_124]
        by_cases c1 : br.testBit (gt w (e k)) = true
        · rw [if_pos c1] at eh
          simp (disch := omega) only [Option.bind_some, ↓reduceIte, ↓M_1, ↓M_2, L_0, L_1, L_2, L_3, L_4, L_5, L_6, L_7, L_8, L_9, L_10, L_11, L_12, L_13, L_20, L_24, L_26, L_30, L_31, L_32, L_39, L_40, L_48, L_57, L_76, L_80, L_90, L_91, L_97, L_99, L_100, L_255, L_273, L_1000, L_2000, q_ld, q_ldL, q_sto, q_stoL, q_add, q_sub, q_mul, q_rem, q_div, q_lt_t, q_lt_f, q_le_t, q_le_f, q_eq_t, q_eq_f, q_em, q_me, q_ml, q_lm, q_mle, q_lem, q_s1, q_s1o, q_s1k, q_s12, q_s2, q_s2o, q_s2k, q_s21, Nat.add_sub_cancel, q_or, q_and, q_shl, true_or, or_true, false_or, or_false, true_and, and_true, false_and, and_false, not_true_eq_false, not_false_eq_true, ne_eq, eg, eh, u33, gM_EachAddsALineModel_findBest_276]
        · rw [if_neg c1] at eh
          have c2 : e k / 2 = go := c.elim (fun z => absurd z c1) id
          simp (disch := omega) only [Option.bind_some, ↓reduceIte, ↓M_1, ↓M_2, L_0, L_1, L_2, L_3, L_4, L_5, L_6, L_7, L_8, L_9, L_10, L_11, L_12, L_13, L_20, L_24, L_26, L_30, L_31, L_32, L_39, L_40, L_48, L_57, L_76, L_80, L_90, L_91, L_97, L_99, L_100, L_255, L_273, L_1000, L_2000, q_ld, q_ldL, q_sto, q_stoL, q_add, q_sub, q_mul, q_rem, q_div, q_lt_t, q_lt_f, q_le_t, q_le_f, q_eq_t, q_eq_f, q_em, q_me, q_ml, q_lm, q_mle, q_lem, q_s1, q_s1o, q_s1k, q_s12, q_s2, q_s2o, q_s2k, q_s21, Nat.add_sub_cancel, q_or, q_and, q_shl, true_or, or_true, false_or, or_false, true_and, and_true, false_and, and_false, not_true_eq_false, not_false_eq_true, ne_eq, eg, eh, u33, u35, eq, eq_true c2, gM_EachAddsALineModel_findBest_276]
      · by_cases d : j = k
        · subst d
          rw [er]
          unfold FB
          rw [if_pos c]
          simp (disch := omega) only [Option.bind_some, ↓reduceIte, ↓M_1, ↓M_2, L_0, L_1, L_2, L_3, L_4, L_5, L_6, L_7, L_8, L_9, L_10, L_11, L_12, L_13, L_20, L_24, L_26, L_30, L_31, L_32, L_39, L_40, L_48, L_57, L_76, L_80, L_90, L_91, L_97, L_99, L_100, L_255, L_273, L_1000, L_2000, q_ld, q_ldL, q_sto, q_stoL, q_add, q_sub, q_mul, q_dec, q_rem, q_div, q_lt_t, q_lt_f, q_le_t, q_le_f, q_eq_t, q_eq_f, q_em, q_me, q_ml, q_lm, q_mle, q_lem, q_s1, q_s1o, q_s1k, q_s12, q_s2, q_s2o, q_s2k, q_s21, Nat.add_sub_cancel, q_or, q_and, q_shl, true_or, or_true, false_or, or_false, true_and, and_true, false_and, and_false, not_true_eq_false, not_false_eq_true, ne_eq]
        · have ne : e j ≠ e k := fun z => d (srt_inj a5 hj1 (by omega) z)
          rw [(old _ ne).1, (old _ ne).2]
          exact h3 j hj1 (by omega)
    · obtain ⟨u', y1, y2, y3, y4, y5⟩ := M_fb158 (N := N) (what := what) (v := v) (gM_EachAddsALineModel_findBest_11 N f) (T := TB w v what bb br go) (z := nI k) (x0 := bas w v what bb go (e k)) hz hN ha hw (by simp (disch := omega) only [Option.bind_some, ↓reduceIte, ↓M_1, ↓M_2, L_0, L_1, L_2, L_3, L_4, L_5, L_6, L_7, L_8, L_9, L_10, L_11, L_12, L_13, L_20, L_24, L_26, L_30, L_31, L_32, L_39, L_40, L_48, L_57, L_76, L_80, L_90, L_91, L_97, L_99, L_100, L_255, L_273, L_1000, L_2000, q_ld, q_ldL, q_sto, q_stoL, q_add, q_sub, q_mul, q_dec, q_rem, q_div, q_lt_t, q_lt_f, q_le_t, q_le_f, q_eq_t, q_eq_f, q_em, q_me, q_ml, q_lm, q_mle, q_lem, q_s1, q_s1o, q_s1k, q_s12, q_s2, q_s2o, q_s2k, q_s21, Nat.add_sub_cancel, q_or, q_and, q_shl, true_or, or_true, false_or, or_false, true_and, and_true, false_and, and_false, not_true_eq_false, not_false_eq_true, ne_eq, u30]) (fun o ho hfo => by
          have ne : o ≠ e k := fun z => by
            subst z
            exact gv_ne h.ok ho hfo.1
          obtain ⟨j, j1, j2⟩ := srt_onto a5 ho
          have hjk : k < j := srt_pos a5 j1 (by omega) (by rw [j2]; exact fol_lt h.ok ha hfo)
          have := h3 j j1 (by omega)
          rw [j2] at this
          have hlt := TB_lt (v := v) (what := what) (bb := bb) (br := br) (go := go) h.ok ho
          exact ⟨(old o ne).1.trans this.1, (old o ne).2.trans this.2, hlt.1, hlt.2.1⟩) (by simp (disch := omega) only [Option.bind_some, ↓reduceIte, ↓M_1, ↓M_2, L_0, L_1, L_2, L_3, L_4, L_5, L_6, L_7, L_8, L_9, L_10, L_11, L_12, L_13, L_20, L_24, L_26, L_30, L_31, L_32, L_39, L_40, L_48, L_57, L_76, L_80, L_90, L_91, L_97, L_99, L_100, L_255, L_273, L_1000, L_2000, q_ld, q_ldL, q_sto, q_stoL, q_add, q_sub, q_mul, q_dec, q_rem, q_div, q_lt_t, q_lt_f, q_le_t, q_le_f, q_eq_t, q_eq_f, q_em, q_me, q_ml, q_lm, q_mle, q_lem, q_s1, q_s1o, q_s1k, q_s12, q_s2, q_s2o, q_s2k, q_s21, Nat.add_sub_cancel, q_or, q_and, q_shl, true_or, or_true, false_or, or_false, true_and, and_true, false_and, and_false, not_true_eq_false, not_false_eq_true, ne_eq]) (by simp (disch := omega) only [Option.bind_some, ↓reduceIte, ↓M_1, ↓M_2, L_0, L_1, L_2, L_3, L_4, L_5, L_6, L_7, L_8, L_9, L_10, L_11, L_12, L_13, L_20, L_24, L_26, L_30, L_31, L_32, L_39, L_40, L_48, L_57, L_76, L_80, L_90, L_91, L_97, L_99, L_100, L_255, L_273, L_1000, L_2000, q_ld, q_ldL, q_sto, q_stoL, q_add, q_sub, q_mul, q_dec, q_rem, q_div, q_lt_t, q_lt_f, q_le_t, q_le_f, q_eq_t, q_eq_f, q_em, q_me, q_ml, q_lm, q_mle, q_lem, q_s1, q_s1o, q_s1k, q_s12, q_s2, q_s2o, q_s2k, q_s21, Nat.add_sub_cancel, q_or, q_and, q_shl, true_or, or_true, false_or, or_false, true_and, and_true, false_and, and_false, not_true_eq_false, not_false_eq_true, ne_eq]) (bas_lt h.ok ha)
      refine Or.inl ⟨u', ?_, by omega, (h2.tr hf0).tr y2, fun j hj1 hj2 => ?_⟩
      · rw [gM_EachAddsALineModel_findBest_124]
        have c1 : ¬ br.testBit (gt w (e k)) = true := fun z => c (Or.inl z)
        have c2 : ¬ e k / 2 = go := fun z => c (Or.inr z)
        rw [if_neg c1] at eh
        simp (disch := omega) only [Option.bind_some, ↓reduceIte, ↓M_1, ↓M_2, L_0, L_1, L_2, L_3, L_4, L_5, L_6, L_7, L_8, L_9, L_10, L_11, L_12, L_13, L_20, L_24, L_26, L_30, L_31, L_32, L_39, L_40, L_48, L_57, L_76, L_80, L_90, L_91, L_97, L_99, L_100, L_255, L_273, L_1000, L_2000, q_ld, q_ldL, q_sto, q_stoL, q_add, q_sub, q_mul, q_rem, q_div, q_lt_t, q_lt_f, q_le_t, q_le_f, q_eq_t, q_eq_f, q_em, q_me, q_ml, q_lm, q_mle, q_lem, q_s1, q_s1o, q_s1k, q_s12, q_s2, q_s2o, q_s2k, q_s21, Nat.add_sub_cancel, q_or, q_and, q_shl, true_or, or_true, false_or, or_false, true_and, and_true, false_and, and_false, not_true_eq_false, not_false_eq_true, ne_eq, eg, eh, u33, u35, eq, c2, y1]
      · by_cases d : j = k
        · subst d
          rw [er]
          unfold FB
          rw [if_neg c]
          exact ⟨y4, y5⟩
        · have ne : e j ≠ e k := fun z => d (srt_inj a5 hj1 (by omega) z)
          rw [(y3 _ ne).1, (y3 _ ne).2, (old _ ne).1, (old _ ne).2]
          exact h3 j hj1 (by omega)
  · rintro f u ⟨h1, h2, h3⟩
    refine ⟨u, ?_, (a2.mono (by decide) (by decide) (by decide)).tr (h2.mono (by decide) (by decide) (by decide)), ?_, fun s hs => ?_⟩
    · show gM_EachAddsALineModel_findBest_11 N (f + 1) (nI v) (nI what) (nI 0 + mI 1) u = _
      rw [gM_EachAddsALineModel_findBest_11, if_pos (by decide)]
    · rw [h2.2.2 30 (by decide)]; exact a3
    · obtain ⟨j, j1, j2⟩ := srt_onto a5 hs
      rw [← j2]
      exact h3 j j1 (by omega)
end MF
