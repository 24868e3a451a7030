/-! hands, cheapest, bargain, soonest, without -/
def eH (x : Nat × Nat) : Int := if x.1 < 1000000 then (x.1 : Int) else fC
def eP (x : Nat × Nat) : Int := if x.1 < 1000000 then 32 * (x.1 : Int) + (x.2 : Int) else fC
def eS (c : Nat) (x : Nat × Nat) : Int := if x.1 = c then (x.2 : Int) else fC
section EI
variable {w : Nat → Nat → Nat} {u k v bb bb' br c : Nat}
theorem TB1 (h : okW w) : ∀ s, s < 2 * w 5 1 → (TB w v 1 bb br 100 s).1 < 1000000 → (TB w v 1 bb br 100 s).1 = (TB w v 1 bb br 100 s).2 := by
  refine downI (fun s hs => hr_le h hs) _ (fun s hs ih hf => ?_)
  rcases TB_att (v := v) (what := 1) (bb := bb) (br := br) (go := 100) h hs with z | ⟨z1, z2, z3, z4⟩ | ⟨o, z1, z2, z3, z4, z5, z6⟩
  · rw [z] at hf; exact absurd hf (by decide)
  · rw [z4]; rfl
  · rw [z6]
    have := ih o z1 (fol_lt h hs z2) z3
    unfold prP
    show (TB w v 1 bb br 100 o).1 + 1 = (TB w v 1 bb br 100 o).2 + 1
    rw [this]
theorem EOK_H (h : okW w) : EOK w v 1 1000000 99 br 0 (fun _ => True) eH := by
  refine ⟨fun _ _ _ _ _ _ _ => trivial, fun s hs _ y hy => ?_, fun s hs => ⟨?_, fun z => ?_⟩, fun s hs _ hv => ⟨fun z => ⟨by omega, ?_⟩, fun z1 z2 => absurd (hr_le h hs) z2⟩, fun s o hs ho _ hf hlt => ?_⟩
  · unfold lessP at hy
    unfold eH fC
    split <;> split <;> omega
  · unfold eH fC
    split <;> omega
  · exact if_neg (by omega)
  · rfl
  · have hb := (TB_lt (v := v) (what := 1) (bb := 1000000) (br := br) (go := 100) h ho).2.2.2 hlt
    have e1 : eH (TB w v 1 1000000 br 100 o) = ((TB w v 1 1000000 br 100 o).1 : Int) := if_pos hlt
    have e2 : eH (prP w 1 (TB w v 1 1000000 br 100) s o) = (((TB w v 1 1000000 br 100 o).1 + 1 : Nat) : Int) := if_pos (show (TB w v 1 1000000 br 100 o).1 + 1 < 1000000 by omega)
    rw [e1, e2]
    refine ⟨fun z => ?_, fun _ => ?_⟩
    · unfold fC at z ⊢; omega
    · show _ = _ + (1 : Int); omega
theorem EOK_P (h : okW w) (ho' : okO w) (hb : ∀ s, s < 2 * w 5 1 → (hr w s ≤ bb ↔ hr w s ≤ bb')) : EOK w v 2 bb bb' br 1 (fun _ => True) eP := by
  have hn := h.2.1
  refine ⟨fun _ _ _ _ _ _ _ => trivial, fun s hs _ y hy => ?_, fun s hs => ⟨?_, fun z => ?_⟩, fun s hs _ hv => ⟨fun z => ⟨(hb s hs).mpr z, ?_⟩, fun z1 z2 => absurd ((hb s hs).mp z1) z2⟩, fun s o hs ho _ hf hlt => ?_⟩
  · have hl := TB_lt (v := v) (what := 2) (bb := bb) (br := br) (go := 100) h hs
    have hm := TB_M (v := v) (what := 2) (bb := bb) (br := br) (go := 100) h ho' hs
    unfold lessP at hy
    unfold eP fC
    split
    · rename_i c1
      have := hm c1
      have := hl.2.2.2 c1
      split <;> omega
    · split <;> omega
  · have hl := TB_lt (v := v) (what := 2) (bb := bb) (br := br) (go := 100) h hs
    unfold eP fC
    split
    · rename_i c1
      have := hl.2.2.2 c1
      omega
    · omega
  · exact if_neg (by omega)
  · have h4 := (h.2.2.2 (s / 2) (by omega)).2.2.2.2
    have e : eP (wo w 2 s, 1) = 32 * (w 4 (s / 2) : Int) + 1 := if_pos (show w 4 (s / 2) < 1000000 by omega)
    exact e
  · have hb2 := (TB_lt (v := v) (what := 2) (bb := bb) (br := br) (go := 100) h ho).2.2.2 hlt
    have h4 := (h.2.2.2 (s / 2) (by omega)).2.2.2.2
    have e1 : eP (TB w v 2 bb br 100 o) = 32 * ((TB w v 2 bb br 100 o).1 : Int) + ((TB w v 2 bb br 100 o).2 : Int) := if_pos hlt
    have e2 : eP (prP w 2 (TB w v 2 bb br 100) s o) = 32 * (((TB w v 2 bb br 100 o).1 + w 4 (s / 2) : Nat) : Int) + (((TB w v 2 bb br 100 o).2 + 1 : Nat) : Int) := if_pos (show (TB w v 2 bb br 100 o).1 + w 4 (s / 2) < 1000000 by omega)
    rw [e1, e2]
    refine ⟨fun z => ?_, fun _ => ?_⟩
    · unfold fC at z ⊢; omega
    · show _ = _ + (32 * (w 4 (s / 2) : Int) + 1); omega
theorem EOK_S (h : okW w) (hc : c ≤ 99) : EOK w v 0 1000000 c br 0 (fun s => c ≤ (TB w v 0 1000000 br 100 s).1) (eS c) := by
  have hn := h.2.1
  have w00 : ∀ s, wo w 0 s = 0 := fun s => (if_neg (by decide)).trans (if_neg (by decide))
  refine ⟨fun s o hs ho hg hf hop => ?_, fun s hs hg y hy => ?_, fun s hs => ⟨?_, fun z => ?_⟩, fun s hs hg hv => ⟨fun z => ⟨by omega, ?_⟩, fun z1 z2 => ?_⟩, fun s o hs ho hg hf hlt => ?_⟩
  · rcases Nat.lt_or_ge (TB w v 0 1000000 br 100 o).1 1000000 with y | y
    · have := TB_o (v := v) (what := 0) (bb := 1000000) (br := br) (go := 100) h hs ho hf hop (by omega) y
      unfold prP at this
      rw [w00] at this
      unfold lessP at this
      simp only at this
      omega
    · omega
  · have hl := TB_lt (v := v) (what := 0) (bb := 1000000) (br := br) (go := 100) h hs
    unfold lessP at hy
    unfold eS fC
    split <;> split <;> omega
  · have hl := TB_lt (v := v) (what := 0) (bb := 1000000) (br := br) (go := 100) h hs
    unfold eS fC
    split <;> omega
  · exact if_neg (by omega)
  · have := TB_e (v := v) (what := 0) (bb := 1000000) (br := br) (go := 100) h hs hv (by have := hr_le h hs; omega) (by omega)
    rw [if_pos rfl] at this ⊢
    unfold lessP at this
    simp only at this
    exact if_pos (show hr w s = c by omega)
  · rw [if_pos rfl]
    exact if_neg (show ¬ hr w s = c by omega)
  · have hb2 := (TB_lt (v := v) (what := 0) (bb := 1000000) (br := br) (go := 100) h ho).2.2.2 hlt
    unfold eS prP
    rw [w00, Nat.add_zero]
    refine ⟨fun z => ?_, fun z => ?_⟩
    · simp only
      by_cases d : (TB w v 0 1000000 br 100 o).1 = c
      · rw [if_pos d] at z
        unfold fC at z
        omega
      · rw [if_neg d]
    · simp only
      by_cases d : (TB w v 0 1000000 br 100 o).1 = c
      · rw [if_pos d, if_pos d]
        show (((TB w v 0 1000000 br 100 o).2 + 1 : Nat) : Int) = _ + (1 : Int)
        omega
      · rw [if_neg d] at z
        exact absurd rfl z
end EI
section WY
variable {N : Nat} {w : Nat → Nat → Nat} {s : vSt} {u v k what bb bb' br me b : Nat} {sh : Int32}
theorem W_no (h : CW w s) (hN : 60 ≤ N) (hme : me < 3) (hu : u < w 5 0) (hv : v < w 5 0) (hk : k < 1000) (hbb : bb' < 2 ^ 31) (hsh : shuts w sh br) {G : Nat → Prop} {E : Nat × Nat → Int} (hE : EOK w v what bb bb' br me G E) (hG0 : ∀ s, s < 2 * w 5 1 → beg w u k s → G s)
    (hb : ∀ s, s < 2 * w 5 1 → beg w u k s → 1000000 ≤ (TB w v what bb br 100 s).1) : ∃ z, fC_Paths_aim N (nI v) (nI bb') sh (nI me) s = some z ∧ fC_Paths_traceFrom N (nI u) (nI k) z = some (mI 2, z) ∧ Fr [41, 43] [] s z := by
  obtain ⟨z, a1, a2, a3, a4, a5⟩ := C_aim (N := N) h hN hme hv hbb hsh
  have hz : CW w z := h.fr a2 (by decide)
  have hlf : lf w me (TA w v bb' br me) u k (2 * w 5 1) = fC := by
    rcases lf_att (w := w) (me := me) (K := TA w v bb' br me) (u := u) (r := k) (2 * w 5 1) with c | ⟨o, c1, c2, c3⟩
    · exact c
    · rw [c3, wb_eq h.ok hE o c1 (hG0 o c1 c2)]
      exact (hE.2.2.1 o c1).2 (hb o c1 c2)
  exact ⟨z, a1, C_traceFrom_f (K := TA w v bb' br me) hz hN a4 hme hu hk (fun o ho _ => ⟨a5 o ho, TA_ok h.ok ho⟩) hlf, a2⟩
theorem W_yes (h : CW w s) (hN : 60 ≤ N) (hme : me < 3) (hu : u < w 5 0) (hv : v < w 5 0) (hk : k < 1000) (hbb : bb' < 2 ^ 31) (hsh : shuts w sh br) {G : Nat → Prop} {E : Nat × Nat → Int} (hE : EOK w v what bb bb' br me G E) (hG0 : ∀ s, s < 2 * w 5 1 → beg w u k s → G s)
    (hpos : ∀ s, s < 2 * w 5 1 → (TB w v what bb br 100 s).1 < 1000000 → 1 ≤ E (TB w v what bb br 100 s))
    (hbd : ∀ s, s < 2 * w 5 1 → (TB w v what bb br 100 s).1 < 1000000 → E (TB w v what bb br 100 s) = fC ∨ E (TB w v what bb br 100 s) ≤ 100000)
    (hinj : ∀ s s', s < 2 * w 5 1 → s' < 2 * w 5 1 → E (TB w v what bb br 100 s) = E (TB w v what bb br 100 s') → E (TB w v what bb br 100 s) ≠ fC → TB w v what bb br 100 s = TB w v what bb br 100 s')
    (hb : b < 2 * w 5 1) (hb1 : beg w u k b) (hb2 : (TB w v what bb br 100 b).1 < 1000000) (hb3 : ∀ s, s < 2 * w 5 1 → beg w u k s → ¬ lessP (TB w v what bb br 100 s) (TB w v what bb br 100 b)) (hb4 : E (TB w v what bb br 100 b) ≠ fC) :
    ∃ z s' r, fC_Paths_aim N (nI v) (nI bb') sh (nI me) s = some z ∧ fC_Paths_traceFrom N (nI u) (nI k) z = some (r, s') ∧ (∀ y : vSt, y.1 41 7 = nI me → fC_Paths_measured N (iZ (E (TB w v what bb br 100 b))) y = some (r, y)) ∧ Fr [41, 43] [] s z ∧ Rw (fun j => nI (trQ w u k (vTab (TB w v what bb br 100) (TB w v what bb br 100 b).2) (fun _ s => wo w what s) (TB w v what bb br 100 b).1 j / 2)) (TB w v what bb br 100 b).2 z s' := by
  obtain ⟨z, a1, a2, a3, a4, a5⟩ := C_aim (N := N) h hN hme hv hbb hsh
  have hz : CW w z := h.fr a2 (by decide)
  obtain ⟨Ej, t1, t2, t3, t4, t5, t6, t7, t8⟩ := trace_ok h.ok h.or hE hG0 hpos hbd hinj hb hb1 hb2 hb3 hb4
  obtain ⟨s', r, b1, b2, b3⟩ := C_traceFrom_t (N := N) (K := TA w v bb' br me) hz hN a4 hme hu hk (fun o ho => ⟨a5 o ho, TA_ok h.ok ho⟩) t1 t3 t4 t5 t6 t7 t8
  rw [t2] at b2
  exact ⟨z, s', r, a1, b1, b2, a2, b3⟩
theorem shuts0 : shuts w (nI 0) 0 := fun p _ => by
  rw [q_and, Nat.zero_and, Nat.zero_testBit]
  exact propext ⟨fun _ => rfl, fun _ => rfl⟩
end WY
section KT
variable {N : Nat} {U : vSt → vSt → Prop} {L K L' K' F : List Nat} {s s' t t' : vSt}
theorem RR.k0 (hU : okU U) (h : RR U s t) : RR U s (s1 t 0 11 (nI 0)) := h.fr hU (Fr.rf (L := []) (K := [])) (Fm.w10 (L := []) (K := []) (F := [11]) (by decide)) (by decide) (by decide) (by decide)
/-- the row, and what the reference has put and taken back -/
theorem RR.roM (hU : okU U) (h : RR U s t) (h4 : RO s' t') (h9' : MC t') (f : Fr L K s s') (g : Fm L' K' F t t') (hL : ∀ o, o ∈ L → o = 3 ∨ o = 4 ∨ o = 16 ∨ (19 ≤ o ∧ o ≤ 24) ∨ 41 ≤ o)
    (hM : ∀ o, o ∈ L' → o = 7 ∨ (10 ≤ o ∧ o ≤ 15) ∨ (17 ≤ o ∧ o ≤ 21)) (hF : ∀ o, o ∈ F → (10 ≤ o ∧ o ≤ 17) ∨ (19 ≤ o ∧ o ≤ 39) ∨ (42 ≤ o)) : RR U s' t' := by
  obtain ⟨w, h1, h2, h3, _, h5, h6, h7, h8, h9⟩ := h
  have a : ∀ o, (o < 3 ∨ (4 < o ∧ o < 16) ∨ (16 < o ∧ o < 19) ∨ (24 < o ∧ o < 41)) → o ∉ L := fun o ho z => by have := hL o z; omega
  have b : ∀ o, (o < 7 ∨ (7 < o ∧ o < 10) ∨ o = 16 ∨ 21 < o) → o ∉ L' := fun o ho z => by have := hM o z; omega
  have c : ∀ o, (o < 10 ∨ o = 18 ∨ o = 40 ∨ o = 41) → o ∉ F := fun o ho z => by have := hF o z; omega
  exact ⟨w, h1.fr f ⟨a _ (by decide), a _ (by decide), a _ (by decide), a _ (by decide), a _ (by decide), a _ (by decide), a _ (by decide)⟩,
    h2.fm g ⟨c _ (by decide), c _ (by decide)⟩ ⟨b _ (by decide), b _ (by decide), b _ (by decide), b _ (by decide), b _ (by decide)⟩,
    h3.fr f g ⟨a _ (by decide), a _ (by decide)⟩ ⟨b _ (by decide), c _ (by decide)⟩, h4,
    h5.fr f g ⟨a _ (by decide), a _ (by decide)⟩ ⟨b _ (by decide), c _ (by decide)⟩, h6.fr f g ⟨a _ (by decide), a _ (by decide)⟩ ⟨b _ (by decide), c _ (by decide)⟩,
    h7.fr f g (fun o ho z => a o (by omega) ho) ⟨b _ (by decide), b _ (by decide), b _ (by decide)⟩, hU.fr h8 f g ⟨a _ (by decide), a _ (by decide)⟩ ⟨b _ (by decide), c _ (by decide)⟩, h9'⟩
theorem RR.mc (h : RR U s t) : MC t := h.choose_spec.2.2.2.2.2.2.2.2
theorem RR.ron (h : RR U s t) : RO s t := h.choose_spec.2.2.2.1
/-- a call with a trip -/
theorem keeps3_trip (hU : okU U) {fC fM : Nat → Int32 → Int32 → Int32 → vSt → Option (Int32 × vSt)}
    (c0 : ∀ w s a b c, CW w s → fC_EachAddsALine_isTrip N a b c s = some (0, s) → fC N a b c s = some (mI 1, s))
    (m0 : ∀ w t a b c, MW w t → fM_EachAddsALineModel_isTrip N a b c (s1 t 0 11 (nI 0)) = some (0, s1 t 0 11 (nI 0)) → fM N a b c t = some (mI 1, s1 t 0 11 (nI 0)))
    (h : ∀ s t w u v k, RR U s t → CW w s → MW w t → u < w 5 0 → v < w 5 0 → k < 100 → fC_EachAddsALine_isTrip N (nI u) (nI v) (nI k) s = some (nI 1, s) → fM_EachAddsALineModel_isTrip N (nI u) (nI v) (nI k) (s1 t 0 11 (nI 0)) = some (nI 1, s1 t 0 11 (nI 0)) → ∃ r s' t', fC N (nI u) (nI v) (nI k) s = some (r, s') ∧ fM N (nI u) (nI v) (nI k) t = some (r, t') ∧ RR U s' t') : keeps3 N (RR U) fC fM := fun s t hr a b c => by
  obtain ⟨w, h1, h2, _⟩ := id hr
  have h2' := M_rd0 h2 (nI 0)
  by_cases d : trip w a b c
  · obtain ⟨⟨u, hu, rfl⟩, ⟨v, hv, rfl⟩, ⟨k, hk, rfl⟩⟩ := d
    exact h s t w u v k hr h1 h2 hu hv hk (C_isTrip_t h1 hu hv hk) (M_isTrip_t h2' hu hv hk)
  · exact ⟨_, _, _, c0 w s a b c h1 (C_isTrip_f h1 d), m0 w t a b c h2 (M_isTrip_f h2' d), hr.k0 hU⟩
theorem MC.r (h : MC t) : t.1 0 34 = nI 1000000 ∧ t.1 0 35 = gI 100 ∧ t.1 0 37 = gI 100 ∧ t.1 0 44 = gI 100 := h
theorem k_hands (hU : okU U) (hN : 200 ≤ N) : keeps3 N (RR U) fC_EachAddsALine_hands fM_EachAddsALineModel_hands := by
  refine keeps3_trip hU (fun w s a b c hw e => by simp (disch := omega) only [Option.bind_some, ↓reduceIte, ↓M_1, ↓M_2, L_0, L_1, L_2, L_3, L_4, L_5, L_6, L_7, L_8, L_9, L_10, L_11, L_12, L_13, L_20, L_24, L_26, L_30, L_31, L_32, L_39, L_40, L_48, L_57, L_76, L_80, L_90, L_91, L_97, L_99, L_100, L_255, L_273, L_1000, L_2000, q_ld, q_ldL, q_sto, q_stoL, q_add, q_sub, q_mul, q_dec, q_rem, q_div, q_lt_t, q_lt_f, q_le_t, q_le_f, q_eq_t, q_eq_f, q_em, q_me, q_ml, q_lm, q_mle, q_lem, q_s1, q_s1o, q_s1k, q_s12, q_s2, q_s2o, q_s2k, q_s21, Nat.add_sub_cancel, q_or, q_and, q_shl, true_or, or_true, false_or, or_false, true_and, and_true, false_and, and_false, not_true_eq_false, not_false_eq_true, ne_eq, fC_EachAddsALine_hands, gC_EachAddsALine_hands_0, e]) (fun w t a b c hw e => by simp (disch := omega) only [Option.bind_some, ↓reduceIte, ↓M_1, ↓M_2, L_0, L_1, L_2, L_3, L_4, L_5, L_6, L_7, L_8, L_9, L_10, L_11, L_12, L_13, L_20, L_24, L_26, L_30, L_31, L_32, L_39, L_40, L_48, L_57, L_76, L_80, L_90, L_91, L_97, L_99, L_100, L_255, L_273, L_1000, L_2000, q_ld, q_ldL, q_sto, q_stoL, q_add, q_sub, q_mul, q_dec, q_rem, q_div, q_lt_t, q_lt_f, q_le_t, q_le_f, q_eq_t, q_eq_f, q_em, q_me, q_ml, q_lm, q_mle, q_lem, q_s1, q_s1o, q_s1k, q_s12, q_s2, q_s2o, q_s2k, q_s21, Nat.add_sub_cancel, q_or, q_and, q_shl, true_or, or_true, false_or, or_false, true_and, and_true, false_and, and_false, not_true_eq_false, not_false_eq_true, ne_eq, fM_EachAddsALineModel_hands, gM_EachAddsALineModel_hands_0, e]) (fun s t w u v k hr h1 h2 hu hv hk ec em => ?_)
  have hN6 : 60 ≤ N := by omega
  have hmc := hr.mc.r
  have g0 : Fm [] [] [11, 33] t (s1 (s1 t 0 11 (nI 0)) 0 33 (nI 0)) := (Fm.w10 (by decide)).tr (Fm.w10 (by decide))
  have h2' : MW w (s1 (s1 t 0 11 (nI 0)) 0 33 (nI 0)) := h2.fm g0 (by decide) (by decide)
  have e34 : (s1 (s1 t 0 11 (nI 0)) 0 33 (nI 0)).1 0 34 = nI 1000000 := (g0.2.2 34 (by decide)).trans hmc.1
  have e35 : (s1 (s1 t 0 11 (nI 0)) 0 33 (nI 0)).1 0 35 = gI 100 := (g0.2.2 35 (by decide)).trans hmc.2.1
  have hb := h1.bd
  rcases bst_ok w (TB w v 1 1000000 0 100) u k (2 * w 5 1) (by omega) with ⟨b1, b2⟩ | ⟨b1, b2, b3, b4⟩
  · obtain ⟨z, x1, x2, x3⟩ := W_no (N := N) h1 hN6 (by decide) hu hv (show k < 1000 by omega) (by decide) shuts0 (EOK_H (v := v) (br := 0) h1.ok) (fun _ _ _ => trivial) b2
    obtain ⟨t', y1, y2⟩ := M_tellBest_f (N := N) (what := 1) (br := 0) h2' hN6 hu hv (show k < 1000 by omega) (by decide) (by decide) (by decide) (q_s1 _ _ _ _) e34 e35 b1
    refine ⟨mI 2, z, t', ?_, ?_, hr.fr hU x3 ((g0.mono (by decide) (by decide) (by decide)).tr (y2.mono (by decide) (by decide) (by decide)) : Fm [11, 12, 13] [] [11, 30, 33] t t') (by decide) (by decide) (by decide)⟩
    · simp (disch := omega) only [Option.bind_some, ↓reduceIte, ↓M_1, ↓M_2, L_0, L_1, L_2, L_3, L_4, L_5, L_6, L_7, L_8, L_9, L_10, L_11, L_12, L_13, L_20, L_24, L_26, L_30, L_31, L_32, L_39, L_40, L_48, L_57, L_76, L_80, L_90, L_91, L_97, L_99, L_100, L_255, L_273, L_1000, L_2000, q_ld, q_ldL, q_sto, q_stoL, q_add, q_sub, q_mul, q_dec, q_rem, q_div, q_lt_t, q_lt_f, q_le_t, q_le_f, q_eq_t, q_eq_f, q_em, q_me, q_ml, q_lm, q_mle, q_lem, q_s1, q_s1o, q_s1k, q_s12, q_s2, q_s2o, q_s2k, q_s21, Nat.add_sub_cancel, q_or, q_and, q_shl, true_or, or_true, false_or, or_false, true_and, and_true, false_and, and_false, not_true_eq_false, not_false_eq_true, ne_eq, fC_EachAddsALine_hands, gC_EachAddsALine_hands_0, ec, x1, x2]
    · simp (disch := omega) only [Option.bind_some, ↓reduceIte, ↓M_1, ↓M_2, L_0, L_1, L_2, L_3, L_4, L_5, L_6, L_7, L_8, L_9, L_10, L_11, L_12, L_13, L_20, L_24, L_26, L_30, L_31, L_32, L_39, L_40, L_48, L_57, L_76, L_80, L_90, L_91, L_97, L_99, L_100, L_255, L_273, L_1000, L_2000, q_ld, q_ldL, q_sto, q_stoL, q_add, q_sub, q_mul, q_dec, q_rem, q_div, q_lt_t, q_lt_f, q_le_t, q_le_f, q_eq_t, q_eq_f, q_em, q_me, q_ml, q_lm, q_mle, q_lem, q_s1, q_s1o, q_s1k, q_s12, q_s2, q_s2o, q_s2k, q_s21, Nat.add_sub_cancel, q_or, q_and, q_shl, true_or, or_true, false_or, or_false, true_and, and_true, false_and, and_false, not_true_eq_false, not_false_eq_true, ne_eq, fM_EachAddsALineModel_hands, gM_EachAddsALineModel_hands_0, em, y1]
  · have hT1 := TB1 (v := v) (bb := 1000000) (br := 0) h1.ok
    obtain ⟨z, s', r, x1, x2, x3, x4, x5⟩ := W_yes (N := N) h1 hN6 (by decide) hu hv (show k < 1000 by omega) (by decide) shuts0 (EOK_H (v := v) (br := 0) h1.ok) (fun _ _ _ => trivial)
      (fun s hs hf => by
        have := TB_lt (v := v) (what := 1) (bb := 1000000) (br := 0) (go := 100) h1.ok hs
        have := hT1 s hs hf
        unfold eH
        rw [if_pos hf]
        omega)
      (fun s hs hf => by
        have := TB_lt (v := v) (what := 1) (bb := 1000000) (br := 0) (go := 100) h1.ok hs
        unfold eH
        rw [if_pos hf]
        omega)
      (fun s s' hs hs' he hne => by
        have l1 := TB_lt (v := v) (what := 1) (bb := 1000000) (br := 0) (go := 100) h1.ok hs
        have l2 := TB_lt (v := v) (what := 1) (bb := 1000000) (br := 0) (go := 100) h1.ok hs'
        have t1 := hT1 s hs
        have t2 := hT1 s' hs'
        unfold eH fC at he hne
        refine Prod.ext ?_ ?_
        · split at he <;> split at he <;> omega
        · split at he <;> split at he <;> omega) b1 b2 b3 b4 (by
        unfold eH fC
        rw [if_pos b3]
        omega)
    obtain ⟨t', y1, y2, y3, y4⟩ := M_tellBest_t (N := N) (what := 1) (br := 0) h2' hN hu hv (show k < 1000 by omega) (by decide) (by decide) (by decide) (q_s1 _ _ _ _) e34 e35 rfl b1 b2 b3
    have em2 : r = nI (TB w v 1 1000000 0 100 (bst w (TB w v 1 1000000 0 100) u k (2 * w 5 1))).1 := by
      have x6 := x3 (s1 s 41 7 (nI 0)) (q_s1 _ _ _ _)
      have x7 : fC_Paths_measured N (iZ (eH (TB w v 1 1000000 0 100 (bst w (TB w v 1 1000000 0 100) u k (2 * w 5 1))))) (s1 s 41 7 (nI 0)) = some (iZ (eH (TB w v 1 1000000 0 100 (bst w (TB w v 1 1000000 0 100) u k (2 * w 5 1)))), s1 s 41 7 (nI 0)) := by simp (disch := omega) only [Option.bind_some, ↓reduceIte, ↓M_1, ↓M_2, L_0, L_1, L_2, L_3, L_4, L_5, L_6, L_7, L_8, L_9, L_10, L_11, L_12, L_13, L_20, L_24, L_26, L_30, L_31, L_32, L_39, L_40, L_48, L_57, L_76, L_80, L_90, L_91, L_97, L_99, L_100, L_255, L_273, L_1000, L_2000, q_ld, q_ldL, q_sto, q_stoL, q_add, q_sub, q_mul, q_dec, q_rem, q_div, q_lt_t, q_lt_f, q_le_t, q_le_f, q_eq_t, q_eq_f, q_em, q_me, q_ml, q_lm, q_mle, q_lem, q_s1, q_s1o, q_s1k, q_s12, q_s2, q_s2o, q_s2k, q_s21, Nat.add_sub_cancel, q_or, q_and, q_shl, true_or, or_true, false_or, or_false, true_and, and_true, false_and, and_false, not_true_eq_false, not_false_eq_true, ne_eq, fC_Paths_measured, gC_Paths_measured_0]
      rw [x7] at x6
      have x8 := congrArg Prod.fst (Option.some.inj x6)
      simp only at x8
      rw [← x8, z_n]
      exact congrArg iZ (if_pos b3)
    refine ⟨r, s', t', ?_, ?_, hr.ro hU (RO.of x5 ⟨Fm.rf, y3, y4⟩ : RO s' t') ((x4.mono (by decide) (by decide)).tr (x5.1.mono (by decide) (by decide)) : Fr [3, 4, 41, 43] [] s s') ((g0.mono (by decide) (by decide) (by decide)).tr (y2.mono (by decide) (by decide) (by decide)) : Fm [7, 11, 12, 13] [] [10, 11, 30, 33] t t') (by decide) (by decide) (by decide)⟩
    · simp (disch := omega) only [Option.bind_some, ↓reduceIte, ↓M_1, ↓M_2, L_0, L_1, L_2, L_3, L_4, L_5, L_6, L_7, L_8, L_9, L_10, L_11, L_12, L_13, L_20, L_24, L_26, L_30, L_31, L_32, L_39, L_40, L_48, L_57, L_76, L_80, L_90, L_91, L_97, L_99, L_100, L_255, L_273, L_1000, L_2000, q_ld, q_ldL, q_sto, q_stoL, q_add, q_sub, q_mul, q_dec, q_rem, q_div, q_lt_t, q_lt_f, q_le_t, q_le_f, q_eq_t, q_eq_f, q_em, q_me, q_ml, q_lm, q_mle, q_lem, q_s1, q_s1o, q_s1k, q_s12, q_s2, q_s2o, q_s2k, q_s21, Nat.add_sub_cancel, q_or, q_and, q_shl, true_or, or_true, false_or, or_false, true_and, and_true, false_and, and_false, not_true_eq_false, not_false_eq_true, ne_eq, fC_EachAddsALine_hands, gC_EachAddsALine_hands_0, ec, x1, x2]
    · rw [em2]
      simp (disch := omega) only [Option.bind_some, ↓reduceIte, ↓M_1, ↓M_2, L_0, L_1, L_2, L_3, L_4, L_5, L_6, L_7, L_8, L_9, L_10, L_11, L_12, L_13, L_20, L_24, L_26, L_30, L_31, L_32, L_39, L_40, L_48, L_57, L_76, L_80, L_90, L_91, L_97, L_99, L_100, L_255, L_273, L_1000, L_2000, q_ld, q_ldL, q_sto, q_stoL, q_add, q_sub, q_mul, q_dec, q_rem, q_div, q_lt_t, q_lt_f, q_le_t, q_le_f, q_eq_t, q_eq_f, q_em, q_me, q_ml, q_lm, q_mle, q_lem, q_s1, q_s1o, q_s1k, q_s12, q_s2, q_s2o, q_s2k, q_s21, Nat.add_sub_cancel, q_or, q_and, q_shl, true_or, or_true, false_or, or_false, true_and, and_true, false_and, and_false, not_true_eq_false, not_false_eq_true, ne_eq, fM_EachAddsALineModel_hands, gM_EachAddsALineModel_hands_0, em, y1]
end KT
