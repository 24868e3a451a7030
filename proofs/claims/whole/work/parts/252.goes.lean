/-! goes -/
def RRw (U : vSt → vSt → Prop) (w : Nat → Nat → Nat) (s t : vSt) : Prop := CW w s ∧ MW w t ∧ TX s t ∧ RO s t ∧ TLr 5 6 40 0 s t ∧ TLr 7 8 41 12 s t ∧ KP (w 5 0) s t ∧ U s t ∧ MC t
theorem RRw.lu {U : vSt → vSt → Prop} {L K L' K' F : List Nat} {w : Nat → Nat → Nat} {s s' t t' : vSt} (h : RRw U w s t) (h8 : U s' t') (h10 : LTx (w 5 0) 26 9 0 s' t')
    (f : Fr L K s s') (g : Fm L' K' F t t') (hL : ∀ o, o ∈ L → (27 ≤ o ∧ o ≤ 30) ∨ (16 ≤ o ∧ o ≤ 24) ∨ 41 ≤ o)
    (hM : ∀ o, o ∈ L' → (9 ≤ o ∧ o ≤ 15) ∨ (17 ≤ o ∧ o ≤ 21)) (hF : ∀ o, o ∈ F → (11 ≤ o ∧ o ≤ 17) ∨ (19 ≤ o ∧ o ≤ 33) ∨ (45 ≤ o)) : RRw U w s' t' := by
  obtain ⟨h1, h2, h3, h4, h5, h6, h7, _, h9⟩ := h
  have a : ∀ o, (o < 16 ∨ (24 < o ∧ o < 27) ∨ (30 < o ∧ o < 41)) → o ∉ L := fun o ho z => by have := hL o z; omega
  have b : ∀ o, (o < 9 ∨ o = 16 ∨ 21 < o) → o ∉ L' := fun o ho z => by have := hM o z; omega
  have c : ∀ o, (o < 11 ∨ o = 18 ∨ (33 < o ∧ o < 45)) → o ∉ F := fun o ho z => by have := hF o z; omega
  refine ⟨h1.fr f ⟨a _ (by decide), a _ (by decide), a _ (by decide), a _ (by decide), a _ (by decide), a _ (by decide), a _ (by decide)⟩,
    h2.fm g ⟨c _ (by decide), c _ (by decide)⟩ ⟨b _ (by decide), b _ (by decide), b _ (by decide), b _ (by decide), b _ (by decide)⟩,
    h3.fr f g ⟨a _ (by decide), a _ (by decide)⟩ ⟨b _ (by decide), c _ (by decide)⟩, h4.fr f g ⟨a _ (by decide), a _ (by decide)⟩ ⟨b _ (by decide), c _ (by decide)⟩,
    h5.fr f g ⟨a _ (by decide), a _ (by decide)⟩ ⟨b _ (by decide), c _ (by decide)⟩, h6.fr f g ⟨a _ (by decide), a _ (by decide)⟩ ⟨b _ (by decide), c _ (by decide)⟩,
    ⟨h10, fun i hi => ?_⟩, h8,
    h9.fr g ⟨c _ (by decide), c _ (by decide), c _ (by decide), c _ (by decide)⟩⟩
  rw [f.1 25 (a _ (by decide)), g.1 23 (by decide) (b _ (by decide))]
  exact (h7.2 i hi).imp id (fun z => ⟨z.1, z.2.1, z.2.2.fr f g ⟨a _ (by omega), a _ (by omega), a _ (by omega), a _ (by omega)⟩ ⟨by decide, b _ (by decide)⟩⟩)
section GO
variable {N l n m : Nat} {w : Nat → Nat → Nat} {wh si li : Nat → Nat} {s t : vSt}
theorem goes_step (hN : 100 ≤ N) (h : RRw (UR N) w s t) (hl : l < 3) (ho : okL (w 5 0) (n + 1) wh si li) (hC : CL l (n + 1) wh si li s) (hM : ML l (n + 1) wh si li t) (hm : m < w 5 1) (hr : rfs w wh si (n + 1) m = 0) :
    ∃ j s' t', fC_Post_handOn N (nI l) (nI m) s = some (nI j, s') ∧ fM_EachAddsALineModel_makeHand N (nI l) (nI m) t = some (nI j, t') ∧ RRw (UR N) w s' t' ∧ okL (w 5 0) (n + 2) (up wh (n + 1) (oth w m (wh n))) (up si (n + 1) (w 3 m)) (up li (n + 1) j) ∧ CL l (n + 2) (up wh (n + 1) (oth w m (wh n))) (up si (n + 1) (w 3 m)) (up li (n + 1) j) s' ∧ ML l (n + 2) (up wh (n + 1) (oth w m (wh n))) (up si (n + 1) (w 3 m)) (up li (n + 1) j) t' := by
  obtain ⟨h1, h2, h3, h4, h5, h6, h7, h8, h9⟩ := id h
  have hn := ho.1
  obtain ⟨q, x, C, u1, u2⟩ := h8.get
  have hn30 : n + 1 < 30 := by
    rcases rfs_cases w wh si n m with ⟨_, e⟩ | ⟨_, _, e⟩ | ⟨_, _, _, e⟩ | ⟨_, _, c3, e⟩
    · rw [hr] at e; cases e
    · rw [hr] at e; cases e
    · rw [hr] at e; cases e
    · omega
  obtain ⟨j, hj, hj2⟩ := lm_ix (rv C (eHd w wh li n m))
  obtain ⟨hd, mk⟩ := M_make (N := N) hN h2 hl ho hM hm hn30 u1
  obtain ⟨t', d1, d2, d3, d4⟩ := mk j hj2
  obtain ⟨s', g1, g2, g3, g4, g5, g6⟩ := C_make (N := N) hN h1 hl ho hC hm hr u2 hd hj2
  have ho' := okL.up (j := j) (g := oth w m (wh n)) (h := w 3 m) ho hn30 (by omega) (oth_lt h1.ok hm) (h1.ok.2.2.2 m hm).2.2.2.1
  exact ⟨j, s', t', g1, d1, h.lu (UR.put (u1.fm d2 (by decide) (by decide)) (u2.fr g2 g3 (by decide))) (h7.1.set hl ho' g4 d3 g5 g6 d4) g2 d2 (by decide) (by decide) (by decide), ho', g4, d3⟩
theorem goes_run {K : Nat} (hN : 100 ≤ N) (hl : l < 3) (hK : K ≤ 20) : ∀ d k f g n wh si li s t c, k + d = K → d < f → d < g → RRw (UR N) w s t → okL (w 5 0) (n + 1) wh si li → CL l (n + 1) wh si li s → ML l (n + 1) wh si li t → NX w wh si n (w 5 1) c →
    ∃ r n' wh' si' li' s' t', gC_Post_passOn_2 N f (nI l) (nI K) (nI k) s = some (nI r, s') ∧ gM_EachAddsALineModel_goes_34 N g (nI l) (nI K) (nI k) (gI c) t = gM_EachAddsALineModel_goes_66 N (nI l) (nI r) t' ∧ RRw (UR N) w s' t' ∧ okL (w 5 0) (n' + 1) wh' si' li' ∧ CL l (n' + 1) wh' si' li' s' ∧ ML l (n' + 1) wh' si' li' t' := by
  intro d
  induction d with
  | zero =>
    intro k f g n wh si li s t c hk hf hg h ho hC hM hc
    obtain ⟨f, rfl⟩ : ∃ a, f = a + 1 := ⟨f - 1, by omega⟩
    obtain ⟨g, rfl⟩ : ∃ a, g = a + 1 := ⟨g - 1, by omega⟩
    obtain rfl : k = K := by omega
    refine ⟨k, n, wh, si, li, s, t, ?_, ?_, h, ho, hC, hM⟩
    · rw [gC_Post_passOn_2, if_pos (Int32.le_refl _)]
    · rw [gM_EachAddsALineModel_goes_34, if_pos (Int32.le_refl _)]
  | succ d ih =>
    intro k f g n wh si li s t c hk hf hg h ho hC hM hc
    obtain ⟨f, rfl⟩ : ∃ a, f = a + 1 := ⟨f - 1, by omega⟩
    obtain ⟨g, rfl⟩ : ∃ a, g = a + 1 := ⟨g - 1, by omega⟩
    have hle : ¬ nI K ≤ nI k := nI_ge (by omega) (by omega)
    have hq := h.1.ok.2.1
    obtain ⟨c2, x1, x2⟩ := C_nextM (N := N) hN h.1 hl ho hC
    obtain rfl := x1.uniq hc
    by_cases c0 : c2 < 100
    · have hx : c2 < w 5 1 ∧ nxg w wh si n c2 := by
        rcases hc with ⟨z, _⟩ | ⟨z1, z2, _⟩
        · omega
        · exact ⟨z1, z2⟩
      rw [gI_nI (g := c2) c0] at x2
      have hne : ¬ nI c2 = mI 1 := by rw [q_em (by omega) (by omega) (by omega)]; exact id
      obtain ⟨j, s1', t1', y1, y2, y3, y4, y5, y6⟩ := goes_step (N := N) hN h hl ho hC hM hx.1 hx.2.1
      obtain ⟨c3, z1, z2⟩ := M_firstNew (N := N) hN y3.2.1 hl y4 y6
      obtain ⟨r, n', wh', si', li', s', t', v1, v2, v3⟩ := ih (k + 1) f g (n + 1) _ _ _ s1' t1' c3 (by omega) (by omega) (by omega) y3 y4 y5 y6 z1
      refine ⟨r, n', wh', si', li', s', t', ?_, ?_, v3⟩
      · rw [← v1, gC_Post_passOn_2, if_neg hle, x2, Option.bind_some, M_1, if_neg (show ¬ (nI c2, s).1 = mI 1 from hne), y1]
        simp only [Option.bind_some, nI_1]
      · rw [← v2, gI_nI (g := c2) c0, gM_EachAddsALineModel_goes_34, if_neg hle, M_1, if_neg hne, y2]
        simp only [Option.bind_some, nI_1, z2]
    · rw [gI_no (g := c2) c0] at x2
      refine ⟨k, n, wh, si, li, s, t, ?_, ?_, h, ho, hC, hM⟩
      · rw [gC_Post_passOn_2, if_neg hle, x2, Option.bind_some, M_1, if_pos (show (mI 1, s).1 = mI 1 from rfl)]
      · rw [gI_no (g := c2) c0, gM_EachAddsALineModel_goes_34, if_neg hle, M_1, if_pos rfl]
theorem k_goes (hN : 100 ≤ N) : keeps2 N (RR (UR N)) fC_EachAddsALine_goes fM_EachAddsALineModel_goes := fun s t h v a => by
  have kept : RR (UR N) s (s1 t 0 11 (nI 0)) := h.fr (okUR N) (Fr.rf (L := []) (K := [])) (Fm.w10 (L := []) (K := []) (F := [11]) (by decide)) (by decide) (by decide) (by decide)
  obtain ⟨w, hw⟩ : ∃ w, RRw (UR N) w s (s1 t 0 11 (nI 0)) := id kept
  obtain ⟨h1, h2, h3, h4, h5, h6, h7, h8, h9⟩ := id hw
  by_cases c : isP 3 v
  · obtain ⟨l, hl, rfl⟩ := c
    obtain ⟨n, wh, si, li, ho, hC, hM⟩ := h7.1.get hl
    have hn := ho.1
    have a1 := C_isThere (N := N) hl hn hC
    have b1 := M_isLetter (N := N) hl hn hM
    by_cases c0 : n = 0
    · rw [if_pos c0] at a1 b1
      refine ⟨mI 1, s, s1 t 0 11 (nI 0), ?_, ?_, kept⟩
      · simp (disch := omega) only [Option.bind_some, ↓reduceIte, ↓M_1, ↓M_2, L_0, L_1, L_2, L_3, L_4, L_5, L_6, L_7, L_8, L_9, L_10, L_11, L_12, L_13, L_20, L_24, L_26, L_30, L_31, L_32, L_39, L_40, L_48, L_57, L_76, L_80, L_90, L_91, L_97, L_99, L_100, L_255, L_273, L_1000, L_2000, q_ld, q_ldL, q_sto, q_stoL, q_add, q_sub, q_mul, q_dec, q_rem, q_div, q_lt_t, q_lt_f, q_le_t, q_le_f, q_eq_t, q_eq_f, q_em, q_me, q_ml, q_lm, q_mle, q_lem, q_s1, q_s1o, q_s1k, q_s12, q_s2, q_s2o, q_s2k, q_s21, Nat.add_sub_cancel, q_or, q_and, q_shl, true_or, or_true, false_or, or_false, true_and, and_true, false_and, and_false, not_true_eq_false, not_false_eq_true, ne_eq, fC_EachAddsALine_goes, gC_EachAddsALine_goes_0, a1]
      · simp (disch := omega) only [Option.bind_some, ↓reduceIte, ↓M_1, ↓M_2, L_0, L_1, L_2, L_3, L_4, L_5, L_6, L_7, L_8, L_9, L_10, L_11, L_12, L_13, L_20, L_24, L_26, L_30, L_31, L_32, L_39, L_40, L_48, L_57, L_76, L_80, L_90, L_91, L_97, L_99, L_100, L_255, L_273, L_1000, L_2000, q_ld, q_ldL, q_sto, q_stoL, q_add, q_sub, q_mul, q_dec, q_rem, q_div, q_lt_t, q_lt_f, q_le_t, q_le_f, q_eq_t, q_eq_f, q_em, q_me, q_ml, q_lm, q_mle, q_lem, q_s1, q_s1o, q_s1k, q_s12, q_s2, q_s2o, q_s2k, q_s21, Nat.add_sub_cancel, q_or, q_and, q_shl, true_or, or_true, false_or, or_false, true_and, and_true, false_and, and_false, not_true_eq_false, not_false_eq_true, ne_eq, fM_EachAddsALineModel_goes, gM_EachAddsALineModel_goes_0, b1]
    · rw [if_neg c0] at a1 b1
      obtain ⟨n, rfl⟩ : ∃ k, n = k + 1 := ⟨n - 1, by omega⟩
      rcases pk_ix a (n := 21) (by omega) with ha | ha | ⟨K, hK, rfl⟩
      · refine ⟨mI 1, s, s1 t 0 11 (nI 0), ?_, ?_, kept⟩
        · simp (disch := omega) only [Option.bind_some, ↓reduceIte, ↓M_1, ↓M_2, L_0, L_1, L_2, L_3, L_4, L_5, L_6, L_7, L_8, L_9, L_10, L_11, L_12, L_13, L_20, L_24, L_26, L_30, L_31, L_32, L_39, L_40, L_48, L_57, L_76, L_80, L_90, L_91, L_97, L_99, L_100, L_255, L_273, L_1000, L_2000, q_ld, q_ldL, q_sto, q_stoL, q_add, q_sub, q_mul, q_dec, q_rem, q_div, q_lt_t, q_lt_f, q_le_t, q_le_f, q_eq_t, q_eq_f, q_em, q_me, q_ml, q_lm, q_mle, q_lem, q_s1, q_s1o, q_s1k, q_s12, q_s2, q_s2o, q_s2k, q_s21, Nat.add_sub_cancel, q_or, q_and, q_shl, true_or, or_true, false_or, or_false, true_and, and_true, false_and, and_false, not_true_eq_false, not_false_eq_true, ne_eq, fC_EachAddsALine_goes, gC_EachAddsALine_goes_0, a1, neg_lt ha, neg_nle ha, neg_ne ha, neg_le ha]
        · simp (disch := omega) only [Option.bind_some, ↓reduceIte, ↓M_1, ↓M_2, L_0, L_1, L_2, L_3, L_4, L_5, L_6, L_7, L_8, L_9, L_10, L_11, L_12, L_13, L_20, L_24, L_26, L_30, L_31, L_32, L_39, L_40, L_48, L_57, L_76, L_80, L_90, L_91, L_97, L_99, L_100, L_255, L_273, L_1000, L_2000, q_ld, q_ldL, q_sto, q_stoL, q_add, q_sub, q_mul, q_dec, q_rem, q_div, q_lt_t, q_lt_f, q_le_t, q_le_f, q_eq_t, q_eq_f, q_em, q_me, q_ml, q_lm, q_mle, q_lem, q_s1, q_s1o, q_s1k, q_s12, q_s2, q_s2o, q_s2k, q_s21, Nat.add_sub_cancel, q_or, q_and, q_shl, true_or, or_true, false_or, or_false, true_and, and_true, false_and, and_false, not_true_eq_false, not_false_eq_true, ne_eq, fM_EachAddsALineModel_goes, gM_EachAddsALineModel_goes_0, b1, M_in_any, neg_lt ha, neg_nle ha, neg_ne ha, neg_le ha]
      · refine ⟨mI 1, s, s1 t 0 11 (nI 0), ?_, ?_, kept⟩
        · simp (disch := omega) only [Option.bind_some, ↓reduceIte, ↓M_1, ↓M_2, L_0, L_1, L_2, L_3, L_4, L_5, L_6, L_7, L_8, L_9, L_10, L_11, L_12, L_13, L_20, L_24, L_26, L_30, L_31, L_32, L_39, L_40, L_48, L_57, L_76, L_80, L_90, L_91, L_97, L_99, L_100, L_255, L_273, L_1000, L_2000, q_ld, q_ldL, q_sto, q_stoL, q_add, q_sub, q_mul, q_dec, q_rem, q_div, q_lt_t, q_lt_f, q_le_t, q_le_f, q_eq_t, q_eq_f, q_em, q_me, q_ml, q_lm, q_mle, q_lem, q_s1, q_s1o, q_s1k, q_s12, q_s2, q_s2o, q_s2k, q_s21, Nat.add_sub_cancel, q_or, q_and, q_shl, true_or, or_true, false_or, or_false, true_and, and_true, false_and, and_false, not_true_eq_false, not_false_eq_true, ne_eq, fC_EachAddsALine_goes, gC_EachAddsALine_goes_0, a1, big_nlt ha, big_lt ha, big_nle ha, big_ne ha, big_le ha]
        · simp (disch := omega) only [Option.bind_some, ↓reduceIte, ↓M_1, ↓M_2, L_0, L_1, L_2, L_3, L_4, L_5, L_6, L_7, L_8, L_9, L_10, L_11, L_12, L_13, L_20, L_24, L_26, L_30, L_31, L_32, L_39, L_40, L_48, L_57, L_76, L_80, L_90, L_91, L_97, L_99, L_100, L_255, L_273, L_1000, L_2000, q_ld, q_ldL, q_sto, q_stoL, q_add, q_sub, q_mul, q_dec, q_rem, q_div, q_lt_t, q_lt_f, q_le_t, q_le_f, q_eq_t, q_eq_f, q_em, q_me, q_ml, q_lm, q_mle, q_lem, q_s1, q_s1o, q_s1k, q_s12, q_s2, q_s2o, q_s2k, q_s21, Nat.add_sub_cancel, q_or, q_and, q_shl, true_or, or_true, false_or, or_false, true_and, and_true, false_and, and_false, not_true_eq_false, not_false_eq_true, ne_eq, fM_EachAddsALineModel_goes, gM_EachAddsALineModel_goes_0, b1, M_in_any, big_nlt ha, big_lt ha, big_nle ha, big_ne ha, big_le ha]
      · obtain ⟨c3, z1, z2⟩ := M_firstNew (N := N) hN h2 hl ho hM
        obtain ⟨r, n', wh', si', li', s', t', v1, v2, v3, v4, v5, v6⟩ := goes_run (N := N) hN hl (K := K) (by omega) K 0 N N n wh si li s (s1 t 0 11 (nI 0)) c3 (by omega) (by omega) (by omega) hw ho hC hM z1
        have hn' := v4.1
        have en := v4.2 n' (Nat.lt_succ_self n')
        obtain ⟨qf, hqf⟩ : ∃ qf : Nat → Int32, qf = fun k => if k = 0 then nI (wh' n') else nI (si' n') := ⟨_, rfl⟩
        have q0 : nI (wh' n') = qf 0 := by rw [hqf]; rfl
        have q1 : nI (si' n') = qf 1 := by rw [hqf]; rfl
        obtain ⟨x0, y0, r0⟩ := C_clear_row (N := N) (s := s') (q := qf)
        obtain ⟨x1, y1, r1⟩ := C_add_row (N := N) r0 q0
        obtain ⟨x2, y2, r2⟩ := C_add_row (N := N) r1 q1
        have e27 := v5.1
        have ep : nI (n' + 1) - nI 1 = nI n' := nI_pred n'
        have w1 := C_holderAt (N := N) hl v4 (v5.fr r0.1 (by decide)) (Nat.lt_succ_self n')
        have w2 := C_sinceAt (N := N) hl v4 (v5.fr r1.1 (by decide)) (Nat.lt_succ_self n')
        obtain ⟨m1, p1, k1⟩ := M_tell (N := N) (Rm.nil (q := qf) (t := t')) (by omega) q0
        obtain ⟨m2, p2, k2⟩ := M_tell (N := N) k1 (by omega) q1
        have w3 := M_holder (N := N) hl v4 (v6.fm (Rm.nil (q := qf) (t := t')).1 (by decide))
        have w4 := M_since (N := N) hl v4 (v6.fm k1.1 (by decide))
        have hR : RR (UR N) s' t' := ⟨w, v3⟩
        refine ⟨nI r, x2, m2, ?_, ?_, hR.ro (okUR N) (RO.of r2 k2) r2.1 k2.1 (by decide) (by decide) (by decide)⟩
        · have lp : gC_Post_passOn_2 N N (nI l) (nI K) (nI 0) s = some (nI r, s') := v1
          simp (disch := omega) only [Option.bind_some, ↓reduceIte, ↓M_1, ↓M_2, L_0, L_1, L_2, L_3, L_4, L_5, L_6, L_7, L_8, L_9, L_10, L_11, L_12, L_13, L_20, L_24, L_26, L_30, L_31, L_32, L_39, L_40, L_48, L_57, L_76, L_80, L_90, L_91, L_97, L_99, L_100, L_255, L_273, L_1000, L_2000, q_ld, q_ldL, q_sto, q_stoL, q_add, q_sub, q_mul, q_dec, q_rem, q_div, q_lt_t, q_lt_f, q_le_t, q_le_f, q_eq_t, q_eq_f, q_em, q_me, q_ml, q_lm, q_mle, q_lem, q_s1, q_s1o, q_s1k, q_s12, q_s2, q_s2o, q_s2k, q_s21, Nat.add_sub_cancel, q_or, q_and, q_shl, true_or, or_true, false_or, or_false, true_and, and_true, false_and, and_false, not_true_eq_false, not_false_eq_true, ne_eq, fC_EachAddsALine_goes, gC_EachAddsALine_goes_0, a1, fC_Post_passOn, gC_Post_passOn_0, lp, e27, ep, y0, w1, y1, w2, y2]
        · have lp : gM_EachAddsALineModel_goes_34 N N (nI l) (nI K) (nI 0) (gI c3) (s1 t 0 11 (nI 0)) = gM_EachAddsALineModel_goes_66 N (nI l) (nI r) t' := v2
          have fin : gM_EachAddsALineModel_goes_66 N (nI l) (nI r) t' = some (nI r, m2) := by
            simp (disch := omega) only [Option.bind_some, ↓reduceIte, ↓M_1, ↓M_2, L_0, L_1, L_2, L_3, L_4, L_5, L_6, L_7, L_8, L_9, L_10, L_11, L_12, L_13, L_20, L_24, L_26, L_30, L_31, L_32, L_39, L_40, L_48, L_57, L_76, L_80, L_90, L_91, L_97, L_99, L_100, L_255, L_273, L_1000, L_2000, q_ld, q_ldL, q_sto, q_stoL, q_add, q_sub, q_mul, q_dec, q_rem, q_div, q_lt_t, q_lt_f, q_le_t, q_le_f, q_eq_t, q_eq_f, q_em, q_me, q_ml, q_lm, q_mle, q_lem, q_s1, q_s1o, q_s1k, q_s12, q_s2, q_s2o, q_s2k, q_s21, Nat.add_sub_cancel, q_or, q_and, q_shl, true_or, or_true, false_or, or_false, true_and, and_true, false_and, and_false, not_true_eq_false, not_false_eq_true, ne_eq, gM_EachAddsALineModel_goes_66, w3, p1, w4, p2]
          simp (disch := omega) only [Option.bind_some, ↓reduceIte, ↓M_1, ↓M_2, L_0, L_1, L_2, L_3, L_4, L_5, L_6, L_7, L_8, L_9, L_10, L_11, L_12, L_13, L_20, L_24, L_26, L_30, L_31, L_32, L_39, L_40, L_48, L_57, L_76, L_80, L_90, L_91, L_97, L_99, L_100, L_255, L_273, L_1000, L_2000, q_ld, q_ldL, q_sto, q_stoL, q_add, q_sub, q_mul, q_dec, q_rem, q_div, q_lt_t, q_lt_f, q_le_t, q_le_f, q_eq_t, q_eq_f, q_em, q_me, q_ml, q_lm, q_mle, q_lem, q_s1, q_s1o, q_s1k, q_s12, q_s2, q_s2o, q_s2k, q_s21, Nat.add_sub_cancel, q_or, q_and, q_shl, true_or, or_true, false_or, or_false, true_and, and_true, false_and, and_false, not_true_eq_false, not_false_eq_true, ne_eq, fM_EachAddsALineModel_goes, gM_EachAddsALineModel_goes_0, b1, M_in_any, z2, lp, fin]
  · refine ⟨mI 1, s, s1 t 0 11 (nI 0), ?_, ?_, kept⟩
    · simp (disch := omega) only [Option.bind_some, ↓reduceIte, ↓M_1, ↓M_2, L_0, L_1, L_2, L_3, L_4, L_5, L_6, L_7, L_8, L_9, L_10, L_11, L_12, L_13, L_20, L_24, L_26, L_30, L_31, L_32, L_39, L_40, L_48, L_57, L_76, L_80, L_90, L_91, L_97, L_99, L_100, L_255, L_273, L_1000, L_2000, q_ld, q_ldL, q_sto, q_stoL, q_add, q_sub, q_mul, q_dec, q_rem, q_div, q_lt_t, q_lt_f, q_le_t, q_le_f, q_eq_t, q_eq_f, q_em, q_me, q_ml, q_lm, q_mle, q_lem, q_s1, q_s1o, q_s1k, q_s12, q_s2, q_s2o, q_s2k, q_s21, Nat.add_sub_cancel, q_or, q_and, q_shl, true_or, or_true, false_or, or_false, true_and, and_true, false_and, and_false, not_true_eq_false, not_false_eq_true, ne_eq, fC_EachAddsALine_goes, gC_EachAddsALine_goes_0, C_isThere_f c]
    · simp (disch := omega) only [Option.bind_some, ↓reduceIte, ↓M_1, ↓M_2, L_0, L_1, L_2, L_3, L_4, L_5, L_6, L_7, L_8, L_9, L_10, L_11, L_12, L_13, L_20, L_24, L_26, L_30, L_31, L_32, L_39, L_40, L_48, L_57, L_76, L_80, L_90, L_91, L_97, L_99, L_100, L_255, L_273, L_1000, L_2000, q_ld, q_ldL, q_sto, q_stoL, q_add, q_sub, q_mul, q_dec, q_rem, q_div, q_lt_t, q_lt_f, q_le_t, q_le_f, q_eq_t, q_eq_f, q_em, q_me, q_ml, q_lm, q_mle, q_lem, q_s1, q_s1o, q_s1k, q_s12, q_s2, q_s2o, q_s2k, q_s21, Nat.add_sub_cancel, q_or, q_and, q_shl, true_or, or_true, false_or, or_false, true_and, and_true, false_and, and_false, not_true_eq_false, not_false_eq_true, ne_eq, fM_EachAddsALineModel_goes, gM_EachAddsALineModel_goes_0, M_isLetter_f c]
end GO
