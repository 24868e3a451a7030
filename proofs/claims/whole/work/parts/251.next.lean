/-! goes: the next meeting of a letter -/
/-- a meeting at which a letter can go to one who hasn't read it -/
def nxg (w : Nat → Nat → Nat) (wh si : Nat → Nat) (n m : Nat) : Prop := rfs w wh si (n + 1) m = 0 ∧ (rdr wh (n + 1)).testBit (oth w m (wh n)) = false
def NX (w : Nat → Nat → Nat) (wh si : Nat → Nat) (n M c : Nat) : Prop := (c = 100 ∧ ∀ m, m < M → ¬ nxg w wh si n m) ∨ (c < M ∧ nxg w wh si n c ∧ ∀ m, m < M → nxg w wh si n m → w 3 c < w 3 m ∨ (w 3 c = w 3 m ∧ c ≤ m))
theorem NX.uniq {w : Nat → Nat → Nat} {wh si : Nat → Nat} {n M c d : Nat} (h : NX w wh si n M c) (g : NX w wh si n M d) : c = d := by
  rcases h with ⟨h1, h2⟩ | ⟨h1, h2, h3⟩
  · rcases g with ⟨g1, g2⟩ | ⟨g1, g2, g3⟩
    · rw [h1, g1]
    · exact absurd g2 (h2 d g1)
  · rcases g with ⟨g1, g2⟩ | ⟨g1, g2, g3⟩
    · exact absurd h2 (g2 c h1)
    · have a := h3 d g1 g2
      have b := g3 c h1 h2
      omega
section NM
variable {N l n m : Nat} {w : Nat → Nat → Nat} {wh si li : Nat → Nat} {s t : vSt}
theorem C_nextM (hN : 100 ≤ N) (h1 : CW w s) (hl : l < 3) (ho : okL (w 5 0) (n + 1) wh si li) (hC : CL l (n + 1) wh si li s) : ∃ c, NX w wh si n (w 5 1) c ∧ fC_Post_nextMeeting N (nI l) s = some (gI c, s) := by
  have h := ho.2 n (Nat.lt_succ_self n)
  have hn := ho.1
  have hp := h1.ok.1
  have hq := h1.ok.2.1
  have e0 := hC.1
  have ep : nI (n + 1) - nI 1 = nI n := nI_pred n
  have e2 := C_holderAt (N := N) hl ho hC (Nat.lt_succ_self n)
  have e3 := C_readers (N := N) (by omega) hl hp ho hC
  have hlt : rdr wh (n + 1) < 512 := rdr_lt (fun k hk => Nat.lt_of_lt_of_le (ho.2 k hk).1 hp)
  have st : fC_Post_nextMeeting N (nI l) s = gC_Post_nextMeeting_32 N N (nI l) (nI (wh n)) (nI (rdr wh (n + 1))) (nI 0) s := by
    simp (disch := omega) only [Option.bind_some, ↓reduceIte, ↓M_1, ↓M_2, L_0, L_1, L_2, L_3, L_4, L_5, L_6, L_7, L_8, L_9, L_10, L_11, L_12, L_13, L_20, L_24, L_26, L_30, L_31, L_32, L_39, L_40, L_48, L_57, L_76, L_80, L_90, L_91, L_97, L_99, L_100, L_255, L_273, L_1000, L_2000, q_ld, q_ldL, q_sto, q_stoL, q_add, q_sub, q_mul, q_dec, q_rem, q_div, q_lt_t, q_lt_f, q_le_t, q_le_f, q_eq_t, q_eq_f, q_em, q_me, q_ml, q_lm, q_mle, q_lem, q_s1, q_s1o, q_s1k, q_s12, q_s2, q_s2o, q_s2k, q_s21, Nat.add_sub_cancel, q_or, q_and, q_shl, true_or, or_true, false_or, or_false, true_and, and_true, false_and, and_false, not_true_eq_false, not_false_eq_true, ne_eq, fC_Post_nextMeeting, gC_Post_nextMeeting_0, e0, ep, e2, e3]
  rw [st]
  refine loopU (fun f k (_ : Unit) => gC_Post_nextMeeting_32 N f (nI l) (nI (wh n)) (nI (rdr wh (n + 1))) (nI k) s) (w 5 1) (fun k _ => k ≤ w 5 1 ∧ ∀ j, j < k → ¬ nxg w wh si n (w 6 j)) (fun o => ∃ c, NX w wh si n (w 5 1) c ∧ o = some (gI c, s)) ?_ ?_ (w 5 1) N 0 () (by omega) (by omega) ⟨by omega, fun j hj => by omega⟩
  · rintro f k _ hk ⟨_, g2⟩
    have hm := h1.or.1 k hk
    have e15 := h1.2.2.2.2.2.2 k hk
    have ec := C_canHand (N := N) h1 hl ho hC hm
    have eo := C_otherAt (N := N) h1 hm h.1
    have hol : oth w (w 6 k) (wh n) < w 5 0 := oth_lt h1.ok hm
    have b2 : rdr wh (n + 1) &&& 2 ^ oth w (w 6 k) (wh n) < 2 ^ 31 := Nat.lt_of_le_of_lt Nat.and_le_left (by omega)
    have nx : ¬ nxg w wh si n (w 6 k) → ∀ j, j < k + 1 → ¬ nxg w wh si n (w 6 j) := fun hx j hj => by
      by_cases d : j = k
      · subst d; exact hx
      · exact g2 j (by omega)
    by_cases d : rfs w wh si (n + 1) (w 6 k) = 0
    · rw [if_pos d] at ec
      by_cases d2 : (rdr wh (n + 1)).testBit (oth w (w 6 k) (wh n)) = false
      · have d' : rdr wh (n + 1) &&& 2 ^ oth w (w 6 k) (wh n) = 0 := by rw [tb_and]; exact d2
        refine Or.inr ⟨w 6 k, Or.inr ⟨hm, ⟨d, d2⟩, fun m hm2 hg => ?_⟩, ?_⟩
        · obtain ⟨j, hj, rfl⟩ := h1.or.2.2 m hm2
          rcases Nat.lt_trichotomy j k with c | c | c
          · exact absurd hg (g2 j c)
          · subst c; exact Or.inr ⟨rfl, Nat.le_refl _⟩
          · exact (h1.or.2.1 k j c hj).imp id (fun z => ⟨z.1, Nat.le_of_lt z.2⟩)
        · rw [gI_nI (g := w 6 k) (by omega)]
          show gC_Post_nextMeeting_32 N (f + 1) (nI l) (nI (wh n)) (nI (rdr wh (n + 1))) (nI k) s = _
          rw [gC_Post_nextMeeting_32]
          simp (disch := omega) only [Option.bind_some, ↓reduceIte, ↓M_1, ↓M_2, L_0, L_1, L_2, L_3, L_4, L_5, L_6, L_7, L_8, L_9, L_10, L_11, L_12, L_13, L_20, L_24, L_26, L_30, L_31, L_32, L_39, L_40, L_48, L_57, L_76, L_80, L_90, L_91, L_97, L_99, L_100, L_255, L_273, L_1000, L_2000, q_ld, q_ldL, q_sto, q_stoL, q_add, q_sub, q_mul, q_dec, q_rem, q_div, q_lt_t, q_lt_f, q_le_t, q_le_f, q_eq_t, q_eq_f, q_em, q_me, q_ml, q_lm, q_mle, q_lem, q_s1, q_s1o, q_s1k, q_s12, q_s2, q_s2o, q_s2k, q_s21, Nat.add_sub_cancel, q_or, q_and, q_shl, true_or, or_true, false_or, or_false, true_and, and_true, false_and, and_false, not_true_eq_false, not_false_eq_true, ne_eq, h1.m, e15, ec, eo, d']
      · have d' : rdr wh (n + 1) &&& 2 ^ oth w (w 6 k) (wh n) ≠ 0 := fun z => d2 (by rw [tb_and] at z; exact z)
        refine Or.inl ⟨(), ?_, by omega, nx (fun z => d2 z.2)⟩
        show gC_Post_nextMeeting_32 N (f + 1) (nI l) (nI (wh n)) (nI (rdr wh (n + 1))) (nI k) s = _
        rw [gC_Post_nextMeeting_32]
        simp (disch := omega) only [Option.bind_some, ↓reduceIte, ↓M_1, ↓M_2, L_0, L_1, L_2, L_3, L_4, L_5, L_6, L_7, L_8, L_9, L_10, L_11, L_12, L_13, L_20, L_24, L_26, L_30, L_31, L_32, L_39, L_40, L_48, L_57, L_76, L_80, L_90, L_91, L_97, L_99, L_100, L_255, L_273, L_1000, L_2000, q_ld, q_ldL, q_sto, q_stoL, q_add, q_sub, q_mul, q_dec, q_rem, q_div, q_lt_t, q_lt_f, q_le_t, q_le_f, q_eq_t, q_eq_f, q_em, q_me, q_ml, q_lm, q_mle, q_lem, q_s1, q_s1o, q_s1k, q_s12, q_s2, q_s2o, q_s2k, q_s21, Nat.add_sub_cancel, q_or, q_and, q_shl, true_or, or_true, false_or, or_false, true_and, and_true, false_and, and_false, not_true_eq_false, not_false_eq_true, ne_eq, h1.m, e15, ec, eo, d', gC_Post_nextMeeting_86]
    · rw [if_neg d] at ec
      refine Or.inl ⟨(), ?_, by omega, nx (fun z => d z.1)⟩
      show gC_Post_nextMeeting_32 N (f + 1) (nI l) (nI (wh n)) (nI (rdr wh (n + 1))) (nI k) s = _
      rw [gC_Post_nextMeeting_32]
      simp (disch := omega) only [Option.bind_some, ↓reduceIte, ↓M_1, ↓M_2, L_0, L_1, L_2, L_3, L_4, L_5, L_6, L_7, L_8, L_9, L_10, L_11, L_12, L_13, L_20, L_24, L_26, L_30, L_31, L_32, L_39, L_40, L_48, L_57, L_76, L_80, L_90, L_91, L_97, L_99, L_100, L_255, L_273, L_1000, L_2000, q_ld, q_ldL, q_sto, q_stoL, q_add, q_sub, q_mul, q_dec, q_rem, q_div, q_lt_t, q_lt_f, q_le_t, q_le_f, q_eq_t, q_eq_f, q_em, q_me, q_ml, q_lm, q_mle, q_lem, q_s1, q_s1o, q_s1k, q_s12, q_s2, q_s2o, q_s2k, q_s21, Nat.add_sub_cancel, q_or, q_and, q_shl, true_or, or_true, false_or, or_false, true_and, and_true, false_and, and_false, not_true_eq_false, not_false_eq_true, ne_eq, h1.m, e15, ec, gC_Post_nextMeeting_86]
  · rintro f _ ⟨_, g2⟩
    refine ⟨100, Or.inl ⟨rfl, fun m hm hg => ?_⟩, ?_⟩
    · obtain ⟨j, hj, rfl⟩ := h1.or.2.2 m hm
      exact g2 j hj hg
    · rw [gI_no (g := 100) (by decide)]
      show gC_Post_nextMeeting_32 N (f + 1) (nI l) (nI (wh n)) (nI (rdr wh (n + 1))) (nI (w 5 1)) s = _
      rw [gC_Post_nextMeeting_32]
      simp (disch := omega) only [Option.bind_some, ↓reduceIte, ↓M_1, ↓M_2, L_0, L_1, L_2, L_3, L_4, L_5, L_6, L_7, L_8, L_9, L_10, L_11, L_12, L_13, L_20, L_24, L_26, L_30, L_31, L_32, L_39, L_40, L_48, L_57, L_76, L_80, L_90, L_91, L_97, L_99, L_100, L_255, L_273, L_1000, L_2000, q_ld, q_ldL, q_sto, q_stoL, q_add, q_sub, q_mul, q_dec, q_rem, q_div, q_lt_t, q_lt_f, q_le_t, q_le_f, q_eq_t, q_eq_f, q_em, q_me, q_ml, q_lm, q_mle, q_lem, q_s1, q_s1o, q_s1k, q_s12, q_s2, q_s2o, q_s2k, q_s21, Nat.add_sub_cancel, q_or, q_and, q_shl, true_or, or_true, false_or, or_false, true_and, and_true, false_and, and_false, not_true_eq_false, not_false_eq_true, ne_eq, h1.m]
theorem M_firstNew (hN : 100 ≤ N) (h2 : MW w t) (hl : l < 3) (ho : okL (w 5 0) (n + 1) wh si li) (hM : ML l (n + 1) wh si li t) : ∃ c, NX w wh si n (w 5 1) c ∧ fM_EachAddsALineModel_firstNew N (nI l) t = some (gI c, t) := by
  have h := ho.2 n (Nat.lt_succ_self n)
  have hn := ho.1
  have hp := h2.ok.1
  have hq := h2.ok.2.1
  have e2 := M_holder (N := N) hl ho hM
  have e3 := M_readers (N := N) (by omega) hl hp ho hM
  have hlt : rdr wh (n + 1) < 512 := rdr_lt (fun k hk => Nat.lt_of_lt_of_le (ho.2 k hk).1 hp)
  have st : fM_EachAddsALineModel_firstNew N (nI l) t = gM_EachAddsALineModel_firstNew_4 N N (nI l) (gI 100) (nI 0) t := by
    rw [gI_no (g := 100) (by decide)]
    simp (disch := omega) only [Option.bind_some, ↓reduceIte, ↓M_1, ↓M_2, L_0, L_1, L_2, L_3, L_4, L_5, L_6, L_7, L_8, L_9, L_10, L_11, L_12, L_13, L_20, L_24, L_26, L_30, L_31, L_32, L_39, L_40, L_48, L_57, L_76, L_80, L_90, L_91, L_97, L_99, L_100, L_255, L_273, L_1000, L_2000, q_ld, q_ldL, q_sto, q_stoL, q_add, q_sub, q_mul, q_dec, q_rem, q_div, q_lt_t, q_lt_f, q_le_t, q_le_f, q_eq_t, q_eq_f, q_em, q_me, q_ml, q_lm, q_mle, q_lem, q_s1, q_s1o, q_s1k, q_s12, q_s2, q_s2o, q_s2k, q_s21, Nat.add_sub_cancel, q_or, q_and, q_shl, true_or, or_true, false_or, or_false, true_and, and_true, false_and, and_false, not_true_eq_false, not_false_eq_true, ne_eq, fM_EachAddsALineModel_firstNew, gM_EachAddsALineModel_firstNew_0]
  rw [st]
  refine loopU (fun f i (c : Nat) => gM_EachAddsALineModel_firstNew_4 N f (nI l) (gI c) (nI i) t) (w 5 1) (fun i c => i ≤ w 5 1 ∧ NX w wh si n i c) (fun o => ∃ c, NX w wh si n (w 5 1) c ∧ o = some (gI c, t)) ?_ ?_ (w 5 1) N 0 100 (by omega) (by omega) ⟨by omega, Or.inl ⟨rfl, fun m hm => by omega⟩⟩
  · rintro f i c hi ⟨_, g2⟩
    have er := M_refusal (N := N) h2 hl ho hM hi
    have r4 := rfs_le w wh si n i
    have eo := M_partner (N := N) h2 hi h.1
    have hol : oth w i (wh n) < w 5 0 := oth_lt h2.ok hi
    have eh := M_has (N := N) (s := t) (b := rdr wh (n + 1)) (k := oth w i (wh n)) (by omega) (by omega)
    have wi := h2.ok.2.2.2 i hi
    have skip : ¬ nxg w wh si n i → NX w wh si n (i + 1) c := fun hx => by
      rcases g2 with ⟨g1, g2⟩ | ⟨g1, g2, g3⟩
      · refine Or.inl ⟨g1, fun m hm => ?_⟩
        by_cases d : m = i
        · subst d; exact hx
        · exact g2 m (by omega)
      · refine Or.inr ⟨by omega, g2, fun m hm hg => ?_⟩
        by_cases d : m = i
        · subst d; exact absurd hg hx
        · exact g3 m (by omega) hg
    by_cases d : rfs w wh si (n + 1) i = 0
    · rw [if_pos d] at er
      by_cases d2 : (rdr wh (n + 1)).testBit (oth w i (wh n)) = true
      · rw [if_pos d2] at eh
        refine Or.inl ⟨c, ?_, by omega, skip (fun z => by have := z.2; rw [d2] at this; cases this)⟩
        show gM_EachAddsALineModel_firstNew_4 N (f + 1) (nI l) (gI c) (nI i) t = _
        rw [gM_EachAddsALineModel_firstNew_4]
        simp (disch := omega) only [Option.bind_some, ↓reduceIte, ↓M_1, ↓M_2, L_0, L_1, L_2, L_3, L_4, L_5, L_6, L_7, L_8, L_9, L_10, L_11, L_12, L_13, L_20, L_24, L_26, L_30, L_31, L_32, L_39, L_40, L_48, L_57, L_76, L_80, L_90, L_91, L_97, L_99, L_100, L_255, L_273, L_1000, L_2000, q_ld, q_ldL, q_sto, q_stoL, q_add, q_sub, q_mul, q_dec, q_rem, q_div, q_lt_t, q_lt_f, q_le_t, q_le_f, q_eq_t, q_eq_f, q_em, q_me, q_ml, q_lm, q_mle, q_lem, q_s1, q_s1o, q_s1k, q_s12, q_s2, q_s2o, q_s2k, q_s21, Nat.add_sub_cancel, q_or, q_and, q_shl, true_or, or_true, false_or, or_false, true_and, and_true, false_and, and_false, not_true_eq_false, not_false_eq_true, ne_eq, h2.m, er, e3, e2, eo, eh, gM_EachAddsALineModel_firstNew_67]
      · rw [if_neg d2] at eh
        have hg : nxg w wh si n i := ⟨d, eq_false_of_ne_true d2⟩
        rcases g2 with ⟨g1, g2⟩ | ⟨g1, g2, g3⟩
        · subst g1
          refine Or.inl ⟨i, ?_, by omega, Or.inr ⟨by omega, hg, fun m hm hg2 => ?_⟩⟩
          · rw [gI_no (g := 100) (by decide), gI_nI (g := i) (by omega)]
            show gM_EachAddsALineModel_firstNew_4 N (f + 1) (nI l) (mI 1) (nI i) t = _
            rw [gM_EachAddsALineModel_firstNew_4]
            simp (disch := omega) only [Option.bind_some, ↓reduceIte, ↓M_1, ↓M_2, L_0, L_1, L_2, L_3, L_4, L_5, L_6, L_7, L_8, L_9, L_10, L_11, L_12, L_13, L_20, L_24, L_26, L_30, L_31, L_32, L_39, L_40, L_48, L_57, L_76, L_80, L_90, L_91, L_97, L_99, L_100, L_255, L_273, L_1000, L_2000, q_ld, q_ldL, q_sto, q_stoL, q_add, q_sub, q_mul, q_dec, q_rem, q_div, q_lt_t, q_lt_f, q_le_t, q_le_f, q_eq_t, q_eq_f, q_em, q_me, q_ml, q_lm, q_mle, q_lem, q_s1, q_s1o, q_s1k, q_s12, q_s2, q_s2o, q_s2k, q_s21, Nat.add_sub_cancel, q_or, q_and, q_shl, true_or, or_true, false_or, or_false, true_and, and_true, false_and, and_false, not_true_eq_false, not_false_eq_true, ne_eq, h2.m, er, e3, e2, eo, eh, gM_EachAddsALineModel_firstNew_67, gM_EachAddsALineModel_firstNew_65]
          · by_cases d3 : m = i
            · exact Or.inr ⟨by rw [d3], by omega⟩
            · exact absurd hg2 (g2 m (by omega))
        · have wc := h2.ok.2.2.2 c (by omega)
          have hci : h2.ok.2.2.2 c (by omega) = wc := rfl
          have k1 := h2.h (m := i) hi
          have k2 := h2.h (m := c) (by omega)
          by_cases d4 : w 3 c ≤ w 3 i
          · refine Or.inl ⟨c, ?_, by omega, Or.inr ⟨by omega, g2, fun m hm hg2 => ?_⟩⟩
            · rw [gI_nI (g := c) (by omega)]
              show gM_EachAddsALineModel_firstNew_4 N (f + 1) (nI l) (nI c) (nI i) t = _
              rw [gM_EachAddsALineModel_firstNew_4]
              simp (disch := omega) only [Option.bind_some, ↓reduceIte, ↓M_1, ↓M_2, L_0, L_1, L_2, L_3, L_4, L_5, L_6, L_7, L_8, L_9, L_10, L_11, L_12, L_13, L_20, L_24, L_26, L_30, L_31, L_32, L_39, L_40, L_48, L_57, L_76, L_80, L_90, L_91, L_97, L_99, L_100, L_255, L_273, L_1000, L_2000, q_ld, q_ldL, q_sto, q_stoL, q_add, q_sub, q_mul, q_dec, q_rem, q_div, q_lt_t, q_lt_f, q_le_t, q_le_f, q_eq_t, q_eq_f, q_em, q_me, q_ml, q_lm, q_mle, q_lem, q_s1, q_s1o, q_s1k, q_s12, q_s2, q_s2o, q_s2k, q_s21, Nat.add_sub_cancel, q_or, q_and, q_shl, true_or, or_true, false_or, or_false, true_and, and_true, false_and, and_false, not_true_eq_false, not_false_eq_true, ne_eq, h2.m, er, e3, e2, eo, eh, k1, k2, gM_EachAddsALineModel_firstNew_67]
            · by_cases d3 : m = i
              · subst d3; omega
              · exact g3 m (by omega) hg2
          · refine Or.inl ⟨i, ?_, by omega, Or.inr ⟨by omega, hg, fun m hm hg2 => ?_⟩⟩
            · rw [gI_nI (g := c) (by omega), gI_nI (g := i) (by omega)]
              show gM_EachAddsALineModel_firstNew_4 N (f + 1) (nI l) (nI c) (nI i) t = _
              rw [gM_EachAddsALineModel_firstNew_4]
              simp (disch := omega) only [Option.bind_some, ↓reduceIte, ↓M_1, ↓M_2, L_0, L_1, L_2, L_3, L_4, L_5, L_6, L_7, L_8, L_9, L_10, L_11, L_12, L_13, L_20, L_24, L_26, L_30, L_31, L_32, L_39, L_40, L_48, L_57, L_76, L_80, L_90, L_91, L_97, L_99, L_100, L_255, L_273, L_1000, L_2000, q_ld, q_ldL, q_sto, q_stoL, q_add, q_sub, q_mul, q_dec, q_rem, q_div, q_lt_t, q_lt_f, q_le_t, q_le_f, q_eq_t, q_eq_f, q_em, q_me, q_ml, q_lm, q_mle, q_lem, q_s1, q_s1o, q_s1k, q_s12, q_s2, q_s2o, q_s2k, q_s21, Nat.add_sub_cancel, q_or, q_and, q_shl, true_or, or_true, false_or, or_false, true_and, and_true, false_and, and_false, not_true_eq_false, not_false_eq_true, ne_eq, h2.m, er, e3, e2, eo, eh, k1, k2, gM_EachAddsALineModel_firstNew_67, gM_EachAddsALineModel_firstNew_65]
            · by_cases d3 : m = i
              · exact Or.inr ⟨by rw [d3], by omega⟩
              · have := g3 m (by omega) hg2
                omega
    · rw [if_neg d] at er
      have hneg : (mI (rfs w wh si (n + 1) i) < nI 0) = True := q_ml (by omega) (by omega) (by omega)
      refine Or.inl ⟨c, ?_, by omega, skip (fun z => d z.1)⟩
      show gM_EachAddsALineModel_firstNew_4 N (f + 1) (nI l) (gI c) (nI i) t = _
      rw [gM_EachAddsALineModel_firstNew_4]
      simp (disch := omega) only [Option.bind_some, ↓reduceIte, ↓M_1, ↓M_2, L_0, L_1, L_2, L_3, L_4, L_5, L_6, L_7, L_8, L_9, L_10, L_11, L_12, L_13, L_20, L_24, L_26, L_30, L_31, L_32, L_39, L_40, L_48, L_57, L_76, L_80, L_90, L_91, L_97, L_99, L_100, L_255, L_273, L_1000, L_2000, q_ld, q_ldL, q_sto, q_stoL, q_add, q_sub, q_mul, q_dec, q_rem, q_div, q_lt_t, q_lt_f, q_le_t, q_le_f, q_eq_t, q_eq_f, q_em, q_me, q_ml, q_lm, q_mle, q_lem, q_s1, q_s1o, q_s1k, q_s12, q_s2, q_s2o, q_s2k, q_s21, Nat.add_sub_cancel, q_or, q_and, q_shl, true_or, or_true, false_or, or_false, true_and, and_true, false_and, and_false, not_true_eq_false, not_false_eq_true, ne_eq, h2.m, er, hneg, gM_EachAddsALineModel_firstNew_67]
  · rintro f c ⟨_, g2⟩
    refine ⟨c, g2, ?_⟩
    show gM_EachAddsALineModel_firstNew_4 N (f + 1) (nI l) (gI c) (nI (w 5 1)) t = _
    rw [gM_EachAddsALineModel_firstNew_4]
    simp (disch := omega) only [Option.bind_some, ↓reduceIte, ↓M_1, ↓M_2, L_0, L_1, L_2, L_3, L_4, L_5, L_6, L_7, L_8, L_9, L_10, L_11, L_12, L_13, L_20, L_24, L_26, L_30, L_31, L_32, L_39, L_40, L_48, L_57, L_76, L_80, L_90, L_91, L_97, L_99, L_100, L_255, L_273, L_1000, L_2000, q_ld, q_ldL, q_sto, q_stoL, q_add, q_sub, q_mul, q_dec, q_rem, q_div, q_lt_t, q_lt_f, q_le_t, q_le_f, q_eq_t, q_eq_f, q_em, q_me, q_ml, q_lm, q_mle, q_lem, q_s1, q_s1o, q_s1k, q_s12, q_s2, q_s2o, q_s2k, q_s21, Nat.add_sub_cancel, q_or, q_and, q_shl, true_or, or_true, false_or, or_false, true_and, and_true, false_and, and_false, not_true_eq_false, not_false_eq_true, ne_eq, h2.m]
end NM
