/-! hand, check -/
def up (f : Nat → Nat) (i v : Nat) : Nat → Nat := fun k => if k = i then v else f k
theorem up_eq (f : Nat → Nat) (i v : Nat) : up f i v i = v := if_pos rfl
theorem up_ne {f : Nat → Nat} {i v k : Nat} (h : k ≠ i) : up f i v k = f k := if_neg h
/-- the letters are new -/
theorem RR.lu {U : vSt → vSt → Prop} {L K L' K' F : List Nat} {s s' t t' : vSt} (h : RR U s t) {w : Nat → Nat → Nat} (h1 : CW w s) (h2 : MW w t) (h7 : KP (w 5 0) s t) (h8 : U s' t') (h10 : LTx (w 5 0) 26 9 0 s' t')
    (h3 : TX s t) (h4 : RO s t) (h5 : TLr 5 6 40 0 s t) (h6 : TLr 7 8 41 12 s t) (h9 : MC t)
    (f : Fr L K s s') (g : Fm L' K' F t t') (hL : ∀ o, o ∈ L → (27 ≤ o ∧ o ≤ 30) ∨ (16 ≤ o ∧ o ≤ 24) ∨ 41 ≤ o)
    (hM : ∀ o, o ∈ L' → (9 ≤ o ∧ o ≤ 15) ∨ (17 ≤ o ∧ o ≤ 21)) (hF : ∀ o, o ∈ F → (11 ≤ o ∧ o ≤ 17) ∨ (19 ≤ o ∧ o ≤ 33) ∨ (45 ≤ o)) : RR U s' t' := by
  have a : ∀ o, (o < 16 ∨ (24 < o ∧ o < 27) ∨ (30 < o ∧ o < 41)) → o ∉ L := fun o ho z => by have := hL o z; omega
  have b : ∀ o, (o < 9 ∨ o = 16 ∨ 21 < o) → o ∉ L' := fun o ho z => by have := hM o z; omega
  have c : ∀ o, (o < 11 ∨ o = 18 ∨ (33 < o ∧ o < 45)) → o ∉ F := fun o ho z => by have := hF o z; omega
  refine ⟨w, h1.fr f ⟨a _ (by decide), a _ (by decide), a _ (by decide), a _ (by decide), a _ (by decide), a _ (by decide), a _ (by decide)⟩,
    h2.fm g ⟨c _ (by decide), c _ (by decide)⟩ ⟨b _ (by decide), b _ (by decide), b _ (by decide), b _ (by decide), b _ (by decide)⟩,
    h3.fr f g ⟨a _ (by decide), a _ (by decide)⟩ ⟨b _ (by decide), c _ (by decide)⟩, h4.fr f g ⟨a _ (by decide), a _ (by decide)⟩ ⟨b _ (by decide), c _ (by decide)⟩,
    h5.fr f g ⟨a _ (by decide), a _ (by decide)⟩ ⟨b _ (by decide), c _ (by decide)⟩, h6.fr f g ⟨a _ (by decide), a _ (by decide)⟩ ⟨b _ (by decide), c _ (by decide)⟩,
    ⟨h10, fun i hi => ?_⟩, h8,
    h9.fr g ⟨c _ (by decide), c _ (by decide), c _ (by decide), c _ (by decide)⟩⟩
  rw [f.1 25 (a _ (by decide)), g.1 23 (by decide) (b _ (by decide))]
  exact (h7.2 i hi).imp id (fun z => ⟨z.1, z.2.1, z.2.2.fr f g ⟨a _ (by omega), a _ (by omega), a _ (by omega), a _ (by omega)⟩ ⟨by decide, b _ (by decide)⟩⟩)
/-- what is asked at meeting m of a letter of n + 1 lines -/
def eHd (w : Nat → Nat → Nat) (wh li : Nat → Nat) (n m : Nat) : Nat → Int32 := fE (nI (oth w m (wh n))) (nI (wh n)) (nI (w 3 m)) (nI (n + 1)) (nI (li 0)) (nI (li n)) (nI (sl li (n + 1)))
section HD
variable {N q l n m j : Nat} {w : Nat → Nat → Nat} {x wh si li : Nat → Nat} {C : List Nat} {s t : vSt}
theorem C_make (hN : 100 ≤ N) (h1 : CW w s) (hl : l < 3) (ho : okL (w 5 0) (n + 1) wh si li) (hC : CL l (n + 1) wh si li s) (hm : m < w 5 1) (hr : rfs w wh si (n + 1) m = 0) (hU : UC C s) (hd : C.length = 0 ∨ ∃ v, Den (eHd w wh li n m) C v) (hj : lm (rv C (eHd w wh li n m)) = nI j) :
    ∃ s', fC_Post_handOn N (nI l) (nI m) s = some (nI j, s') ∧ Fr [17, 19, 20, 27, 28, 29, 30] [] s s' ∧ s'.1 17 1 = s.1 17 1 ∧ CL l (n + 2) (up wh (n + 1) (oth w m (wh n))) (up si (n + 1) (w 3 m)) (up li (n + 1) j) s' ∧ (∀ k, k ≠ l → s'.1 27 k = s.1 27 k) ∧ ∀ k, ¬ (30 * l ≤ k ∧ k < 30 * l + 30) → s'.1 28 k = s.1 28 k ∧ s'.1 29 k = s.1 29 k ∧ s'.1 30 k = s.1 30 k := by
  have h := ho.2 n (Nat.lt_succ_self n)
  have hn := ho.1
  have hq := h1.ok.2.1
  have hw := h1.ok.2.2.2 m hm
  have hrd := rdh_le ho h1.ok
  have e2 := C_holderAt (N := N) hl ho hC (Nat.lt_succ_self n)
  have e0 := hC.1
  have ep : nI (n + 1) - nI 1 = nI n := nI_pred n
  have ea := C_isAt (N := N) h1 hm h.1
  have er := C_readyHour (N := N) h1 hl ho hC
  have eo := C_otherAt (N := N) h1 hm h.1
  rcases rfs_cases w wh si n m with ⟨c1, e⟩ | ⟨c1, c2, e⟩ | ⟨c1, c2, c3, e⟩ | ⟨c1, c2, c3, e⟩
  · rw [hr] at e; cases e
  · rw [hr] at e; cases e
  · rw [hr] at e; cases e
  · rw [if_pos c1] at ea
    obtain ⟨z9, g1, g2, g3, g4, g5, g6⟩ := C_ahead (N := N) (m := n + 1) hN hl ho hC (by omega) (Nat.le_refl _)
    rw [Nat.add_sub_cancel] at g5
    obtain ⟨s3, k1, k2, k3⟩ := C_line (N := N) (s := z9) (a := nI (oth w m (wh n))) (b := nI (wh n)) (c := nI (w 3 m)) hN (hU.fr g2 (by rw [g2.1 17 (by decide)]) (by decide)) hd g3 g4 g5 g6
    have hj' : lm (rv C (fE (nI (oth w m (wh n))) (nI (wh n)) (nI (w 3 m)) (nI (n + 1)) (nI (li 0)) (nI (li n)) (nI (sl li (n + 1))))) = nI j := hj
    rw [hj'] at k1
    have z13 : z9.1 13 m = nI (w 3 m) := by rw [g2.1 13 (by decide)]; exact h1.h hm
    have s13 : s3.1 13 m = nI (w 3 m) := by rw [k2.1 13 (by decide)]; exact z13
    have s27 : s3.1 27 l = nI (n + 1) := by rw [k2.1 27 (by decide), g2.1 27 (by decide)]; exact e0
    have ei : l * 30 + (n + 1) = 30 * l + (n + 1) := by omega
    have fr3 : Fr [17, 19, 20, 27, 28, 29, 30] [] s s3 := (g2.mono (by decide) (by decide)).tr (k2.mono (by decide) (by decide))
    refine ⟨s1 (s1 (s1 (s1 s3 28 (30 * l + (n + 1)) (nI (oth w m (wh n)))) 29 (30 * l + (n + 1)) (nI (w 3 m))) 30 (30 * l + (n + 1)) (nI j)) 27 l (nI (n + 2)), ?_, fr3.tr ((Fr.s1 (by decide)).tr ((Fr.s1 (by decide)).tr ((Fr.s1 (by decide)).tr (Fr.s1 (by decide))))), ?_, ⟨q_s1 _ _ _ _, fun k hk => ?_⟩, fun k hk => ?_, fun k hk => ?_⟩
    · have hA : fC_Letters_add N (nI l) (nI (oth w m (wh n))) (nI (w 3 m)) (nI j) s3 = some (s1 (s1 (s1 (s1 s3 28 (30 * l + (n + 1)) (nI (oth w m (wh n)))) 29 (30 * l + (n + 1)) (nI (w 3 m))) 30 (30 * l + (n + 1)) (nI j)) 27 l (nI (n + 2))) := by
        simp (disch := omega) only [Option.bind_some, ↓reduceIte, ↓M_1, ↓M_2, L_0, L_1, L_2, L_3, L_4, L_5, L_6, L_7, L_8, L_9, L_10, L_11, L_12, L_13, L_20, L_24, L_26, L_30, L_31, L_32, L_39, L_40, L_48, L_57, L_76, L_80, L_90, L_91, L_97, L_99, L_100, L_255, L_273, L_1000, L_2000, q_ld, q_ldL, q_sto, q_stoL, q_add, q_sub, q_mul, q_dec, q_rem, q_div, q_lt_t, q_lt_f, q_le_t, q_le_f, q_eq_t, q_eq_f, q_em, q_me, q_ml, q_lm, q_mle, q_lem, q_s1, q_s1o, q_s1k, q_s12, q_s2, q_s2o, q_s2k, q_s21, Nat.add_sub_cancel, q_or, q_and, q_shl, true_or, or_true, false_or, or_false, true_and, and_true, false_and, and_false, not_true_eq_false, not_false_eq_true, ne_eq, fC_Letters_add, gC_Letters_add_0, s27, ei]
      simp (disch := omega) only [Option.bind_some, ↓reduceIte, ↓M_1, ↓M_2, L_0, L_1, L_2, L_3, L_4, L_5, L_6, L_7, L_8, L_9, L_10, L_11, L_12, L_13, L_20, L_24, L_26, L_30, L_31, L_32, L_39, L_40, L_48, L_57, L_76, L_80, L_90, L_91, L_97, L_99, L_100, L_255, L_273, L_1000, L_2000, q_ld, q_ldL, q_sto, q_stoL, q_add, q_sub, q_mul, q_dec, q_rem, q_div, q_lt_t, q_lt_f, q_le_t, q_le_f, q_eq_t, q_eq_f, q_em, q_me, q_ml, q_lm, q_mle, q_lem, q_s1, q_s1o, q_s1k, q_s12, q_s2, q_s2o, q_s2k, q_s21, Nat.add_sub_cancel, q_or, q_and, q_shl, true_or, or_true, false_or, or_false, true_and, and_true, false_and, and_false, not_true_eq_false, not_false_eq_true, ne_eq, fC_Post_handOn, gC_Post_handOn_0, e0, ep, e2, ea, h1.h hm, er, eo, g1, z13, k1, s13, hA]
    · rw [q_s1o (by decide), q_s1o (by decide), q_s1o (by decide), q_s1o (by decide), k3, g2.1 17 (by decide)]
    · by_cases d : k = n + 1
      · subst d
        rw [up_eq, up_eq, up_eq]
        exact ⟨by simp (disch := omega) only [Option.bind_some, ↓reduceIte, ↓M_1, ↓M_2, L_0, L_1, L_2, L_3, L_4, L_5, L_6, L_7, L_8, L_9, L_10, L_11, L_12, L_13, L_20, L_24, L_26, L_30, L_31, L_32, L_39, L_40, L_48, L_57, L_76, L_80, L_90, L_91, L_97, L_99, L_100, L_255, L_273, L_1000, L_2000, q_ld, q_ldL, q_sto, q_stoL, q_add, q_sub, q_mul, q_dec, q_rem, q_div, q_lt_t, q_lt_f, q_le_t, q_le_f, q_eq_t, q_eq_f, q_em, q_me, q_ml, q_lm, q_mle, q_lem, q_s1, q_s1o, q_s1k, q_s12, q_s2, q_s2o, q_s2k, q_s21, Nat.add_sub_cancel, q_or, q_and, q_shl, true_or, or_true, false_or, or_false, true_and, and_true, false_and, and_false, not_true_eq_false, not_false_eq_true, ne_eq], by simp (disch := omega) only [Option.bind_some, ↓reduceIte, ↓M_1, ↓M_2, L_0, L_1, L_2, L_3, L_4, L_5, L_6, L_7, L_8, L_9, L_10, L_11, L_12, L_13, L_20, L_24, L_26, L_30, L_31, L_32, L_39, L_40, L_48, L_57, L_76, L_80, L_90, L_91, L_97, L_99, L_100, L_255, L_273, L_1000, L_2000, q_ld, q_ldL, q_sto, q_stoL, q_add, q_sub, q_mul, q_dec, q_rem, q_div, q_lt_t, q_lt_f, q_le_t, q_le_f, q_eq_t, q_eq_f, q_em, q_me, q_ml, q_lm, q_mle, q_lem, q_s1, q_s1o, q_s1k, q_s12, q_s2, q_s2o, q_s2k, q_s21, Nat.add_sub_cancel, q_or, q_and, q_shl, true_or, or_true, false_or, or_false, true_and, and_true, false_and, and_false, not_true_eq_false, not_false_eq_true, ne_eq], by simp (disch := omega) only [Option.bind_some, ↓reduceIte, ↓M_1, ↓M_2, L_0, L_1, L_2, L_3, L_4, L_5, L_6, L_7, L_8, L_9, L_10, L_11, L_12, L_13, L_20, L_24, L_26, L_30, L_31, L_32, L_39, L_40, L_48, L_57, L_76, L_80, L_90, L_91, L_97, L_99, L_100, L_255, L_273, L_1000, L_2000, q_ld, q_ldL, q_sto, q_stoL, q_add, q_sub, q_mul, q_dec, q_rem, q_div, q_lt_t, q_lt_f, q_le_t, q_le_f, q_eq_t, q_eq_f, q_em, q_me, q_ml, q_lm, q_mle, q_lem, q_s1, q_s1o, q_s1k, q_s12, q_s2, q_s2o, q_s2k, q_s21, Nat.add_sub_cancel, q_or, q_and, q_shl, true_or, or_true, false_or, or_false, true_and, and_true, false_and, and_false, not_true_eq_false, not_false_eq_true, ne_eq]⟩
      · rw [up_ne d, up_ne d, up_ne d]
        have hk' := hC.2 k (by omega)
        refine ⟨?_, ?_, ?_⟩
        · rw [q_s1o (by decide), q_s1o (by decide), q_s1o (by decide), q_s1k (by omega), k2.1 28 (by decide), g2.1 28 (by decide)]; exact hk'.1
        · rw [q_s1o (by decide), q_s1o (by decide), q_s1k (by omega), q_s1o (by decide), k2.1 29 (by decide), g2.1 29 (by decide)]; exact hk'.2.1
        · rw [q_s1o (by decide), q_s1k (by omega), q_s1o (by decide), q_s1o (by decide), k2.1 30 (by decide), g2.1 30 (by decide)]; exact hk'.2.2
    · rw [q_s1k hk, q_s1o (by decide), q_s1o (by decide), q_s1o (by decide), k2.1 27 (by decide), g2.1 27 (by decide)]
    · refine ⟨?_, ?_, ?_⟩
      · rw [q_s1o (by decide), q_s1o (by decide), q_s1o (by decide), q_s1k (by omega), k2.1 28 (by decide), g2.1 28 (by decide)]
      · rw [q_s1o (by decide), q_s1o (by decide), q_s1k (by omega), q_s1o (by decide), k2.1 29 (by decide), g2.1 29 (by decide)]
      · rw [q_s1o (by decide), q_s1k (by omega), q_s1o (by decide), q_s1o (by decide), k2.1 30 (by decide), g2.1 30 (by decide)]
theorem M_make (hN : 100 ≤ N) (h2 : MW w t) (hl : l < 3) (ho : okL (w 5 0) (n + 1) wh si li) (hM : ML l (n + 1) wh si li t) (hm : m < w 5 1) (hn : n + 1 < 30) (hU : UM N q x C t) :
    (C.length = 0 ∨ ∃ v, Den (eHd w wh li n m) C v) ∧ ∀ j, lm (rv C (eHd w wh li n m)) = nI j → ∃ t', fM_EachAddsALineModel_makeHand N (nI l) (nI m) t = some (nI j, t') ∧ Fm [9, 10] [] [12, 13, 14, 15, 16, 19, 20, 21, 22, 23, 24, 25, 26] t t' ∧ ML l (n + 2) (up wh (n + 1) (oth w m (wh n))) (up si (n + 1) (w 3 m)) (up li (n + 1) j) t' ∧ ∀ k, ¬ (91 * l ≤ k ∧ k < 91 * l + 91) → t'.1 9 k = t.1 9 k := by
  have h := ho.2 n (Nat.lt_succ_self n)
  have hq := h2.ok.2.1
  have hw := h2.ok.2.2.2 m hm
  have e4 := M_linesOf (N := N) hl hM
  have l30 : ∀ k, k < n + 1 → li k ≤ 9 := fun k hk => (ho.2 k hk).2.2
  -- the state behind the copying
  obtain ⟨u, u1, u2, u3⟩ : ∃ u, (∀ f, gM_EachAddsALineModel_makeHand_9 N (f + 1) (nI l) (nI m) (nI (n + 1)) (nI (n + 1)) u = gM_EachAddsALineModel_makeHand_9 N (f + 1) (nI l) (nI m) (nI (n + 1)) (nI (n + 1)) u) ∧ Fm [10] [] [] t u ∧ (∀ k, k < n + 1 → u.1 10 k = nI (li k)) := by
    have step : ∀ c, c ≤ n + 1 → ∃ u, Fm [10] [] [] t u ∧ ∀ k, k < c → u.1 10 k = nI (li k) := by
      intro c
      induction c with
      | zero => intro _; exact ⟨t, Fm.rf, fun k hk => by omega⟩
      | succ c ih =>
        intro hc
        obtain ⟨u, a1, a2⟩ := ih (by omega)
        refine ⟨s1 u 10 c (nI (li c)), a1.tr (Fm.w1 (by decide) (by decide)), fun k hk => ?_⟩
        by_cases d : k = c
        · subst d; rw [q_s1]
        · rw [q_s1k d]; exact a2 k (by omega)
    obtain ⟨u, a1, a2⟩ := step (n + 1) (Nat.le_refl _)
    exact ⟨u, fun _ => rfl, a1, a2⟩
  have hden : ∀ v : vSt, Fm [10] [] [] t v → (∀ k, k < n + 1 → v.1 10 k = nI (li k)) → ∃ t3, fM_EachAddsALineModel_lineBy_m_told N (nI (oth w m (wh n))) (nI (wh n)) (nI (w 3 m)) (nI 0) (nI (n + 1)) v = some (lm (rv C (eHd w wh li n m)), t3) ∧ Fm [] [] [12, 13, 14, 15, 16, 19, 20, 21, 22, 23, 24, 25, 26] v t3 ∧ (C.length = 0 ∨ ∃ v, Den (eHd w wh li n m) C v) := fun v a1 a2 => by
    have e := M_lineBy (N := N) (t := v) hN (hU.fm a1 (by decide) (by decide)) (m := n + 1) (by omega) (by omega) a2 l30 (nI (oth w m (wh n))) (nI (wh n)) (nI (w 3 m))
    rw [Nat.add_sub_cancel] at e
    exact e
  refine ⟨by obtain ⟨_, _, _, z⟩ := hden u u2 u3; exact z, fun j hj => ?_⟩
  have st : fM_EachAddsALineModel_makeHand N (nI l) (nI m) t = gM_EachAddsALineModel_makeHand_9 N N (nI l) (nI m) (nI (n + 1)) (nI 0) t := by
    simp (disch := omega) only [Option.bind_some, ↓reduceIte, ↓M_1, ↓M_2, L_0, L_1, L_2, L_3, L_4, L_5, L_6, L_7, L_8, L_9, L_10, L_11, L_12, L_13, L_20, L_24, L_26, L_30, L_31, L_32, L_39, L_40, L_48, L_57, L_76, L_80, L_90, L_91, L_97, L_99, L_100, L_255, L_273, L_1000, L_2000, q_ld, q_ldL, q_sto, q_stoL, q_add, q_sub, q_mul, q_dec, q_rem, q_div, q_lt_t, q_lt_f, q_le_t, q_le_f, q_eq_t, q_eq_f, q_em, q_me, q_ml, q_lm, q_mle, q_lem, q_s1, q_s1o, q_s1k, q_s12, q_s2, q_s2o, q_s2k, q_s21, Nat.add_sub_cancel, q_or, q_and, q_shl, true_or, or_true, false_or, or_false, true_and, and_true, false_and, and_false, not_true_eq_false, not_false_eq_true, ne_eq, fM_EachAddsALineModel_makeHand, gM_EachAddsALineModel_makeHand_0, e4]
  rw [st]
  refine loopU (fun f i v => gM_EachAddsALineModel_makeHand_9 N f (nI l) (nI m) (nI (n + 1)) (nI i) v) (n + 1) (fun i v => i ≤ n + 1 ∧ Fm [10] [] [] t v ∧ ∀ k, k < i → v.1 10 k = nI (li k)) (fun o => ∃ t', o = some (nI j, t') ∧ Fm [9, 10] [] [12, 13, 14, 15, 16, 19, 20, 21, 22, 23, 24, 25, 26] t t' ∧ ML l (n + 2) (up wh (n + 1) (oth w m (wh n))) (up si (n + 1) (w 3 m)) (up li (n + 1) j) t' ∧ ∀ k, ¬ (91 * l ≤ k ∧ k < 91 * l + 91) → t'.1 9 k = t.1 9 k) ?_ ?_ (n + 1) N 0 t (by omega) (by omega) ⟨by omega, Fm.rf, fun k hk => by omega⟩
  · rintro f i v hi ⟨_, g2, g3⟩
    have e9 : v.1 9 (91 * l + 1 + 3 * i) = nI (li i) := by rw [g2.1 9 (by decide) (by decide)]; exact (hM.2 i hi).1
    refine Or.inl ⟨s1 v 10 i (nI (li i)), ?_, by omega, g2.tr (Fm.w1 (by decide) (by decide)), fun k hk => ?_⟩
    · show gM_EachAddsALineModel_makeHand_9 N (f + 1) (nI l) (nI m) (nI (n + 1)) (nI i) v = _
      rw [gM_EachAddsALineModel_makeHand_9]
      simp (disch := omega) only [Option.bind_some, ↓reduceIte, ↓M_1, ↓M_2, L_0, L_1, L_2, L_3, L_4, L_5, L_6, L_7, L_8, L_9, L_10, L_11, L_12, L_13, L_20, L_24, L_26, L_30, L_31, L_32, L_39, L_40, L_48, L_57, L_76, L_80, L_90, L_91, L_97, L_99, L_100, L_255, L_273, L_1000, L_2000, q_ld, q_ldL, q_sto, q_stoL, q_add, q_sub, q_mul, q_dec, q_rem, q_div, q_lt_t, q_lt_f, q_le_t, q_le_f, q_eq_t, q_eq_f, q_em, q_me, q_ml, q_lm, q_mle, q_lem, q_s1, q_s1o, q_s1k, q_s12, q_s2, q_s2o, q_s2k, q_s21, Nat.add_sub_cancel, q_or, q_and, q_shl, true_or, or_true, false_or, or_false, true_and, and_true, false_and, and_false, not_true_eq_false, not_false_eq_true, ne_eq, M_at, e9]
    · by_cases d : k = i
      · subst d; rw [q_s1]
      · rw [q_s1k d]; exact g3 k (by omega)
  · rintro f v ⟨_, g2, g3⟩
    obtain ⟨t3, k1, k2, _⟩ := hden v g2 g3
    rw [hj] at k1
    have hMv := hM.fm g2 (by decide)
    have h2v : MW w v := h2.fm g2 (by decide) (by decide)
    have eh := M_holder (N := N) hl ho hMv
    have ep := M_partner (N := N) h2v hm h.1
    have t4 : t3.1 4 m = nI (w 3 m) := by rw [k2.1 4 (by decide) (by decide)]; exact h2v.h hm
    have t9 : t3.1 9 = t.1 9 := by rw [k2.1 9 (by decide) (by decide), g2.1 9 (by decide) (by decide)]
    have t90 : t3.1 9 (91 * l) = nI (n + 1) := by rw [t9]; exact hM.1
    obtain ⟨A, hA⟩ : ∃ A, A = 91 * l + 1 + 3 * (n + 1) := ⟨_, rfl⟩
    refine ⟨s1 (s1 (s1 (s1 t3 9 A (nI j)) 9 (A + 1) (nI (oth w m (wh n)))) 9 (A + 2) (nI (w 3 m))) 9 (91 * l) (nI (n + 2)), ?_, (g2.mono (by decide) (by decide) (by decide)).tr ((k2.mono (by decide) (by decide) (by decide)).tr ((Fm.w1 (by decide) (by decide)).tr ((Fm.w1 (by decide) (by decide)).tr ((Fm.w1 (by decide) (by decide)).tr (Fm.w1 (by decide) (by decide)))))), ⟨q_s1 _ _ _ _, fun k hk => ?_⟩, fun k hk => ?_⟩
    · show gM_EachAddsALineModel_makeHand_9 N (f + 1) (nI l) (nI m) (nI (n + 1)) (nI (n + 1)) v = _
      rw [gM_EachAddsALineModel_makeHand_9]
      simp (disch := omega) only [Option.bind_some, ↓reduceIte, ↓M_1, ↓M_2, L_0, L_1, L_2, L_3, L_4, L_5, L_6, L_7, L_8, L_9, L_10, L_11, L_12, L_13, L_20, L_24, L_26, L_30, L_31, L_32, L_39, L_40, L_48, L_57, L_76, L_80, L_90, L_91, L_97, L_99, L_100, L_255, L_273, L_1000, L_2000, q_ld, q_ldL, q_sto, q_stoL, q_add, q_sub, q_mul, q_dec, q_rem, q_div, q_lt_t, q_lt_f, q_le_t, q_le_f, q_eq_t, q_eq_f, q_em, q_me, q_ml, q_lm, q_mle, q_lem, q_s1, q_s1o, q_s1k, q_s12, q_s2, q_s2o, q_s2k, q_s21, Nat.add_sub_cancel, q_or, q_and, q_shl, true_or, or_true, false_or, or_false, true_and, and_true, false_and, and_false, not_true_eq_false, not_false_eq_true, ne_eq, eh, ep, h2v.h hm, k1, M_at, ← hA, t4, L_91, t90]
    · by_cases d : k = n + 1
      · subst d
        rw [up_eq, up_eq, up_eq, show 91 * l + 1 + 3 * (n + 1) = A from hA.symm, show 91 * l + 2 + 3 * (n + 1) = A + 1 by omega, show 91 * l + 3 + 3 * (n + 1) = A + 2 by omega]
        refine ⟨?_, ?_, ?_⟩
        · rw [q_s1k (by omega), q_s1k (by omega), q_s1k (by omega), q_s1]
        · rw [q_s1k (by omega), q_s1k (by omega), q_s1]
        · rw [q_s1k (by omega), q_s1]
      · rw [up_ne d, up_ne d, up_ne d]
        have hk' := hM.2 k (by omega)
        refine ⟨?_, ?_, ?_⟩
        · rw [q_s1k (by omega), q_s1k (by omega), q_s1k (by omega), q_s1k (by omega), t9]; exact hk'.1
        · rw [q_s1k (by omega), q_s1k (by omega), q_s1k (by omega), q_s1k (by omega), t9]; exact hk'.2.1
        · rw [q_s1k (by omega), q_s1k (by omega), q_s1k (by omega), q_s1k (by omega), t9]; exact hk'.2.2
    · rw [q_s1k (by omega), q_s1k (by omega), q_s1k (by omega), q_s1k (by omega), t9]
end HD
