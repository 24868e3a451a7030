/-! the line by the rule: the reference's; what stands ahead -/
def fE (a b c m f l sm : Int32) : Nat → Int32
  | 0 => a
  | 1 => b
  | 2 => c
  | 3 => m
  | 4 => f
  | 5 => l
  | _ => sm
def sl (li : Nat → Nat) : Nat → Nat
  | 0 => 0
  | n + 1 => sl li n + li n
theorem sl_le {li : Nat → Nat} : ∀ {n : Nat}, (∀ k, k < n → li k ≤ 9) → sl li n ≤ 9 * n
  | 0, _ => Nat.le_refl _
  | n + 1, h => by
    have := sl_le (n := n) (fun k hk => h k (by omega))
    have := h n (Nat.lt_succ_self n)
    show sl li n + li n ≤ _
    omega
/-- the rule of the reference and its code -/
def UM (N : Nat) (q : Nat) (x : Nat → Nat) (C : List Nat) (t : vSt) : Prop := q ≤ 40 ∧ t.1 0 18 = nI q ∧ (∀ k, k < q → x k < 256 ∧ t.1 8 k = byteI (x k)) ∧ ((q = 0 ∧ C = []) ∨ (0 < q ∧ Mok q x (fM_EachAddsALineModel_held N (fM_EachAddsALineModel_thing N 48) (nI 0)) 0 q C))
def UC (C : List Nat) (s : vSt) : Prop := C.length ≤ 40 ∧ s.1 17 1 = nI C.length ∧ ∀ k j, C[k]? = some j → s.1 18 k = nI j
theorem UR.get {N : Nat} {s t : vSt} (h : UR N s t) : ∃ q x C, UM N q x C t ∧ UC C s := by
  obtain ⟨n, x, C, h1, h2, h3, h4, h5, h6, h7⟩ := h
  exact ⟨n, x, C, ⟨h1, h2, h3, h7⟩, h4, h5, h6⟩
theorem UR.put {N q : Nat} {x : Nat → Nat} {C : List Nat} {s t : vSt} (h : UM N q x C t) (g : UC C s) : UR N s t := ⟨q, x, C, h.1, h.2.1, h.2.2.1, g.1, g.2.1, g.2.2, h.2.2.2⟩
theorem UM.fm {N q : Nat} {x : Nat → Nat} {C : List Nat} {t t' : vSt} (h : UM N q x C t) {L K F : List Nat} (f : Fm L K F t t') (h8 : 8 ∉ L) (h18 : 18 ∉ F) : UM N q x C t' := by
  unfold UM at h ⊢
  rw [f.1 8 (by decide) h8, f.2.2 18 h18]; exact h
theorem UC.fr {C : List Nat} {s s' : vSt} (h : UC C s) {L K : List Nat} (f : Fr L K s s') (h17 : s'.1 17 1 = s.1 17 1) (h18 : 18 ∉ L) : UC C s' := by
  unfold UC at h ⊢
  rw [h17, f.1 18 h18]; exact h
section LY
variable {N q m l n : Nat} {x wh si li : Nat → Nat} {C : List Nat} {s t : vSt}
theorem lm_119 (v : Int32) : gM_EachAddsALineModel_lineBy_m_told_119 N v t = some (lm v, t) := rfl
theorem M_lineBy (hN : 100 ≤ N) (hU : UM N q x C t) (hm : 0 < m) (hm2 : m ≤ 30) (h10 : ∀ k, k < m → t.1 10 k = nI (li k)) (hli : ∀ k, k < m → li k ≤ 9) (a b c : Int32) : ∃ t', fM_EachAddsALineModel_lineBy_m_told N a b c (nI 0) (nI m) t = some (lm (rv C (fE a b c (nI m) (nI (li 0)) (nI (li (m - 1))) (nI (sl li m)))), t') ∧ Fm [] [] [12, 13, 14, 15, 16, 19, 20, 21, 22, 23, 24, 25, 26] t t' ∧ (C.length = 0 ∨ ∃ v, Den (fE a b c (nI m) (nI (li 0)) (nI (li (m - 1))) (nI (sl li m))) C v) := by
  obtain ⟨hq, h18, h8, hU⟩ := hU
  obtain ⟨E, hE⟩ : ∃ E, E = fE a b c (nI m) (nI (li 0)) (nI (li (m - 1))) (nI (sl li m)) := ⟨_, rfl⟩
  rw [← hE]
  rcases hU with ⟨rfl, rfl⟩ | ⟨h0, hU⟩
  · refine ⟨t, ?_, Fm.rf, Or.inl rfl⟩
    rw [fM_EachAddsALineModel_lineBy_m_told, gM_EachAddsALineModel_lineBy_m_told_0, h18, if_pos (show nI 0 ≤ (0 : Int32) from Int32.le_refl _), lm_119, hE]
    rfl
  · obtain ⟨t9, ht9⟩ : ∃ t9, t9 = s1 (s1 (s1 (s1 (s1 (s1 (s1 t 0 20 a) 0 21 b) 0 22 c) 0 23 (nI m)) 0 24 (nI (li 0))) 0 25 (nI (li (m - 1)))) 0 26 (nI 0) := ⟨_, rfl⟩
    have f9 : Fm [] [] [20, 21, 22, 23, 24, 25, 26] t t9 := by
      rw [ht9]
      exact (Fm.w10 (by decide)).tr ((Fm.w10 (by decide)).tr ((Fm.w10 (by decide)).tr ((Fm.w10 (by decide)).tr ((Fm.w10 (by decide)).tr ((Fm.w10 (by decide)).tr (Fm.w10 (by decide)))))))
    have e0 : fM_EachAddsALineModel_lineBy_m_told N a b c (nI 0) (nI m) t = gM_EachAddsALineModel_lineBy_m_told_63 N N (nI 0) (nI m) (nI 0) t9 := by
      have k0 := h10 0 hm
      have k1 := h10 (m - 1) (by omega)
      rw [ht9]
      simp (disch := omega) only [Option.bind_some, ↓reduceIte, ↓M_1, ↓M_2, L_0, L_1, L_2, L_3, L_4, L_5, L_6, L_7, L_8, L_9, L_10, L_11, L_12, L_13, L_20, L_24, L_26, L_30, L_31, L_32, L_39, L_40, L_48, L_57, L_76, L_80, L_90, L_91, L_97, L_99, L_100, L_255, L_273, L_1000, L_2000, q_ld, q_ldL, q_sto, q_stoL, q_add, q_sub, q_mul, q_dec, q_rem, q_div, q_lt_t, q_lt_f, q_le_t, q_le_f, q_eq_t, q_eq_f, q_em, q_me, q_ml, q_lm, q_mle, q_lem, q_s1, q_s1o, q_s1k, q_s12, q_s2, q_s2o, q_s2k, q_s21, Nat.add_sub_cancel, q_or, q_and, q_shl, true_or, or_true, false_or, or_false, true_and, and_true, false_and, and_false, not_true_eq_false, not_false_eq_true, ne_eq, fM_EachAddsALineModel_lineBy_m_told, gM_EachAddsALineModel_lineBy_m_told_0, h18, k0, k1, Nat.zero_add]
    rw [e0]
    have E20 : t9.1 0 20 = a := by rw [ht9]; simp (disch := omega) only [Option.bind_some, ↓reduceIte, ↓M_1, ↓M_2, L_0, L_1, L_2, L_3, L_4, L_5, L_6, L_7, L_8, L_9, L_10, L_11, L_12, L_13, L_20, L_24, L_26, L_30, L_31, L_32, L_39, L_40, L_48, L_57, L_76, L_80, L_90, L_91, L_97, L_99, L_100, L_255, L_273, L_1000, L_2000, q_ld, q_ldL, q_sto, q_stoL, q_add, q_sub, q_mul, q_dec, q_rem, q_div, q_lt_t, q_lt_f, q_le_t, q_le_f, q_eq_t, q_eq_f, q_em, q_me, q_ml, q_lm, q_mle, q_lem, q_s1, q_s1o, q_s1k, q_s12, q_s2, q_s2o, q_s2k, q_s21, Nat.add_sub_cancel, q_or, q_and, q_shl, true_or, or_true, false_or, or_false, true_and, and_true, false_and, and_false, not_true_eq_false, not_false_eq_true, ne_eq]
    have E21 : t9.1 0 21 = b := by rw [ht9]; simp (disch := omega) only [Option.bind_some, ↓reduceIte, ↓M_1, ↓M_2, L_0, L_1, L_2, L_3, L_4, L_5, L_6, L_7, L_8, L_9, L_10, L_11, L_12, L_13, L_20, L_24, L_26, L_30, L_31, L_32, L_39, L_40, L_48, L_57, L_76, L_80, L_90, L_91, L_97, L_99, L_100, L_255, L_273, L_1000, L_2000, q_ld, q_ldL, q_sto, q_stoL, q_add, q_sub, q_mul, q_dec, q_rem, q_div, q_lt_t, q_lt_f, q_le_t, q_le_f, q_eq_t, q_eq_f, q_em, q_me, q_ml, q_lm, q_mle, q_lem, q_s1, q_s1o, q_s1k, q_s12, q_s2, q_s2o, q_s2k, q_s21, Nat.add_sub_cancel, q_or, q_and, q_shl, true_or, or_true, false_or, or_false, true_and, and_true, false_and, and_false, not_true_eq_false, not_false_eq_true, ne_eq]
    have E22 : t9.1 0 22 = c := by rw [ht9]; simp (disch := omega) only [Option.bind_some, ↓reduceIte, ↓M_1, ↓M_2, L_0, L_1, L_2, L_3, L_4, L_5, L_6, L_7, L_8, L_9, L_10, L_11, L_12, L_13, L_20, L_24, L_26, L_30, L_31, L_32, L_39, L_40, L_48, L_57, L_76, L_80, L_90, L_91, L_97, L_99, L_100, L_255, L_273, L_1000, L_2000, q_ld, q_ldL, q_sto, q_stoL, q_add, q_sub, q_mul, q_dec, q_rem, q_div, q_lt_t, q_lt_f, q_le_t, q_le_f, q_eq_t, q_eq_f, q_em, q_me, q_ml, q_lm, q_mle, q_lem, q_s1, q_s1o, q_s1k, q_s12, q_s2, q_s2o, q_s2k, q_s21, Nat.add_sub_cancel, q_or, q_and, q_shl, true_or, or_true, false_or, or_false, true_and, and_true, false_and, and_false, not_true_eq_false, not_false_eq_true, ne_eq]
    have E23 : t9.1 0 23 = nI m := by rw [ht9]; simp (disch := omega) only [Option.bind_some, ↓reduceIte, ↓M_1, ↓M_2, L_0, L_1, L_2, L_3, L_4, L_5, L_6, L_7, L_8, L_9, L_10, L_11, L_12, L_13, L_20, L_24, L_26, L_30, L_31, L_32, L_39, L_40, L_48, L_57, L_76, L_80, L_90, L_91, L_97, L_99, L_100, L_255, L_273, L_1000, L_2000, q_ld, q_ldL, q_sto, q_stoL, q_add, q_sub, q_mul, q_dec, q_rem, q_div, q_lt_t, q_lt_f, q_le_t, q_le_f, q_eq_t, q_eq_f, q_em, q_me, q_ml, q_lm, q_mle, q_lem, q_s1, q_s1o, q_s1k, q_s12, q_s2, q_s2o, q_s2k, q_s21, Nat.add_sub_cancel, q_or, q_and, q_shl, true_or, or_true, false_or, or_false, true_and, and_true, false_and, and_false, not_true_eq_false, not_false_eq_true, ne_eq]
    have E24 : t9.1 0 24 = nI (li 0) := by rw [ht9]; simp (disch := omega) only [Option.bind_some, ↓reduceIte, ↓M_1, ↓M_2, L_0, L_1, L_2, L_3, L_4, L_5, L_6, L_7, L_8, L_9, L_10, L_11, L_12, L_13, L_20, L_24, L_26, L_30, L_31, L_32, L_39, L_40, L_48, L_57, L_76, L_80, L_90, L_91, L_97, L_99, L_100, L_255, L_273, L_1000, L_2000, q_ld, q_ldL, q_sto, q_stoL, q_add, q_sub, q_mul, q_dec, q_rem, q_div, q_lt_t, q_lt_f, q_le_t, q_le_f, q_eq_t, q_eq_f, q_em, q_me, q_ml, q_lm, q_mle, q_lem, q_s1, q_s1o, q_s1k, q_s12, q_s2, q_s2o, q_s2k, q_s21, Nat.add_sub_cancel, q_or, q_and, q_shl, true_or, or_true, false_or, or_false, true_and, and_true, false_and, and_false, not_true_eq_false, not_false_eq_true, ne_eq]
    have E25 : t9.1 0 25 = nI (li (m - 1)) := by rw [ht9]; simp (disch := omega) only [Option.bind_some, ↓reduceIte, ↓M_1, ↓M_2, L_0, L_1, L_2, L_3, L_4, L_5, L_6, L_7, L_8, L_9, L_10, L_11, L_12, L_13, L_20, L_24, L_26, L_30, L_31, L_32, L_39, L_40, L_48, L_57, L_76, L_80, L_90, L_91, L_97, L_99, L_100, L_255, L_273, L_1000, L_2000, q_ld, q_ldL, q_sto, q_stoL, q_add, q_sub, q_mul, q_dec, q_rem, q_div, q_lt_t, q_lt_f, q_le_t, q_le_f, q_eq_t, q_eq_f, q_em, q_me, q_ml, q_lm, q_mle, q_lem, q_s1, q_s1o, q_s1k, q_s12, q_s2, q_s2o, q_s2k, q_s21, Nat.add_sub_cancel, q_or, q_and, q_shl, true_or, or_true, false_or, or_false, true_and, and_true, false_and, and_false, not_true_eq_false, not_false_eq_true, ne_eq]
    have E26 : t9.1 0 26 = nI 0 := by rw [ht9]; simp (disch := omega) only [Option.bind_some, ↓reduceIte, ↓M_1, ↓M_2, L_0, L_1, L_2, L_3, L_4, L_5, L_6, L_7, L_8, L_9, L_10, L_11, L_12, L_13, L_20, L_24, L_26, L_30, L_31, L_32, L_39, L_40, L_48, L_57, L_76, L_80, L_90, L_91, L_97, L_99, L_100, L_255, L_273, L_1000, L_2000, q_ld, q_ldL, q_sto, q_stoL, q_add, q_sub, q_mul, q_dec, q_rem, q_div, q_lt_t, q_lt_f, q_le_t, q_le_f, q_eq_t, q_eq_f, q_em, q_me, q_ml, q_lm, q_mle, q_lem, q_s1, q_s1o, q_s1k, q_s12, q_s2, q_s2o, q_s2k, q_s21, Nat.add_sub_cancel, q_or, q_and, q_shl, true_or, or_true, false_or, or_false, true_and, and_true, false_and, and_false, not_true_eq_false, not_false_eq_true, ne_eq]
    refine loopU (fun f i u => gM_EachAddsALineModel_lineBy_m_told_63 N f (nI 0) (nI m) (nI i) u) m (fun i u => i ≤ m ∧ Fm [] [] [26] t9 u ∧ u.1 0 26 = nI (sl li i)) (fun o => ∃ t', o = some (lm (rv C E), t') ∧ Fm [] [] [12, 13, 14, 15, 16, 19, 20, 21, 22, 23, 24, 25, 26] t t' ∧ (C.length = 0 ∨ ∃ v, Den E C v)) ?_ ?_ m N 0 t9 (by omega) (by omega) ⟨by omega, Fm.rf, E26⟩
    · rintro f i u hi ⟨_, g2, g3⟩
      have k1 : u.1 10 i = nI (li i) := by rw [g2.1 10 (by decide) (by decide), f9.1 10 (by decide) (by decide)]; exact h10 i hi
      refine Or.inl ⟨s1 u 0 26 (nI (sl li (i + 1))), ?_, by omega, g2.tr (Fm.w10 (by decide)), q_s1 _ _ _ _⟩
      show gM_EachAddsALineModel_lineBy_m_told_63 N (f + 1) (nI 0) (nI m) (nI i) u = _
      rw [gM_EachAddsALineModel_lineBy_m_told_63, sl]
      simp (disch := omega) only [Option.bind_some, ↓reduceIte, ↓M_1, ↓M_2, L_0, L_1, L_2, L_3, L_4, L_5, L_6, L_7, L_8, L_9, L_10, L_11, L_12, L_13, L_20, L_24, L_26, L_30, L_31, L_32, L_39, L_40, L_48, L_57, L_76, L_80, L_90, L_91, L_97, L_99, L_100, L_255, L_273, L_1000, L_2000, q_ld, q_ldL, q_sto, q_stoL, q_add, q_sub, q_mul, q_dec, q_rem, q_div, q_lt_t, q_lt_f, q_le_t, q_le_f, q_eq_t, q_eq_f, q_em, q_me, q_ml, q_lm, q_mle, q_lem, q_s1, q_s1o, q_s1k, q_s12, q_s2, q_s2o, q_s2k, q_s21, Nat.add_sub_cancel, q_or, q_and, q_shl, true_or, or_true, false_or, or_false, true_and, and_true, false_and, and_false, not_true_eq_false, not_false_eq_true, ne_eq, k1, g3, Nat.zero_add]
    · rintro f u ⟨_, g2, g3⟩
      obtain ⟨z, hz⟩ : ∃ z, z = s1 (s1 (s1 (s1 (s1 (s1 u 0 19 (nI 1)) 0 12 (nI 8)) 0 13 (nI q)) 0 14 (nI 40)) 0 15 (nI 0)) 0 16 (mI 1) := ⟨_, rfl⟩
      have fz : Fm [] [] [12, 13, 14, 15, 16, 19] u z := by
        rw [hz]
        exact (Fm.w10 (by decide)).tr ((Fm.w10 (by decide)).tr ((Fm.w10 (by decide)).tr ((Fm.w10 (by decide)).tr ((Fm.w10 (by decide)).tr (Fm.w10 (by decide))))))
      have u18 : u.1 0 18 = nI q := by rw [g2.2.2 18 (by decide), f9.2.2 18 (by decide)]; exact h18
      have st : gM_EachAddsALineModel_lineBy_m_told_63 N (f + 1) (nI 0) (nI m) (nI m) u = (fM_EachAddsALineModel_held N (fM_EachAddsALineModel_thing N 48) (nI 0) z).bind fun p3 => gM_EachAddsALineModel_lineBy_m_told_119 N p3.1 p3.2 := by
        rw [hz, gM_EachAddsALineModel_lineBy_m_told_63]
        simp (disch := omega) only [Option.bind_some, ↓reduceIte, ↓M_1, ↓M_2, L_0, L_1, L_2, L_3, L_4, L_5, L_6, L_7, L_8, L_9, L_10, L_11, L_12, L_13, L_20, L_24, L_26, L_30, L_31, L_32, L_39, L_40, L_48, L_57, L_76, L_80, L_90, L_91, L_97, L_99, L_100, L_255, L_273, L_1000, L_2000, q_ld, q_ldL, q_sto, q_stoL, q_add, q_sub, q_mul, q_dec, q_rem, q_div, q_lt_t, q_lt_f, q_le_t, q_le_f, q_eq_t, q_eq_f, q_em, q_me, q_ml, q_lm, q_mle, q_lem, q_s1, q_s1o, q_s1k, q_s12, q_s2, q_s2o, q_s2k, q_s21, Nat.add_sub_cancel, q_or, q_and, q_shl, true_or, or_true, false_or, or_false, true_and, and_true, false_and, and_false, not_true_eq_false, not_false_eq_true, ne_eq, u18, fM_EachAddsALineModel_begin_m_rule, gM_EachAddsALineModel_begin_m_rule_0]
      have z8 : z.1 8 = t.1 8 := by rw [fz.1 8 (by decide) (by decide), g2.1 8 (by decide) (by decide), f9.1 8 (by decide) (by decide)]
      have hMS : MSt q x z := ⟨by omega, by rw [hz]; simp (disch := omega) only [Option.bind_some, ↓reduceIte, ↓M_1, ↓M_2, L_0, L_1, L_2, L_3, L_4, L_5, L_6, L_7, L_8, L_9, L_10, L_11, L_12, L_13, L_20, L_24, L_26, L_30, L_31, L_32, L_39, L_40, L_48, L_57, L_76, L_80, L_90, L_91, L_97, L_99, L_100, L_255, L_273, L_1000, L_2000, q_ld, q_ldL, q_sto, q_stoL, q_add, q_sub, q_mul, q_dec, q_rem, q_div, q_lt_t, q_lt_f, q_le_t, q_le_f, q_eq_t, q_eq_f, q_em, q_me, q_ml, q_lm, q_mle, q_lem, q_s1, q_s1o, q_s1k, q_s12, q_s2, q_s2o, q_s2k, q_s21, Nat.add_sub_cancel, q_or, q_and, q_shl, true_or, or_true, false_or, or_false, true_and, and_true, false_and, and_false, not_true_eq_false, not_false_eq_true, ne_eq], by rw [hz]; simp (disch := omega) only [Option.bind_some, ↓reduceIte, ↓M_1, ↓M_2, L_0, L_1, L_2, L_3, L_4, L_5, L_6, L_7, L_8, L_9, L_10, L_11, L_12, L_13, L_20, L_24, L_26, L_30, L_31, L_32, L_39, L_40, L_48, L_57, L_76, L_80, L_90, L_91, L_97, L_99, L_100, L_255, L_273, L_1000, L_2000, q_ld, q_ldL, q_sto, q_stoL, q_add, q_sub, q_mul, q_dec, q_rem, q_div, q_lt_t, q_lt_f, q_le_t, q_le_f, q_eq_t, q_eq_f, q_em, q_me, q_ml, q_lm, q_mle, q_lem, q_s1, q_s1o, q_s1k, q_s12, q_s2, q_s2o, q_s2k, q_s21, Nat.add_sub_cancel, q_or, q_and, q_shl, true_or, or_true, false_or, or_false, true_and, and_true, false_and, and_false, not_true_eq_false, not_false_eq_true, ne_eq], Or.inr ⟨by rw [hz]; simp (disch := omega) only [Option.bind_some, ↓reduceIte, ↓M_1, ↓M_2, L_0, L_1, L_2, L_3, L_4, L_5, L_6, L_7, L_8, L_9, L_10, L_11, L_12, L_13, L_20, L_24, L_26, L_30, L_31, L_32, L_39, L_40, L_48, L_57, L_76, L_80, L_90, L_91, L_97, L_99, L_100, L_255, L_273, L_1000, L_2000, q_ld, q_ldL, q_sto, q_stoL, q_add, q_sub, q_mul, q_dec, q_rem, q_div, q_lt_t, q_lt_f, q_le_t, q_le_f, q_eq_t, q_eq_f, q_em, q_me, q_ml, q_lm, q_mle, q_lem, q_s1, q_s1o, q_s1k, q_s12, q_s2, q_s2o, q_s2k, q_s21, Nat.add_sub_cancel, q_or, q_and, q_shl, true_or, or_true, false_or, or_false, true_and, and_true, false_and, and_false, not_true_eq_false, not_false_eq_true, ne_eq], fun k hk => ⟨(h8 k hk).1, by rw [z8]; exact (h8 k hk).2⟩⟩⟩
      have z19 : z.1 0 19 = nI 1 := by rw [hz]; simp (disch := omega) only [Option.bind_some, ↓reduceIte, ↓M_1, ↓M_2, L_0, L_1, L_2, L_3, L_4, L_5, L_6, L_7, L_8, L_9, L_10, L_11, L_12, L_13, L_20, L_24, L_26, L_30, L_31, L_32, L_39, L_40, L_48, L_57, L_76, L_80, L_90, L_91, L_97, L_99, L_100, L_255, L_273, L_1000, L_2000, q_ld, q_ldL, q_sto, q_stoL, q_add, q_sub, q_mul, q_dec, q_rem, q_div, q_lt_t, q_lt_f, q_le_t, q_le_f, q_eq_t, q_eq_f, q_em, q_me, q_ml, q_lm, q_mle, q_lem, q_s1, q_s1o, q_s1k, q_s12, q_s2, q_s2o, q_s2k, q_s21, Nat.add_sub_cancel, q_or, q_and, q_shl, true_or, or_true, false_or, or_false, true_and, and_true, false_and, and_false, not_true_eq_false, not_false_eq_true, ne_eq]
      have zk : ∀ k, k ≠ 26 → 20 ≤ k → z.1 0 k = t9.1 0 k := fun k h1 h2 => by
        rw [fz.2.2 k (fun hz => by revert hz; simp only [List.mem_cons, List.not_mem_nil, or_false]; omega), g2.2.2 k (fun hz => by revert hz; simp only [List.mem_cons, List.not_mem_nil, or_false]; omega)]
      have hEE : EE z E := fun k hk => by
        have n19 : ¬ z.1 0 19 = nI 0 := by rw [z19]; decide
        unfold EM
        rw [if_neg n19, hE]
        have hc : k = 0 ∨ k = 1 ∨ k = 2 ∨ k = 3 ∨ k = 4 ∨ k = 5 ∨ k = 6 := by omega
        rcases hc with rfl | rfl | rfl | rfl | rfl | rfl | rfl
        · exact (zk 20 (by decide) (by decide)).trans E20
        · exact (zk 21 (by decide) (by decide)).trans E21
        · exact (zk 22 (by decide) (by decide)).trans E22
        · exact (zk 23 (by decide) (by decide)).trans E23
        · exact (zk 24 (by decide) (by decide)).trans E24
        · exact (zk 25 (by decide) (by decide)).trans E25
        · exact (fz.2.2 26 (by decide)).trans g3
      obtain ⟨v, t', b1, b2, b3, b4, b5⟩ := hU z E hMS hEE (by rw [hz]; simp (disch := omega) only [Option.bind_some, ↓reduceIte, ↓M_1, ↓M_2, L_0, L_1, L_2, L_3, L_4, L_5, L_6, L_7, L_8, L_9, L_10, L_11, L_12, L_13, L_20, L_24, L_26, L_30, L_31, L_32, L_39, L_40, L_48, L_57, L_76, L_80, L_90, L_91, L_97, L_99, L_100, L_255, L_273, L_1000, L_2000, q_ld, q_ldL, q_sto, q_stoL, q_add, q_sub, q_mul, q_dec, q_rem, q_div, q_lt_t, q_lt_f, q_le_t, q_le_f, q_eq_t, q_eq_f, q_em, q_me, q_ml, q_lm, q_mle, q_lem, q_s1, q_s1o, q_s1k, q_s12, q_s2, q_s2o, q_s2k, q_s21, Nat.add_sub_cancel, q_or, q_and, q_shl, true_or, or_true, false_or, or_false, true_and, and_true, false_and, and_false, not_true_eq_false, not_false_eq_true, ne_eq]) (by rw [hz]; simp (disch := omega) only [Option.bind_some, ↓reduceIte, ↓M_1, ↓M_2, L_0, L_1, L_2, L_3, L_4, L_5, L_6, L_7, L_8, L_9, L_10, L_11, L_12, L_13, L_20, L_24, L_26, L_30, L_31, L_32, L_39, L_40, L_48, L_57, L_76, L_80, L_90, L_91, L_97, L_99, L_100, L_255, L_273, L_1000, L_2000, q_ld, q_ldL, q_sto, q_stoL, q_add, q_sub, q_mul, q_dec, q_rem, q_div, q_lt_t, q_lt_f, q_le_t, q_le_f, q_eq_t, q_eq_f, q_em, q_me, q_ml, q_lm, q_mle, q_lem, q_s1, q_s1o, q_s1k, q_s12, q_s2, q_s2o, q_s2k, q_s21, Nat.add_sub_cancel, q_or, q_and, q_shl, true_or, or_true, false_or, or_false, true_and, and_true, false_and, and_false, not_true_eq_false, not_false_eq_true, ne_eq])
      refine ⟨t', ?_, (f9.mono (by decide) (by decide) (by decide)).tr ((g2.mono (by decide) (by decide) (by decide)).tr ((fz.mono (by decide) (by decide) (by decide)).tr (b2.mono (by decide) (by decide) (by decide)))), Or.inr ⟨v, b5⟩⟩
      show gM_EachAddsALineModel_lineBy_m_told_63 N (f + 1) (nI 0) (nI m) (nI m) u = _
      rw [st, b1, Option.bind_some, lm_119, rv_den b5]
theorem C_ahead {p : Nat} (hN : 100 ≤ N) (hl : l < 3) (ho : okL p n wh si li) (h : CL l n wh si li s) (hm : 0 < m) (hmn : m ≤ n) : ∃ s', fC_Post_putAhead N (nI l) (nI m) s = some s' ∧ Fr [19] [] s s' ∧ s'.1 19 3 = nI m ∧ s'.1 19 4 = nI (li 0) ∧ s'.1 19 5 = nI (li (m - 1)) ∧ s'.1 19 6 = nI (sl li m) := by
  have hn := ho.1
  have hs : ∀ k, k ≤ m → sl li k ≤ 9 * k := fun k hk => sl_le (fun i hi => (ho.2 i (by omega)).2.2)
  have e0 := C_lineAt (N := N) hl ho h (k := 0) (by omega)
  have e1 := C_lineAt (N := N) hl ho h (k := m - 1) (by omega)
  refine ⟨s1 (s1 (s1 (s1 s 19 3 (nI m)) 19 4 (nI (li 0))) 19 5 (nI (li (m - 1)))) 19 6 (nI (sl li m)), ?_, (Fr.s1 (by decide)).tr ((Fr.s1 (by decide)).tr ((Fr.s1 (by decide)).tr (Fr.s1 (by decide)))), by simp (disch := omega) only [Option.bind_some, ↓reduceIte, ↓M_1, ↓M_2, L_0, L_1, L_2, L_3, L_4, L_5, L_6, L_7, L_8, L_9, L_10, L_11, L_12, L_13, L_20, L_24, L_26, L_30, L_31, L_32, L_39, L_40, L_48, L_57, L_76, L_80, L_90, L_91, L_97, L_99, L_100, L_255, L_273, L_1000, L_2000, q_ld, q_ldL, q_sto, q_stoL, q_add, q_sub, q_mul, q_dec, q_rem, q_div, q_lt_t, q_lt_f, q_le_t, q_le_f, q_eq_t, q_eq_f, q_em, q_me, q_ml, q_lm, q_mle, q_lem, q_s1, q_s1o, q_s1k, q_s12, q_s2, q_s2o, q_s2k, q_s21, Nat.add_sub_cancel, q_or, q_and, q_shl, true_or, or_true, false_or, or_false, true_and, and_true, false_and, and_false, not_true_eq_false, not_false_eq_true, ne_eq], by simp (disch := omega) only [Option.bind_some, ↓reduceIte, ↓M_1, ↓M_2, L_0, L_1, L_2, L_3, L_4, L_5, L_6, L_7, L_8, L_9, L_10, L_11, L_12, L_13, L_20, L_24, L_26, L_30, L_31, L_32, L_39, L_40, L_48, L_57, L_76, L_80, L_90, L_91, L_97, L_99, L_100, L_255, L_273, L_1000, L_2000, q_ld, q_ldL, q_sto, q_stoL, q_add, q_sub, q_mul, q_dec, q_rem, q_div, q_lt_t, q_lt_f, q_le_t, q_le_f, q_eq_t, q_eq_f, q_em, q_me, q_ml, q_lm, q_mle, q_lem, q_s1, q_s1o, q_s1k, q_s12, q_s2, q_s2o, q_s2k, q_s21, Nat.add_sub_cancel, q_or, q_and, q_shl, true_or, or_true, false_or, or_false, true_and, and_true, false_and, and_false, not_true_eq_false, not_false_eq_true, ne_eq], by simp (disch := omega) only [Option.bind_some, ↓reduceIte, ↓M_1, ↓M_2, L_0, L_1, L_2, L_3, L_4, L_5, L_6, L_7, L_8, L_9, L_10, L_11, L_12, L_13, L_20, L_24, L_26, L_30, L_31, L_32, L_39, L_40, L_48, L_57, L_76, L_80, L_90, L_91, L_97, L_99, L_100, L_255, L_273, L_1000, L_2000, q_ld, q_ldL, q_sto, q_stoL, q_add, q_sub, q_mul, q_dec, q_rem, q_div, q_lt_t, q_lt_f, q_le_t, q_le_f, q_eq_t, q_eq_f, q_em, q_me, q_ml, q_lm, q_mle, q_lem, q_s1, q_s1o, q_s1k, q_s12, q_s2, q_s2o, q_s2k, q_s21, Nat.add_sub_cancel, q_or, q_and, q_shl, true_or, or_true, false_or, or_false, true_and, and_true, false_and, and_false, not_true_eq_false, not_false_eq_true, ne_eq], by simp (disch := omega) only [Option.bind_some, ↓reduceIte, ↓M_1, ↓M_2, L_0, L_1, L_2, L_3, L_4, L_5, L_6, L_7, L_8, L_9, L_10, L_11, L_12, L_13, L_20, L_24, L_26, L_30, L_31, L_32, L_39, L_40, L_48, L_57, L_76, L_80, L_90, L_91, L_97, L_99, L_100, L_255, L_273, L_1000, L_2000, q_ld, q_ldL, q_sto, q_stoL, q_add, q_sub, q_mul, q_dec, q_rem, q_div, q_lt_t, q_lt_f, q_le_t, q_le_f, q_eq_t, q_eq_f, q_em, q_me, q_ml, q_lm, q_mle, q_lem, q_s1, q_s1o, q_s1k, q_s12, q_s2, q_s2o, q_s2k, q_s21, Nat.add_sub_cancel, q_or, q_and, q_shl, true_or, or_true, false_or, or_false, true_and, and_true, false_and, and_false, not_true_eq_false, not_false_eq_true, ne_eq]⟩
  rw [fC_Post_putAhead, gC_Post_putAhead_0]
  refine loopU (fun f i (a : Nat) => gC_Post_putAhead_5 N f (nI l) (nI m) (nI a) (nI i) s) m (fun i a => i ≤ m ∧ a = sl li i) (fun o => o = some (s1 (s1 (s1 (s1 s 19 3 (nI m)) 19 4 (nI (li 0))) 19 5 (nI (li (m - 1)))) 19 6 (nI (sl li m)))) ?_ ?_ m N 0 0 (by omega) (by omega) ⟨by omega, rfl⟩
  · rintro f i a hi ⟨_, rfl⟩
    have e := C_lineAt (N := N) hl ho h (k := i) (by omega)
    refine Or.inl ⟨_, ?_, by omega, rfl⟩
    rw [gC_Post_putAhead_5, sl]
    simp (disch := omega) only [Option.bind_some, ↓reduceIte, ↓M_1, ↓M_2, L_0, L_1, L_2, L_3, L_4, L_5, L_6, L_7, L_8, L_9, L_10, L_11, L_12, L_13, L_20, L_24, L_26, L_30, L_31, L_32, L_39, L_40, L_48, L_57, L_76, L_80, L_90, L_91, L_97, L_99, L_100, L_255, L_273, L_1000, L_2000, q_ld, q_ldL, q_sto, q_stoL, q_add, q_sub, q_mul, q_dec, q_rem, q_div, q_lt_t, q_lt_f, q_le_t, q_le_f, q_eq_t, q_eq_f, q_em, q_me, q_ml, q_lm, q_mle, q_lem, q_s1, q_s1o, q_s1k, q_s12, q_s2, q_s2o, q_s2k, q_s21, Nat.add_sub_cancel, q_or, q_and, q_shl, true_or, or_true, false_or, or_false, true_and, and_true, false_and, and_false, not_true_eq_false, not_false_eq_true, ne_eq, e]
  · rintro f a ⟨_, rfl⟩
    show gC_Post_putAhead_5 N (f + 1) (nI l) (nI m) (nI _) (nI m) s = _
    rw [gC_Post_putAhead_5]
    simp (disch := omega) only [Option.bind_some, ↓reduceIte, ↓M_1, ↓M_2, L_0, L_1, L_2, L_3, L_4, L_5, L_6, L_7, L_8, L_9, L_10, L_11, L_12, L_13, L_20, L_24, L_26, L_30, L_31, L_32, L_39, L_40, L_48, L_57, L_76, L_80, L_90, L_91, L_97, L_99, L_100, L_255, L_273, L_1000, L_2000, q_ld, q_ldL, q_sto, q_stoL, q_add, q_sub, q_mul, q_dec, q_rem, q_div, q_lt_t, q_lt_f, q_le_t, q_le_f, q_eq_t, q_eq_f, q_em, q_me, q_ml, q_lm, q_mle, q_lem, q_s1, q_s1o, q_s1k, q_s12, q_s2, q_s2o, q_s2k, q_s21, Nat.add_sub_cancel, q_or, q_and, q_shl, true_or, or_true, false_or, or_false, true_and, and_true, false_and, and_false, not_true_eq_false, not_false_eq_true, ne_eq, e0, e1, fC_Rule_putAhead, gC_Rule_putAhead_0]
/-- the class' line by the rule behind putAhead -/
theorem C_line (hN : 100 ≤ N) (hU : UC C s) {a b c m' f l' sm : Int32} (hd : C.length = 0 ∨ ∃ v, Den (fE a b c m' f l' sm) C v) (h3 : s.1 19 3 = m') (h4 : s.1 19 4 = f) (h5 : s.1 19 5 = l') (h6 : s.1 19 6 = sm) : ∃ s', fC_Rule_lineBy N a b c s = some (lm (rv C (fE a b c m' f l' sm)), s') ∧ Fr [17, 19, 20] [] s s' ∧ s'.1 17 1 = s.1 17 1 := by
  obtain ⟨s', e1, e2, e3, _⟩ := C_lineBy (N := N) (s := s) (E := fE a b c m' f l' sm) hN hU.2.1 hU.1 hU.2.2 hd (fun k h1 h2 => by
    have hk : k = 3 ∨ k = 4 ∨ k = 5 ∨ k = 6 := by omega
    rcases hk with rfl | rfl | rfl | rfl
    · exact h3
    · exact h4
    · exact h5
    · exact h6)
  exact ⟨s', e1, e2, e3⟩
end LY
