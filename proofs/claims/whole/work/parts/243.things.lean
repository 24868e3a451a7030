/-! the rule: comparisons, things, minuses; the whole of it -/
section RT
variable {N n p : Nat} {x : Nat → Nat} {s t : vSt} {rC rM : Int32 → vSt → Option (Int32 × vSt)} {deep : Nat}
noncomputable def ctl (N : Nat) (rC : Int32 → vSt → Option (Int32 × vSt)) (a1 : Int32) (s : vSt) : Option (Int32 × vSt) :=
  (fC_RuleReader_next N s).bind fun p2 =>
    if p2.1 = 60 then gC_RuleReader_readExpression_35 N rC a1 p2.1 p2.2
    else if p2.1 = 62 then gC_RuleReader_readExpression_35 N rC a1 p2.1 p2.2
    else if p2.1 = 61 then gC_RuleReader_readExpression_35 N rC a1 p2.1 p2.2
    else some (1, p2.2)
noncomputable def mtl (N : Nat) (rE : Int32 → vSt → Option (Int32 × vSt)) (a1 : Int32) (a : Int32) (s : vSt) : Option (Int32 × vSt) :=
  (fM_EachAddsALineModel_passes N 60 s).bind fun p2 =>
  if p2.1 = 0 then
    (fM_EachAddsALineModel_passes N 62 p2.2).bind fun p3 =>
    if p3.1 = 0 then
      (fM_EachAddsALineModel_passes N 61 p3.2).bind fun p4 =>
      if p4.1 = 0 then some (a, p4.2)
      else (fM_EachAddsALineModel_sum N rE a1 p4.2).bind fun p5 => if a = p5.1 then some (1, p5.2) else some (0, p5.2)
    else (fM_EachAddsALineModel_sum N rE a1 p3.2).bind fun p6 => if a ≤ p6.1 then some (0, p6.2) else some (1, p6.2)
  else (fM_EachAddsALineModel_sum N rE a1 p2.2).bind fun p7 => if p7.1 ≤ a then some (0, p7.2) else some (1, p7.2)
theorem mtl_d (a : Int32) : Dd (mtl N rM (nI deep) a) := fun t q h hq => ⟨a, by
  unfold mtl
  rw [M_passes_d (a := 60) h hq, Option.bind_some, if_pos (zer_eq _), M_passes_d (a := 62) h hq, Option.bind_some, if_pos (zer_eq _), M_passes_d (a := 61) h hq, Option.bind_some, if_pos (zer_eq _)]⟩
theorem ctl_C {c : Nat} (hc : c = 60 ∨ c = 61 ∨ c = 62) (hp : p ≤ 40) (hx : chr n x p = c) (h : CSt n x s) (h1 : s.1 21 4 = nI p) : ctl N rC (nI deep) s = (fC_RuleReader_readSum N rC (nI deep) (s1 s 21 4 (nI (p + 1)))).bind fun r => if r.1 = 0 then some (0, r.2) else (fC_RuleReader_emit N (nI (2000 + c)) r.2).bind fun z => some (nI 1, z) := by
  obtain ⟨v, e1, e2⟩ := C_next (N := N) h h1 hp
  have ev := e2.nn (by omega)
  rw [hx] at ev
  subst ev
  rcases hc with rfl | rfl | rfl
  · simp (disch := omega) only [Option.bind_some, ↓reduceIte, ↓M_1, ↓M_2, L_0, L_1, L_2, L_3, L_4, L_5, L_6, L_7, L_8, L_9, L_10, L_11, L_12, L_13, L_20, L_24, L_26, L_30, L_31, L_32, L_39, L_40, L_48, L_57, L_76, L_80, L_90, L_91, L_97, L_99, L_100, L_255, L_273, L_1000, L_2000, q_ld, q_ldL, q_sto, q_stoL, q_add, q_sub, q_mul, q_dec, q_rem, q_div, q_lt_t, q_lt_f, q_le_t, q_le_f, q_eq_t, q_eq_f, q_em, q_me, q_ml, q_lm, q_mle, q_lem, q_s1, q_s1o, q_s1k, q_s12, q_s2, q_s2o, q_s2k, q_s21, Nat.add_sub_cancel, q_or, q_and, q_shl, true_or, or_true, false_or, or_false, true_and, and_true, false_and, and_false, not_true_eq_false, not_false_eq_true, ne_eq, ctl, e1, gC_RuleReader_readExpression_35, h1, L_60, L_61, L_62]
  · simp (disch := omega) only [Option.bind_some, ↓reduceIte, ↓M_1, ↓M_2, L_0, L_1, L_2, L_3, L_4, L_5, L_6, L_7, L_8, L_9, L_10, L_11, L_12, L_13, L_20, L_24, L_26, L_30, L_31, L_32, L_39, L_40, L_48, L_57, L_76, L_80, L_90, L_91, L_97, L_99, L_100, L_255, L_273, L_1000, L_2000, q_ld, q_ldL, q_sto, q_stoL, q_add, q_sub, q_mul, q_dec, q_rem, q_div, q_lt_t, q_lt_f, q_le_t, q_le_f, q_eq_t, q_eq_f, q_em, q_me, q_ml, q_lm, q_mle, q_lem, q_s1, q_s1o, q_s1k, q_s12, q_s2, q_s2o, q_s2k, q_s21, Nat.add_sub_cancel, q_or, q_and, q_shl, true_or, or_true, false_or, or_false, true_and, and_true, false_and, and_false, not_true_eq_false, not_false_eq_true, ne_eq, ctl, e1, gC_RuleReader_readExpression_35, h1, L_60, L_61, L_62]
  · simp (disch := omega) only [Option.bind_some, ↓reduceIte, ↓M_1, ↓M_2, L_0, L_1, L_2, L_3, L_4, L_5, L_6, L_7, L_8, L_9, L_10, L_11, L_12, L_13, L_20, L_24, L_26, L_30, L_31, L_32, L_39, L_40, L_48, L_57, L_76, L_80, L_90, L_91, L_97, L_99, L_100, L_255, L_273, L_1000, L_2000, q_ld, q_ldL, q_sto, q_stoL, q_add, q_sub, q_mul, q_dec, q_rem, q_div, q_lt_t, q_lt_f, q_le_t, q_le_f, q_eq_t, q_eq_f, q_em, q_me, q_ml, q_lm, q_mle, q_lem, q_s1, q_s1o, q_s1k, q_s12, q_s2, q_s2o, q_s2k, q_s21, Nat.add_sub_cancel, q_or, q_and, q_shl, true_or, or_true, false_or, or_false, true_and, and_true, false_and, and_false, not_true_eq_false, not_false_eq_true, ne_eq, ctl, e1, gC_RuleReader_readExpression_35, h1, L_60, L_61, L_62]
theorem mtl_M {c : Nat} {a o : Int32} {t' : vSt} (hc : c = 60 ∨ c = 61 ∨ c = 62) (hp : p ≤ 40) (hx : chr n x p = c) (h : MSt n x t) (h1 : t.1 0 15 = nI p) (h2 : t.1 0 16 = mI 1) (hr : fM_EachAddsALineModel_sum N rM (nI deep) (s1 t 0 15 (nI (p + 1))) = some (o, t')) : mtl N rM (nI deep) a t = some (jn c a o, t') := by
  have pt : ∀ b : Nat, b < 128 → c = b → fM_EachAddsALineModel_passes N (nI b) t = some (nI 1, s1 t 0 15 (nI (p + 1))) := fun b hb hcb => M_passes_t (N := N) h h1 h2 hp hb (hx.trans hcb)
  have pf : ∀ b : Nat, b < 128 → c ≠ b → fM_EachAddsALineModel_passes N (nI b) t = some (nI 0, t) := fun b hb hcb => M_passes_f (N := N) h h1 h2 hp hb (by rw [hx]; exact hcb)
  have q60 : c = 60 → fM_EachAddsALineModel_passes N 60 t = some (nI 1, s1 t 0 15 (nI (p + 1))) := fun z => by rw [L_60]; exact pt 60 (by omega) z
  have q62 : c = 62 → fM_EachAddsALineModel_passes N 62 t = some (nI 1, s1 t 0 15 (nI (p + 1))) := fun z => by rw [L_62]; exact pt 62 (by omega) z
  have q61 : c = 61 → fM_EachAddsALineModel_passes N 61 t = some (nI 1, s1 t 0 15 (nI (p + 1))) := fun z => by rw [L_61]; exact pt 61 (by omega) z
  have f60 : c ≠ 60 → fM_EachAddsALineModel_passes N 60 t = some (nI 0, t) := fun z => by rw [L_60]; exact pf 60 (by omega) z
  have f62 : c ≠ 62 → fM_EachAddsALineModel_passes N 62 t = some (nI 0, t) := fun z => by rw [L_62]; exact pf 62 (by omega) z
  unfold mtl
  rcases hc with rfl | rfl | rfl
  · rw [jn_60, q60 rfl, Option.bind_some, if_neg (one_ne _), hr, Option.bind_some]
    show (if o ≤ a then some ((0 : Int32), t') else some (1, t')) = _
    by_cases d : o ≤ a
    · rw [if_pos d, if_pos d, L_0]
    · rw [if_neg d, if_neg d, L_1]
  · rw [jn_61, f60 (by omega), Option.bind_some, if_pos (zer_eq _), f62 (by omega), Option.bind_some, if_pos (zer_eq _), q61 rfl, Option.bind_some, if_neg (one_ne _), hr, Option.bind_some]
    show (if a = o then some ((1 : Int32), t') else some (0, t')) = _
    by_cases d : a = o
    · rw [if_pos d, if_pos d, L_1]
    · rw [if_neg d, if_neg d, L_0]
  · rw [jn_62, f60 (by omega), Option.bind_some, if_pos (zer_eq _), q62 rfl, Option.bind_some, if_neg (one_ne _), hr, Option.bind_some]
    show (if a ≤ o then some ((0 : Int32), t') else some (1, t')) = _
    by_cases d : a ≤ o
    · rw [if_pos d, if_pos d, L_0]
    · rw [if_neg d, if_neg d, L_1]
theorem held_J (hp : p ≤ n) (hp2 : p ≤ 40) (hS : ∀ q, p ≤ q → q ≤ n → q ≤ 40 → JR n x (fC_RuleReader_readSum N rC (nI deep)) (fM_EachAddsALineModel_sum N rM (nI deep)) q) : JR n x (gC_RuleReader_readExpression_0 N rC (nI deep)) (fM_EachAddsALineModel_held N rM (nI deep)) p := by
  refine JR.seq (f2 := ctl N rC (nI deep)) (g2 := mtl N rM (nI deep)) (hS p (Nat.le_refl _) hp hp2) (fun q h1 h2 h3 => ?_) (fun s => rfl) (fun t => rfl) mtl_d
  by_cases c : chr n x q = 60 ∨ chr n x q = 61 ∨ chr n x q = 62
  · have hc := chr_lt (n := n) (x := x) (p := q) (by omega)
    exact JL.op (N := N) (c := chr n x q) (f2 := fun s => some (nI 1, s)) (g2 := fun a t => some (a, t)) (by omega) hc.2 (hS (q + 1) (by omega) (by omega) (by omega)) (fun r _ g2 g3 => JL.nil g2 g3 (fun s _ _ => rfl) (fun t a _ _ _ => rfl)) (fun s g1 g2 => ctl_C c h3 rfl g1 g2) (fun t a o t' g1 g2 g3 g4 => mtl_M c h3 rfl g1 g2 g3 g4) (fun a t q _ _ => ⟨a, rfl⟩)
  · refine JL.nil h2 h3 (fun s g1 g2 => ?_) (fun t a g1 g2 g3 => ?_)
    · obtain ⟨v, e1, e2⟩ := C_next (N := N) g1 g2 h3
      have n1 : ¬ v = nI 60 := by rw [e2.eq (by omega)]; omega
      have n2 : ¬ v = nI 61 := by rw [e2.eq (by omega)]; omega
      have n3 : ¬ v = nI 62 := by rw [e2.eq (by omega)]; omega
      simp (disch := omega) only [Option.bind_some, ↓reduceIte, ↓M_1, ↓M_2, L_0, L_1, L_2, L_3, L_4, L_5, L_6, L_7, L_8, L_9, L_10, L_11, L_12, L_13, L_20, L_24, L_26, L_30, L_31, L_32, L_39, L_40, L_48, L_57, L_76, L_80, L_90, L_91, L_97, L_99, L_100, L_255, L_273, L_1000, L_2000, q_ld, q_ldL, q_sto, q_stoL, q_add, q_sub, q_mul, q_dec, q_rem, q_div, q_lt_t, q_lt_f, q_le_t, q_le_f, q_eq_t, q_eq_f, q_em, q_me, q_ml, q_lm, q_mle, q_lem, q_s1, q_s1o, q_s1k, q_s12, q_s2, q_s2o, q_s2k, q_s21, Nat.add_sub_cancel, q_or, q_and, q_shl, true_or, or_true, false_or, or_false, true_and, and_true, false_and, and_false, not_true_eq_false, not_false_eq_true, ne_eq, ctl, e1, n1, n2, n3, L_60, L_61, L_62]
    · have e0 := M_passes_f (N := N) g1 g2 g3 h3 (a := 60) (by omega) (by omega)
      have e1 := M_passes_f (N := N) g1 g2 g3 h3 (a := 61) (by omega) (by omega)
      have e2 := M_passes_f (N := N) g1 g2 g3 h3 (a := 62) (by omega) (by omega)
      rw [← L_60] at e0
      rw [← L_61] at e1
      rw [← L_62] at e2
      unfold mtl
      rw [e0, Option.bind_some, if_pos (zer_eq _), e2, Option.bind_some, if_pos (zer_eq _), e1, Option.bind_some, if_pos (zer_eq _)]
theorem thing_d {d : Nat} (a : Int32) : Dd (fM_EachAddsALineModel_thing N (d + 1) a) := fun t q h hq => ⟨nI 0, by
  rw [fM_EachAddsALineModel_thing, gM_EachAddsALineModel_thing_0]
  simp (disch := omega) only [Option.bind_some, ↓reduceIte, ↓M_1, ↓M_2, L_0, L_1, L_2, L_3, L_4, L_5, L_6, L_7, L_8, L_9, L_10, L_11, L_12, L_13, L_20, L_24, L_26, L_30, L_31, L_32, L_39, L_40, L_48, L_57, L_76, L_80, L_90, L_91, L_97, L_99, L_100, L_255, L_273, L_1000, L_2000, q_ld, q_ldL, q_sto, q_stoL, q_add, q_sub, q_mul, q_dec, q_rem, q_div, q_lt_t, q_lt_f, q_le_t, q_le_f, q_eq_t, q_eq_f, q_em, q_me, q_ml, q_lm, q_mle, q_lem, q_s1, q_s1o, q_s1k, q_s12, q_s2, q_s2o, q_s2k, q_s21, Nat.add_sub_cancel, q_or, q_and, q_shl, true_or, or_true, false_or, or_false, true_and, and_true, false_and, and_false, not_true_eq_false, not_false_eq_true, ne_eq, L_45, M_passes_d h hq, M_fine_f h hq]⟩
/-- the facts' signs -/
def fsg (y k : Nat) : Prop := (y = 105 ∧ k = 0) ∨ (y = 103 ∧ k = 1) ∨ (y = 104 ∧ k = 2) ∨ (y = 110 ∧ k = 3) ∨ (y = 102 ∧ k = 4) ∨ (y = 108 ∧ k = 5) ∨ (y = 115 ∧ k = 6)
theorem C_factOf {y k : Nat} (h : fsg y k) : fC_RuleReader_factOf N (nI y) s = some (nI k, s) := by
  rw [fC_RuleReader_factOf, gC_RuleReader_factOf_0]
  rcases h with ⟨rfl, rfl⟩ | ⟨rfl, rfl⟩ | ⟨rfl, rfl⟩ | ⟨rfl, rfl⟩ | ⟨rfl, rfl⟩ | ⟨rfl, rfl⟩ | ⟨rfl, rfl⟩ <;> simp (disch := omega) only [Option.bind_some, ↓reduceIte, ↓M_1, ↓M_2, L_0, L_1, L_2, L_3, L_4, L_5, L_6, L_7, L_8, L_9, L_10, L_11, L_12, L_13, L_20, L_24, L_26, L_30, L_31, L_32, L_39, L_40, L_48, L_57, L_76, L_80, L_90, L_91, L_97, L_99, L_100, L_255, L_273, L_1000, L_2000, q_ld, q_ldL, q_sto, q_stoL, q_add, q_sub, q_mul, q_dec, q_rem, q_div, q_lt_t, q_lt_f, q_le_t, q_le_f, q_eq_t, q_eq_f, q_em, q_me, q_ml, q_lm, q_mle, q_lem, q_s1, q_s1o, q_s1k, q_s12, q_s2, q_s2o, q_s2k, q_s21, Nat.add_sub_cancel, q_or, q_and, q_shl, true_or, or_true, false_or, or_false, true_and, and_true, false_and, and_false, not_true_eq_false, not_false_eq_true, ne_eq, L_102, L_103, L_104, L_105, L_106, L_107, L_108, L_109, L_110, L_111, L_112, L_113, L_114, L_115]
theorem C_factOf_no {v : Int32} {y : Nat} (hv : SGn v y) (h : ∀ k, ¬ fsg y k) : fC_RuleReader_factOf N v s = some (mI 1, s) := by
  rw [fC_RuleReader_factOf, gC_RuleReader_factOf_0]
  have m : ∀ a, a < 128 → y ≠ a → ¬ v = nI a := fun a ha hne => by rw [hv.eq ha]; exact hne
  have h0 : y ≠ 105 := fun z => h 0 (Or.inl ⟨z, rfl⟩)
  have h1 : y ≠ 103 := fun z => h 1 (Or.inr (Or.inl ⟨z, rfl⟩))
  have h2 : y ≠ 104 := fun z => h 2 (Or.inr (Or.inr (Or.inl ⟨z, rfl⟩)))
  have h3 : y ≠ 110 := fun z => h 3 (Or.inr (Or.inr (Or.inr (Or.inl ⟨z, rfl⟩))))
  have h4 : y ≠ 102 := fun z => h 4 (Or.inr (Or.inr (Or.inr (Or.inr (Or.inl ⟨z, rfl⟩)))))
  have h5 : y ≠ 108 := fun z => h 5 (Or.inr (Or.inr (Or.inr (Or.inr (Or.inr (Or.inl ⟨z, rfl⟩))))))
  have h6 : y ≠ 115 := fun z => h 6 (Or.inr (Or.inr (Or.inr (Or.inr (Or.inr (Or.inr ⟨z, rfl⟩))))))
  by_cases c : 102 ≤ y ∧ y ≤ 115
  · have ev := hv.nn (by omega)
    subst ev
    have e : y = 106 ∨ y = 107 ∨ y = 109 ∨ y = 111 ∨ y = 112 ∨ y = 113 ∨ y = 114 := by omega
    clear h m h0 h1 h2 h3 h4 h5 h6 hv c
    rcases e with rfl | rfl | rfl | rfl | rfl | rfl | rfl <;> simp (disch := omega) only [Option.bind_some, ↓reduceIte, ↓M_1, ↓M_2, L_0, L_1, L_2, L_3, L_4, L_5, L_6, L_7, L_8, L_9, L_10, L_11, L_12, L_13, L_20, L_24, L_26, L_30, L_31, L_32, L_39, L_40, L_48, L_57, L_76, L_80, L_90, L_91, L_97, L_99, L_100, L_255, L_273, L_1000, L_2000, q_ld, q_ldL, q_sto, q_stoL, q_add, q_sub, q_mul, q_dec, q_rem, q_div, q_lt_t, q_lt_f, q_le_t, q_le_f, q_eq_t, q_eq_f, q_em, q_me, q_ml, q_lm, q_mle, q_lem, q_s1, q_s1o, q_s1k, q_s12, q_s2, q_s2o, q_s2k, q_s21, Nat.add_sub_cancel, q_or, q_and, q_shl, true_or, or_true, false_or, or_false, true_and, and_true, false_and, and_false, not_true_eq_false, not_false_eq_true, ne_eq, L_102, L_103, L_104, L_105, L_106, L_107, L_108, L_109, L_110, L_111, L_112, L_113, L_114, L_115]
  · have d : (v < nI 102 ∨ nI 115 < v) = True := by rw [hv.dig (by omega) (by omega)]; exact eq_true c
    simp (disch := omega) only [Option.bind_some, ↓reduceIte, ↓M_1, ↓M_2, L_0, L_1, L_2, L_3, L_4, L_5, L_6, L_7, L_8, L_9, L_10, L_11, L_12, L_13, L_20, L_24, L_26, L_30, L_31, L_32, L_39, L_40, L_48, L_57, L_76, L_80, L_90, L_91, L_97, L_99, L_100, L_255, L_273, L_1000, L_2000, q_ld, q_ldL, q_sto, q_stoL, q_add, q_sub, q_mul, q_dec, q_rem, q_div, q_lt_t, q_lt_f, q_le_t, q_le_f, q_eq_t, q_eq_f, q_em, q_me, q_ml, q_lm, q_mle, q_lem, q_s1, q_s1o, q_s1k, q_s12, q_s2, q_s2o, q_s2k, q_s21, Nat.add_sub_cancel, q_or, q_and, q_shl, true_or, or_true, false_or, or_false, true_and, and_true, false_and, and_false, not_true_eq_false, not_false_eq_true, ne_eq, L_102, L_103, L_104, L_105, L_106, L_107, L_108, L_109, L_110, L_111, L_112, L_113, L_114, L_115, m 102 (by omega) (by omega), m 103 (by omega) (by omega), m 104 (by omega) (by omega), m 105 (by omega) (by omega), m 106 (by omega) (by omega), m 107 (by omega) (by omega), m 108 (by omega) (by omega), m 109 (by omega) (by omega), m 110 (by omega) (by omega), m 111 (by omega) (by omega), m 112 (by omega) (by omega), m 113 (by omega) (by omega), m 114 (by omega) (by omega), m 115 (by omega) (by omega), d]
theorem M_147 {y k : Nat} (h : fsg y k) (h1 : t.1 0 15 = nI p) : gM_EachAddsALineModel_thing_147 N rM (nI y) t = some (EM t k, s1 t 0 15 (nI (p + 1))) := by
  unfold EM
  by_cases c : t.1 0 19 = nI 0
  · rw [if_pos c]
    have c2 : (s1 t 0 15 (t.1 0 15 + 1)).1 0 19 = 0 := by rw [q_s1k (by decide)]; exact c
    rw [gM_EachAddsALineModel_thing_147, Option.bind_some, if_pos c2, h1, nI_1, L_0]
  · rw [if_neg c]
    rcases h with ⟨rfl, rfl⟩ | ⟨rfl, rfl⟩ | ⟨rfl, rfl⟩ | ⟨rfl, rfl⟩ | ⟨rfl, rfl⟩ | ⟨rfl, rfl⟩ | ⟨rfl, rfl⟩ <;> simp (disch := omega) only [Option.bind_some, ↓reduceIte, ↓M_1, ↓M_2, L_0, L_1, L_2, L_3, L_4, L_5, L_6, L_7, L_8, L_9, L_10, L_11, L_12, L_13, L_20, L_24, L_26, L_30, L_31, L_32, L_39, L_40, L_48, L_57, L_76, L_80, L_90, L_91, L_97, L_99, L_100, L_255, L_273, L_1000, L_2000, q_ld, q_ldL, q_sto, q_stoL, q_add, q_sub, q_mul, q_dec, q_rem, q_div, q_lt_t, q_lt_f, q_le_t, q_le_f, q_eq_t, q_eq_f, q_em, q_me, q_ml, q_lm, q_mle, q_lem, q_s1, q_s1o, q_s1k, q_s12, q_s2, q_s2o, q_s2k, q_s21, Nat.add_sub_cancel, q_or, q_and, q_shl, true_or, or_true, false_or, or_false, true_and, and_true, false_and, and_false, not_true_eq_false, not_false_eq_true, ne_eq, gM_EachAddsALineModel_thing_147, h1, c, L_102, L_103, L_104, L_105, L_106, L_107, L_108, L_109, L_110, L_115]
theorem M_78 {y k : Nat} (h : fsg y k) : gM_EachAddsALineModel_thing_78 N rM (nI y) t = gM_EachAddsALineModel_thing_147 N rM (nI y) t := by
  have hy : y < 128 ∧ ¬ (48 ≤ y ∧ y ≤ 57) := by unfold fsg at h; omega
  have e := M_inR (N := N) (t := t) (SGn.pm (y := y) (by omega))
  rw [if_neg hy.2] at e
  rcases h with ⟨rfl, rfl⟩ | ⟨rfl, rfl⟩ | ⟨rfl, rfl⟩ | ⟨rfl, rfl⟩ | ⟨rfl, rfl⟩ | ⟨rfl, rfl⟩ | ⟨rfl, rfl⟩ <;> simp (disch := omega) only [Option.bind_some, ↓reduceIte, ↓M_1, ↓M_2, L_0, L_1, L_2, L_3, L_4, L_5, L_6, L_7, L_8, L_9, L_10, L_11, L_12, L_13, L_20, L_24, L_26, L_30, L_31, L_32, L_39, L_40, L_48, L_57, L_76, L_80, L_90, L_91, L_97, L_99, L_100, L_255, L_273, L_1000, L_2000, q_ld, q_ldL, q_sto, q_stoL, q_add, q_sub, q_mul, q_dec, q_rem, q_div, q_lt_t, q_lt_f, q_le_t, q_le_f, q_eq_t, q_eq_f, q_em, q_me, q_ml, q_lm, q_mle, q_lem, q_s1, q_s1o, q_s1k, q_s12, q_s2, q_s2o, q_s2k, q_s21, Nat.add_sub_cancel, q_or, q_and, q_shl, true_or, or_true, false_or, or_false, true_and, and_true, false_and, and_false, not_true_eq_false, not_false_eq_true, ne_eq, gM_EachAddsALineModel_thing_78, e, L_102, L_103, L_104, L_105, L_108, L_110, L_115]
theorem M_78_no {v : Int32} {y : Nat} (hv : SGn v y) (hd : ¬ (48 ≤ y ∧ y ≤ 57)) (h : ∀ k, ¬ fsg y k) (h2 : t.1 0 16 = mI 1) (h1 : t.1 0 15 = nI p) : gM_EachAddsALineModel_thing_78 N rM v t = some (nI 0, s1 t 0 16 (nI p)) := by
  have e := M_inR (N := N) (t := t) hv
  rw [if_neg hd] at e
  have m : ∀ a, a < 128 → y ≠ a → ¬ v = nI a := fun a ha hne => by rw [hv.eq ha]; exact hne
  have h0 : y ≠ 105 := fun z => h 0 (Or.inl ⟨z, rfl⟩)
  have h1' : y ≠ 103 := fun z => h 1 (Or.inr (Or.inl ⟨z, rfl⟩))
  have h2' : y ≠ 104 := fun z => h 2 (Or.inr (Or.inr (Or.inl ⟨z, rfl⟩)))
  have h3 : y ≠ 110 := fun z => h 3 (Or.inr (Or.inr (Or.inr (Or.inl ⟨z, rfl⟩))))
  have h4 : y ≠ 102 := fun z => h 4 (Or.inr (Or.inr (Or.inr (Or.inr (Or.inl ⟨z, rfl⟩)))))
  have h5 : y ≠ 108 := fun z => h 5 (Or.inr (Or.inr (Or.inr (Or.inr (Or.inr (Or.inl ⟨z, rfl⟩))))))
  have h6 : y ≠ 115 := fun z => h 6 (Or.inr (Or.inr (Or.inr (Or.inr (Or.inr (Or.inr ⟨z, rfl⟩))))))
  simp (disch := omega) only [Option.bind_some, ↓reduceIte, ↓M_1, ↓M_2, L_0, L_1, L_2, L_3, L_4, L_5, L_6, L_7, L_8, L_9, L_10, L_11, L_12, L_13, L_20, L_24, L_26, L_30, L_31, L_32, L_39, L_40, L_48, L_57, L_76, L_80, L_90, L_91, L_97, L_99, L_100, L_255, L_273, L_1000, L_2000, q_ld, q_ldL, q_sto, q_stoL, q_add, q_sub, q_mul, q_dec, q_rem, q_div, q_lt_t, q_lt_f, q_le_t, q_le_f, q_eq_t, q_eq_f, q_em, q_me, q_ml, q_lm, q_mle, q_lem, q_s1, q_s1o, q_s1k, q_s12, q_s2, q_s2o, q_s2k, q_s21, Nat.add_sub_cancel, q_or, q_and, q_shl, true_or, or_true, false_or, or_false, true_and, and_true, false_and, and_false, not_true_eq_false, not_false_eq_true, ne_eq, gM_EachAddsALineModel_thing_78, e, L_102, L_103, L_104, L_105, L_108, L_110, L_115, m 102 (by omega) h4, m 103 (by omega) h1', m 104 (by omega) h2', m 105 (by omega) h0, m 108 (by omega) h5, m 110 (by omega) h3, m 115 (by omega) h6, h1, M_fault_t h2]
theorem M_78_dig {v r : Int32} {t' : vSt} (h : fM_EachAddsALineModel_in N v (nI 48) (nI 57) t = some (nI 1, t)) (h2 : fM_EachAddsALineModel_number N (nI 3) t = some (r, t')) : gM_EachAddsALineModel_thing_78 N rM v t = some (r, t') := by
  have h' : fM_EachAddsALineModel_in N v 48 57 t = some (nI 1, t) := h
  have h2' : fM_EachAddsALineModel_number N 3 t = some (r, t') := h2
  rw [gM_EachAddsALineModel_thing_78, h', Option.bind_some, if_neg (one_ne _), h2', Option.bind_some]
theorem thing_J (hN : 100 ≤ N) (hp : p ≤ n) (hp2 : p ≤ 40) (h45 : chr n x p ≠ 45) (hd : deep ≤ 4) (hH : deep < 4 → chr n x p = 40 → JR n x (rC (nI (deep + 1))) (fM_EachAddsALineModel_held N rM (nI (deep + 1))) (p + 1)) : JR n x (fC_RuleReader_readThing N rC (nI deep)) (gM_EachAddsALineModel_thing_0 N rM (nI deep)) p := by
  by_cases hdig : 48 ≤ chr n x p ∧ chr n x p ≤ 57
  · have hc := chr_lt (n := n) (x := x) (p := p) (by omega)
    have hB : nB 3 0 := Or.inl ⟨rfl, by omega⟩
    have hl := nm_le (n := n) (x := x) 3 0 p hB hp2
    have hl2 : p + 1 ≤ (nm n x 3 0 p).2 := by
      rw [nm, if_pos hdig]
      exact (nm_le (n := n) (x := x) 2 _ (p + 1) (by unfold nB; omega) (by omega)).2.1
    refine Or.inl ⟨(nm n x 3 0 p).2, [(nm n x 3 0 p).1], hl2, hl.2.2.2 hp, hl.2.2.1, fun s z h e1 e2 hz => ?_, fun t E h he e1 e2 => ?_⟩
    · obtain ⟨v, a1, a2⟩ := C_next (N := N) h e1 hp2
      have a3 := C_isDig (N := N) (s := s) a2
      rw [if_pos hdig] at a3
      obtain ⟨s', b1, b2⟩ := C_num (N := N) 3 0 p N s z hB (by omega) (by omega) hp2 (by omega) h e1 e2
      have b3 : gC_RuleReader_readNumber_4 N N (nI 0) (nI 0) s = some s' := b1
      refine ⟨s', ?_, b2⟩
      simp (disch := omega) only [Option.bind_some, ↓reduceIte, ↓M_1, ↓M_2, L_0, L_1, L_2, L_3, L_4, L_5, L_6, L_7, L_8, L_9, L_10, L_11, L_12, L_13, L_20, L_24, L_26, L_30, L_31, L_32, L_39, L_40, L_48, L_57, L_76, L_80, L_90, L_91, L_97, L_99, L_100, L_255, L_273, L_1000, L_2000, q_ld, q_ldL, q_sto, q_stoL, q_add, q_sub, q_mul, q_dec, q_rem, q_div, q_lt_t, q_lt_f, q_le_t, q_le_f, q_eq_t, q_eq_f, q_em, q_me, q_ml, q_lm, q_mle, q_lem, q_s1, q_s1o, q_s1k, q_s12, q_s2, q_s2o, q_s2k, q_s21, Nat.add_sub_cancel, q_or, q_and, q_shl, true_or, or_true, false_or, or_false, true_and, and_true, false_and, and_false, not_true_eq_false, not_false_eq_true, ne_eq, fC_RuleReader_readThing, gC_RuleReader_readThing_0, a1, a3, fC_RuleReader_readNumber, gC_RuleReader_readNumber_0, b3]
    · obtain ⟨v, a1, a2⟩ := M_hereR (N := N) h e1 hp2
      have a3 := M_inR (N := N) (t := t) a2
      rw [if_pos hdig] at a3
      have a4 : ¬ v = nI 40 := by rw [a2.eq (by omega)]; omega
      obtain ⟨t', b1, b2, b3⟩ := M_num (N := N) 3 0 p N t p hB (by omega) (by omega) hp2 rfl (Or.inr hdig) h e1 e2
      have a5 := M_passes_f (N := N) h e1 e2 hp2 (a := 45) (by omega) h45
      refine ⟨nI (nm n x 3 0 p).1, t', ?_, b2.mono (by decide) (by decide) (by decide), b3, ?_, Den.num hl.1⟩
      · have a8 : fM_EachAddsALineModel_number N (nI 3) t = some (nI (nm n x 3 0 p).1, t') := by
          rw [fM_EachAddsALineModel_number, gM_EachAddsALineModel_number_0, M_fine_t e2, Option.bind_some, if_neg (one_ne _)]
          show gM_EachAddsALineModel_number_16 N N (nI 3) (t.1 0 15) (nI 0) t = _
          rw [e1]; exact b1
        have a9 := M_78_dig (N := N) (rM := rM) a3 a8
        simp (disch := omega) only [Option.bind_some, ↓reduceIte, ↓M_1, ↓M_2, L_0, L_1, L_2, L_3, L_4, L_5, L_6, L_7, L_8, L_9, L_10, L_11, L_12, L_13, L_20, L_24, L_26, L_30, L_31, L_32, L_39, L_40, L_48, L_57, L_76, L_80, L_90, L_91, L_97, L_99, L_100, L_255, L_273, L_1000, L_2000, q_ld, q_ldL, q_sto, q_stoL, q_add, q_sub, q_mul, q_dec, q_rem, q_div, q_lt_t, q_lt_f, q_le_t, q_le_f, q_eq_t, q_eq_f, q_em, q_me, q_ml, q_lm, q_mle, q_lem, q_s1, q_s1o, q_s1k, q_s12, q_s2, q_s2o, q_s2k, q_s21, Nat.add_sub_cancel, q_or, q_and, q_shl, true_or, or_true, false_or, or_false, true_and, and_true, false_and, and_false, not_true_eq_false, not_false_eq_true, ne_eq, gM_EachAddsALineModel_thing_0, L_45, a5, M_fine_t e2, a1, a4, a9]
      · rw [b2.2.2 16 (by decide)]; exact e2
  · by_cases hbr : chr n x p = 40
    · have hc := chr_lt (n := n) (x := x) (p := p) (by omega)
      by_cases hdp : deep < 4
      · have cs : ∀ s, CSt n x s → s.1 21 4 = nI p → fC_RuleReader_readThing N rC (nI deep) s = (rC (nI (deep + 1)) (s1 s 21 4 (nI (p + 1)))).bind fun p2 => if p2.1 = 0 then some (nI 0, p2.2) else (fC_RuleReader_next N p2.2).bind fun p3 => if p3.1 = nI 41 then some (nI 1, s1 p3.2 21 4 ((p3.2.1 21 4) + 1)) else some (nI 0, p3.2) := by
          intro s h e1
          obtain ⟨v, a1, a2⟩ := C_next (N := N) h e1 hp2
          have a3 := C_isDig (N := N) (s := s) a2
          rw [if_neg hdig] at a3
          have a4 := a2.nn (by omega)
          rw [hbr] at a4
          subst a4
          simp (disch := omega) only [Option.bind_some, ↓reduceIte, ↓M_1, ↓M_2, L_0, L_1, L_2, L_3, L_4, L_5, L_6, L_7, L_8, L_9, L_10, L_11, L_12, L_13, L_20, L_24, L_26, L_30, L_31, L_32, L_39, L_40, L_48, L_57, L_76, L_80, L_90, L_91, L_97, L_99, L_100, L_255, L_273, L_1000, L_2000, q_ld, q_ldL, q_sto, q_stoL, q_add, q_sub, q_mul, q_dec, q_rem, q_div, q_lt_t, q_lt_f, q_le_t, q_le_f, q_eq_t, q_eq_f, q_em, q_me, q_ml, q_lm, q_mle, q_lem, q_s1, q_s1o, q_s1k, q_s12, q_s2, q_s2o, q_s2k, q_s21, Nat.add_sub_cancel, q_or, q_and, q_shl, true_or, or_true, false_or, or_false, true_and, and_true, false_and, and_false, not_true_eq_false, not_false_eq_true, ne_eq, fC_RuleReader_readThing, gC_RuleReader_readThing_0, a1, a3, fC_RuleReader_readBraced, gC_RuleReader_readBraced_0, e1, L_41]
          cases rC (nI (deep + 1)) (s1 s 21 4 (nI (p + 1))) with
          | none => rfl
          | some r =>
            simp (disch := omega) only [Option.bind_some, ↓reduceIte, ↓M_1, ↓M_2, L_0, L_1, L_2, L_3, L_4, L_5, L_6, L_7, L_8, L_9, L_10, L_11, L_12, L_13, L_20, L_24, L_26, L_30, L_31, L_32, L_39, L_40, L_48, L_57, L_76, L_80, L_90, L_91, L_97, L_99, L_100, L_255, L_273, L_1000, L_2000, q_ld, q_ldL, q_sto, q_stoL, q_add, q_sub, q_mul, q_dec, q_rem, q_div, q_lt_t, q_lt_f, q_le_t, q_le_f, q_eq_t, q_eq_f, q_em, q_me, q_ml, q_lm, q_mle, q_lem, q_s1, q_s1o, q_s1k, q_s12, q_s2, q_s2o, q_s2k, q_s21, Nat.add_sub_cancel, q_or, q_and, q_shl, true_or, or_true, false_or, or_false, true_and, and_true, false_and, and_false, not_true_eq_false, not_false_eq_true, ne_eq]
            by_cases c : r.1 = nI 0
            · simp (disch := omega) only [Option.bind_some, ↓reduceIte, ↓M_1, ↓M_2, L_0, L_1, L_2, L_3, L_4, L_5, L_6, L_7, L_8, L_9, L_10, L_11, L_12, L_13, L_20, L_24, L_26, L_30, L_31, L_32, L_39, L_40, L_48, L_57, L_76, L_80, L_90, L_91, L_97, L_99, L_100, L_255, L_273, L_1000, L_2000, q_ld, q_ldL, q_sto, q_stoL, q_add, q_sub, q_mul, q_dec, q_rem, q_div, q_lt_t, q_lt_f, q_le_t, q_le_f, q_eq_t, q_eq_f, q_em, q_me, q_ml, q_lm, q_mle, q_lem, q_s1, q_s1o, q_s1k, q_s12, q_s2, q_s2o, q_s2k, q_s21, Nat.add_sub_cancel, q_or, q_and, q_shl, true_or, or_true, false_or, or_false, true_and, and_true, false_and, and_false, not_true_eq_false, not_false_eq_true, ne_eq, c]
            · simp (disch := omega) only [Option.bind_some, ↓reduceIte, ↓M_1, ↓M_2, L_0, L_1, L_2, L_3, L_4, L_5, L_6, L_7, L_8, L_9, L_10, L_11, L_12, L_13, L_20, L_24, L_26, L_30, L_31, L_32, L_39, L_40, L_48, L_57, L_76, L_80, L_90, L_91, L_97, L_99, L_100, L_255, L_273, L_1000, L_2000, q_ld, q_ldL, q_sto, q_stoL, q_add, q_sub, q_mul, q_dec, q_rem, q_div, q_lt_t, q_lt_f, q_le_t, q_le_f, q_eq_t, q_eq_f, q_em, q_me, q_ml, q_lm, q_mle, q_lem, q_s1, q_s1o, q_s1k, q_s12, q_s2, q_s2o, q_s2k, q_s21, Nat.add_sub_cancel, q_or, q_and, q_shl, true_or, or_true, false_or, or_false, true_and, and_true, false_and, and_false, not_true_eq_false, not_false_eq_true, ne_eq, c]
              cases fC_RuleReader_next N r.2 with
              | none => rfl
              | some r2 =>
                simp (disch := omega) only [Option.bind_some, ↓reduceIte, ↓M_1, ↓M_2, L_0, L_1, L_2, L_3, L_4, L_5, L_6, L_7, L_8, L_9, L_10, L_11, L_12, L_13, L_20, L_24, L_26, L_30, L_31, L_32, L_39, L_40, L_48, L_57, L_76, L_80, L_90, L_91, L_97, L_99, L_100, L_255, L_273, L_1000, L_2000, q_ld, q_ldL, q_sto, q_stoL, q_add, q_sub, q_mul, q_dec, q_rem, q_div, q_lt_t, q_lt_f, q_le_t, q_le_f, q_eq_t, q_eq_f, q_em, q_me, q_ml, q_lm, q_mle, q_lem, q_s1, q_s1o, q_s1k, q_s12, q_s2, q_s2o, q_s2k, q_s21, Nat.add_sub_cancel, q_or, q_and, q_shl, true_or, or_true, false_or, or_false, true_and, and_true, false_and, and_false, not_true_eq_false, not_false_eq_true, ne_eq]
                by_cases c : r2.1 = nI 41
                · simp (disch := omega) only [Option.bind_some, ↓reduceIte, ↓M_1, ↓M_2, L_0, L_1, L_2, L_3, L_4, L_5, L_6, L_7, L_8, L_9, L_10, L_11, L_12, L_13, L_20, L_24, L_26, L_30, L_31, L_32, L_39, L_40, L_48, L_57, L_76, L_80, L_90, L_91, L_97, L_99, L_100, L_255, L_273, L_1000, L_2000, q_ld, q_ldL, q_sto, q_stoL, q_add, q_sub, q_mul, q_dec, q_rem, q_div, q_lt_t, q_lt_f, q_le_t, q_le_f, q_eq_t, q_eq_f, q_em, q_me, q_ml, q_lm, q_mle, q_lem, q_s1, q_s1o, q_s1k, q_s12, q_s2, q_s2o, q_s2k, q_s21, Nat.add_sub_cancel, q_or, q_and, q_shl, true_or, or_true, false_or, or_false, true_and, and_true, false_and, and_false, not_true_eq_false, not_false_eq_true, ne_eq, c]
                · simp (disch := omega) only [Option.bind_some, ↓reduceIte, ↓M_1, ↓M_2, L_0, L_1, L_2, L_3, L_4, L_5, L_6, L_7, L_8, L_9, L_10, L_11, L_12, L_13, L_20, L_24, L_26, L_30, L_31, L_32, L_39, L_40, L_48, L_57, L_76, L_80, L_90, L_91, L_97, L_99, L_100, L_255, L_273, L_1000, L_2000, q_ld, q_ldL, q_sto, q_stoL, q_add, q_sub, q_mul, q_dec, q_rem, q_div, q_lt_t, q_lt_f, q_le_t, q_le_f, q_eq_t, q_eq_f, q_em, q_me, q_ml, q_lm, q_mle, q_lem, q_s1, q_s1o, q_s1k, q_s12, q_s2, q_s2o, q_s2k, q_s21, Nat.add_sub_cancel, q_or, q_and, q_shl, true_or, or_true, false_or, or_false, true_and, and_true, false_and, and_false, not_true_eq_false, not_false_eq_true, ne_eq, c]
        have ms : ∀ t, MSt n x t → t.1 0 15 = nI p → t.1 0 16 = mI 1 → gM_EachAddsALineModel_thing_0 N rM (nI deep) t = (fM_EachAddsALineModel_held N rM (nI (deep + 1)) (s1 t 0 15 (nI (p + 1)))).bind fun p5 => (fM_EachAddsALineModel_passes N (nI 41) p5.2).bind fun p6 => if p6.1 = nI 0 then (fM_EachAddsALineModel_fault N (p6.2.1 0 15) p6.2).bind fun z7 => some (p5.1, z7) else some (p5.1, p6.2) := by
          intro t h e1 e2
          obtain ⟨v, a1, a2⟩ := M_hereR (N := N) h e1 hp2
          have a4 := a2.nn (by omega)
          rw [hbr] at a4
          subst a4
          have a5 := M_passes_f (N := N) h e1 e2 hp2 (a := 45) (by omega) h45
          simp (disch := omega) only [Option.bind_some, ↓reduceIte, ↓M_1, ↓M_2, L_0, L_1, L_2, L_3, L_4, L_5, L_6, L_7, L_8, L_9, L_10, L_11, L_12, L_13, L_20, L_24, L_26, L_30, L_31, L_32, L_39, L_40, L_48, L_57, L_76, L_80, L_90, L_91, L_97, L_99, L_100, L_255, L_273, L_1000, L_2000, q_ld, q_ldL, q_sto, q_stoL, q_add, q_sub, q_mul, q_dec, q_rem, q_div, q_lt_t, q_lt_f, q_le_t, q_le_f, q_eq_t, q_eq_f, q_em, q_me, q_ml, q_lm, q_mle, q_lem, q_s1, q_s1o, q_s1k, q_s12, q_s2, q_s2o, q_s2k, q_s21, Nat.add_sub_cancel, q_or, q_and, q_shl, true_or, or_true, false_or, or_false, true_and, and_true, false_and, and_false, not_true_eq_false, not_false_eq_true, ne_eq, gM_EachAddsALineModel_thing_0, L_45, a5, M_fine_t e2, a1, e1, L_41]
        rcases hH hdp hbr with ⟨q, C, b1, b2, b3, b4, b5⟩ | ⟨q, b1, b2, b3⟩
        · by_cases hcl : chr n x q = 41
          · have hq := chr_lt (n := n) (x := x) (p := q) (by omega)
            refine Or.inl ⟨q + 1, C, by omega, by omega, by omega, fun s z h e1 e2 hz => ?_, fun t E h he e1 e2 => ?_⟩
            · obtain ⟨u, c1, c2⟩ := b4 (s1 s 21 4 (nI (p + 1))) z (h.f (Fr.s1 (by decide))) (q_s1 _ _ _ _) (by rw [q_s1k (by decide)]; exact e2) (by omega)
              have c3 : App s u z q C := (App.at (p := p) (q := p + 1) e2).tr c2
              obtain ⟨v, a1, a2⟩ := C_next (N := N) (h.f c3.1) c3.2.1 b3
              have a4 := a2.nn (by omega)
              rw [hcl] at a4
              subst a4
              have c4 := c3.tr (App.at (p := q) (q := q + 1) c3.2.2.1)
              rw [List.append_nil] at c4
              refine ⟨_, ?_, c4⟩
              rw [cs s h e1, c1]
              simp (disch := omega) only [Option.bind_some, ↓reduceIte, ↓M_1, ↓M_2, L_0, L_1, L_2, L_3, L_4, L_5, L_6, L_7, L_8, L_9, L_10, L_11, L_12, L_13, L_20, L_24, L_26, L_30, L_31, L_32, L_39, L_40, L_48, L_57, L_76, L_80, L_90, L_91, L_97, L_99, L_100, L_255, L_273, L_1000, L_2000, q_ld, q_ldL, q_sto, q_stoL, q_add, q_sub, q_mul, q_dec, q_rem, q_div, q_lt_t, q_lt_f, q_le_t, q_le_f, q_eq_t, q_eq_f, q_em, q_me, q_ml, q_lm, q_mle, q_lem, q_s1, q_s1o, q_s1k, q_s12, q_s2, q_s2o, q_s2k, q_s21, Nat.add_sub_cancel, q_or, q_and, q_shl, true_or, or_true, false_or, or_false, true_and, and_true, false_and, and_false, not_true_eq_false, not_false_eq_true, ne_eq, a1, c3.2.1]
            · obtain ⟨v, t', c1, c2, c3, c4, c5⟩ := b5 (s1 t 0 15 (nI (p + 1))) E (h.f Fm.r15) (he.fm Fm.r15) (q_s1 _ _ _ _) (by rw [q_s1k (by decide)]; exact e2)
              have a5 := M_passes_t (N := N) ((h.f Fm.r15).f c2) c3 c4 b3 (a := 41) (by omega) hcl
              refine ⟨v, s1 t' 0 15 (nI (q + 1)), ?_, Fm.r15.tr (c2.tr Fm.r15), q_s1 _ _ _ _, by rw [q_s1k (by decide)]; exact c4, c5⟩
              rw [ms t h e1 e2, c1]
              simp (disch := omega) only [Option.bind_some, ↓reduceIte, ↓M_1, ↓M_2, L_0, L_1, L_2, L_3, L_4, L_5, L_6, L_7, L_8, L_9, L_10, L_11, L_12, L_13, L_20, L_24, L_26, L_30, L_31, L_32, L_39, L_40, L_48, L_57, L_76, L_80, L_90, L_91, L_97, L_99, L_100, L_255, L_273, L_1000, L_2000, q_ld, q_ldL, q_sto, q_stoL, q_add, q_sub, q_mul, q_dec, q_rem, q_div, q_lt_t, q_lt_f, q_le_t, q_le_f, q_eq_t, q_eq_f, q_em, q_me, q_ml, q_lm, q_mle, q_lem, q_s1, q_s1o, q_s1k, q_s12, q_s2, q_s2o, q_s2k, q_s21, Nat.add_sub_cancel, q_or, q_and, q_shl, true_or, or_true, false_or, or_false, true_and, and_true, false_and, and_false, not_true_eq_false, not_false_eq_true, ne_eq, a5]
          · refine Or.inr ⟨q, b3, fun s z h e1 e2 hz => ?_, fun t E h he e1 e2 => ?_⟩
            · obtain ⟨u, c1, c2⟩ := b4 (s1 s 21 4 (nI (p + 1))) z (h.f (Fr.s1 (by decide))) (q_s1 _ _ _ _) (by rw [q_s1k (by decide)]; exact e2) (by omega)
              have c3 : App s u z q C := (App.at (p := p) (q := p + 1) e2).tr c2
              obtain ⟨v, a1, a2⟩ := C_next (N := N) (h.f c3.1) c3.2.1 b3
              have a4 : ¬ v = nI 41 := by rw [a2.eq (by omega)]; exact hcl
              refine ⟨u, ?_, c3.1, c3.2.1⟩
              rw [cs s h e1, c1]
              simp (disch := omega) only [Option.bind_some, ↓reduceIte, ↓M_1, ↓M_2, L_0, L_1, L_2, L_3, L_4, L_5, L_6, L_7, L_8, L_9, L_10, L_11, L_12, L_13, L_20, L_24, L_26, L_30, L_31, L_32, L_39, L_40, L_48, L_57, L_76, L_80, L_90, L_91, L_97, L_99, L_100, L_255, L_273, L_1000, L_2000, q_ld, q_ldL, q_sto, q_stoL, q_add, q_sub, q_mul, q_dec, q_rem, q_div, q_lt_t, q_lt_f, q_le_t, q_le_f, q_eq_t, q_eq_f, q_em, q_me, q_ml, q_lm, q_mle, q_lem, q_s1, q_s1o, q_s1k, q_s12, q_s2, q_s2o, q_s2k, q_s21, Nat.add_sub_cancel, q_or, q_and, q_shl, true_or, or_true, false_or, or_false, true_and, and_true, false_and, and_false, not_true_eq_false, not_false_eq_true, ne_eq, a1, a4]
            · obtain ⟨v, t', c1, c2, c3, c4, c5⟩ := b5 (s1 t 0 15 (nI (p + 1))) E (h.f Fm.r15) (he.fm Fm.r15) (q_s1 _ _ _ _) (by rw [q_s1k (by decide)]; exact e2)
              have a5 := M_passes_f (N := N) ((h.f Fm.r15).f c2) c3 c4 b3 (a := 41) (by omega) hcl
              refine ⟨v, s1 t' 0 16 (nI q), ?_, Fm.r15.tr (c2.tr Fm.r16), q_s1 _ _ _ _⟩
              rw [ms t h e1 e2, c1]
              simp (disch := omega) only [Option.bind_some, ↓reduceIte, ↓M_1, ↓M_2, L_0, L_1, L_2, L_3, L_4, L_5, L_6, L_7, L_8, L_9, L_10, L_11, L_12, L_13, L_20, L_24, L_26, L_30, L_31, L_32, L_39, L_40, L_48, L_57, L_76, L_80, L_90, L_91, L_97, L_99, L_100, L_255, L_273, L_1000, L_2000, q_ld, q_ldL, q_sto, q_stoL, q_add, q_sub, q_mul, q_dec, q_rem, q_div, q_lt_t, q_lt_f, q_le_t, q_le_f, q_eq_t, q_eq_f, q_em, q_me, q_ml, q_lm, q_mle, q_lem, q_s1, q_s1o, q_s1k, q_s12, q_s2, q_s2o, q_s2k, q_s21, Nat.add_sub_cancel, q_or, q_and, q_shl, true_or, or_true, false_or, or_false, true_and, and_true, false_and, and_false, not_true_eq_false, not_false_eq_true, ne_eq, a5, c3, M_fault_t c4]
        · refine Or.inr ⟨q, b1, fun s z h e1 e2 hz => ?_, fun t E h he e1 e2 => ?_⟩
          · obtain ⟨u, c1, c2, c3⟩ := b2 (s1 s 21 4 (nI (p + 1))) z (h.f (Fr.s1 (by decide))) (q_s1 _ _ _ _) (by rw [q_s1k (by decide)]; exact e2) (by omega)
            refine ⟨u, ?_, (Fr.s1 (by decide)).tr c2, c3⟩
            rw [cs s h e1, c1]
            simp (disch := omega) only [Option.bind_some, ↓reduceIte, ↓M_1, ↓M_2, L_0, L_1, L_2, L_3, L_4, L_5, L_6, L_7, L_8, L_9, L_10, L_11, L_12, L_13, L_20, L_24, L_26, L_30, L_31, L_32, L_39, L_40, L_48, L_57, L_76, L_80, L_90, L_91, L_97, L_99, L_100, L_255, L_273, L_1000, L_2000, q_ld, q_ldL, q_sto, q_stoL, q_add, q_sub, q_mul, q_dec, q_rem, q_div, q_lt_t, q_lt_f, q_le_t, q_le_f, q_eq_t, q_eq_f, q_em, q_me, q_ml, q_lm, q_mle, q_lem, q_s1, q_s1o, q_s1k, q_s12, q_s2, q_s2o, q_s2k, q_s21, Nat.add_sub_cancel, q_or, q_and, q_shl, true_or, or_true, false_or, or_false, true_and, and_true, false_and, and_false, not_true_eq_false, not_false_eq_true, ne_eq]
          · obtain ⟨v, t', c1, c2, c3⟩ := b3 (s1 t 0 15 (nI (p + 1))) E (h.f Fm.r15) (he.fm Fm.r15) (q_s1 _ _ _ _) (by rw [q_s1k (by decide)]; exact e2)
            refine ⟨v, t', ?_, Fm.r15.tr c2, c3⟩
            rw [ms t h e1 e2, c1]
            simp (disch := omega) only [Option.bind_some, ↓reduceIte, ↓M_1, ↓M_2, L_0, L_1, L_2, L_3, L_4, L_5, L_6, L_7, L_8, L_9, L_10, L_11, L_12, L_13, L_20, L_24, L_26, L_30, L_31, L_32, L_39, L_40, L_48, L_57, L_76, L_80, L_90, L_91, L_97, L_99, L_100, L_255, L_273, L_1000, L_2000, q_ld, q_ldL, q_sto, q_stoL, q_add, q_sub, q_mul, q_dec, q_rem, q_div, q_lt_t, q_lt_f, q_le_t, q_le_f, q_eq_t, q_eq_f, q_em, q_me, q_ml, q_lm, q_mle, q_lem, q_s1, q_s1o, q_s1k, q_s12, q_s2, q_s2o, q_s2k, q_s21, Nat.add_sub_cancel, q_or, q_and, q_shl, true_or, or_true, false_or, or_false, true_and, and_true, false_and, and_false, not_true_eq_false, not_false_eq_true, ne_eq, M_passes_d (N := N) c3 (show q < 1000 by omega), M_fault_f (N := N) c3 (show q < 1000 by omega)]
      · obtain rfl : deep = 4 := by omega
        refine Or.inr ⟨p, hp2, fun s z h e1 e2 hz => ⟨s, ?_, Fr.rf, e1⟩, fun t E h he e1 e2 => ⟨nI 0, s1 t 0 16 (nI p), ?_, Fm.r16, q_s1 _ _ _ _⟩⟩
        · obtain ⟨v, a1, a2⟩ := C_next (N := N) h e1 hp2
          have a3 := C_isDig (N := N) (s := s) a2
          rw [if_neg hdig] at a3
          have a4 := a2.nn (by omega)
          rw [hbr] at a4
          subst a4
          simp (disch := omega) only [Option.bind_some, ↓reduceIte, ↓M_1, ↓M_2, L_0, L_1, L_2, L_3, L_4, L_5, L_6, L_7, L_8, L_9, L_10, L_11, L_12, L_13, L_20, L_24, L_26, L_30, L_31, L_32, L_39, L_40, L_48, L_57, L_76, L_80, L_90, L_91, L_97, L_99, L_100, L_255, L_273, L_1000, L_2000, q_ld, q_ldL, q_sto, q_stoL, q_add, q_sub, q_mul, q_dec, q_rem, q_div, q_lt_t, q_lt_f, q_le_t, q_le_f, q_eq_t, q_eq_f, q_em, q_me, q_ml, q_lm, q_mle, q_lem, q_s1, q_s1o, q_s1k, q_s12, q_s2, q_s2o, q_s2k, q_s21, Nat.add_sub_cancel, q_or, q_and, q_shl, true_or, or_true, false_or, or_false, true_and, and_true, false_and, and_false, not_true_eq_false, not_false_eq_true, ne_eq, fC_RuleReader_readThing, gC_RuleReader_readThing_0, a1, a3, fC_RuleReader_readBraced, gC_RuleReader_readBraced_0]
        · obtain ⟨v, a1, a2⟩ := M_hereR (N := N) h e1 hp2
          have a6 := M_78_no (N := N) (rM := rM) a2 hdig (fun k => by unfold fsg; omega) e2 e1
          have a4 := a2.nn (by omega)
          rw [hbr] at a4
          subst a4
          have a5 := M_passes_f (N := N) h e1 e2 hp2 (a := 45) (by omega) h45
          simp (disch := omega) only [Option.bind_some, ↓reduceIte, ↓M_1, ↓M_2, L_0, L_1, L_2, L_3, L_4, L_5, L_6, L_7, L_8, L_9, L_10, L_11, L_12, L_13, L_20, L_24, L_26, L_30, L_31, L_32, L_39, L_40, L_48, L_57, L_76, L_80, L_90, L_91, L_97, L_99, L_100, L_255, L_273, L_1000, L_2000, q_ld, q_ldL, q_sto, q_stoL, q_add, q_sub, q_mul, q_dec, q_rem, q_div, q_lt_t, q_lt_f, q_le_t, q_le_f, q_eq_t, q_eq_f, q_em, q_me, q_ml, q_lm, q_mle, q_lem, q_s1, q_s1o, q_s1k, q_s12, q_s2, q_s2o, q_s2k, q_s21, Nat.add_sub_cancel, q_or, q_and, q_shl, true_or, or_true, false_or, or_false, true_and, and_true, false_and, and_false, not_true_eq_false, not_false_eq_true, ne_eq, gM_EachAddsALineModel_thing_0, L_45, a5, M_fine_t e2, a1, a6]
    · by_cases hf : ∃ k, fsg (chr n x p) k
      · obtain ⟨k, hk⟩ := hf
        have hy : chr n x p < 128 ∧ k < 7 := by unfold fsg at hk; omega
        have hc := chr_lt (n := n) (x := x) (p := p) hy.1
        refine Or.inl ⟨p + 1, [1000 + k], Nat.le_refl _, by omega, by omega, fun s z h e1 e2 hz => ?_, fun t E h he e1 e2 => ?_⟩
        · obtain ⟨v, a1, a2⟩ := C_next (N := N) h e1 hp2
          have a3 := C_isDig (N := N) (s := s) a2
          rw [if_neg hdig] at a3
          have a6 : ¬ v = nI 40 := by rw [a2.eq (by omega)]; exact hbr
          have a4 := a2.nn hy.1
          subst a4
          have a7 := C_factOf (N := N) (s := s) hk
          have a8 : ¬ nI k = mI 1 := by rw [q_em (by omega) (by omega) (by omega)]; exact id
          obtain ⟨u, b1, b2⟩ := C_emit (N := N) (c := 1000 + k) e1 e2 (by omega)
          have b3 := b2.tr (App.at (p := p) (q := p + 1) b2.2.2.1)
          rw [List.append_nil] at b3
          refine ⟨_, ?_, b3⟩
          simp (disch := omega) only [Option.bind_some, ↓reduceIte, ↓M_1, ↓M_2, L_0, L_1, L_2, L_3, L_4, L_5, L_6, L_7, L_8, L_9, L_10, L_11, L_12, L_13, L_20, L_24, L_26, L_30, L_31, L_32, L_39, L_40, L_48, L_57, L_76, L_80, L_90, L_91, L_97, L_99, L_100, L_255, L_273, L_1000, L_2000, q_ld, q_ldL, q_sto, q_stoL, q_add, q_sub, q_mul, q_dec, q_rem, q_div, q_lt_t, q_lt_f, q_le_t, q_le_f, q_eq_t, q_eq_f, q_em, q_me, q_ml, q_lm, q_mle, q_lem, q_s1, q_s1o, q_s1k, q_s12, q_s2, q_s2o, q_s2k, q_s21, Nat.add_sub_cancel, q_or, q_and, q_shl, true_or, or_true, false_or, or_false, true_and, and_true, false_and, and_false, not_true_eq_false, not_false_eq_true, ne_eq, fC_RuleReader_readThing, gC_RuleReader_readThing_0, a1, a3, a6, a7, a8, b1, b2.2.1]
        · obtain ⟨v, a1, a2⟩ := M_hereR (N := N) h e1 hp2
          have a5 := M_passes_f (N := N) h e1 e2 hp2 (a := 45) (by omega) h45
          have a6 : ¬ v = nI 40 := by rw [a2.eq (by omega)]; exact hbr
          have a4 := a2.nn hy.1
          subst a4
          refine ⟨E k, s1 t 0 15 (nI (p + 1)), ?_, Fm.r15, q_s1 _ _ _ _, by rw [q_s1k (by decide)]; exact e2, Den.fact hy.2⟩
          rw [← he k hy.2]
          simp (disch := omega) only [Option.bind_some, ↓reduceIte, ↓M_1, ↓M_2, L_0, L_1, L_2, L_3, L_4, L_5, L_6, L_7, L_8, L_9, L_10, L_11, L_12, L_13, L_20, L_24, L_26, L_30, L_31, L_32, L_39, L_40, L_48, L_57, L_76, L_80, L_90, L_91, L_97, L_99, L_100, L_255, L_273, L_1000, L_2000, q_ld, q_ldL, q_sto, q_stoL, q_add, q_sub, q_mul, q_dec, q_rem, q_div, q_lt_t, q_lt_f, q_le_t, q_le_f, q_eq_t, q_eq_f, q_em, q_me, q_ml, q_lm, q_mle, q_lem, q_s1, q_s1o, q_s1k, q_s12, q_s2, q_s2o, q_s2k, q_s21, Nat.add_sub_cancel, q_or, q_and, q_shl, true_or, or_true, false_or, or_false, true_and, and_true, false_and, and_false, not_true_eq_false, not_false_eq_true, ne_eq, gM_EachAddsALineModel_thing_0, L_45, a5, M_fine_t e2, a1, a6, M_78 hk, M_147 hk e1]
      · have hf' : ∀ k, ¬ fsg (chr n x p) k := fun k z => hf ⟨k, z⟩
        refine Or.inr ⟨p, hp2, fun s z h e1 e2 hz => ⟨s, ?_, Fr.rf, e1⟩, fun t E h he e1 e2 => ⟨nI 0, s1 t 0 16 (nI p), ?_, Fm.r16, q_s1 _ _ _ _⟩⟩
        · obtain ⟨v, a1, a2⟩ := C_next (N := N) h e1 hp2
          have a3 := C_isDig (N := N) (s := s) a2
          rw [if_neg hdig] at a3
          have a6 : ¬ v = nI 40 := by rw [a2.eq (by omega)]; exact hbr
          have a7 := C_factOf_no (N := N) (s := s) a2 hf'
          simp (disch := omega) only [Option.bind_some, ↓reduceIte, ↓M_1, ↓M_2, L_0, L_1, L_2, L_3, L_4, L_5, L_6, L_7, L_8, L_9, L_10, L_11, L_12, L_13, L_20, L_24, L_26, L_30, L_31, L_32, L_39, L_40, L_48, L_57, L_76, L_80, L_90, L_91, L_97, L_99, L_100, L_255, L_273, L_1000, L_2000, q_ld, q_ldL, q_sto, q_stoL, q_add, q_sub, q_mul, q_dec, q_rem, q_div, q_lt_t, q_lt_f, q_le_t, q_le_f, q_eq_t, q_eq_f, q_em, q_me, q_ml, q_lm, q_mle, q_lem, q_s1, q_s1o, q_s1k, q_s12, q_s2, q_s2o, q_s2k, q_s21, Nat.add_sub_cancel, q_or, q_and, q_shl, true_or, or_true, false_or, or_false, true_and, and_true, false_and, and_false, not_true_eq_false, not_false_eq_true, ne_eq, fC_RuleReader_readThing, gC_RuleReader_readThing_0, a1, a3, a6, a7]
        · obtain ⟨v, a1, a2⟩ := M_hereR (N := N) h e1 hp2
          have a5 := M_passes_f (N := N) h e1 e2 hp2 (a := 45) (by omega) h45
          have a6 : ¬ v = nI 40 := by rw [a2.eq (by omega)]; exact hbr
          have a7 := M_78_no (N := N) (rM := rM) a2 hdig hf' e2 e1
          simp (disch := omega) only [Option.bind_some, ↓reduceIte, ↓M_1, ↓M_2, L_0, L_1, L_2, L_3, L_4, L_5, L_6, L_7, L_8, L_9, L_10, L_11, L_12, L_13, L_20, L_24, L_26, L_30, L_31, L_32, L_39, L_40, L_48, L_57, L_76, L_80, L_90, L_91, L_97, L_99, L_100, L_255, L_273, L_1000, L_2000, q_ld, q_ldL, q_sto, q_stoL, q_add, q_sub, q_mul, q_dec, q_rem, q_div, q_lt_t, q_lt_f, q_le_t, q_le_f, q_eq_t, q_eq_f, q_em, q_me, q_ml, q_lm, q_mle, q_lem, q_s1, q_s1o, q_s1k, q_s12, q_s2, q_s2o, q_s2k, q_s21, Nat.add_sub_cancel, q_or, q_and, q_shl, true_or, or_true, false_or, or_false, true_and, and_true, false_and, and_false, not_true_eq_false, not_false_eq_true, ne_eq, gM_EachAddsALineModel_thing_0, L_45, a5, M_fine_t e2, a1, a6, a7]
end RT
