/-! the rule: sums, products, things; both readers at once -/
def EM (t : vSt) (k : Nat) : Int32 := if t.1 0 19 = nI 0 then nI 0 else t.1 0 (20 + k)
theorem EM.fm {L K F : List Nat} {t t' : vSt} (f : Fm L K F t t') (h : ∀ k, k ∈ F → k < 19 ∨ 27 ≤ k) {k : Nat} (hk : k < 7) : EM t' k = EM t k := by
  unfold EM
  rw [f.2.2 19 (fun z => by have := h _ z; omega), f.2.2 (20 + k) (fun z => by have := h _ z; omega)]
def Cok (n : Nat) (x : Nat → Nat) (f : vSt → Option (Int32 × vSt)) (p q e : Nat) (C : List Nat) : Prop := ∀ s z, CSt n x s → s.1 21 4 = nI p → s.1 21 3 = nI z → z + e ≤ p → ∃ s', f s = some (nI 1, s') ∧ App s s' z q C
def Cno (n : Nat) (x : Nat → Nat) (f : vSt → Option (Int32 × vSt)) (p q e : Nat) : Prop := ∀ s z, CSt n x s → s.1 21 4 = nI p → s.1 21 3 = nI z → z + e ≤ p → ∃ s', f s = some (nI 0, s') ∧ Fr [21, 22] [] s s' ∧ s'.1 21 4 = nI q
def EE (t : vSt) (E : Nat → Int32) : Prop := ∀ k, k < 7 → EM t k = E k
def Mok (n : Nat) (x : Nat → Nat) (g : vSt → Option (Int32 × vSt)) (p q : Nat) (C : List Nat) : Prop := ∀ t E, MSt n x t → EE t E → t.1 0 15 = nI p → t.1 0 16 = mI 1 → ∃ v t', g t = some (v, t') ∧ Fm [] [] [15, 16] t t' ∧ t'.1 0 15 = nI q ∧ t'.1 0 16 = mI 1 ∧ Den E C v
def Mno (n : Nat) (x : Nat → Nat) (g : vSt → Option (Int32 × vSt)) (p q : Nat) : Prop := ∀ t E, MSt n x t → EE t E → t.1 0 15 = nI p → t.1 0 16 = mI 1 → ∃ v t', g t = some (v, t') ∧ Fm [] [] [15, 16] t t' ∧ t'.1 0 16 = nI q
def Mok2 (n : Nat) (x : Nat → Nat) (g : Int32 → vSt → Option (Int32 × vSt)) (p q : Nat) (C : List Nat) : Prop := ∀ t E a, MSt n x t → EE t E → t.1 0 15 = nI p → t.1 0 16 = mI 1 → ∃ v t', g a t = some (v, t') ∧ Fm [] [] [15, 16] t t' ∧ t'.1 0 15 = nI q ∧ t'.1 0 16 = mI 1 ∧ Den2 E C a v
def Mno2 (n : Nat) (x : Nat → Nat) (g : Int32 → vSt → Option (Int32 × vSt)) (p q : Nat) : Prop := ∀ a, Mno n x (g a) p q
def JR (n : Nat) (x : Nat → Nat) (f g : vSt → Option (Int32 × vSt)) (p : Nat) : Prop := (∃ q C, p + C.length ≤ q ∧ q ≤ n ∧ q ≤ 40 ∧ Cok n x f p q 0 C ∧ Mok n x g p q C) ∨ ∃ q, q ≤ 40 ∧ Cno n x f p q 0 ∧ Mno n x g p q
def JL (n : Nat) (x : Nat → Nat) (f : vSt → Option (Int32 × vSt)) (g : Int32 → vSt → Option (Int32 × vSt)) (p : Nat) : Prop := (∃ q C, p + C.length ≤ q ∧ q ≤ n ∧ q ≤ 40 ∧ Cok n x f p q 0 C ∧ Mok2 n x g p q C) ∨ ∃ q, q ≤ 40 ∧ Cno n x f p q 0 ∧ Mno2 n x g p q
def Dd (g : vSt → Option (Int32 × vSt)) : Prop := ∀ t q, t.1 0 16 = nI q → q < 1000 → ∃ v, g t = some (v, t)
theorem EE.fm {t t' : vSt} {E : Nat → Int32} (h : EE t E) (f : Fm [] [] [15, 16] t t') : EE t' E := fun k hk => (EM.fm f (by decide) hk).trans (h k hk)
theorem Fm.r15 {t : vSt} {y : Int32} : Fm [] [] [15, 16] t (s1 t 0 15 y) := Fm.w10 (by decide)
theorem Fm.r16 {t : vSt} {y : Int32} : Fm [] [] [15, 16] t (s1 t 0 16 y) := Fm.w10 (by decide)
theorem one_ne (s : vSt) : ¬ ((nI 1, s) : Int32 × vSt).1 = 0 := (by decide : ¬ nI 1 = 0)
theorem zer_eq (s : vSt) : ((nI 0, s) : Int32 × vSt).1 = 0 := (by decide : nI 0 = 0)
theorem L_41 : (41 : Int32) = nI 41 := by decide
theorem L_42 : (42 : Int32) = nI 42 := by decide
theorem L_43 : (43 : Int32) = nI 43 := by decide
theorem L_45 : (45 : Int32) = nI 45 := by decide
theorem L_47 : (47 : Int32) = nI 47 := by decide
theorem L_60 : (60 : Int32) = nI 60 := by decide
theorem L_61 : (61 : Int32) = nI 61 := by decide
theorem L_62 : (62 : Int32) = nI 62 := by decide
theorem L_102 : (102 : Int32) = nI 102 := by decide
theorem L_103 : (103 : Int32) = nI 103 := by decide
theorem L_104 : (104 : Int32) = nI 104 := by decide
theorem L_105 : (105 : Int32) = nI 105 := by decide
theorem L_106 : (106 : Int32) = nI 106 := by decide
theorem L_107 : (107 : Int32) = nI 107 := by decide
theorem L_108 : (108 : Int32) = nI 108 := by decide
theorem L_109 : (109 : Int32) = nI 109 := by decide
theorem L_110 : (110 : Int32) = nI 110 := by decide
theorem L_111 : (111 : Int32) = nI 111 := by decide
theorem L_112 : (112 : Int32) = nI 112 := by decide
theorem L_113 : (113 : Int32) = nI 113 := by decide
theorem L_114 : (114 : Int32) = nI 114 := by decide
theorem L_115 : (115 : Int32) = nI 115 := by decide
theorem L_2126 : (2126 : Int32) = nI 2126 := by decide
theorem jn_42 (a b : Int32) : jn 42 a b = a * b := rfl
theorem jn_43 (a b : Int32) : jn 43 a b = a + b := rfl
theorem jn_45 (a b : Int32) : jn 45 a b = a - b := rfl
theorem jn_60 (a b : Int32) : jn 60 a b = if b ≤ a then nI 0 else nI 1 := rfl
theorem jn_61 (a b : Int32) : jn 61 a b = if a = b then nI 1 else nI 0 := rfl
theorem jn_62 (a b : Int32) : jn 62 a b = if a ≤ b then nI 0 else nI 1 := rfl
theorem jn_47 (a b : Int32) : jn 47 a b = if b = nI 0 then nI 0 else a / b := rfl
section RS
variable {N n p : Nat} {x : Nat → Nat} {s t : vSt}
theorem MSt.f (h : MSt n x t) {t' : vSt} (f : Fm [] [] [15, 16] t t') : MSt n x t' := h.fm f (by decide) (by decide)
theorem CSt.f (h : CSt n x s) {s' : vSt} (f : Fr [21, 22] [] s s') : CSt n x s' := h.fr f (by decide) (by decide)
/-- one thing, and what comes behind it -/
theorem JR.seq {f1 f2 F g1 G : vSt → Option (Int32 × vSt)} {g2 : Int32 → vSt → Option (Int32 × vSt)} (h1 : JR n x f1 g1 p) (h2 : ∀ q, p ≤ q → q ≤ n → q ≤ 40 → JL n x f2 g2 q)
    (hF : ∀ s, F s = (f1 s).bind fun r => if r.1 = 0 then some (0, r.2) else f2 r.2) (hG : ∀ t, G t = (g1 t).bind fun r => g2 r.1 r.2) (hd : ∀ a, Dd (g2 a)) : JR n x F G p := by
  rcases h1 with ⟨q1, C1, a1, a2, a3, a4, a5⟩ | ⟨q1, a1, a2, a3⟩
  · rcases h2 q1 (by omega) a2 a3 with ⟨q2, C2, b1, b2, b3, b4, b5⟩ | ⟨q2, b1, b2, b3⟩
    · refine Or.inl ⟨q2, C1 ++ C2, by rw [List.length_append]; omega, b2, b3, fun s z h e1 e2 hz => ?_, fun t E h he e1 e2 => ?_⟩
      · obtain ⟨s1, c1, c2⟩ := a4 s z h e1 e2 hz
        obtain ⟨s2, d1, d2⟩ := b4 s1 _ (h.f c2.1) c2.2.1 c2.2.2.1 (by omega)
        refine ⟨s2, ?_, c2.tr d2⟩
        rw [hF, c1, Option.bind_some, if_neg (one_ne _)]; exact d1
      · obtain ⟨v1, t1, c1, c2, c3, c4, c5⟩ := a5 t E h he e1 e2
        obtain ⟨v2, t2, d1, d2, d3, d4, d5⟩ := b5 t1 E v1 (h.f c2) (he.fm c2) c3 c4
        refine ⟨v2, t2, ?_, c2.tr d2, d3, d4, c5.tr d5⟩
        rw [hG, c1, Option.bind_some]; exact d1
    · refine Or.inr ⟨q2, b1, fun s z h e1 e2 hz => ?_, fun t E h he e1 e2 => ?_⟩
      · obtain ⟨s1, c1, c2⟩ := a4 s z h e1 e2 hz
        obtain ⟨s2, d1, d2, d3⟩ := b2 s1 _ (h.f c2.1) c2.2.1 c2.2.2.1 (by omega)
        refine ⟨s2, ?_, c2.1.tr d2, d3⟩
        rw [hF, c1, Option.bind_some, if_neg (one_ne _)]; exact d1
      · obtain ⟨v1, t1, c1, c2, c3, c4, c5⟩ := a5 t E h he e1 e2
        obtain ⟨v2, t2, d1, d2, d3⟩ := b3 v1 t1 E (h.f c2) (he.fm c2) c3 c4
        refine ⟨v2, t2, ?_, c2.tr d2, d3⟩
        rw [hG, c1, Option.bind_some]; exact d1
  · refine Or.inr ⟨q1, a1, fun s z h e1 e2 hz => ?_, fun t E h he e1 e2 => ?_⟩
    · obtain ⟨s1, c1, c2, c3⟩ := a2 s z h e1 e2 hz
      refine ⟨s1, ?_, c2, c3⟩
      rw [hF, c1, Option.bind_some, if_pos (zer_eq _)]; try rfl
    · obtain ⟨v1, t1, c1, c2, c3⟩ := a3 t E h he e1 e2
      obtain ⟨v2, d1⟩ := hd v1 t1 q1 c3 (by omega)
      refine ⟨v2, t1, ?_, c2, c3⟩
      rw [hG, c1, Option.bind_some]; exact d1
theorem JL.nil {f : vSt → Option (Int32 × vSt)} {g : Int32 → vSt → Option (Int32 × vSt)} (hp : p ≤ n) (hp2 : p ≤ 40) (h1 : ∀ s, CSt n x s → s.1 21 4 = nI p → f s = some (nI 1, s)) (h2 : ∀ t a, MSt n x t → t.1 0 15 = nI p → t.1 0 16 = mI 1 → g a t = some (a, t)) : JL n x f g p :=
  Or.inl ⟨p, [], Nat.le_refl _, hp, hp2, fun s z h e1 e2 hz => ⟨s, h1 s h e1, App.nil e1 e2⟩, fun t E a h he e1 e2 => ⟨a, t, h2 t a h e1 e2, Fm.rf, e1, e2, Den2.nil⟩⟩
/-- a task: one thing more, its sign, and what comes behind it -/
theorem JL.op {f1 f2 F g1 : vSt → Option (Int32 × vSt)} {G g2 : Int32 → vSt → Option (Int32 × vSt)} {c : Nat} (hc : c < 126) (hp : p < 40) (h1 : JR n x f1 g1 (p + 1)) (h2 : ∀ q, p + 1 ≤ q → q ≤ n → q ≤ 40 → JL n x f2 g2 q)
    (hF : ∀ s, CSt n x s → s.1 21 4 = nI p → F s = (f1 (s1 s 21 4 (nI (p + 1)))).bind fun r => if r.1 = 0 then some (0, r.2) else (fC_RuleReader_emit N (nI (2000 + c)) r.2).bind fun z => f2 z)
    (hG : ∀ t a o t', MSt n x t → t.1 0 15 = nI p → t.1 0 16 = mI 1 → g1 (s1 t 0 15 (nI (p + 1))) = some (o, t') → G a t = g2 (jn c a o) t') (hd : ∀ a, Dd (g2 a)) : JL n x F G p := by
  rcases h1 with ⟨q1, C1, a1, a2, a3, a4, a5⟩ | ⟨q1, a1, a2, a3⟩
  · have cm : ∀ s z, CSt n x s → s.1 21 4 = nI p → s.1 21 3 = nI z → z + 0 ≤ p → ∃ s2, F s = f2 s2 ∧ App s s2 z q1 (C1 ++ [2000 + c]) := by
      intro s z h e1 e2 hz
      obtain ⟨u, c1, c2⟩ := a4 (s1 s 21 4 (nI (p + 1))) z (h.f (Fr.s1 (by decide))) (q_s1 _ _ _ _) (by rw [q_s1k (by decide)]; exact e2) (by omega)
      obtain ⟨u2, d1, d2⟩ := C_emit (N := N) (c := 2000 + c) c2.2.1 c2.2.2.1 (by omega)
      refine ⟨u2, ?_, (App.at (p := p) (q := p + 1) e2).tr (c2.tr d2)⟩
      rw [hF s h e1, c1, Option.bind_some, if_neg (one_ne _), d1]; rfl
    have mm : ∀ t E a, MSt n x t → EE t E → t.1 0 15 = nI p → t.1 0 16 = mI 1 → ∃ o t', G a t = g2 (jn c a o) t' ∧ Fm [] [] [15, 16] t t' ∧ t'.1 0 15 = nI q1 ∧ t'.1 0 16 = mI 1 ∧ Den E C1 o := by
      intro t E a h he e1 e2
      obtain ⟨o, t', c1, c2, c3, c4, c5⟩ := a5 (s1 t 0 15 (nI (p + 1))) E (h.f Fm.r15) (he.fm Fm.r15) (q_s1 _ _ _ _) (by rw [q_s1k (by decide)]; exact e2)
      exact ⟨o, t', hG t a o t' h e1 e2 c1, Fm.r15.tr c2, c3, c4, c5⟩
    rcases h2 q1 (by omega) a2 a3 with ⟨q2, C2, b1, b2, b3, b4, b5⟩ | ⟨q2, b1, b2, b3⟩
    · refine Or.inl ⟨q2, (C1 ++ [2000 + c]) ++ C2, by rw [List.length_append, List.length_append]; show p + (C1.length + 1 + C2.length) ≤ q2; omega, b2, b3, fun s z h e1 e2 hz => ?_, fun t E a h he e1 e2 => ?_⟩
      · obtain ⟨u, c1, c2⟩ := cm s z h e1 e2 hz
        obtain ⟨u2, d1, d2⟩ := b4 u _ (h.f c2.1) c2.2.1 c2.2.2.1 (by rw [List.length_append]; show z + (C1.length + 1) + 0 ≤ q1; omega)
        exact ⟨u2, c1.trans d1, c2.tr d2⟩
      · obtain ⟨o, t1, c1, c2, c3, c4, c5⟩ := mm t E a h he e1 e2
        obtain ⟨v2, t2, d1, d2, d3, d4, d5⟩ := b5 t1 E _ (h.f c2) (he.fm c2) c3 c4
        exact ⟨v2, t2, c1.trans d1, c2.tr d2, d3, d4, (c5.op hc).tr d5⟩
    · refine Or.inr ⟨q2, b1, fun s z h e1 e2 hz => ?_, fun a t E h he e1 e2 => ?_⟩
      · obtain ⟨u, c1, c2⟩ := cm s z h e1 e2 hz
        obtain ⟨u2, d1, d2, d3⟩ := b2 u _ (h.f c2.1) c2.2.1 c2.2.2.1 (by rw [List.length_append]; show z + (C1.length + 1) + 0 ≤ q1; omega)
        exact ⟨u2, c1.trans d1, c2.1.tr d2, d3⟩
      · obtain ⟨o, t1, c1, c2, c3, c4, c5⟩ := mm t E a h he e1 e2
        obtain ⟨v2, t2, d1, d2, d3⟩ := b3 _ t1 E (h.f c2) (he.fm c2) c3 c4
        exact ⟨v2, t2, c1.trans d1, c2.tr d2, d3⟩
  · refine Or.inr ⟨q1, a1, fun s z h e1 e2 hz => ?_, fun a t E h he e1 e2 => ?_⟩
    · obtain ⟨u, c1, c2, c3⟩ := a2 (s1 s 21 4 (nI (p + 1))) z (h.f (Fr.s1 (by decide))) (q_s1 _ _ _ _) (by rw [q_s1k (by decide)]; exact e2) (by omega)
      refine ⟨u, ?_, (Fr.s1 (by decide)).tr c2, c3⟩
      rw [hF s h e1, c1, Option.bind_some, if_pos (zer_eq _)]; try rfl
    · obtain ⟨o, t', c1, c2, c3⟩ := a3 (s1 t 0 15 (nI (p + 1))) E (h.f Fm.r15) (he.fm Fm.r15) (q_s1 _ _ _ _) (by rw [q_s1k (by decide)]; exact e2)
      obtain ⟨v2, d1⟩ := hd (jn c a o) t' q1 c3 (by omega)
      exact ⟨v2, t', (hG t a o t' h e1 e2 c1).trans d1, Fm.r15.tr c2, c3⟩
variable {rC rM : Int32 → vSt → Option (Int32 × vSt)} {deep p0 : Nat}

theorem pr_nil {f g k : Nat} (hn : p ≤ n) (hp : p ≤ 40) (c : ¬ (chr n x p = 42 ∨ chr n x p = 47)) (hk : k ≤ p) : JL n x (gC_RuleReader_readProduct_12 N rC (f + 1) (nI deep) (nI k)) (gM_EachAddsALineModel_product_6 N rM (g + 1) (nI deep)) p := by
  refine JL.nil hn hp (fun s h h1 => ?_) (fun t a h h1 h2 => ?_)
  · rw [gC_RuleReader_readProduct_12]
    by_cases d : k < 40
    · obtain ⟨v, e1, e2⟩ := C_next (N := N) h h1 hp
      have n1 : ¬ v = nI 42 := by rw [e2.eq (by omega)]; exact fun q => c (Or.inl q)
      have n2 : ¬ v = nI 47 := by rw [e2.eq (by omega)]; exact fun q => c (Or.inr q)
      simp (disch := omega) only [Option.bind_some, ↓reduceIte, ↓M_1, ↓M_2, L_0, L_1, L_2, L_3, L_4, L_5, L_6, L_7, L_8, L_9, L_10, L_11, L_12, L_13, L_20, L_24, L_26, L_30, L_31, L_32, L_39, L_40, L_48, L_57, L_76, L_80, L_90, L_91, L_97, L_99, L_100, L_255, L_273, L_1000, L_2000, q_ld, q_ldL, q_sto, q_stoL, q_add, q_sub, q_mul, q_dec, q_rem, q_div, q_lt_t, q_lt_f, q_le_t, q_le_f, q_eq_t, q_eq_f, q_em, q_me, q_ml, q_lm, q_mle, q_lem, q_s1, q_s1o, q_s1k, q_s12, q_s2, q_s2o, q_s2k, q_s21, Nat.add_sub_cancel, q_or, q_and, q_shl, true_or, or_true, false_or, or_false, true_and, and_true, false_and, and_false, not_true_eq_false, not_false_eq_true, ne_eq, e1, n1, n2, L_42, L_47]
    · simp (disch := omega) only [Option.bind_some, ↓reduceIte, ↓M_1, ↓M_2, L_0, L_1, L_2, L_3, L_4, L_5, L_6, L_7, L_8, L_9, L_10, L_11, L_12, L_13, L_20, L_24, L_26, L_30, L_31, L_32, L_39, L_40, L_48, L_57, L_76, L_80, L_90, L_91, L_97, L_99, L_100, L_255, L_273, L_1000, L_2000, q_ld, q_ldL, q_sto, q_stoL, q_add, q_sub, q_mul, q_dec, q_rem, q_div, q_lt_t, q_lt_f, q_le_t, q_le_f, q_eq_t, q_eq_f, q_em, q_me, q_ml, q_lm, q_mle, q_lem, q_s1, q_s1o, q_s1k, q_s12, q_s2, q_s2o, q_s2k, q_s21, Nat.add_sub_cancel, q_or, q_and, q_shl, true_or, or_true, false_or, or_false, true_and, and_true, false_and, and_false, not_true_eq_false, not_false_eq_true, ne_eq]
  · obtain ⟨v, e1, e2⟩ := M_hereR (N := N) h h1 hp
    have n1 : ¬ v = nI 42 := by rw [e2.eq (by omega)]; exact fun q => c (Or.inl q)
    have n2 : ¬ v = nI 47 := by rw [e2.eq (by omega)]; exact fun q => c (Or.inr q)
    rw [gM_EachAddsALineModel_product_6]
    simp (disch := omega) only [Option.bind_some, ↓reduceIte, ↓M_1, ↓M_2, L_0, L_1, L_2, L_3, L_4, L_5, L_6, L_7, L_8, L_9, L_10, L_11, L_12, L_13, L_20, L_24, L_26, L_30, L_31, L_32, L_39, L_40, L_48, L_57, L_76, L_80, L_90, L_91, L_97, L_99, L_100, L_255, L_273, L_1000, L_2000, q_ld, q_ldL, q_sto, q_stoL, q_add, q_sub, q_mul, q_dec, q_rem, q_div, q_lt_t, q_lt_f, q_le_t, q_le_f, q_eq_t, q_eq_f, q_em, q_me, q_ml, q_lm, q_mle, q_lem, q_s1, q_s1o, q_s1k, q_s12, q_s2, q_s2o, q_s2k, q_s21, Nat.add_sub_cancel, q_or, q_and, q_shl, true_or, or_true, false_or, or_false, true_and, and_true, false_and, and_false, not_true_eq_false, not_false_eq_true, ne_eq, M_fine_t h2, e1, n1, n2, L_42, L_47]

theorem pr_d (hD : Dd (rM (nI deep))) {f : Nat} (a : Int32) : Dd (gM_EachAddsALineModel_product_6 N rM (f + 1) (nI deep) a) := fun t q h hq => ⟨a, by
  rw [gM_EachAddsALineModel_product_6]
  simp (disch := omega) only [Option.bind_some, ↓reduceIte, ↓M_1, ↓M_2, L_0, L_1, L_2, L_3, L_4, L_5, L_6, L_7, L_8, L_9, L_10, L_11, L_12, L_13, L_20, L_24, L_26, L_30, L_31, L_32, L_39, L_40, L_48, L_57, L_76, L_80, L_90, L_91, L_97, L_99, L_100, L_255, L_273, L_1000, L_2000, q_ld, q_ldL, q_sto, q_stoL, q_add, q_sub, q_mul, q_dec, q_rem, q_div, q_lt_t, q_lt_f, q_le_t, q_le_f, q_eq_t, q_eq_f, q_em, q_me, q_ml, q_lm, q_mle, q_lem, q_s1, q_s1o, q_s1k, q_s12, q_s2, q_s2o, q_s2k, q_s21, Nat.add_sub_cancel, q_or, q_and, q_shl, true_or, or_true, false_or, or_false, true_and, and_true, false_and, and_false, not_true_eq_false, not_false_eq_true, ne_eq, M_fine_f h hq]⟩
theorem pr_C {c f k : Nat} (hc : c = 42 ∨ c = 47) (hk : k < 40) (hp : p ≤ 40) (hx : chr n x p = c) (h : CSt n x s) (h1 : s.1 21 4 = nI p) : gC_RuleReader_readProduct_12 N rC (f + 1) (nI deep) (nI k) s = (fC_RuleReader_readSigned N rC (nI deep) (s1 s 21 4 (nI (p + 1)))).bind fun r => if r.1 = 0 then some (0, r.2) else (fC_RuleReader_emit N (nI (2000 + c)) r.2).bind fun z => gC_RuleReader_readProduct_12 N rC f (nI deep) (nI (k + 1)) z := by
  obtain ⟨v, e1, e2⟩ := C_next (N := N) h h1 hp
  have ev := e2.nn (by omega)
  rw [hx] at ev
  subst ev
  rw [gC_RuleReader_readProduct_12]
  rcases hc with rfl | rfl
  · simp (disch := omega) only [Option.bind_some, ↓reduceIte, ↓M_1, ↓M_2, L_0, L_1, L_2, L_3, L_4, L_5, L_6, L_7, L_8, L_9, L_10, L_11, L_12, L_13, L_20, L_24, L_26, L_30, L_31, L_32, L_39, L_40, L_48, L_57, L_76, L_80, L_90, L_91, L_97, L_99, L_100, L_255, L_273, L_1000, L_2000, q_ld, q_ldL, q_sto, q_stoL, q_add, q_sub, q_mul, q_dec, q_rem, q_div, q_lt_t, q_lt_f, q_le_t, q_le_f, q_eq_t, q_eq_f, q_em, q_me, q_ml, q_lm, q_mle, q_lem, q_s1, q_s1o, q_s1k, q_s12, q_s2, q_s2o, q_s2k, q_s21, Nat.add_sub_cancel, q_or, q_and, q_shl, true_or, or_true, false_or, or_false, true_and, and_true, false_and, and_false, not_true_eq_false, not_false_eq_true, ne_eq, e1, gC_RuleReader_readProduct_37, h1, L_42, L_47]
  · simp (disch := omega) only [Option.bind_some, ↓reduceIte, ↓M_1, ↓M_2, L_0, L_1, L_2, L_3, L_4, L_5, L_6, L_7, L_8, L_9, L_10, L_11, L_12, L_13, L_20, L_24, L_26, L_30, L_31, L_32, L_39, L_40, L_48, L_57, L_76, L_80, L_90, L_91, L_97, L_99, L_100, L_255, L_273, L_1000, L_2000, q_ld, q_ldL, q_sto, q_stoL, q_add, q_sub, q_mul, q_dec, q_rem, q_div, q_lt_t, q_lt_f, q_le_t, q_le_f, q_eq_t, q_eq_f, q_em, q_me, q_ml, q_lm, q_mle, q_lem, q_s1, q_s1o, q_s1k, q_s12, q_s2, q_s2o, q_s2k, q_s21, Nat.add_sub_cancel, q_or, q_and, q_shl, true_or, or_true, false_or, or_false, true_and, and_true, false_and, and_false, not_true_eq_false, not_false_eq_true, ne_eq, e1, gC_RuleReader_readProduct_37, h1, L_42, L_47]
theorem pr_M {c f : Nat} {a o : Int32} {t' : vSt} (hc : c = 42 ∨ c = 47) (hp : p ≤ 40) (hx : chr n x p = c) (h : MSt n x t) (h1 : t.1 0 15 = nI p) (h2 : t.1 0 16 = mI 1) (hr : rM (nI deep) (s1 t 0 15 (nI (p + 1))) = some (o, t')) : gM_EachAddsALineModel_product_6 N rM (f + 1) (nI deep) a t = gM_EachAddsALineModel_product_6 N rM f (nI deep) (jn c a o) t' := by
  obtain ⟨v, e1, e2⟩ := M_hereR (N := N) h h1 hp
  have ev := e2.nn (by omega)
  rw [hx] at ev
  subst ev
  rw [gM_EachAddsALineModel_product_6]
  rcases hc with rfl | rfl
  · simp (disch := omega) only [Option.bind_some, ↓reduceIte, ↓M_1, ↓M_2, L_0, L_1, L_2, L_3, L_4, L_5, L_6, L_7, L_8, L_9, L_10, L_11, L_12, L_13, L_20, L_24, L_26, L_30, L_31, L_32, L_39, L_40, L_48, L_57, L_76, L_80, L_90, L_91, L_97, L_99, L_100, L_255, L_273, L_1000, L_2000, q_ld, q_ldL, q_sto, q_stoL, q_add, q_sub, q_mul, q_dec, q_rem, q_div, q_lt_t, q_lt_f, q_le_t, q_le_f, q_eq_t, q_eq_f, q_em, q_me, q_ml, q_lm, q_mle, q_lem, q_s1, q_s1o, q_s1k, q_s12, q_s2, q_s2o, q_s2k, q_s21, Nat.add_sub_cancel, q_or, q_and, q_shl, true_or, or_true, false_or, or_false, true_and, and_true, false_and, and_false, not_true_eq_false, not_false_eq_true, ne_eq, M_fine_t h2, e1, gM_EachAddsALineModel_product_31, gM_EachAddsALineModel_product_45, gM_EachAddsALineModel_product_87, h1, hr, L_42, L_43, L_45, L_47, jn_42, jn_43, jn_45, jn_47]
  · by_cases d : o = nI 0
    · simp (disch := omega) only [Option.bind_some, ↓reduceIte, ↓M_1, ↓M_2, L_0, L_1, L_2, L_3, L_4, L_5, L_6, L_7, L_8, L_9, L_10, L_11, L_12, L_13, L_20, L_24, L_26, L_30, L_31, L_32, L_39, L_40, L_48, L_57, L_76, L_80, L_90, L_91, L_97, L_99, L_100, L_255, L_273, L_1000, L_2000, q_ld, q_ldL, q_sto, q_stoL, q_add, q_sub, q_mul, q_dec, q_rem, q_div, q_lt_t, q_lt_f, q_le_t, q_le_f, q_eq_t, q_eq_f, q_em, q_me, q_ml, q_lm, q_mle, q_lem, q_s1, q_s1o, q_s1k, q_s12, q_s2, q_s2o, q_s2k, q_s21, Nat.add_sub_cancel, q_or, q_and, q_shl, true_or, or_true, false_or, or_false, true_and, and_true, false_and, and_false, not_true_eq_false, not_false_eq_true, ne_eq, M_fine_t h2, e1, gM_EachAddsALineModel_product_31, gM_EachAddsALineModel_product_45, gM_EachAddsALineModel_product_87, h1, hr, L_42, L_47, jn_47, d]
    · simp (disch := omega) only [Option.bind_some, ↓reduceIte, ↓M_1, ↓M_2, L_0, L_1, L_2, L_3, L_4, L_5, L_6, L_7, L_8, L_9, L_10, L_11, L_12, L_13, L_20, L_24, L_26, L_30, L_31, L_32, L_39, L_40, L_48, L_57, L_76, L_80, L_90, L_91, L_97, L_99, L_100, L_255, L_273, L_1000, L_2000, q_ld, q_ldL, q_sto, q_stoL, q_add, q_sub, q_mul, q_dec, q_rem, q_div, q_lt_t, q_lt_f, q_le_t, q_le_f, q_eq_t, q_eq_f, q_em, q_me, q_ml, q_lm, q_mle, q_lem, q_s1, q_s1o, q_s1k, q_s12, q_s2, q_s2o, q_s2k, q_s21, Nat.add_sub_cancel, q_or, q_and, q_shl, true_or, or_true, false_or, or_false, true_and, and_true, false_and, and_false, not_true_eq_false, not_false_eq_true, ne_eq, M_fine_t h2, e1, gM_EachAddsALineModel_product_31, gM_EachAddsALineModel_product_45, gM_EachAddsALineModel_product_87, h1, hr, L_42, L_47, jn_47, d]
theorem pr_loop (hT : ∀ p, p0 ≤ p → p ≤ n → p ≤ 40 → JR n x (fC_RuleReader_readSigned N rC (nI deep)) (rM (nI deep)) p) (hD : Dd (rM (nI deep))) : ∀ m p f g k, 40 ≤ p + m → p0 ≤ p → p ≤ n → p ≤ 40 → m + 1 < f → m + 1 < g → k ≤ p → JL n x (gC_RuleReader_readProduct_12 N rC f (nI deep) (nI k)) (gM_EachAddsALineModel_product_6 N rM g (nI deep)) p := by
  intro m
  induction m with
  | zero =>
    intro p f g k hm h0 hn hp hf hg hk
    obtain ⟨f, rfl⟩ : ∃ g, f = g + 1 := ⟨f - 1, by omega⟩
    obtain ⟨g, rfl⟩ : ∃ h, g = h + 1 := ⟨g - 1, by omega⟩
    exact pr_nil hn hp (fun q => by have := chr_lt (n := n) (x := x) (p := p) (by omega); omega) hk
  | succ m ih =>
    intro p f g k hm h0 hn hp hf hg hk
    obtain ⟨f, rfl⟩ : ∃ g, f = g + 1 := ⟨f - 1, by omega⟩
    obtain ⟨g, rfl⟩ : ∃ h, g = h + 1 := ⟨g - 1, by omega⟩
    by_cases c : chr n x p = 42 ∨ chr n x p = 47
    · have hc := chr_lt (n := n) (x := x) (p := p) (by omega)
      obtain ⟨g', hg'⟩ : ∃ h, g = h + 1 := ⟨g - 1, by omega⟩
      exact JL.op (c := chr n x p) (by omega) hc.2 (hT (p + 1) (by omega) (by omega) (by omega)) (fun q h1 h2 h3 => ih q f g (k + 1) (by omega) (by omega) h2 h3 (by omega) (by omega) (by omega)) (fun s h1 h2 => pr_C c (by omega) hp rfl h1 h2) (fun t a o t' h1 h2 h3 h4 => pr_M c hp rfl h1 h2 h3 h4) (fun a => by subst hg'; exact pr_d hD a)
    · exact pr_nil hn hp c hk
theorem pr_J (hN : 100 ≤ N) (hp : p ≤ n) (hp2 : p ≤ 40) (hT : ∀ q, p ≤ q → q ≤ n → q ≤ 40 → JR n x (fC_RuleReader_readSigned N rC (nI deep)) (rM (nI deep)) q) (hD : Dd (rM (nI deep))) : JR n x (fC_RuleReader_readProduct N rC (nI deep)) (fM_EachAddsALineModel_product N rM (nI deep)) p := by
  refine JR.seq (hT p (Nat.le_refl _) hp hp2) (fun q h1 h2 h3 => pr_loop (p0 := p) hT hD 40 q N N 0 (by omega) h1 h2 h3 (by omega) (by omega) (by omega)) (fun s => rfl) (fun t => rfl) (fun a => ?_)
  obtain ⟨M, rfl⟩ : ∃ M, N = M + 1 := ⟨N - 1, by omega⟩
  exact pr_d hD a
theorem pr_D (hN : 100 ≤ N) (hD : Dd (rM (nI deep))) : Dd (fM_EachAddsALineModel_product N rM (nI deep)) := fun t q h hq => by
  obtain ⟨v, e⟩ := hD t q h hq
  obtain ⟨M, hM⟩ : ∃ M, N = M + 1 := ⟨N - 1, by omega⟩
  obtain ⟨v2, e2⟩ : ∃ v2, gM_EachAddsALineModel_product_6 N rM N (nI deep) v t = some (v2, t) := by
    have e3 := pr_d (N := N) (rM := rM) (deep := deep) hD (f := M) v t q h hq
    rw [← hM] at e3
    exact e3
  refine ⟨v2, ?_⟩
  rw [fM_EachAddsALineModel_product, gM_EachAddsALineModel_product_0, e, Option.bind_some]
  exact e2

theorem su_nil {f g k : Nat} (hn : p ≤ n) (hp : p ≤ 40) (c : ¬ (chr n x p = 43 ∨ chr n x p = 45)) (hk : k ≤ p) : JL n x (gC_RuleReader_readSum_12 N rC (f + 1) (nI deep) (nI k)) (gM_EachAddsALineModel_sum_6 N rM (g + 1) (nI deep)) p := by
  refine JL.nil hn hp (fun s h h1 => ?_) (fun t a h h1 h2 => ?_)
  · rw [gC_RuleReader_readSum_12]
    by_cases d : k < 40
    · obtain ⟨v, e1, e2⟩ := C_next (N := N) h h1 hp
      have n1 : ¬ v = nI 43 := by rw [e2.eq (by omega)]; exact fun q => c (Or.inl q)
      have n2 : ¬ v = nI 45 := by rw [e2.eq (by omega)]; exact fun q => c (Or.inr q)
      simp (disch := omega) only [Option.bind_some, ↓reduceIte, ↓M_1, ↓M_2, L_0, L_1, L_2, L_3, L_4, L_5, L_6, L_7, L_8, L_9, L_10, L_11, L_12, L_13, L_20, L_24, L_26, L_30, L_31, L_32, L_39, L_40, L_48, L_57, L_76, L_80, L_90, L_91, L_97, L_99, L_100, L_255, L_273, L_1000, L_2000, q_ld, q_ldL, q_sto, q_stoL, q_add, q_sub, q_mul, q_dec, q_rem, q_div, q_lt_t, q_lt_f, q_le_t, q_le_f, q_eq_t, q_eq_f, q_em, q_me, q_ml, q_lm, q_mle, q_lem, q_s1, q_s1o, q_s1k, q_s12, q_s2, q_s2o, q_s2k, q_s21, Nat.add_sub_cancel, q_or, q_and, q_shl, true_or, or_true, false_or, or_false, true_and, and_true, false_and, and_false, not_true_eq_false, not_false_eq_true, ne_eq, e1, n1, n2, L_43, L_45]
    · simp (disch := omega) only [Option.bind_some, ↓reduceIte, ↓M_1, ↓M_2, L_0, L_1, L_2, L_3, L_4, L_5, L_6, L_7, L_8, L_9, L_10, L_11, L_12, L_13, L_20, L_24, L_26, L_30, L_31, L_32, L_39, L_40, L_48, L_57, L_76, L_80, L_90, L_91, L_97, L_99, L_100, L_255, L_273, L_1000, L_2000, q_ld, q_ldL, q_sto, q_stoL, q_add, q_sub, q_mul, q_dec, q_rem, q_div, q_lt_t, q_lt_f, q_le_t, q_le_f, q_eq_t, q_eq_f, q_em, q_me, q_ml, q_lm, q_mle, q_lem, q_s1, q_s1o, q_s1k, q_s12, q_s2, q_s2o, q_s2k, q_s21, Nat.add_sub_cancel, q_or, q_and, q_shl, true_or, or_true, false_or, or_false, true_and, and_true, false_and, and_false, not_true_eq_false, not_false_eq_true, ne_eq]
  · obtain ⟨v, e1, e2⟩ := M_hereR (N := N) h h1 hp
    have n1 : ¬ v = nI 43 := by rw [e2.eq (by omega)]; exact fun q => c (Or.inl q)
    have n2 : ¬ v = nI 45 := by rw [e2.eq (by omega)]; exact fun q => c (Or.inr q)
    rw [gM_EachAddsALineModel_sum_6]
    simp (disch := omega) only [Option.bind_some, ↓reduceIte, ↓M_1, ↓M_2, L_0, L_1, L_2, L_3, L_4, L_5, L_6, L_7, L_8, L_9, L_10, L_11, L_12, L_13, L_20, L_24, L_26, L_30, L_31, L_32, L_39, L_40, L_48, L_57, L_76, L_80, L_90, L_91, L_97, L_99, L_100, L_255, L_273, L_1000, L_2000, q_ld, q_ldL, q_sto, q_stoL, q_add, q_sub, q_mul, q_dec, q_rem, q_div, q_lt_t, q_lt_f, q_le_t, q_le_f, q_eq_t, q_eq_f, q_em, q_me, q_ml, q_lm, q_mle, q_lem, q_s1, q_s1o, q_s1k, q_s12, q_s2, q_s2o, q_s2k, q_s21, Nat.add_sub_cancel, q_or, q_and, q_shl, true_or, or_true, false_or, or_false, true_and, and_true, false_and, and_false, not_true_eq_false, not_false_eq_true, ne_eq, M_fine_t h2, e1, n1, n2, L_43, L_45]

theorem su_d (hD : Dd (fM_EachAddsALineModel_product N rM (nI deep))) {f : Nat} (a : Int32) : Dd (gM_EachAddsALineModel_sum_6 N rM (f + 1) (nI deep) a) := fun t q h hq => ⟨a, by
  rw [gM_EachAddsALineModel_sum_6]
  simp (disch := omega) only [Option.bind_some, ↓reduceIte, ↓M_1, ↓M_2, L_0, L_1, L_2, L_3, L_4, L_5, L_6, L_7, L_8, L_9, L_10, L_11, L_12, L_13, L_20, L_24, L_26, L_30, L_31, L_32, L_39, L_40, L_48, L_57, L_76, L_80, L_90, L_91, L_97, L_99, L_100, L_255, L_273, L_1000, L_2000, q_ld, q_ldL, q_sto, q_stoL, q_add, q_sub, q_mul, q_dec, q_rem, q_div, q_lt_t, q_lt_f, q_le_t, q_le_f, q_eq_t, q_eq_f, q_em, q_me, q_ml, q_lm, q_mle, q_lem, q_s1, q_s1o, q_s1k, q_s12, q_s2, q_s2o, q_s2k, q_s21, Nat.add_sub_cancel, q_or, q_and, q_shl, true_or, or_true, false_or, or_false, true_and, and_true, false_and, and_false, not_true_eq_false, not_false_eq_true, ne_eq, M_fine_f h hq]⟩
theorem su_C {c f k : Nat} (hc : c = 43 ∨ c = 45) (hk : k < 40) (hp : p ≤ 40) (hx : chr n x p = c) (h : CSt n x s) (h1 : s.1 21 4 = nI p) : gC_RuleReader_readSum_12 N rC (f + 1) (nI deep) (nI k) s = (fC_RuleReader_readProduct N rC (nI deep) (s1 s 21 4 (nI (p + 1)))).bind fun r => if r.1 = 0 then some (0, r.2) else (fC_RuleReader_emit N (nI (2000 + c)) r.2).bind fun z => gC_RuleReader_readSum_12 N rC f (nI deep) (nI (k + 1)) z := by
  obtain ⟨v, e1, e2⟩ := C_next (N := N) h h1 hp
  have ev := e2.nn (by omega)
  rw [hx] at ev
  subst ev
  rw [gC_RuleReader_readSum_12]
  rcases hc with rfl | rfl
  · simp (disch := omega) only [Option.bind_some, ↓reduceIte, ↓M_1, ↓M_2, L_0, L_1, L_2, L_3, L_4, L_5, L_6, L_7, L_8, L_9, L_10, L_11, L_12, L_13, L_20, L_24, L_26, L_30, L_31, L_32, L_39, L_40, L_48, L_57, L_76, L_80, L_90, L_91, L_97, L_99, L_100, L_255, L_273, L_1000, L_2000, q_ld, q_ldL, q_sto, q_stoL, q_add, q_sub, q_mul, q_dec, q_rem, q_div, q_lt_t, q_lt_f, q_le_t, q_le_f, q_eq_t, q_eq_f, q_em, q_me, q_ml, q_lm, q_mle, q_lem, q_s1, q_s1o, q_s1k, q_s12, q_s2, q_s2o, q_s2k, q_s21, Nat.add_sub_cancel, q_or, q_and, q_shl, true_or, or_true, false_or, or_false, true_and, and_true, false_and, and_false, not_true_eq_false, not_false_eq_true, ne_eq, e1, gC_RuleReader_readSum_37, h1, L_43, L_45]
  · simp (disch := omega) only [Option.bind_some, ↓reduceIte, ↓M_1, ↓M_2, L_0, L_1, L_2, L_3, L_4, L_5, L_6, L_7, L_8, L_9, L_10, L_11, L_12, L_13, L_20, L_24, L_26, L_30, L_31, L_32, L_39, L_40, L_48, L_57, L_76, L_80, L_90, L_91, L_97, L_99, L_100, L_255, L_273, L_1000, L_2000, q_ld, q_ldL, q_sto, q_stoL, q_add, q_sub, q_mul, q_dec, q_rem, q_div, q_lt_t, q_lt_f, q_le_t, q_le_f, q_eq_t, q_eq_f, q_em, q_me, q_ml, q_lm, q_mle, q_lem, q_s1, q_s1o, q_s1k, q_s12, q_s2, q_s2o, q_s2k, q_s21, Nat.add_sub_cancel, q_or, q_and, q_shl, true_or, or_true, false_or, or_false, true_and, and_true, false_and, and_false, not_true_eq_false, not_false_eq_true, ne_eq, e1, gC_RuleReader_readSum_37, h1, L_43, L_45]
theorem su_M {c f : Nat} {a o : Int32} {t' : vSt} (hc : c = 43 ∨ c = 45) (hp : p ≤ 40) (hx : chr n x p = c) (h : MSt n x t) (h1 : t.1 0 15 = nI p) (h2 : t.1 0 16 = mI 1) (hr : fM_EachAddsALineModel_product N rM (nI deep) (s1 t 0 15 (nI (p + 1))) = some (o, t')) : gM_EachAddsALineModel_sum_6 N rM (f + 1) (nI deep) a t = gM_EachAddsALineModel_sum_6 N rM f (nI deep) (jn c a o) t' := by
  obtain ⟨v, e1, e2⟩ := M_hereR (N := N) h h1 hp
  have ev := e2.nn (by omega)
  rw [hx] at ev
  subst ev
  rw [gM_EachAddsALineModel_sum_6]
  rcases hc with rfl | rfl
  · simp (disch := omega) only [Option.bind_some, ↓reduceIte, ↓M_1, ↓M_2, L_0, L_1, L_2, L_3, L_4, L_5, L_6, L_7, L_8, L_9, L_10, L_11, L_12, L_13, L_20, L_24, L_26, L_30, L_31, L_32, L_39, L_40, L_48, L_57, L_76, L_80, L_90, L_91, L_97, L_99, L_100, L_255, L_273, L_1000, L_2000, q_ld, q_ldL, q_sto, q_stoL, q_add, q_sub, q_mul, q_dec, q_rem, q_div, q_lt_t, q_lt_f, q_le_t, q_le_f, q_eq_t, q_eq_f, q_em, q_me, q_ml, q_lm, q_mle, q_lem, q_s1, q_s1o, q_s1k, q_s12, q_s2, q_s2o, q_s2k, q_s21, Nat.add_sub_cancel, q_or, q_and, q_shl, true_or, or_true, false_or, or_false, true_and, and_true, false_and, and_false, not_true_eq_false, not_false_eq_true, ne_eq, M_fine_t h2, e1, gM_EachAddsALineModel_sum_31, gM_EachAddsALineModel_sum_45, gM_EachAddsALineModel_sum_78, h1, hr, L_42, L_43, L_45, L_47, jn_42, jn_43, jn_45, jn_47]
  · simp (disch := omega) only [Option.bind_some, ↓reduceIte, ↓M_1, ↓M_2, L_0, L_1, L_2, L_3, L_4, L_5, L_6, L_7, L_8, L_9, L_10, L_11, L_12, L_13, L_20, L_24, L_26, L_30, L_31, L_32, L_39, L_40, L_48, L_57, L_76, L_80, L_90, L_91, L_97, L_99, L_100, L_255, L_273, L_1000, L_2000, q_ld, q_ldL, q_sto, q_stoL, q_add, q_sub, q_mul, q_dec, q_rem, q_div, q_lt_t, q_lt_f, q_le_t, q_le_f, q_eq_t, q_eq_f, q_em, q_me, q_ml, q_lm, q_mle, q_lem, q_s1, q_s1o, q_s1k, q_s12, q_s2, q_s2o, q_s2k, q_s21, Nat.add_sub_cancel, q_or, q_and, q_shl, true_or, or_true, false_or, or_false, true_and, and_true, false_and, and_false, not_true_eq_false, not_false_eq_true, ne_eq, M_fine_t h2, e1, gM_EachAddsALineModel_sum_31, gM_EachAddsALineModel_sum_45, gM_EachAddsALineModel_sum_78, h1, hr, L_42, L_43, L_45, L_47, jn_42, jn_43, jn_45, jn_47]
theorem su_loop (hT : ∀ p, p0 ≤ p → p ≤ n → p ≤ 40 → JR n x (fC_RuleReader_readProduct N rC (nI deep)) (fM_EachAddsALineModel_product N rM (nI deep)) p) (hD : Dd (fM_EachAddsALineModel_product N rM (nI deep))) : ∀ m p f g k, 40 ≤ p + m → p0 ≤ p → p ≤ n → p ≤ 40 → m + 1 < f → m + 1 < g → k ≤ p → JL n x (gC_RuleReader_readSum_12 N rC f (nI deep) (nI k)) (gM_EachAddsALineModel_sum_6 N rM g (nI deep)) p := by
  intro m
  induction m with
  | zero =>
    intro p f g k hm h0 hn hp hf hg hk
    obtain ⟨f, rfl⟩ : ∃ g, f = g + 1 := ⟨f - 1, by omega⟩
    obtain ⟨g, rfl⟩ : ∃ h, g = h + 1 := ⟨g - 1, by omega⟩
    exact su_nil hn hp (fun q => by have := chr_lt (n := n) (x := x) (p := p) (by omega); omega) hk
  | succ m ih =>
    intro p f g k hm h0 hn hp hf hg hk
    obtain ⟨f, rfl⟩ : ∃ g, f = g + 1 := ⟨f - 1, by omega⟩
    obtain ⟨g, rfl⟩ : ∃ h, g = h + 1 := ⟨g - 1, by omega⟩
    by_cases c : chr n x p = 43 ∨ chr n x p = 45
    · have hc := chr_lt (n := n) (x := x) (p := p) (by omega)
      obtain ⟨g', hg'⟩ : ∃ h, g = h + 1 := ⟨g - 1, by omega⟩
      exact JL.op (c := chr n x p) (by omega) hc.2 (hT (p + 1) (by omega) (by omega) (by omega)) (fun q h1 h2 h3 => ih q f g (k + 1) (by omega) (by omega) h2 h3 (by omega) (by omega) (by omega)) (fun s h1 h2 => su_C c (by omega) hp rfl h1 h2) (fun t a o t' h1 h2 h3 h4 => su_M c hp rfl h1 h2 h3 h4) (fun a => by subst hg'; exact su_d hD a)
    · exact su_nil hn hp c hk
theorem su_J (hN : 100 ≤ N) (hp : p ≤ n) (hp2 : p ≤ 40) (hT : ∀ q, p ≤ q → q ≤ n → q ≤ 40 → JR n x (fC_RuleReader_readProduct N rC (nI deep)) (fM_EachAddsALineModel_product N rM (nI deep)) q) (hD : Dd (fM_EachAddsALineModel_product N rM (nI deep))) : JR n x (fC_RuleReader_readSum N rC (nI deep)) (fM_EachAddsALineModel_sum N rM (nI deep)) p := by
  refine JR.seq (hT p (Nat.le_refl _) hp hp2) (fun q h1 h2 h3 => su_loop (p0 := p) hT hD 40 q N N 0 (by omega) h1 h2 h3 (by omega) (by omega) (by omega)) (fun s => rfl) (fun t => rfl) (fun a => ?_)
  obtain ⟨M, rfl⟩ : ∃ M, N = M + 1 := ⟨N - 1, by omega⟩
  exact su_d hD a
theorem su_D (hN : 100 ≤ N) (hD : Dd (fM_EachAddsALineModel_product N rM (nI deep))) : Dd (fM_EachAddsALineModel_sum N rM (nI deep)) := fun t q h hq => by
  obtain ⟨v, e⟩ := hD t q h hq
  obtain ⟨M, hM⟩ : ∃ M, N = M + 1 := ⟨N - 1, by omega⟩
  obtain ⟨v2, e2⟩ : ∃ v2, gM_EachAddsALineModel_sum_6 N rM N (nI deep) v t = some (v2, t) := by
    have e3 := su_d (N := N) (rM := rM) (deep := deep) hD (f := M) v t q h hq
    rw [← hM] at e3
    exact e3
  refine ⟨v2, ?_⟩
  rw [fM_EachAddsALineModel_sum, gM_EachAddsALineModel_sum_0, e, Option.bind_some]
  exact e2
end RS
