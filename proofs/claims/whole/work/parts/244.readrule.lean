/-! the rule: minuses; the whole of it, by induction on what is left -/
section RU
variable {N n p : Nat} {x : Nat → Nat} {s t : vSt} {rC : Int32 → vSt → Option (Int32 × vSt)} {deep : Nat}
def CLm (N n : Nat) (x : Nat → Nat) (rC : Int32 → vSt → Option (Int32 × vSt)) (deep : Nat) (g : vSt → Option (Int32 × vSt)) (p : Nat) : Prop :=
  (∃ q C, p + C.length ≤ q ∧ q ≤ n ∧ q ≤ 40 ∧ (∀ k f, k ≤ p → 41 < f + p → Cok n x (gC_RuleReader_readSigned_4 N rC f (nI deep) (nI k) (nI k)) p q k (C ++ List.replicate k 2126)) ∧ Mok n x g p q C) ∨
  ∃ q, q ≤ 40 ∧ (∀ k f, k ≤ p → 41 < f + p → Cno n x (gC_RuleReader_readSigned_4 N rC f (nI deep) (nI k) (nI k)) p q k) ∧ Mno n x g p q
theorem CLm.jr {g : vSt → Option (Int32 × vSt)} (hN : 100 ≤ N) (h : CLm N n x rC deep g p) : JR n x (fC_RuleReader_readSigned N rC (nI deep)) g p := by
  rcases h with ⟨q, C, h1, h2, h3, h4, h5⟩ | ⟨q, h1, h2, h3⟩
  · have e := h4 0 N (by omega) (by omega)
    rw [show List.replicate 0 2126 = ([] : List Nat) from rfl, List.append_nil] at e
    exact Or.inl ⟨q, C, h1, h2, h3, e, h5⟩
  · exact Or.inr ⟨q, h1, h2 0 N (by omega) (by omega), h3⟩
theorem C_negs (K : Nat) (hK : K ≤ 40) : ∀ r f s z, r ≤ K → r < f → z + r ≤ 40 → s.1 21 4 = nI p → s.1 21 3 = nI z → ∃ s', gC_RuleReader_readSigned_50 N rC f (nI K) (nI (K - r)) s = some (nI 1, s') ∧ App s s' z p (List.replicate r 2126) := by
  intro r
  induction r with
  | zero =>
    intro f s z h1 h2 h3 h4 h5
    obtain ⟨f, rfl⟩ : ∃ g, f = g + 1 := ⟨f - 1, by omega⟩
    refine ⟨s, ?_, App.nil h4 h5⟩
    rw [gC_RuleReader_readSigned_50, if_pos (show nI K ≤ nI (K - 0) from Int32.le_refl _), L_1]
  | succ r ih =>
    intro f s z h1 h2 h3 h4 h5
    obtain ⟨f, rfl⟩ : ∃ g, f = g + 1 := ⟨f - 1, by omega⟩
    obtain ⟨u, e1, e2⟩ := C_emit (N := N) (c := 2126) h4 h5 (by omega)
    obtain ⟨s', g1, g2⟩ := ih f u (z + 1) (by omega) (by omega) (by omega) e2.2.1 e2.2.2.1
    refine ⟨s', ?_, e2.tr g2⟩
    rw [gC_RuleReader_readSigned_50, if_neg (show ¬ nI K ≤ nI (K - (r + 1)) from nI_ge (by omega) (by omega)), L_2126, e1, ← g1]
    show gC_RuleReader_readSigned_50 N rC f (nI K) (nI (K - (r + 1)) + 1) u = _
    rw [nI_1, show K - (r + 1) + 1 = K - r by omega]
theorem CLm.base {g : vSt → Option (Int32 × vSt)} (hN : 100 ≤ N) (hp : p ≤ 40) (h45 : chr n x p ≠ 45) (h : JR n x (fC_RuleReader_readThing N rC (nI deep)) g p) : CLm N n x rC deep g p := by
  have c38 : ∀ k f s, 41 < f + p → CSt n x s → s.1 21 4 = nI p → gC_RuleReader_readSigned_4 N rC f (nI deep) (nI k) (nI k) s = gC_RuleReader_readSigned_38 N rC (nI deep) (nI k) s := by
    intro k f s hf h e1
    obtain ⟨f, rfl⟩ : ∃ g, f = g + 1 := ⟨f - 1, by omega⟩
    rw [gC_RuleReader_readSigned_4]
    by_cases c : (40 : Int32) ≤ nI k
    · rw [if_pos c]
    · rw [if_neg c]
      obtain ⟨v, a1, a2⟩ := C_next (N := N) h e1 hp
      have a4 : ¬ v = 45 := by rw [L_45, a2.eq (by omega)]; exact h45
      rw [a1, Option.bind_some, if_neg (show ¬ (v, s).1 = 45 from a4)]
  rcases h with ⟨q, C, h1, h2, h3, h4, h5⟩ | ⟨q, h1, h2, h3⟩
  · refine Or.inl ⟨q, C, h1, h2, h3, fun k f hk hf s z h e1 e2 hz => ?_, h5⟩
    obtain ⟨u, a1, a2⟩ := h4 s z h e1 e2 (by omega)
    obtain ⟨s', b1, b2⟩ := C_negs (N := N) (rC := rC) k (by omega) k N u (z + C.length) (Nat.le_refl _) (by omega) (by omega) a2.2.1 a2.2.2.1
    refine ⟨s', ?_, a2.tr b2⟩
    rw [c38 k f s hf h e1, gC_RuleReader_readSigned_38, a1, Option.bind_some, if_neg (one_ne _), ← b1, Nat.sub_self]
    rfl
  · refine Or.inr ⟨q, h1, fun k f hk hf s z h e1 e2 hz => ?_, h3⟩
    obtain ⟨u, a1, a2, a3⟩ := h2 s z h e1 e2 (by omega)
    refine ⟨u, ?_, a2, a3⟩
    rw [c38 k f s hf h e1, gC_RuleReader_readSigned_38, a1, Option.bind_some, if_pos (zer_eq _), L_0]
theorem CLm.minus {g : vSt → Option (Int32 × vSt)} {rM : Int32 → vSt → Option (Int32 × vSt)} (hp : p < 40) (h45 : chr n x p = 45) (hg : g = gM_EachAddsALineModel_thing_0 N rM (nI deep)) (h : CLm N n x rC deep (rM (nI deep)) (p + 1)) : CLm N n x rC deep g p := by
  subst hg
  have cs : ∀ k f s, k ≤ p → CSt n x s → s.1 21 4 = nI p → gC_RuleReader_readSigned_4 N rC (f + 1) (nI deep) (nI k) (nI k) s = gC_RuleReader_readSigned_4 N rC f (nI deep) (nI (k + 1)) (nI (k + 1)) (s1 s 21 4 (nI (p + 1))) := by
    intro k f s hk h e1
    obtain ⟨v, a1, a2⟩ := C_next (N := N) h e1 (by omega)
    have a4 := a2.nn (by omega)
    rw [h45] at a4
    subst a4
    rw [gC_RuleReader_readSigned_4]
    simp (disch := omega) only [Option.bind_some, ↓reduceIte, ↓M_1, ↓M_2, L_0, L_1, L_2, L_3, L_4, L_5, L_6, L_7, L_8, L_9, L_10, L_11, L_12, L_13, L_20, L_24, L_26, L_30, L_31, L_32, L_39, L_40, L_48, L_57, L_76, L_80, L_90, L_91, L_97, L_99, L_100, L_255, L_273, L_1000, L_2000, q_ld, q_ldL, q_sto, q_stoL, q_add, q_sub, q_mul, q_dec, q_rem, q_div, q_lt_t, q_lt_f, q_le_t, q_le_f, q_eq_t, q_eq_f, q_em, q_me, q_ml, q_lm, q_mle, q_lem, q_s1, q_s1o, q_s1k, q_s12, q_s2, q_s2o, q_s2k, q_s21, Nat.add_sub_cancel, q_or, q_and, q_shl, true_or, or_true, false_or, or_false, true_and, and_true, false_and, and_false, not_true_eq_false, not_false_eq_true, ne_eq, a1, e1, L_45]
  have ms : ∀ t, MSt n x t → t.1 0 15 = nI p → t.1 0 16 = mI 1 → gM_EachAddsALineModel_thing_0 N rM (nI deep) t = (rM (nI deep) (s1 t 0 15 (nI (p + 1)))).bind fun p8 => some (-p8.1, p8.2) := by
    intro t h e1 e2
    have a5 := M_passes_t (N := N) h e1 e2 (by omega) (a := 45) (by omega) h45
    rw [← L_45] at a5
    rw [gM_EachAddsALineModel_thing_0, a5, Option.bind_some, if_neg (one_ne _)]
  rcases h with ⟨q, C, h1, h2, h3, h4, h5⟩ | ⟨q, h1, h2, h3⟩
  · refine Or.inl ⟨q, C ++ [2126], by rw [List.length_append]; show p + (C.length + 1) ≤ q; omega, h2, h3, fun k f hk hf s z h e1 e2 hz => ?_, fun t E h he e1 e2 => ?_⟩
    · obtain ⟨f, rfl⟩ : ∃ g, f = g + 1 := ⟨f - 1, by omega⟩
      obtain ⟨u, a1, a2⟩ := h4 (k + 1) f (by omega) (by omega) (s1 s 21 4 (nI (p + 1))) z (h.f (Fr.s1 (by decide))) (q_s1 _ _ _ _) (by rw [q_s1k (by decide)]; exact e2) (by omega)
      refine ⟨u, (cs k f s hk h e1).trans a1, ?_⟩
      rw [List.append_assoc]
      exact (App.at (p := p) (q := p + 1) e2).tr a2
    · obtain ⟨v, t', a1, a2, a3, a4, a5⟩ := h5 (s1 t 0 15 (nI (p + 1))) E (h.f Fm.r15) (he.fm Fm.r15) (q_s1 _ _ _ _) (by rw [q_s1k (by decide)]; exact e2)
      refine ⟨-v, t', ?_, Fm.r15.tr a2, a3, a4, a5.neg⟩
      rw [ms t h e1 e2, a1, Option.bind_some]
  · refine Or.inr ⟨q, h1, fun k f hk hf s z h e1 e2 hz => ?_, fun t E h he e1 e2 => ?_⟩
    · obtain ⟨f, rfl⟩ : ∃ g, f = g + 1 := ⟨f - 1, by omega⟩
      obtain ⟨u, a1, a2, a3⟩ := h2 (k + 1) f (by omega) (by omega) (s1 s 21 4 (nI (p + 1))) z (h.f (Fr.s1 (by decide))) (q_s1 _ _ _ _) (by rw [q_s1k (by decide)]; exact e2) (by omega)
      exact ⟨u, (cs k f s hk h e1).trans a1, (Fr.s1 (by decide)).tr a2, a3⟩
    · obtain ⟨v, t', a1, a2, a3⟩ := h3 (s1 t 0 15 (nI (p + 1))) E (h.f Fm.r15) (he.fm Fm.r15) (q_s1 _ _ _ _) (by rw [q_s1k (by decide)]; exact e2)
      refine ⟨-v, t', ?_, Fm.r15.tr a2, a3⟩
      rw [ms t h e1 e2, a1, Option.bind_some]
def CLall (N n : Nat) (x : Nat → Nat) (P : Nat → Prop) : Prop := ∀ p deep dC dM, P p → p ≤ n → p ≤ 40 → deep ≤ 4 → 5 ≤ dC + deep → 41 ≤ dM + p → CLm N n x (fC_RuleReader_readExpression N dC) deep (fM_EachAddsALineModel_thing N dM (nI deep)) p
theorem held_of (hN : 100 ≤ N) (ih : CLall N n x (fun q => p ≤ q)) {d c : Nat} (hp : p ≤ n) (hp2 : p ≤ 40) (hd : deep ≤ 4) (hc : 5 ≤ c + deep) (hdM : 41 ≤ d + p) : JR n x (gC_RuleReader_readExpression_0 N (fC_RuleReader_readExpression N c) (nI deep)) (fM_EachAddsALineModel_held N (fM_EachAddsALineModel_thing N d) (nI deep)) p := by
  obtain ⟨d, rfl⟩ : ∃ g, d = g + 1 := ⟨d - 1, by omega⟩
  have hT : ∀ q, p ≤ q → q ≤ n → q ≤ 40 → JR n x (fC_RuleReader_readSigned N (fC_RuleReader_readExpression N c) (nI deep)) (fM_EachAddsALineModel_thing N (d + 1) (nI deep)) q := fun q h1 h2 h3 => (ih q deep c (d + 1) h1 h2 h3 hd hc (by omega)).jr hN
  have hP : ∀ q, p ≤ q → q ≤ n → q ≤ 40 → JR n x (fC_RuleReader_readProduct N (fC_RuleReader_readExpression N c) (nI deep)) (fM_EachAddsALineModel_product N (fM_EachAddsALineModel_thing N (d + 1)) (nI deep)) q := fun q h1 h2 h3 => pr_J hN h2 h3 (fun r g1 g2 g3 => hT r (by omega) g2 g3) (thing_d _)
  have hS : ∀ q, p ≤ q → q ≤ n → q ≤ 40 → JR n x (fC_RuleReader_readSum N (fC_RuleReader_readExpression N c) (nI deep)) (fM_EachAddsALineModel_sum N (fM_EachAddsALineModel_thing N (d + 1)) (nI deep)) q := fun q h1 h2 h3 => su_J hN h2 h3 (fun r g1 g2 g3 => hP r (by omega) g2 g3) (pr_D hN (thing_d _))
  exact held_J hp hp2 hS
theorem CL_step (hN : 100 ≤ N) (ih : CLall N n x (fun q => p < q)) {deep dC dM : Nat} (hp : p ≤ n) (hp2 : p ≤ 40) (hd : deep ≤ 4) (hc : 5 ≤ dC + deep) (hdM : 41 ≤ dM + p) : CLm N n x (fC_RuleReader_readExpression N dC) deep (fM_EachAddsALineModel_thing N dM (nI deep)) p := by
  obtain ⟨d, rfl⟩ : ∃ g, dM = g + 1 := ⟨dM - 1, by omega⟩
  by_cases h45 : chr n x p = 45
  · have hc := chr_lt (n := n) (x := x) (p := p) (by omega)
    exact CLm.minus (rM := fM_EachAddsALineModel_thing N d) hc.2 h45 rfl (ih (p + 1) deep dC d (Nat.lt_succ_self p) (by omega) (by omega) hd (by omega) (by omega))
  · refine CLm.base hN hp2 h45 ?_
    refine thing_J (rM := fM_EachAddsALineModel_thing N d) hN hp hp2 h45 hd (fun h1 h2 => ?_)
    have hc := chr_lt (n := n) (x := x) (p := p) (by omega)
    obtain ⟨c, rfl⟩ : ∃ g, dC = g + 1 := ⟨dC - 1, by omega⟩
    exact held_of (p := p + 1) (deep := deep + 1) hN (fun q deep dC dM h => ih q deep dC dM (show p < q from h)) (by omega) (by omega) (by omega) (by omega) (by omega)
theorem CL_all (hN : 100 ≤ N) : ∀ m, CLall N n x (fun q => 40 ≤ q + m) := by
  intro m
  induction m with
  | zero => intro p deep dC dM h0 hp hp2 hd hc hdM; exact CL_step hN (fun q _ _ _ h1 _ h2 => absurd (show p < q from h1) (by have : 40 ≤ p + 0 := h0; omega)) hp hp2 hd hc hdM
  | succ m ih => intro p deep dC dM h0 hp hp2 hd hc hdM; exact CL_step hN (fun q deep dC dM h1 => ih q deep dC dM (show 40 ≤ q + m by have : 40 ≤ p + (m + 1) := h0; have : p < q := h1; omega)) hp hp2 hd hc hdM
/-- both read the rule alike -/
theorem rule_J (hN : 100 ≤ N) : JR n x (fC_RuleReader_readExpression N 48 (nI 0)) (fM_EachAddsALineModel_held N (fM_EachAddsALineModel_thing N 48) (nI 0)) 0 :=
  held_of (p := 0) (deep := 0) (d := 48) (c := 47) hN (fun q deep dC dM _ => CL_all hN 40 q deep dC dM (show 40 ≤ q + 40 by omega)) (by omega) (by omega) (by omega) (by omega) (by omega)
end RU
