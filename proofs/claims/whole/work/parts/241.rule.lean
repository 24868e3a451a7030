/-! the rule, sign by sign: the class' code and the reference's reading -/
def chr (n : Nat) (x : Nat → Nat) (p : Nat) : Nat := if p < n ∧ p < 40 then x p else 255
def SGn (v : Int32) (y : Nat) : Prop := (y < 128 ∧ v = nI y) ∨ (128 ≤ y ∧ y < 256 ∧ (v < 0 ∨ v = nI y))
theorem SGn.eq {v : Int32} {y a : Nat} (h : SGn v y) (ha : a < 128) : (v = nI a) = (y = a) := by
  rcases h with ⟨h1, rfl⟩ | ⟨h1, h2, h3 | rfl⟩
  · exact propext (nI_eq (by omega) (by omega))
  · refine propext ⟨fun z => ?_, fun z => by omega⟩
    subst z
    exact absurd h3 (nI_pos (by omega))
  · exact propext (nI_eq (by omega) (by omega))
theorem SGn.dig {v : Int32} {y a b : Nat} (h : SGn v y) (ha : a < 128) (hb : b < 128) : (v < nI a ∨ nI b < v) = ¬ (a ≤ y ∧ y ≤ b) := by
  rcases h with ⟨h1, rfl⟩ | ⟨h1, h2, h3 | rfl⟩
  · refine propext ?_
    rw [nI_ltI (by omega) (by omega), nI_ltI (by omega) (by omega)]
    omega
  · exact propext ⟨fun _ => by omega, fun _ => Or.inl (Int32.lt_of_lt_of_le h3 (nI_pos' (by omega)))⟩
  · refine propext ?_
    rw [nI_ltI (by omega) (by omega), nI_ltI (by omega) (by omega)]
    omega
theorem SGn.nn {v : Int32} {y : Nat} (h : SGn v y) (hy : y < 128) : v = nI y := by
  rcases h with ⟨h1, h2⟩ | ⟨h1, _⟩
  · exact h2
  · omega
theorem SGn.pm {y : Nat} (h : y < 256) : SGn (nI y) y := by
  by_cases c : y < 128
  · exact Or.inl ⟨c, rfl⟩
  · exact Or.inr ⟨by omega, h, Or.inr rfl⟩
theorem SGn.by {y : Nat} (h : y < 256) : SGn (byteI y) y := by
  by_cases c : y < 128
  · exact Or.inl ⟨c, by_n c⟩
  · refine Or.inr ⟨by omega, h, Or.inl ?_⟩
    rw [byteI_eq y h, if_neg c]
    exact of_eq_true (q_ml (a := 0) (b := 256 - y) (by omega) (by omega) (by omega))
theorem SGn.m1 : SGn (mI 1) 255 := Or.inr ⟨by omega, by omega, Or.inl (by decide)⟩
def jn (a : Nat) (l r : Int32) : Int32 := if a = 42 then l * r else if a = 43 then l + r else if a = 45 then l - r else if a = 60 then (if r ≤ l then nI 0 else nI 1) else if a = 61 then (if l = r then nI 1 else nI 0) else if a = 62 then (if l ≤ r then nI 0 else nI 1) else if r = nI 0 then nI 0 else l / r
def ev1 (E : Nat → Int32) (j : Nat) (stk : List Int32) : Option (List Int32) :=
  if 3000 ≤ j ∨ (1007 ≤ j ∧ j < 2000) then none else if j < 1000 then some (nI j :: stk) else if j < 2000 then some (E (j - 1000) :: stk) else if j = 2126 then (match stk with | a :: r => some (-a :: r) | [] => none) else (match stk with | b :: a :: r => some (jn (j - 2000) a b :: r) | _ => none)
def evs (E : Nat → Int32) : List Nat → List Int32 → Option (List Int32)
  | [], stk => some stk
  | j :: C, stk => (ev1 E j stk).bind (evs E C)
theorem evs_app (E : Nat → Int32) (C D : List Nat) : ∀ stk, evs E (C ++ D) stk = (evs E C stk).bind (evs E D) := by
  induction C with
  | nil => intro stk; rfl
  | cons j C ih =>
    intro stk
    show (ev1 E j stk).bind (evs E (C ++ D)) = ((ev1 E j stk).bind (evs E C)).bind (evs E D)
    cases ev1 E j stk with
    | none => rfl
    | some r => exact ih r
def Den (E : Nat → Int32) (C : List Nat) (v : Int32) : Prop := ∀ stk, evs E C stk = some (v :: stk)
def Den2 (E : Nat → Int32) (C : List Nat) (a v : Int32) : Prop := ∀ stk, evs E C (a :: stk) = some (v :: stk)
theorem Den.tr {E : Nat → Int32} {C D : List Nat} {a v : Int32} (h : Den E C a) (g : Den2 E D a v) : Den E (C ++ D) v := fun stk => by
  rw [evs_app, h stk]; exact g stk
theorem Den2.tr {E : Nat → Int32} {C D : List Nat} {a b v : Int32} (h : Den2 E C a b) (g : Den2 E D b v) : Den2 E (C ++ D) a v := fun stk => by
  rw [evs_app, h stk]; exact g stk
theorem Den2.nil {E : Nat → Int32} {a : Int32} : Den2 E [] a a := fun _ => rfl
theorem Den.op {E : Nat → Int32} {C : List Nat} {a b : Int32} {c : Nat} (h : Den E C b) (hc : c < 126) : Den2 E (C ++ [2000 + c]) a (jn c a b) := fun stk => by
  rw [evs_app, h (a :: stk)]
  show (ev1 E (2000 + c) (b :: a :: stk)).bind _ = _
  unfold ev1
  rw [if_neg (by omega), if_neg (by omega), if_neg (by omega), if_neg (by omega), show 2000 + c - 2000 = c by omega]
  rfl
theorem Den.neg {E : Nat → Int32} {C : List Nat} {a : Int32} (h : Den E C a) : Den E (C ++ [2126]) (-a) := fun stk => by
  rw [evs_app, h stk]; rfl
theorem Den.num {E : Nat → Int32} {a : Nat} (h : a < 1000) : Den E [a] (nI a) := fun stk => by
  show (ev1 E a stk).bind _ = _
  unfold ev1
  rw [if_neg (by omega), if_pos h]; rfl
theorem Den.fact {E : Nat → Int32} {k : Nat} (h : k < 7) : Den E [1000 + k] (E k) := fun stk => by
  show (ev1 E (1000 + k) stk).bind _ = _
  unfold ev1
  rw [if_neg (by omega), if_neg (by omega), if_pos (by omega), show 1000 + k - 1000 = k by omega]; rfl
/-- behind s: the codes C from z on; the reader at q -/
def App (s s' : vSt) (z q : Nat) (C : List Nat) : Prop := Fr [21, 22] [] s s' ∧ s'.1 21 4 = nI q ∧ s'.1 21 3 = nI (z + C.length) ∧ (∀ k j, C[k]? = some j → s'.1 22 (z + k) = nI j) ∧ ∀ k, k < z → s'.1 22 k = s.1 22 k
theorem App.tr {s s' u : vSt} {z q r : Nat} {C D : List Nat} (h : App s s' z q C) (g : App s' u (z + C.length) r D) : App s u z r (C ++ D) := by
  obtain ⟨h1, h2, h3, h4, h5⟩ := h
  obtain ⟨g1, g2, g3, g4, g5⟩ := g
  refine ⟨h1.tr g1, g2, by rw [g3, List.length_append, Nat.add_assoc], fun k j hk => ?_, fun k hk => (g5 k (by omega)).trans (h5 k hk)⟩
  rw [List.getElem?_append] at hk
  by_cases c : k < C.length
  · rw [if_pos c] at hk
    rw [g5 (z + k) (by omega)]; exact h4 k j hk
  · rw [if_neg c] at hk
    have := g4 _ _ hk
    rw [show z + C.length + (k - C.length) = z + k by omega] at this
    exact this
theorem App.nil {s : vSt} {z p : Nat} (h1 : s.1 21 4 = nI p) (h2 : s.1 21 3 = nI z) : App s s z p [] := ⟨Fr.rf, h1, h2, fun k j hk => (by cases hk), fun _ _ => rfl⟩
theorem App.at {s : vSt} {z p : Nat} (q : Nat) (h2 : s.1 21 3 = nI z) : App s (s1 s 21 4 (nI q)) z q [] := ⟨Fr.s1 (by decide), q_s1 _ _ _ _, by rw [q_s1k (by decide)]; exact h2, fun k j hk => (by cases hk), fun k _ => by rw [q_s1o (by decide)]⟩
section RJ
variable {N : Nat} {s t : vSt} {n p z : Nat} {x : Nat → Nat}
theorem C_emit {c : Nat} (h1 : s.1 21 4 = nI p) (h2 : s.1 21 3 = nI z) (hz : z < 40) : ∃ s', fC_RuleReader_emit N (nI c) s = some s' ∧ App s s' z p [c] := by
  refine ⟨s1 (s1 s 22 z (nI c)) 21 3 (nI (z + 1)), ?_, (Fr.s1 (by decide)).tr (Fr.s1 (by decide)), ?_, q_s1 _ _ _ _, fun k j hk => ?_, fun k hk => ?_⟩
  · simp (disch := omega) only [Option.bind_some, ↓reduceIte, ↓M_1, ↓M_2, L_0, L_1, L_2, L_3, L_4, L_5, L_6, L_7, L_8, L_9, L_10, L_11, L_12, L_13, L_20, L_24, L_26, L_30, L_31, L_32, L_39, L_40, L_48, L_57, L_76, L_80, L_90, L_91, L_97, L_99, L_100, L_255, L_273, L_1000, L_2000, q_ld, q_ldL, q_sto, q_stoL, q_add, q_sub, q_mul, q_dec, q_rem, q_div, q_lt_t, q_lt_f, q_le_t, q_le_f, q_eq_t, q_eq_f, q_em, q_me, q_ml, q_lm, q_mle, q_lem, q_s1, q_s1o, q_s1k, q_s12, q_s2, q_s2o, q_s2k, q_s21, Nat.add_sub_cancel, q_or, q_and, q_shl, true_or, or_true, false_or, or_false, true_and, and_true, false_and, and_false, not_true_eq_false, not_false_eq_true, ne_eq, fC_RuleReader_emit, gC_RuleReader_emit_0, h2]
  · rw [q_s1k (by decide), q_s1o (by decide)]; exact h1
  · cases k with
    | zero =>
      cases hk
      rw [q_s1o (by decide)]; exact q_s1 _ _ _ _
    | succ k => cases hk
  · rw [q_s1o (by decide), q_s1k (by omega)]
def CSt (n : Nat) (x : Nat → Nat) (s : vSt) : Prop := n ≤ 80 ∧ s.1 1 1 = nI n ∧ ∀ k, k < n → x k < 256 ∧ s.1 2 k = nI (x k)
theorem CSt.fr {L K : List Nat} {s' : vSt} (h : CSt n x s) (f : Fr L K s s') (h1 : 1 ∉ L) (h2 : 2 ∉ L) : CSt n x s' := by
  refine ⟨h.1, ?_, fun k hk => ?_⟩
  · rw [f.1 1 h1]; exact h.2.1
  · rw [f.1 2 h2]; exact h.2.2 k hk
theorem C_next (h : CSt n x s) (h1 : s.1 21 4 = nI p) (hp : p ≤ 40) : ∃ v, fC_RuleReader_next N s = some (v, s) ∧ SGn v (chr n x p) := by
  have hn := h.1
  unfold chr
  by_cases c : p < n ∧ p < 40
  · have e := C_signAt (N := N) h.2.1 h.1 c.1
    rw [(h.2.2 p c.1).2] at e
    rw [if_pos c]
    refine ⟨nI (x p), ?_, SGn.pm (h.2.2 p c.1).1⟩
    have := c.2
    simp (disch := omega) only [Option.bind_some, ↓reduceIte, ↓M_1, ↓M_2, L_0, L_1, L_2, L_3, L_4, L_5, L_6, L_7, L_8, L_9, L_10, L_11, L_12, L_13, L_20, L_24, L_26, L_30, L_31, L_32, L_39, L_40, L_48, L_57, L_76, L_80, L_90, L_91, L_97, L_99, L_100, L_255, L_273, L_1000, L_2000, q_ld, q_ldL, q_sto, q_stoL, q_add, q_sub, q_mul, q_dec, q_rem, q_div, q_lt_t, q_lt_f, q_le_t, q_le_f, q_eq_t, q_eq_f, q_em, q_me, q_ml, q_lm, q_mle, q_lem, q_s1, q_s1o, q_s1k, q_s12, q_s2, q_s2o, q_s2k, q_s21, Nat.add_sub_cancel, q_or, q_and, q_shl, true_or, or_true, false_or, or_false, true_and, and_true, false_and, and_false, not_true_eq_false, not_false_eq_true, ne_eq, fC_RuleReader_next, gC_RuleReader_next_0, h1, e]
  · rw [if_neg c]
    refine ⟨mI 1, ?_, SGn.m1⟩
    by_cases d : p < 40
    · have e := C_signAt_no (N := N) h.2.1 h.1 (p := p) (by omega) (by omega)
      simp (disch := omega) only [Option.bind_some, ↓reduceIte, ↓M_1, ↓M_2, L_0, L_1, L_2, L_3, L_4, L_5, L_6, L_7, L_8, L_9, L_10, L_11, L_12, L_13, L_20, L_24, L_26, L_30, L_31, L_32, L_39, L_40, L_48, L_57, L_76, L_80, L_90, L_91, L_97, L_99, L_100, L_255, L_273, L_1000, L_2000, q_ld, q_ldL, q_sto, q_stoL, q_add, q_sub, q_mul, q_dec, q_rem, q_div, q_lt_t, q_lt_f, q_le_t, q_le_f, q_eq_t, q_eq_f, q_em, q_me, q_ml, q_lm, q_mle, q_lem, q_s1, q_s1o, q_s1k, q_s12, q_s2, q_s2o, q_s2k, q_s21, Nat.add_sub_cancel, q_or, q_and, q_shl, true_or, or_true, false_or, or_false, true_and, and_true, false_and, and_false, not_true_eq_false, not_false_eq_true, ne_eq, fC_RuleReader_next, gC_RuleReader_next_0, h1, e]
    · simp (disch := omega) only [Option.bind_some, ↓reduceIte, ↓M_1, ↓M_2, L_0, L_1, L_2, L_3, L_4, L_5, L_6, L_7, L_8, L_9, L_10, L_11, L_12, L_13, L_20, L_24, L_26, L_30, L_31, L_32, L_39, L_40, L_48, L_57, L_76, L_80, L_90, L_91, L_97, L_99, L_100, L_255, L_273, L_1000, L_2000, q_ld, q_ldL, q_sto, q_stoL, q_add, q_sub, q_mul, q_dec, q_rem, q_div, q_lt_t, q_lt_f, q_le_t, q_le_f, q_eq_t, q_eq_f, q_em, q_me, q_ml, q_lm, q_mle, q_lem, q_s1, q_s1o, q_s1k, q_s12, q_s2, q_s2o, q_s2k, q_s21, Nat.add_sub_cancel, q_or, q_and, q_shl, true_or, or_true, false_or, or_false, true_and, and_true, false_and, and_false, not_true_eq_false, not_false_eq_true, ne_eq, fC_RuleReader_next, gC_RuleReader_next_0, h1]
theorem C_isDig {v : Int32} {y : Nat} (h : SGn v y) : fC_Text_isDigit N v s = some (if 48 ≤ y ∧ y ≤ 57 then nI 1 else nI 0, s) := by
  rcases h with ⟨h1, rfl⟩ | ⟨h1, h2, h3 | rfl⟩
  · exact C_isDigit (by omega)
  · rw [if_neg (by omega)]
    simp (disch := omega) only [Option.bind_some, ↓reduceIte, ↓M_1, ↓M_2, L_0, L_1, L_2, L_3, L_4, L_5, L_6, L_7, L_8, L_9, L_10, L_11, L_12, L_13, L_20, L_24, L_26, L_30, L_31, L_32, L_39, L_40, L_48, L_57, L_76, L_80, L_90, L_91, L_97, L_99, L_100, L_255, L_273, L_1000, L_2000, q_ld, q_ldL, q_sto, q_stoL, q_add, q_sub, q_mul, q_dec, q_rem, q_div, q_lt_t, q_lt_f, q_le_t, q_le_f, q_eq_t, q_eq_f, q_em, q_me, q_ml, q_lm, q_mle, q_lem, q_s1, q_s1o, q_s1k, q_s12, q_s2, q_s2o, q_s2k, q_s21, Nat.add_sub_cancel, q_or, q_and, q_shl, true_or, or_true, false_or, or_false, true_and, and_true, false_and, and_false, not_true_eq_false, not_false_eq_true, ne_eq, fC_Text_isDigit, gC_Text_isDigit_0, gC_Text_isDigit_16, neg_lt h3, neg_nle h3, neg_ne h3, neg_le h3]
  · exact C_isDigit (by omega)
/-- what the reference reads: a text (row 6) or the rule (row 8) -/
def MSt (n : Nat) (x : Nat → Nat) (t : vSt) : Prop := n ≤ 80 ∧ t.1 0 13 = nI n ∧ t.1 0 14 = nI 40 ∧ ((t.1 0 12 = nI 6 ∧ ∀ k, k < n → x k < 256 ∧ t.1 6 k = byteI (x k)) ∨ (t.1 0 12 = nI 8 ∧ ∀ k, k < n → x k < 256 ∧ t.1 8 k = byteI (x k)))
theorem MSt.fm {L K F : List Nat} {t' : vSt} (h : MSt n x t) (f : Fm L K F t t') (h6 : 6 ∉ L ∧ 8 ∉ L) (hF : 12 ∉ F ∧ 13 ∉ F ∧ 14 ∉ F) : MSt n x t' := by
  refine ⟨h.1, ?_, ?_, ?_⟩
  · rw [f.2.2 13 hF.2.1]; exact h.2.1
  · rw [f.2.2 14 hF.2.2]; exact h.2.2.1
  · rw [f.2.2 12 hF.1, f.1 6 (by decide) h6.1, f.1 8 (by decide) h6.2]; exact h.2.2.2
theorem M_hereR (h : MSt n x t) (h1 : t.1 0 15 = nI p) (hp : p ≤ 40) : ∃ v, fM_EachAddsALineModel_here N t = some (v, t) ∧ SGn v (chr n x p) := by
  obtain ⟨hn, h13, h14, h2⟩ := h
  unfold chr
  by_cases c : p < n ∧ p < 40
  · rw [if_pos c]
    have c1 := c.1
    have c2 := c.2
    rcases h2 with ⟨h12, h6⟩ | ⟨h12, h8⟩
    · refine ⟨byteI (x p), ?_, SGn.by (h6 p c1).1⟩
      rw [M_here6 h12 h13 h14 h1 hn (by omega) c1 c2, (h6 p c1).2]
    · refine ⟨byteI (x p), ?_, SGn.by (h8 p c1).1⟩
      rw [← (h8 p c1).2]
      simp (disch := omega) only [Option.bind_some, ↓reduceIte, ↓M_1, ↓M_2, L_0, L_1, L_2, L_3, L_4, L_5, L_6, L_7, L_8, L_9, L_10, L_11, L_12, L_13, L_20, L_24, L_26, L_30, L_31, L_32, L_39, L_40, L_48, L_57, L_76, L_80, L_90, L_91, L_97, L_99, L_100, L_255, L_273, L_1000, L_2000, q_ld, q_ldL, q_sto, q_stoL, q_add, q_sub, q_mul, q_dec, q_rem, q_div, q_lt_t, q_lt_f, q_le_t, q_le_f, q_eq_t, q_eq_f, q_em, q_me, q_ml, q_lm, q_mle, q_lem, q_s1, q_s1o, q_s1k, q_s12, q_s2, q_s2o, q_s2k, q_s21, Nat.add_sub_cancel, q_or, q_and, q_shl, true_or, or_true, false_or, or_false, true_and, and_true, false_and, and_false, not_true_eq_false, not_false_eq_true, ne_eq, fM_EachAddsALineModel_here, gM_EachAddsALineModel_here_0, h12, h13, h14, h1]
  · rw [if_neg c]
    exact ⟨mI 1, M_here_no h13 h14 h1 hn (by omega) (by omega) c, SGn.m1⟩
theorem M_inR {v : Int32} {y : Nat} (h : SGn v y) : fM_EachAddsALineModel_in N v (nI 48) (nI 57) t = some (if 48 ≤ y ∧ y ≤ 57 then nI 1 else nI 0, t) := by
  rw [M_in_any]
  by_cases c : 48 ≤ y ∧ y ≤ 57
  · rw [if_neg (show ¬ (v < nI 48 ∨ nI 57 < v) by rw [h.dig (by omega) (by omega)]; exact fun q => q c), if_pos c]; rfl
  · rw [if_pos (show (v < nI 48 ∨ nI 57 < v) by rw [h.dig (by omega) (by omega)]; exact c), if_neg c]; rfl
theorem M_passes_t (h : MSt n x t) (h1 : t.1 0 15 = nI p) (h2 : t.1 0 16 = mI 1) (hp : p ≤ 40) {a : Nat} (ha : a < 128) (hc : chr n x p = a) : fM_EachAddsALineModel_passes N (nI a) t = some (nI 1, s1 t 0 15 (nI (p + 1))) := by
  obtain ⟨v, e1, e2⟩ := M_hereR (N := N) h h1 hp
  have e3 : v = nI a := by rw [e2.eq ha]; exact hc
  subst e3
  simp (disch := omega) only [Option.bind_some, ↓reduceIte, ↓M_1, ↓M_2, L_0, L_1, L_2, L_3, L_4, L_5, L_6, L_7, L_8, L_9, L_10, L_11, L_12, L_13, L_20, L_24, L_26, L_30, L_31, L_32, L_39, L_40, L_48, L_57, L_76, L_80, L_90, L_91, L_97, L_99, L_100, L_255, L_273, L_1000, L_2000, q_ld, q_ldL, q_sto, q_stoL, q_add, q_sub, q_mul, q_dec, q_rem, q_div, q_lt_t, q_lt_f, q_le_t, q_le_f, q_eq_t, q_eq_f, q_em, q_me, q_ml, q_lm, q_mle, q_lem, q_s1, q_s1o, q_s1k, q_s12, q_s2, q_s2o, q_s2k, q_s21, Nat.add_sub_cancel, q_or, q_and, q_shl, true_or, or_true, false_or, or_false, true_and, and_true, false_and, and_false, not_true_eq_false, not_false_eq_true, ne_eq, fM_EachAddsALineModel_passes, gM_EachAddsALineModel_passes_0, M_fine_t h2, e1, h1]
theorem M_passes_f (h : MSt n x t) (h1 : t.1 0 15 = nI p) (h2 : t.1 0 16 = mI 1) (hp : p ≤ 40) {a : Nat} (ha : a < 128) (hc : chr n x p ≠ a) : fM_EachAddsALineModel_passes N (nI a) t = some (nI 0, t) := by
  obtain ⟨v, e1, e2⟩ := M_hereR (N := N) h h1 hp
  have e3 : ¬ v = nI a := by rw [e2.eq ha]; exact hc
  simp (disch := omega) only [Option.bind_some, ↓reduceIte, ↓M_1, ↓M_2, L_0, L_1, L_2, L_3, L_4, L_5, L_6, L_7, L_8, L_9, L_10, L_11, L_12, L_13, L_20, L_24, L_26, L_30, L_31, L_32, L_39, L_40, L_48, L_57, L_76, L_80, L_90, L_91, L_97, L_99, L_100, L_255, L_273, L_1000, L_2000, q_ld, q_ldL, q_sto, q_stoL, q_add, q_sub, q_mul, q_dec, q_rem, q_div, q_lt_t, q_lt_f, q_le_t, q_le_f, q_eq_t, q_eq_f, q_em, q_me, q_ml, q_lm, q_mle, q_lem, q_s1, q_s1o, q_s1k, q_s12, q_s2, q_s2o, q_s2k, q_s21, Nat.add_sub_cancel, q_or, q_and, q_shl, true_or, or_true, false_or, or_false, true_and, and_true, false_and, and_false, not_true_eq_false, not_false_eq_true, ne_eq, fM_EachAddsALineModel_passes, gM_EachAddsALineModel_passes_0, M_fine_t h2, e1, e3]
theorem M_passes_d {q : Nat} {a : Int32} (h2 : t.1 0 16 = nI q) (hq : q < 1000) : fM_EachAddsALineModel_passes N a t = some (nI 0, t) := by
  simp (disch := omega) only [Option.bind_some, ↓reduceIte, ↓M_1, ↓M_2, L_0, L_1, L_2, L_3, L_4, L_5, L_6, L_7, L_8, L_9, L_10, L_11, L_12, L_13, L_20, L_24, L_26, L_30, L_31, L_32, L_39, L_40, L_48, L_57, L_76, L_80, L_90, L_91, L_97, L_99, L_100, L_255, L_273, L_1000, L_2000, q_ld, q_ldL, q_sto, q_stoL, q_add, q_sub, q_mul, q_dec, q_rem, q_div, q_lt_t, q_lt_f, q_le_t, q_le_f, q_eq_t, q_eq_f, q_em, q_me, q_ml, q_lm, q_mle, q_lem, q_s1, q_s1o, q_s1k, q_s12, q_s2, q_s2o, q_s2k, q_s21, Nat.add_sub_cancel, q_or, q_and, q_shl, true_or, or_true, false_or, or_false, true_and, and_true, false_and, and_false, not_true_eq_false, not_false_eq_true, ne_eq, fM_EachAddsALineModel_passes, gM_EachAddsALineModel_passes_0, M_fine_f h2 hq]
/-- numbers -/
def nm (n : Nat) (x : Nat → Nat) : Nat → Nat → Nat → Nat × Nat
  | 0, a, p => (a, p)
  | r + 1, a, p => if 48 ≤ chr n x p ∧ chr n x p ≤ 57 then nm n x r (10 * a + (chr n x p - 48)) (p + 1) else (a, p)
theorem chr_lt {p : Nat} (h : chr n x p < 128) : p < n ∧ p < 40 := by
  unfold chr at h
  by_cases c : p < n ∧ p < 40
  · exact c
  · rw [if_neg c] at h; omega
def nB (r a : Nat) : Prop := (r = 3 ∧ a < 1) ∨ (r = 2 ∧ a < 10) ∨ (r = 1 ∧ a < 100) ∨ (r = 0 ∧ a < 1000)
theorem nm_le : ∀ r a p, nB r a → p ≤ 40 → (nm n x r a p).1 < 1000 ∧ p ≤ (nm n x r a p).2 ∧ (nm n x r a p).2 ≤ 40 ∧ (p ≤ n → (nm n x r a p).2 ≤ n) := by
  intro r
  induction r with
  | zero => intro a p h hp; unfold nB at h; show a < 1000 ∧ p ≤ p ∧ p ≤ 40 ∧ (p ≤ n → p ≤ n); omega
  | succ r ih =>
    intro a p h hp
    rw [nm]
    by_cases c : 48 ≤ chr n x p ∧ chr n x p ≤ 57
    · rw [if_pos c]
      have hc := chr_lt (show chr n x p < 128 by omega)
      have := ih (10 * a + (chr n x p - 48)) (p + 1) (by unfold nB at h ⊢; omega) (by omega)
      omega
    · rw [if_neg c]
      unfold nB at h
      show a < 1000 ∧ p ≤ p ∧ p ≤ 40 ∧ (p ≤ n → p ≤ n)
      omega
theorem C_num : ∀ r a p f s z, nB r a → r ≤ 3 → r < f → p ≤ 40 → z < 40 → CSt n x s → s.1 21 4 = nI p → s.1 21 3 = nI z → ∃ s', gC_RuleReader_readNumber_4 N f (nI a) (nI (3 - r)) s = some s' ∧ App s s' z (nm n x r a p).2 [(nm n x r a p).1] := by
  intro r
  induction r with
  | zero =>
    intro a p f s z hB hr hf hp hz h h1 h2
    obtain ⟨f, rfl⟩ : ∃ g, f = g + 1 := ⟨f - 1, by omega⟩
    obtain ⟨s', e1, e2⟩ := C_emit (N := N) (c := a) h1 h2 hz
    refine ⟨s', ?_, e2⟩
    rw [gC_RuleReader_readNumber_4]
    simp (disch := omega) only [Option.bind_some, ↓reduceIte, ↓M_1, ↓M_2, L_0, L_1, L_2, L_3, L_4, L_5, L_6, L_7, L_8, L_9, L_10, L_11, L_12, L_13, L_20, L_24, L_26, L_30, L_31, L_32, L_39, L_40, L_48, L_57, L_76, L_80, L_90, L_91, L_97, L_99, L_100, L_255, L_273, L_1000, L_2000, q_ld, q_ldL, q_sto, q_stoL, q_add, q_sub, q_mul, q_dec, q_rem, q_div, q_lt_t, q_lt_f, q_le_t, q_le_f, q_eq_t, q_eq_f, q_em, q_me, q_ml, q_lm, q_mle, q_lem, q_s1, q_s1o, q_s1k, q_s12, q_s2, q_s2o, q_s2k, q_s21, Nat.add_sub_cancel, q_or, q_and, q_shl, true_or, or_true, false_or, or_false, true_and, and_true, false_and, and_false, not_true_eq_false, not_false_eq_true, ne_eq, e1]
  | succ r ih =>
    intro a p f s z hB hr hf hp hz h h1 h2
    obtain ⟨f, rfl⟩ : ∃ g, f = g + 1 := ⟨f - 1, by omega⟩
    obtain ⟨v, e1, e2⟩ := C_next (N := N) h h1 hp
    have e3 := C_isDig (N := N) (s := s) e2
    rw [gC_RuleReader_readNumber_4, nm]
    by_cases c : 48 ≤ chr n x p ∧ chr n x p ≤ 57
    · have hc := chr_lt (show chr n x p < 128 by omega)
      have ev := e2.nn (by omega)
      subst ev
      rw [if_pos c] at e3 ⊢
      obtain ⟨s', g1, g2⟩ := ih (10 * a + (chr n x p - 48)) (p + 1) f (s1 s 21 4 (nI (p + 1))) z (by unfold nB at hB ⊢; omega) (by omega) (by omega) (by omega) hz (h.fr (Fr.s1 (L := [21]) (K := []) (by decide)) (by decide) (by decide)) (q_s1 _ _ _ _) (by rw [q_s1k (by decide)]; exact h2)
      refine ⟨s', ?_, (App.at (p := p) (p + 1) h2).tr g2⟩
      rw [← g1, show 3 - r = 3 - (r + 1) + 1 by omega, show 10 * a + (chr n x p - 48) = 10 * a + chr n x p - 48 by omega]
      have := c.1
      simp (disch := omega) only [Option.bind_some, ↓reduceIte, ↓M_1, ↓M_2, L_0, L_1, L_2, L_3, L_4, L_5, L_6, L_7, L_8, L_9, L_10, L_11, L_12, L_13, L_20, L_24, L_26, L_30, L_31, L_32, L_39, L_40, L_48, L_57, L_76, L_80, L_90, L_91, L_97, L_99, L_100, L_255, L_273, L_1000, L_2000, q_ld, q_ldL, q_sto, q_stoL, q_add, q_sub, q_mul, q_dec, q_rem, q_div, q_lt_t, q_lt_f, q_le_t, q_le_f, q_eq_t, q_eq_f, q_em, q_me, q_ml, q_lm, q_mle, q_lem, q_s1, q_s1o, q_s1k, q_s12, q_s2, q_s2o, q_s2k, q_s21, Nat.add_sub_cancel, q_or, q_and, q_shl, true_or, or_true, false_or, or_false, true_and, and_true, false_and, and_false, not_true_eq_false, not_false_eq_true, ne_eq, e1, e3, h1]
    · rw [if_neg c] at e3 ⊢
      obtain ⟨s', g1, g2⟩ := C_emit (N := N) (c := a) h1 h2 hz
      refine ⟨s', ?_, g2⟩
      simp (disch := omega) only [Option.bind_some, ↓reduceIte, ↓M_1, ↓M_2, L_0, L_1, L_2, L_3, L_4, L_5, L_6, L_7, L_8, L_9, L_10, L_11, L_12, L_13, L_20, L_24, L_26, L_30, L_31, L_32, L_39, L_40, L_48, L_57, L_76, L_80, L_90, L_91, L_97, L_99, L_100, L_255, L_273, L_1000, L_2000, q_ld, q_ldL, q_sto, q_stoL, q_add, q_sub, q_mul, q_dec, q_rem, q_div, q_lt_t, q_lt_f, q_le_t, q_le_f, q_eq_t, q_eq_f, q_em, q_me, q_ml, q_lm, q_mle, q_lem, q_s1, q_s1o, q_s1k, q_s12, q_s2, q_s2o, q_s2k, q_s21, Nat.add_sub_cancel, q_or, q_and, q_shl, true_or, or_true, false_or, or_false, true_and, and_true, false_and, and_false, not_true_eq_false, not_false_eq_true, ne_eq, e1, e3, g1]
theorem M_num : ∀ r a p f t from0, nB r a → r ≤ 3 → r < f → p ≤ 40 → from0 + 3 = p + r → (r < 3 ∨ (48 ≤ chr n x p ∧ chr n x p ≤ 57)) → MSt n x t → t.1 0 15 = nI p → t.1 0 16 = mI 1 → ∃ t', gM_EachAddsALineModel_number_16 N f (nI 3) (nI from0) (nI a) t = some (nI (nm n x r a p).1, t') ∧ Fm [] [] [15] t t' ∧ t'.1 0 15 = nI (nm n x r a p).2 := by
  intro r
  induction r with
  | zero =>
    intro a p f t from0 hB hr hf hp hfr hd h h1 h2
    obtain ⟨f, rfl⟩ : ∃ g, f = g + 1 := ⟨f - 1, by omega⟩
    refine ⟨t, ?_, Fm.rf, h1⟩
    rw [gM_EachAddsALineModel_number_16]
    simp (disch := omega) only [Option.bind_some, ↓reduceIte, ↓M_1, ↓M_2, L_0, L_1, L_2, L_3, L_4, L_5, L_6, L_7, L_8, L_9, L_10, L_11, L_12, L_13, L_20, L_24, L_26, L_30, L_31, L_32, L_39, L_40, L_48, L_57, L_76, L_80, L_90, L_91, L_97, L_99, L_100, L_255, L_273, L_1000, L_2000, q_ld, q_ldL, q_sto, q_stoL, q_add, q_sub, q_mul, q_dec, q_rem, q_div, q_lt_t, q_lt_f, q_le_t, q_le_f, q_eq_t, q_eq_f, q_em, q_me, q_ml, q_lm, q_mle, q_lem, q_s1, q_s1o, q_s1k, q_s12, q_s2, q_s2o, q_s2k, q_s21, Nat.add_sub_cancel, q_or, q_and, q_shl, true_or, or_true, false_or, or_false, true_and, and_true, false_and, and_false, not_true_eq_false, not_false_eq_true, ne_eq, h1, gM_EachAddsALineModel_number_66]
    rfl
  | succ r ih =>
    intro a p f t from0 hB hr hf hp hfr hd h h1 h2
    obtain ⟨f, rfl⟩ : ∃ g, f = g + 1 := ⟨f - 1, by omega⟩
    obtain ⟨v, e1, e2⟩ := M_hereR (N := N) h h1 hp
    have e3 := M_inR (N := N) (t := t) e2
    rw [gM_EachAddsALineModel_number_16, nm]
    by_cases c : 48 ≤ chr n x p ∧ chr n x p ≤ 57
    · have hc := chr_lt (show chr n x p < 128 by omega)
      have ev := e2.nn (by omega)
      subst ev
      rw [if_pos c] at e3 ⊢
      obtain ⟨t', g1, g2, g3⟩ := ih (10 * a + (chr n x p - 48)) (p + 1) f (s1 t 0 15 (nI (p + 1))) from0 (by unfold nB at hB ⊢; omega) (by omega) (by omega) (by omega) (by omega) (by omega) (h.fm (Fm.w10 (L := []) (K := []) (F := [15]) (by decide)) (by decide) (by decide)) (q_s1 _ _ _ _) (by rw [q_s1k (by decide)]; exact h2)
      refine ⟨t', ?_, (Fm.w10 (by decide)).tr g2, g3⟩
      rw [← g1, show 10 * a + (chr n x p - 48) = 10 * a + chr n x p - 48 by omega]
      have := c.1
      simp (disch := omega) only [Option.bind_some, ↓reduceIte, ↓M_1, ↓M_2, L_0, L_1, L_2, L_3, L_4, L_5, L_6, L_7, L_8, L_9, L_10, L_11, L_12, L_13, L_20, L_24, L_26, L_30, L_31, L_32, L_39, L_40, L_48, L_57, L_76, L_80, L_90, L_91, L_97, L_99, L_100, L_255, L_273, L_1000, L_2000, q_ld, q_ldL, q_sto, q_stoL, q_add, q_sub, q_mul, q_dec, q_rem, q_div, q_lt_t, q_lt_f, q_le_t, q_le_f, q_eq_t, q_eq_f, q_em, q_me, q_ml, q_lm, q_mle, q_lem, q_s1, q_s1o, q_s1k, q_s12, q_s2, q_s2o, q_s2k, q_s21, Nat.add_sub_cancel, q_or, q_and, q_shl, true_or, or_true, false_or, or_false, true_and, and_true, false_and, and_false, not_true_eq_false, not_false_eq_true, ne_eq, e1, e3, h1]
    · rw [if_neg c] at e3 ⊢
      have hr3 : r + 1 < 3 := by omega
      refine ⟨t, ?_, Fm.rf, h1⟩
      simp (disch := omega) only [Option.bind_some, ↓reduceIte, ↓M_1, ↓M_2, L_0, L_1, L_2, L_3, L_4, L_5, L_6, L_7, L_8, L_9, L_10, L_11, L_12, L_13, L_20, L_24, L_26, L_30, L_31, L_32, L_39, L_40, L_48, L_57, L_76, L_80, L_90, L_91, L_97, L_99, L_100, L_255, L_273, L_1000, L_2000, q_ld, q_ldL, q_sto, q_stoL, q_add, q_sub, q_mul, q_dec, q_rem, q_div, q_lt_t, q_lt_f, q_le_t, q_le_f, q_eq_t, q_eq_f, q_em, q_me, q_ml, q_lm, q_mle, q_lem, q_s1, q_s1o, q_s1k, q_s12, q_s2, q_s2o, q_s2k, q_s21, Nat.add_sub_cancel, q_or, q_and, q_shl, true_or, or_true, false_or, or_false, true_and, and_true, false_and, and_false, not_true_eq_false, not_false_eq_true, ne_eq, e1, e3, h1, gM_EachAddsALineModel_number_66]
end RJ
