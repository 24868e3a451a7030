/-! the first of the least rows, step by step -/
def trP (w : Nat → Nat → Nat) (u k : Nat) (V : Nat → Nat → Nat → Bool) (j : Nat) (x : Nat × Nat) (s : Nat) : Bool := (if x.1 = 100 then decide (beg w u k s) else decide (fol w s x.1)) && V j x.2 s
def trS (w : Nat → Nat → Nat) (u k : Nat) (V : Nat → Nat → Nat → Bool) (wt : Nat → Nat → Nat) (a : Nat) : Nat → Nat × Nat
  | 0 => (100, a)
  | j + 1 => (fst1 (trP w u k V j (trS w u k V wt a j)) (2 * w 5 1), (trS w u k V wt a j).2 - wt j (fst1 (trP w u k V j (trS w u k V wt a j)) (2 * w 5 1)))
def trQ (w : Nat → Nat → Nat) (u k : Nat) (V : Nat → Nat → Nat → Bool) (wt : Nat → Nat → Nat) (a j : Nat) : Nat := fst1 (trP w u k V j (trS w u k V wt a j)) (2 * w 5 1)
def vTab (T : Nat → Nat × Nat) (n j left s : Nat) : Bool := decide (T s = (left, n - j))
theorem trP_eq (w : Nat → Nat → Nat) (u k : Nat) (V : Nat → Nat → Nat → Bool) (j : Nat) (x : Nat × Nat) (s : Nat) : trP w u k V j x s = ((if x.1 = 100 then decide (beg w u k s) else decide (fol w s x.1)) && V j x.2 s) := rfl
theorem vTab_t {T : Nat → Nat × Nat} {n j left s : Nat} (h : T s = (left, n - j)) : vTab T n j left s = true := decide_eq_true h
theorem vTab_of {T : Nat → Nat × Nat} {n j left s : Nat} (h : vTab T n j left s = true) : T s = (left, n - j) := of_decide_eq_true h
section TQ
variable {w : Nat → Nat → Nat} {u k v what bb br go : Nat}
theorem tr_ok (h : okW w) {b : Nat} (hb : b < 2 * w 5 1) (h1 : beg w u k b) (h2 : (TB w v what bb br go b).1 < 1000000) : ∀ j, j < (TB w v what bb br go b).2 →
    trQ w u k (vTab (TB w v what bb br go) (TB w v what bb br go b).2) (fun _ s => wo w what s) (TB w v what bb br go b).1 j < 2 * w 5 1 ∧
    (trS w u k (vTab (TB w v what bb br go) (TB w v what bb br go b).2) (fun _ s => wo w what s) (TB w v what bb br go b).1 j).2 < 1000000 ∧
    TB w v what bb br go (trQ w u k (vTab (TB w v what bb br go) (TB w v what bb br go b).2) (fun _ s => wo w what s) (TB w v what bb br go b).1 j) = ((trS w u k (vTab (TB w v what bb br go) (TB w v what bb br go b).2) (fun _ s => wo w what s) (TB w v what bb br go b).1 j).2, (TB w v what bb br go b).2 - j) := by
  have hM := h.2.1
  have fin : ∀ j o, o < 2 * w 5 1 → trP w u k (vTab (TB w v what bb br go) (TB w v what bb br go b).2) j (trS w u k (vTab (TB w v what bb br go) (TB w v what bb br go b).2) (fun _ s => wo w what s) (TB w v what bb br go b).1 j) o = true → trQ w u k (vTab (TB w v what bb br go) (TB w v what bb br go b).2) (fun _ s => wo w what s) (TB w v what bb br go b).1 j < 2 * w 5 1 ∧ TB w v what bb br go (trQ w u k (vTab (TB w v what bb br go) (TB w v what bb br go b).2) (fun _ s => wo w what s) (TB w v what bb br go b).1 j) = ((trS w u k (vTab (TB w v what bb br go) (TB w v what bb br go b).2) (fun _ s => wo w what s) (TB w v what bb br go b).1 j).2, (TB w v what bb br go b).2 - j) := fun j o ho hp => by
    have hq := fst1_ex ho hp
    have ht := fst1_lt hq
    refine ⟨hq, ?_⟩
    rw [trP_eq, Bool.and_eq_true] at ht
    exact vTab_of ht.2
  intro j
  induction j with
  | zero =>
    intro hj
    have := fin 0 b hb (by
      rw [trP_eq, Bool.and_eq_true]
      refine ⟨?_, vTab_t rfl⟩
      rw [if_pos (show (trS w u k _ _ _ 0).1 = 100 from rfl)]
      exact decide_eq_true h1)
    exact ⟨this.1, h2, this.2⟩
  | succ j ih =>
    intro hj
    obtain ⟨i1, i2, i3⟩ := ih (by omega)
    generalize hq : trQ w u k (vTab (TB w v what bb br go) (TB w v what bb br go b).2) (fun _ s => wo w what s) (TB w v what bb br go b).1 j = q at i1 i3
    have es : trS w u k (vTab (TB w v what bb br go) (TB w v what bb br go b).2) (fun _ s => wo w what s) (TB w v what bb br go b).1 (j + 1) = (q, (trS w u k (vTab (TB w v what bb br go) (TB w v what bb br go b).2) (fun _ s => wo w what s) (TB w v what bb br go b).1 j).2 - wo w what q) := by rw [← hq]; rfl
    generalize trS w u k (vTab (TB w v what bb br go) (TB w v what bb br go b).2) (fun _ s => wo w what s) (TB w v what bb br go b).1 j = x at i2 i3 es
    rcases TB_att (v := v) (what := what) (bb := bb) (br := br) (go := go) h i1 with z | ⟨z1, z2, z3, z4⟩ | ⟨o, z1, z2, z3, z4, z5, z6⟩
    · rw [i3] at z
      have := congrArg Prod.fst z
      simp only at this
      omega
    · rw [i3] at z4
      have := congrArg Prod.snd z4
      simp only at this
      omega
    · rw [i3] at z6
      unfold prP at z6
      have y1 := congrArg Prod.fst z6
      have y2 := congrArg Prod.snd z6
      simp only at y1 y2
      have := fin (j + 1) o z1 (by
        rw [es, trP_eq, Bool.and_eq_true]
        refine ⟨?_, vTab_t (Prod.ext ?_ ?_)⟩
        · rw [if_neg (show ¬ (q, x.2 - wo w what q).1 = 100 by show ¬ q = 100; omega)]
          exact decide_eq_true z2
        · show (TB w v what bb br go o).1 = x.2 - wo w what q
          omega
        · show (TB w v what bb br go o).2 = (TB w v what bb br go b).2 - (j + 1)
          omega)
      refine ⟨this.1, ?_, this.2⟩
      rw [es]
      show x.2 - wo w what q < 1000000
      omega
end TQ
def sbm (w : Nat → Nat → Nat) (T : Nat → Nat × Nat) (u k : Nat) : Nat := fz (fun s x => if beg w u k s then min x (T s).1 else x) 1000000 (2 * w 5 1)
def bst (w : Nat → Nat → Nat) (T : Nat → Nat × Nat) (u k n : Nat) : Nat := fz (fun s x => if beg w u k s ∧ (T s).1 < 1000000 ∧ (x = 100 ∨ lessP (T s) (T x)) then s else x) 100 n
theorem q_min {a b : Nat} (ha : a < 2 ^ 31) (hb : b < 2 ^ 31) : (if nI a > nI b then nI b else nI a) = nI (min a b) := by
  by_cases d : b < a
  · rw [if_pos (nI_lt d ha), show min a b = b by omega]
  · rw [if_neg (nI_nlt (by omega) hb), show min a b = a by omega]
theorem q_max {a b : Nat} (ha : a < 2 ^ 31) (hb : b < 2 ^ 31) : (if nI a < nI b then nI b else nI a) = nI (max a b) := by
  by_cases d : a < b
  · rw [if_pos (nI_lt d hb), show max a b = b by omega]
  · rw [if_neg (nI_nlt (by omega) ha), show max a b = a by omega]
theorem gI_nI {g : Nat} (h : g < 100) : gI g = nI g := if_pos h
theorem gI_no {g : Nat} (h : ¬ g < 100) : gI g = mI 1 := if_neg h
theorem fz_min_le (f : Nat → Nat → Nat) (h : ∀ s x, f s x ≤ x) (z n : Nat) : fz f z n ≤ z := fz_ind (f := f) (n := n) (fun _ a => a ≤ z) (Nat.le_refl _) (fun k a _ ha => Nat.le_trans (h k a) ha) n (Nat.le_refl _)
theorem sbm_le (w : Nat → Nat → Nat) (T : Nat → Nat × Nat) (u k : Nat) : sbm w T u k ≤ 1000000 := fz_min_le _ (fun s x => by split <;> omega) _ _
theorem bst_ok (w : Nat → Nat → Nat) (T : Nat → Nat × Nat) (u k n : Nat) (hn : n ≤ 100) : (bst w T u k n = 100 ∧ ∀ s, s < n → beg w u k s → 1000000 ≤ (T s).1) ∨ (bst w T u k n < n ∧ beg w u k (bst w T u k n) ∧ (T (bst w T u k n)).1 < 1000000 ∧ ∀ s, s < n → beg w u k s → ¬ lessP (T s) (T (bst w T u k n))) := by
  refine fz_ind (f := fun s x => if beg w u k s ∧ (T s).1 < 1000000 ∧ (x = 100 ∨ lessP (T s) (T x)) then s else x) (z := 100) (n := n) (fun i a => (a = 100 ∧ ∀ s, s < i → beg w u k s → 1000000 ≤ (T s).1) ∨ (a < i ∧ beg w u k a ∧ (T a).1 < 1000000 ∧ ∀ s, s < i → beg w u k s → ¬ lessP (T s) (T a))) (Or.inl ⟨rfl, fun s hs => by omega⟩) (fun i a hi hq => ?_) n (Nat.le_refl _)
  by_cases c : beg w u k i ∧ (T i).1 < 1000000 ∧ (a = 100 ∨ lessP (T i) (T a))
  · rw [if_pos c]
    refine Or.inr ⟨by omega, c.1, c.2.1, fun s hs hb z => ?_⟩
    by_cases d : s = i
    · subst d; unfold lessP at z; omega
    · rcases hq with ⟨q1, q2⟩ | ⟨q1, q2, q3, q4⟩
      · have := q2 s (by omega) hb
        have := c.2.1
        unfold lessP at z
        omega
      · refine q4 s (by omega) hb ?_
        have c3 := c.2.2
        rcases c3 with c3 | c3
        · omega
        · unfold lessP at z c3 ⊢; omega
  · rw [if_neg c]
    rcases hq with ⟨q1, q2⟩ | ⟨q1, q2, q3, q4⟩
    · refine Or.inl ⟨q1, fun s hs hb => ?_⟩
      by_cases d : s = i
      · subst d
        rcases Nat.lt_or_ge (T s).1 1000000 with z | z
        · exact absurd ⟨hb, z, Or.inl q1⟩ c
        · exact z
      · exact q2 s (by omega) hb
    · refine Or.inr ⟨by omega, q2, q3, fun s hs hb z => ?_⟩
      by_cases d : s = i
      · subst d
        refine c ⟨hb, ?_, Or.inr z⟩
        unfold lessP at z; omega
      · exact q4 s (by omega) hb z
section MT
variable {N : Nat} {w : Nat → Nat → Nat} {t : vSt} {u k v what bb br go : Nat}
theorem M_sb13 {T : Nat → Nat × Nat} (h : MW w t) (hN : 60 ≤ N) (hu : u < w 5 0) (hk : k < 1000) (h30 : t.1 0 30 = nI (2 * w 5 1)) (hT : ∀ s, s < 2 * w 5 1 → t.1 12 s = nI (T s).1 ∧ (T s).1 ≤ 1000000) : gM_EachAddsALineModel_soonestBy_13 N N (nI u) (nI k) (nI 1000000) (nI 0) t = some (nI (sbm w T u k), t) := by
  have hb := h.bd
  refine loopS (fun f i (a : Nat) => gM_EachAddsALineModel_soonestBy_13 N f (nI u) (nI k) (nI a) (nI i) t) (fz (fun s x => if beg w u k s then min x (T s).1 else x) 1000000) (2 * w 5 1) _ (fun f i hi => ?_) (fun f => ?_) N (by omega)
  · have e1 := M_begins (N := N) h hi hu hk
    have e2 := (hT i hi).1
    have e3 := (hT i hi).2
    have e4 : fz (fun s x => if beg w u k s then min x (T s).1 else x) 1000000 i ≤ 1000000 := fz_min_le _ (fun s x => by split <;> omega) _ _
    show gM_EachAddsALineModel_soonestBy_13 N (f + 1) (nI u) (nI k) (nI (fz (fun s x => if beg w u k s then min x (T s).1 else x) 1000000 i)) (nI i) t = gM_EachAddsALineModel_soonestBy_13 N f (nI u) (nI k) (nI (if beg w u k i then min (fz (fun s x => if beg w u k s then min x (T s).1 else x) 1000000 i) (T i).1 else fz (fun s x => if beg w u k s then min x (T s).1 else x) 1000000 i)) (nI (i + 1)) t
    generalize fz (fun s x => if beg w u k s then min x (T s).1 else x) 1000000 i = a at e4
    rw [gM_EachAddsALineModel_soonestBy_13]
    by_cases c : beg w u k i
    · rw [if_pos c] at e1 ⊢
      simp (disch := omega) only [Option.bind_some, ↓reduceIte, ↓M_1, ↓M_2, L_0, L_1, L_2, L_3, L_4, L_5, L_6, L_7, L_8, L_9, L_10, L_11, L_12, L_13, L_20, L_24, L_26, L_30, L_31, L_32, L_39, L_40, L_48, L_57, L_76, L_80, L_90, L_91, L_97, L_99, L_100, L_255, L_273, L_1000, L_2000, q_ld, q_ldL, q_sto, q_stoL, q_add, q_sub, q_mul, q_dec, q_rem, q_div, q_lt_t, q_lt_f, q_le_t, q_le_f, q_eq_t, q_eq_f, q_em, q_me, q_ml, q_lm, q_mle, q_lem, q_s1, q_s1o, q_s1k, q_s12, q_s2, q_s2o, q_s2k, q_s21, Nat.add_sub_cancel, q_or, q_and, q_shl, true_or, or_true, false_or, or_false, true_and, and_true, false_and, and_false, not_true_eq_false, not_false_eq_true, ne_eq, h30, e1, e2, q_min, gM_EachAddsALineModel_soonestBy_47]
    · rw [if_neg c] at e1 ⊢
      simp (disch := omega) only [Option.bind_some, ↓reduceIte, ↓M_1, ↓M_2, L_0, L_1, L_2, L_3, L_4, L_5, L_6, L_7, L_8, L_9, L_10, L_11, L_12, L_13, L_20, L_24, L_26, L_30, L_31, L_32, L_39, L_40, L_48, L_57, L_76, L_80, L_90, L_91, L_97, L_99, L_100, L_255, L_273, L_1000, L_2000, q_ld, q_ldL, q_sto, q_stoL, q_add, q_sub, q_mul, q_dec, q_rem, q_div, q_lt_t, q_lt_f, q_le_t, q_le_f, q_eq_t, q_eq_f, q_em, q_me, q_ml, q_lm, q_mle, q_lem, q_s1, q_s1o, q_s1k, q_s12, q_s2, q_s2o, q_s2k, q_s21, Nat.add_sub_cancel, q_or, q_and, q_shl, true_or, or_true, false_or, or_false, true_and, and_true, false_and, and_false, not_true_eq_false, not_false_eq_true, ne_eq, h30, e1, gM_EachAddsALineModel_soonestBy_47]
  · show gM_EachAddsALineModel_soonestBy_13 N (f + 1) (nI u) (nI k) (nI (sbm w T u k)) (nI (2 * w 5 1)) t = _
    rw [gM_EachAddsALineModel_soonestBy_13]
    simp (disch := omega) only [Option.bind_some, ↓reduceIte, ↓M_1, ↓M_2, L_0, L_1, L_2, L_3, L_4, L_5, L_6, L_7, L_8, L_9, L_10, L_11, L_12, L_13, L_20, L_24, L_26, L_30, L_31, L_32, L_39, L_40, L_48, L_57, L_76, L_80, L_90, L_91, L_97, L_99, L_100, L_255, L_273, L_1000, L_2000, q_ld, q_ldL, q_sto, q_stoL, q_add, q_sub, q_mul, q_dec, q_rem, q_div, q_lt_t, q_lt_f, q_le_t, q_le_f, q_eq_t, q_eq_f, q_em, q_me, q_ml, q_lm, q_mle, q_lem, q_s1, q_s1o, q_s1k, q_s12, q_s2, q_s2o, q_s2k, q_s21, Nat.add_sub_cancel, q_or, q_and, q_shl, true_or, or_true, false_or, or_false, true_and, and_true, false_and, and_false, not_true_eq_false, not_false_eq_true, ne_eq, h30]
theorem M_soonestBy (h : MW w t) (hN : 60 ≤ N) (hu : u < w 5 0) (hv : v < w 5 0) (hk : k < 1000) (hbb : bb < 2 ^ 31) (hbr : br < 512) (h33 : t.1 0 33 = nI br) (h34 : t.1 0 34 = nI bb) (h35 : t.1 0 35 = gI go) :
    ∃ t', fM_EachAddsALineModel_soonestBy N (nI u) (nI v) (nI k) t = some (nI (sbm w (TB w v 0 bb br go) u k), t') ∧ Fm [11, 12, 13] [] [30] t t' := by
  obtain ⟨z, a1, a2, a3, a4⟩ := M_findBest (what := 0) h hN hv (by decide) hbb hbr h33 h34 h35
  refine ⟨z, ?_, a2⟩
  simp (disch := omega) only [Option.bind_some, ↓reduceIte, ↓M_1, ↓M_2, L_0, L_1, L_2, L_3, L_4, L_5, L_6, L_7, L_8, L_9, L_10, L_11, L_12, L_13, L_20, L_24, L_26, L_30, L_31, L_32, L_39, L_40, L_48, L_57, L_76, L_80, L_90, L_91, L_97, L_99, L_100, L_255, L_273, L_1000, L_2000, q_ld, q_ldL, q_sto, q_stoL, q_add, q_sub, q_mul, q_dec, q_rem, q_div, q_lt_t, q_lt_f, q_le_t, q_le_f, q_eq_t, q_eq_f, q_em, q_me, q_ml, q_lm, q_mle, q_lem, q_s1, q_s1o, q_s1k, q_s12, q_s2, q_s2o, q_s2k, q_s21, Nat.add_sub_cancel, q_or, q_and, q_shl, true_or, or_true, false_or, or_false, true_and, and_true, false_and, and_false, not_true_eq_false, not_false_eq_true, ne_eq, fM_EachAddsALineModel_soonestBy, gM_EachAddsALineModel_soonestBy_0, a1, L_1000000]
  exact M_sb13 (h.fm a2 (by decide) (by decide)) hN hu hk a3 (fun s hs => ⟨(a4 s hs).1, (TB_lt h.ok hs).1⟩)
/-- the next step of the row -/
theorem M_tbHead (R : Int32 → Int32 → Int32 → Int32 → Int32 → Int32 → Int32 → Int32 → vSt → Option (Int32 × vSt)) (f : Nat) {A a6 a7 a8 a10 c : Int32} {x1 i : Nat} (h : MW w t) (hu : u < w 5 0) (hk : k < 1000) (h30 : t.1 0 30 = nI (2 * w 5 1)) (hi : i < 2 * w 5 1) (hx : x1 = 100 ∨ x1 < 2 * w 5 1) :
    gM_EachAddsALineModel_tellBest_151 N R (f + 1) (nI u) (nI k) A a6 a7 a8 (gI x1) a10 c (nI i) t = if (if x1 = 100 then decide (beg w u k i) else decide (fol w i x1)) = true then gM_EachAddsALineModel_tellBest_191 N (gM_EachAddsALineModel_tellBest_151 N R f) (nI u) (nI k) A a6 a7 a8 (gI x1) a10 c (nI i) t else gM_EachAddsALineModel_tellBest_151 N R f (nI u) (nI k) A a6 a7 a8 (gI x1) a10 c (nI (i + 1)) t := by
  have hb := h.bd
  rw [gM_EachAddsALineModel_tellBest_151]
  by_cases d : x1 = 100
  · have e1 := M_begins (N := N) h hi hu hk
    rw [if_pos d, d, gI_no (g := 100) (by decide)]
    by_cases g : beg w u k i
    · rw [if_pos g] at e1
      rw [if_pos (decide_eq_true g)]
      simp (disch := omega) only [Option.bind_some, ↓reduceIte, ↓M_1, ↓M_2, L_0, L_1, L_2, L_3, L_4, L_5, L_6, L_7, L_8, L_9, L_10, L_11, L_12, L_13, L_20, L_24, L_26, L_30, L_31, L_32, L_39, L_40, L_48, L_57, L_76, L_80, L_90, L_91, L_97, L_99, L_100, L_255, L_273, L_1000, L_2000, q_ld, q_ldL, q_sto, q_stoL, q_add, q_sub, q_mul, q_dec, q_rem, q_div, q_lt_t, q_lt_f, q_le_t, q_le_f, q_eq_t, q_eq_f, q_em, q_me, q_ml, q_lm, q_mle, q_lem, q_s1, q_s1o, q_s1k, q_s12, q_s2, q_s2o, q_s2k, q_s21, Nat.add_sub_cancel, q_or, q_and, q_shl, true_or, or_true, false_or, or_false, true_and, and_true, false_and, and_false, not_true_eq_false, not_false_eq_true, ne_eq, h30, e1]
    · rw [if_neg g] at e1
      rw [if_neg (show ¬ decide (beg w u k i) = true by rw [decide_eq_false g]; decide)]
      simp (disch := omega) only [Option.bind_some, ↓reduceIte, ↓M_1, ↓M_2, L_0, L_1, L_2, L_3, L_4, L_5, L_6, L_7, L_8, L_9, L_10, L_11, L_12, L_13, L_20, L_24, L_26, L_30, L_31, L_32, L_39, L_40, L_48, L_57, L_76, L_80, L_90, L_91, L_97, L_99, L_100, L_255, L_273, L_1000, L_2000, q_ld, q_ldL, q_sto, q_stoL, q_add, q_sub, q_mul, q_dec, q_rem, q_div, q_lt_t, q_lt_f, q_le_t, q_le_f, q_eq_t, q_eq_f, q_em, q_me, q_ml, q_lm, q_mle, q_lem, q_s1, q_s1o, q_s1k, q_s12, q_s2, q_s2o, q_s2k, q_s21, Nat.add_sub_cancel, q_or, q_and, q_shl, true_or, or_true, false_or, or_false, true_and, and_true, false_and, and_false, not_true_eq_false, not_false_eq_true, ne_eq, h30, e1, gM_EachAddsALineModel_tellBest_239]
  · have hx1 : x1 < 2 * w 5 1 := hx.elim (fun z => absurd z d) id
    have e1 := M_follows (N := N) h hi hx1
    rw [if_neg d, gI_nI (g := x1) (by omega)]
    by_cases g : fol w i x1
    · rw [if_pos g] at e1
      rw [if_pos (decide_eq_true g)]
      simp (disch := omega) only [Option.bind_some, ↓reduceIte, ↓M_1, ↓M_2, L_0, L_1, L_2, L_3, L_4, L_5, L_6, L_7, L_8, L_9, L_10, L_11, L_12, L_13, L_20, L_24, L_26, L_30, L_31, L_32, L_39, L_40, L_48, L_57, L_76, L_80, L_90, L_91, L_97, L_99, L_100, L_255, L_273, L_1000, L_2000, q_ld, q_ldL, q_sto, q_stoL, q_add, q_sub, q_mul, q_dec, q_rem, q_div, q_lt_t, q_lt_f, q_le_t, q_le_f, q_eq_t, q_eq_f, q_em, q_me, q_ml, q_lm, q_mle, q_lem, q_s1, q_s1o, q_s1k, q_s12, q_s2, q_s2o, q_s2k, q_s21, Nat.add_sub_cancel, q_or, q_and, q_shl, true_or, or_true, false_or, or_false, true_and, and_true, false_and, and_false, not_true_eq_false, not_false_eq_true, ne_eq, h30, e1]
    · rw [if_neg g] at e1
      rw [if_neg (show ¬ decide (fol w i x1) = true by rw [decide_eq_false g]; decide)]
      simp (disch := omega) only [Option.bind_some, ↓reduceIte, ↓M_1, ↓M_2, L_0, L_1, L_2, L_3, L_4, L_5, L_6, L_7, L_8, L_9, L_10, L_11, L_12, L_13, L_20, L_24, L_26, L_30, L_31, L_32, L_39, L_40, L_48, L_57, L_76, L_80, L_90, L_91, L_97, L_99, L_100, L_255, L_273, L_1000, L_2000, q_ld, q_ldL, q_sto, q_stoL, q_add, q_sub, q_mul, q_dec, q_rem, q_div, q_lt_t, q_lt_f, q_le_t, q_le_f, q_eq_t, q_eq_f, q_em, q_me, q_ml, q_lm, q_mle, q_lem, q_s1, q_s1o, q_s1k, q_s12, q_s2, q_s2o, q_s2k, q_s21, Nat.add_sub_cancel, q_or, q_and, q_shl, true_or, or_true, false_or, or_false, true_and, and_true, false_and, and_false, not_true_eq_false, not_false_eq_true, ne_eq, h30, e1, gM_EachAddsALineModel_tellBest_239]
theorem M_tb191 (R : Int32 → Int32 → Int32 → Int32 → Int32 → Int32 → Int32 → Int32 → Int32 → Int32 → vSt → Option (Int32 × vSt)) {T : Nat → Nat × Nat} {a1 a3 A a6 a9 c : Int32} {n L j i : Nat} (hi : i < 40) (h1 : t.1 12 i = nI (T i).1) (h2 : t.1 13 i = nI (T i).2) (h3 : (T i).1 ≤ 1000000) (h4 : (T i).2 ≤ 1000000) (hj : j ≤ n) (hn : n ≤ 1000) (hL : L < 2000000) :
    gM_EachAddsALineModel_tellBest_191 N R a1 a3 A a6 (nI n) (nI L) a9 (nI j) c (nI i) t = if T i = (L, n - j) then (if c = mI 1 then R a1 a3 A a6 (nI n) (nI L) a9 (nI j) (nI i) (nI (i + 1)) t else if c / nI 2 ≤ nI (i / 2) then R a1 a3 A a6 (nI n) (nI L) a9 (nI j) c (nI (i + 1)) t else R a1 a3 A a6 (nI n) (nI L) a9 (nI j) (nI i) (nI (i + 1)) t) else R a1 a3 A a6 (nI n) (nI L) a9 (nI j) c (nI (i + 1)) t := by
  by_cases c1 : (T i).1 = L
  · by_cases c2 : (T i).2 = n - j
    · rw [if_pos (Prod.ext c1 c2)]
      simp (disch := omega) only [Option.bind_some, ↓reduceIte, ↓M_1, ↓M_2, L_0, L_1, L_2, L_3, L_4, L_5, L_6, L_7, L_8, L_9, L_10, L_11, L_12, L_13, L_20, L_24, L_26, L_30, L_31, L_32, L_39, L_40, L_48, L_57, L_76, L_80, L_90, L_91, L_97, L_99, L_100, L_255, L_273, L_1000, L_2000, q_ld, q_ldL, q_sto, q_stoL, q_add, q_sub, q_mul, q_dec, q_rem, q_div, q_lt_t, q_lt_f, q_le_t, q_le_f, q_eq_t, q_eq_f, q_em, q_me, q_ml, q_lm, q_mle, q_lem, q_s1, q_s1o, q_s1k, q_s12, q_s2, q_s2o, q_s2k, q_s21, Nat.add_sub_cancel, q_or, q_and, q_shl, true_or, or_true, false_or, or_false, true_and, and_true, false_and, and_false, not_true_eq_false, not_false_eq_true, ne_eq, gM_EachAddsALineModel_tellBest_191, gM_EachAddsALineModel_tellBest_235, gM_EachAddsALineModel_tellBest_239, h1, h2]
    · rw [if_neg (fun z => c2 (congrArg Prod.snd z))]
      simp (disch := omega) only [Option.bind_some, ↓reduceIte, ↓M_1, ↓M_2, L_0, L_1, L_2, L_3, L_4, L_5, L_6, L_7, L_8, L_9, L_10, L_11, L_12, L_13, L_20, L_24, L_26, L_30, L_31, L_32, L_39, L_40, L_48, L_57, L_76, L_80, L_90, L_91, L_97, L_99, L_100, L_255, L_273, L_1000, L_2000, q_ld, q_ldL, q_sto, q_stoL, q_add, q_sub, q_mul, q_dec, q_rem, q_div, q_lt_t, q_lt_f, q_le_t, q_le_f, q_eq_t, q_eq_f, q_em, q_me, q_ml, q_lm, q_mle, q_lem, q_s1, q_s1o, q_s1k, q_s12, q_s2, q_s2o, q_s2k, q_s21, Nat.add_sub_cancel, q_or, q_and, q_shl, true_or, or_true, false_or, or_false, true_and, and_true, false_and, and_false, not_true_eq_false, not_false_eq_true, ne_eq, gM_EachAddsALineModel_tellBest_191, gM_EachAddsALineModel_tellBest_235, gM_EachAddsALineModel_tellBest_239, h1, h2]
  · rw [if_neg (fun z => c1 (congrArg Prod.fst z))]
    simp (disch := omega) only [Option.bind_some, ↓reduceIte, ↓M_1, ↓M_2, L_0, L_1, L_2, L_3, L_4, L_5, L_6, L_7, L_8, L_9, L_10, L_11, L_12, L_13, L_20, L_24, L_26, L_30, L_31, L_32, L_39, L_40, L_48, L_57, L_76, L_80, L_90, L_91, L_97, L_99, L_100, L_255, L_273, L_1000, L_2000, q_ld, q_ldL, q_sto, q_stoL, q_add, q_sub, q_mul, q_dec, q_rem, q_div, q_lt_t, q_lt_f, q_le_t, q_le_f, q_eq_t, q_eq_f, q_em, q_me, q_ml, q_lm, q_mle, q_lem, q_s1, q_s1o, q_s1k, q_s12, q_s2, q_s2o, q_s2k, q_s21, Nat.add_sub_cancel, q_or, q_and, q_shl, true_or, or_true, false_or, or_false, true_and, and_true, false_and, and_false, not_true_eq_false, not_false_eq_true, ne_eq, gM_EachAddsALineModel_tellBest_191, gM_EachAddsALineModel_tellBest_239, h1]
/-- what the first of some is, one step on -/
theorem fst1_next (p : Nat → Bool) (i : Nat) : (if fst1 p (i + 1) < i + 1 then fst1 p (i + 1) else 100) = if fst1 p i < i then fst1 p i else if p i = true then i else 100 := by
  rw [fst1]
  have := fst1_le p i
  by_cases d : fst1 p i < i
  · rw [if_pos d, if_pos (show fst1 p i < i + 1 by omega), if_pos d]
  · rw [if_neg d, if_neg d]
    by_cases e : p i = true
    · rw [if_pos e, if_pos (show i < i + 1 by omega), if_pos e]
    · rw [if_neg e, if_neg (show ¬ i + 1 < i + 1 by omega), if_neg e]
theorem M_tb151 (R : Int32 → Int32 → Int32 → Int32 → Int32 → Int32 → Int32 → Int32 → vSt → Option (Int32 × vSt)) {T : Nat → Nat × Nat} {a n j : Nat} {x : Nat × Nat} (h : MW w t) (hN : 60 ≤ N) (hu : u < w 5 0) (hk : k < 1000) (h30 : t.1 0 30 = nI (2 * w 5 1))
    (hT : ∀ s, s < 2 * w 5 1 → t.1 12 s = nI (T s).1 ∧ t.1 13 s = nI (T s).2 ∧ (T s).1 ≤ 1000000 ∧ (T s).2 ≤ 1000000) (hx : x.1 = 100 ∨ x.1 < 2 * w 5 1) (hx2 : x.2 < 2000000) (hj : j < n) (hn : n ≤ 1000)
    (hq : fst1 (trP w u k (vTab T n) j x) (2 * w 5 1) < 2 * w 5 1) :
    gM_EachAddsALineModel_tellBest_151 N R N (nI u) (nI k) (nI what) (nI a) (nI n) (nI x.2) (gI x.1) (nI j) (mI 1) (nI 0) t =
    if 12 ≤ t.1 0 10 then gM_EachAddsALineModel_tellBest_262 N R (nI u) (nI k) (nI what) (nI a) (nI n) (nI x.2) (nI j) (nI (fst1 (trP w u k (vTab T n) j x) (2 * w 5 1))) t
    else (fM_EachAddsALineModel_tell N (nI (fst1 (trP w u k (vTab T n) j x) (2 * w 5 1) / 2)) t).bind fun z1 => gM_EachAddsALineModel_tellBest_262 N R (nI u) (nI k) (nI what) (nI a) (nI n) (nI x.2) (nI j) (nI (fst1 (trP w u k (vTab T n) j x) (2 * w 5 1))) z1 := by
  have hb := h.bd
  refine loopS (fun f i (c : Nat) => gM_EachAddsALineModel_tellBest_151 N R f (nI u) (nI k) (nI what) (nI a) (nI n) (nI x.2) (gI x.1) (nI j) (gI c) (nI i) t) (fun i => if fst1 (trP w u k (vTab T n) j x) i < i then fst1 (trP w u k (vTab T n) j x) i else 100) (2 * w 5 1) _ (fun f i hi => ?_) (fun f => ?_) N (by omega)
  · obtain ⟨t1, t2, t3, t4⟩ := hT i hi
    have hle := fst1_le (trP w u k (vTab T n) j x) i
    have e1 := M_tbHead (N := N) R f (A := nI what) (a6 := nI a) (a7 := nI n) (a8 := nI x.2) (a10 := nI j) (c := gI (if fst1 (trP w u k (vTab T n) j x) i < i then fst1 (trP w u k (vTab T n) j x) i else 100)) h hu hk h30 hi hx
    have e2 := M_tb191 (N := N) (t := t) (gM_EachAddsALineModel_tellBest_151 N R f) (a1 := nI u) (a3 := nI k) (A := nI what) (a6 := nI a) (a9 := gI x.1) (c := gI (if fst1 (trP w u k (vTab T n) j x) i < i then fst1 (trP w u k (vTab T n) j x) i else 100)) (i := i) (L := x.2) (by omega) t1 t2 t3 t4 (show j ≤ n by omega) hn hx2
    have ep := trP_eq w u k (vTab T n) j x i
    show gM_EachAddsALineModel_tellBest_151 N R (f + 1) (nI u) (nI k) (nI what) (nI a) (nI n) (nI x.2) (gI x.1) (nI j) (gI (if fst1 (trP w u k (vTab T n) j x) i < i then fst1 (trP w u k (vTab T n) j x) i else 100)) (nI i) t = gM_EachAddsALineModel_tellBest_151 N R f (nI u) (nI k) (nI what) (nI a) (nI n) (nI x.2) (gI x.1) (nI j) (gI (if fst1 (trP w u k (vTab T n) j x) (i + 1) < i + 1 then fst1 (trP w u k (vTab T n) j x) (i + 1) else 100)) (nI (i + 1)) t
    rw [fst1_next, e1, e2]
    generalize fst1 (trP w u k (vTab T n) j x) i = c at hle
    generalize (if x.1 = 100 then decide (beg w u k i) else decide (fol w i x.1)) = ab at ep
    by_cases d1 : ab = true
    · rw [if_pos d1]
      by_cases d2 : T i = (x.2, n - j)
      · rw [if_pos d2]
        have d3 : trP w u k (vTab T n) j x i = true := by rw [ep, d1, vTab_t d2]; rfl
        by_cases d : c < i
        · rw [if_pos d, if_pos d, gI_nI (g := c) (by omega)]
          have hh : c / 2 ≤ i / 2 := by omega
          simp (disch := omega) only [Option.bind_some, ↓reduceIte, ↓M_1, ↓M_2, L_0, L_1, L_2, L_3, L_4, L_5, L_6, L_7, L_8, L_9, L_10, L_11, L_12, L_13, L_20, L_24, L_26, L_30, L_31, L_32, L_39, L_40, L_48, L_57, L_76, L_80, L_90, L_91, L_97, L_99, L_100, L_255, L_273, L_1000, L_2000, q_ld, q_ldL, q_sto, q_stoL, q_add, q_sub, q_mul, q_dec, q_rem, q_div, q_lt_t, q_lt_f, q_le_t, q_le_f, q_eq_t, q_eq_f, q_em, q_me, q_ml, q_lm, q_mle, q_lem, q_s1, q_s1o, q_s1k, q_s12, q_s2, q_s2o, q_s2k, q_s21, Nat.add_sub_cancel, q_or, q_and, q_shl, true_or, or_true, false_or, or_false, true_and, and_true, false_and, and_false, not_true_eq_false, not_false_eq_true, ne_eq]
        · rw [if_neg d, if_neg d, if_pos d3, gI_no (g := 100) (by decide), gI_nI (g := i) (by omega), if_pos rfl]
      · rw [if_neg d2]
        have d3 : ¬ trP w u k (vTab T n) j x i = true := fun z => d2 (by
          rw [ep, Bool.and_eq_true] at z
          exact vTab_of z.2)
        rw [if_neg d3]
    · rw [if_neg d1]
      have d3 : ¬ trP w u k (vTab T n) j x i = true := fun z => d1 (by
        rw [ep, Bool.and_eq_true] at z
        exact z.1)
      rw [if_neg d3]
  · show gM_EachAddsALineModel_tellBest_151 N R (f + 1) (nI u) (nI k) (nI what) (nI a) (nI n) (nI x.2) (gI x.1) (nI j) (gI (if fst1 (trP w u k (vTab T n) j x) (2 * w 5 1) < 2 * w 5 1 then fst1 (trP w u k (vTab T n) j x) (2 * w 5 1) else 100)) (nI (2 * w 5 1)) t = _
    rw [if_pos hq, gI_nI (g := fst1 (trP w u k (vTab T n) j x) (2 * w 5 1)) (by omega), gM_EachAddsALineModel_tellBest_151, h30, if_pos (Int32.le_refl _)]
    generalize fst1 (trP w u k (vTab T n) j x) (2 * w 5 1) = q at hq
    rw [show nI q / 2 = nI (q / 2) from q_div (by omega) (by decide) (by decide)]
theorem M_tellBest_no (h : MW w t) (hN : 60 ≤ N) (hu : u < w 5 0) (hv : v < w 5 0) (hk : k < 1000) (hw : what < 3) (hbb : bb < 2 ^ 31) (hbr : br < 512) (h33 : t.1 0 33 = nI br) (h34 : t.1 0 34 = nI bb) (h35 : t.1 0 35 = gI go) (P : Option (Int32 × vSt) → Prop)
    (hP : ∀ z, Fm [11, 12, 13] [] [30] t z → z.1 0 30 = nI (2 * w 5 1) → (∀ s, s < 2 * w 5 1 → z.1 12 s = nI (TB w v what bb br go s).1 ∧ z.1 13 s = nI (TB w v what bb br go s).2) → ∀ f, P (gM_EachAddsALineModel_tellBest_13 N (f + 1) (nI u) (nI k) (nI what) (gI (bst w (TB w v what bb br go) u k (2 * w 5 1))) (nI (2 * w 5 1)) z)) : P (fM_EachAddsALineModel_tellBest N (nI u) (nI v) (nI k) (nI what) t) := by
  have hb := h.bd
  obtain ⟨z, a1, a2, a3, a4⟩ := M_findBest (what := what) h hN hv hw hbb hbr h33 h34 h35
  have hz : MW w z := h.fm a2 (by decide) (by decide)
  simp (disch := omega) only [Option.bind_some, ↓reduceIte, ↓M_1, ↓M_2, L_0, L_1, L_2, L_3, L_4, L_5, L_6, L_7, L_8, L_9, L_10, L_11, L_12, L_13, L_20, L_24, L_26, L_30, L_31, L_32, L_39, L_40, L_48, L_57, L_76, L_80, L_90, L_91, L_97, L_99, L_100, L_255, L_273, L_1000, L_2000, q_ld, q_ldL, q_sto, q_stoL, q_add, q_sub, q_mul, q_dec, q_rem, q_div, q_lt_t, q_lt_f, q_le_t, q_le_f, q_eq_t, q_eq_f, q_em, q_me, q_ml, q_lm, q_mle, q_lem, q_s1, q_s1o, q_s1k, q_s12, q_s2, q_s2o, q_s2k, q_s21, Nat.add_sub_cancel, q_or, q_and, q_shl, true_or, or_true, false_or, or_false, true_and, and_true, false_and, and_false, not_true_eq_false, not_false_eq_true, ne_eq, fM_EachAddsALineModel_tellBest, gM_EachAddsALineModel_tellBest_0, a1]
  refine loopU (fun f i (c : Nat) => gM_EachAddsALineModel_tellBest_13 N f (nI u) (nI k) (nI what) (gI c) (nI i) z) (2 * w 5 1) (fun i c => i ≤ 2 * w 5 1 ∧ c = bst w (TB w v what bb br go) u k i) P ?_ ?_ (2 * w 5 1) N 0 100 (by omega) (by omega) ⟨by omega, rfl⟩
  · rintro f i c hi ⟨_, rfl⟩
    refine Or.inl ⟨_, ?_, by omega, rfl⟩
    have es : bst w (TB w v what bb br go) u k (i + 1) = if beg w u k i ∧ (TB w v what bb br go i).1 < 1000000 ∧ (bst w (TB w v what bb br go) u k i = 100 ∨ lessP (TB w v what bb br go i) (TB w v what bb br go (bst w (TB w v what bb br go) u k i))) then i else bst w (TB w v what bb br go) u k i := rfl
    have hb' : bst w (TB w v what bb br go) u k i = 100 ∨ bst w (TB w v what bb br go) u k i < i := (bst_ok w (TB w v what bb br go) u k i (by omega)).imp (fun z => z.1) (fun z => z.1)
    rw [es]
    generalize bst w (TB w v what bb br go) u k i = c at hb'
    have e1 := M_begins (N := N) hz hi hu hk
    have hlt := TB_lt (v := v) (what := what) (bb := bb) (br := br) (go := go) h.ok hi
    obtain ⟨t1, t2⟩ := a4 i hi
    by_cases g1 : beg w u k i
    · rw [if_pos g1] at e1
      by_cases g2 : (TB w v what bb br go i).1 < 1000000
      · by_cases g3 : c = 100
        · rw [show (if beg w u k i ∧ (TB w v what bb br go i).1 < 1000000 ∧ (c = 100 ∨ lessP (TB w v what bb br go i) (TB w v what bb br go c)) then i else c) = i from if_pos ⟨g1, g2, Or.inl g3⟩, g3, gI_no (g := 100) (by decide), gI_nI (g := i) (by omega), gM_EachAddsALineModel_tellBest_13]
          simp (disch := omega) only [Option.bind_some, ↓reduceIte, ↓M_1, ↓M_2, L_0, L_1, L_2, L_3, L_4, L_5, L_6, L_7, L_8, L_9, L_10, L_11, L_12, L_13, L_20, L_24, L_26, L_30, L_31, L_32, L_39, L_40, L_48, L_57, L_76, L_80, L_90, L_91, L_97, L_99, L_100, L_255, L_273, L_1000, L_2000, q_ld, q_ldL, q_sto, q_stoL, q_add, q_sub, q_mul, q_dec, q_rem, q_div, q_lt_t, q_lt_f, q_le_t, q_le_f, q_eq_t, q_eq_f, q_em, q_me, q_ml, q_lm, q_mle, q_lem, q_s1, q_s1o, q_s1k, q_s12, q_s2, q_s2o, q_s2k, q_s21, Nat.add_sub_cancel, q_or, q_and, q_shl, true_or, or_true, false_or, or_false, true_and, and_true, false_and, and_false, not_true_eq_false, not_false_eq_true, ne_eq, a3, e1, t1, L_1000000, gM_EachAddsALineModel_tellBest_86, gM_EachAddsALineModel_tellBest_90]
        · have hc : c < i := hb'.elim (fun z => absurd z g3) id
          have hlc := TB_lt (v := v) (what := what) (bb := bb) (br := br) (go := go) h.ok (s := c) (by omega)
          obtain ⟨t3, t4⟩ := a4 c (by omega)
          have el := M_isLess (N := N) (t := z) (a := (TB w v what bb br go i).1) (n := (TB w v what bb br go i).2) (b := (TB w v what bb br go c).1) (m := (TB w v what bb br go c).2) (by omega) (by omega) (by omega) (by omega)
          by_cases g4 : lessP (TB w v what bb br go i) (TB w v what bb br go c)
          · rw [if_pos (show lessP ((TB w v what bb br go i).1, (TB w v what bb br go i).2) ((TB w v what bb br go c).1, (TB w v what bb br go c).2) from g4)] at el
            rw [show (if beg w u k i ∧ (TB w v what bb br go i).1 < 1000000 ∧ (c = 100 ∨ lessP (TB w v what bb br go i) (TB w v what bb br go c)) then i else c) = i from if_pos ⟨g1, g2, Or.inr g4⟩, gI_nI (g := c) (by omega), gI_nI (g := i) (by omega), gM_EachAddsALineModel_tellBest_13]
            simp (disch := omega) only [Option.bind_some, ↓reduceIte, ↓M_1, ↓M_2, L_0, L_1, L_2, L_3, L_4, L_5, L_6, L_7, L_8, L_9, L_10, L_11, L_12, L_13, L_20, L_24, L_26, L_30, L_31, L_32, L_39, L_40, L_48, L_57, L_76, L_80, L_90, L_91, L_97, L_99, L_100, L_255, L_273, L_1000, L_2000, q_ld, q_ldL, q_sto, q_stoL, q_add, q_sub, q_mul, q_dec, q_rem, q_div, q_lt_t, q_lt_f, q_le_t, q_le_f, q_eq_t, q_eq_f, q_em, q_me, q_ml, q_lm, q_mle, q_lem, q_s1, q_s1o, q_s1k, q_s12, q_s2, q_s2o, q_s2k, q_s21, Nat.add_sub_cancel, q_or, q_and, q_shl, true_or, or_true, false_or, or_false, true_and, and_true, false_and, and_false, not_true_eq_false, not_false_eq_true, ne_eq, a3, e1, t1, t2, t3, t4, el, L_1000000, gM_EachAddsALineModel_tellBest_86, gM_EachAddsALineModel_tellBest_90]
          · rw [if_neg (show ¬ lessP ((TB w v what bb br go i).1, (TB w v what bb br go i).2) ((TB w v what bb br go c).1, (TB w v what bb br go c).2) from g4)] at el
            rw [show (if beg w u k i ∧ (TB w v what bb br go i).1 < 1000000 ∧ (c = 100 ∨ lessP (TB w v what bb br go i) (TB w v what bb br go c)) then i else c) = c from if_neg (fun z => z.2.2.elim g3 g4), gI_nI (g := c) (by omega), gM_EachAddsALineModel_tellBest_13]
            simp (disch := omega) only [Option.bind_some, ↓reduceIte, ↓M_1, ↓M_2, L_0, L_1, L_2, L_3, L_4, L_5, L_6, L_7, L_8, L_9, L_10, L_11, L_12, L_13, L_20, L_24, L_26, L_30, L_31, L_32, L_39, L_40, L_48, L_57, L_76, L_80, L_90, L_91, L_97, L_99, L_100, L_255, L_273, L_1000, L_2000, q_ld, q_ldL, q_sto, q_stoL, q_add, q_sub, q_mul, q_dec, q_rem, q_div, q_lt_t, q_lt_f, q_le_t, q_le_f, q_eq_t, q_eq_f, q_em, q_me, q_ml, q_lm, q_mle, q_lem, q_s1, q_s1o, q_s1k, q_s12, q_s2, q_s2o, q_s2k, q_s21, Nat.add_sub_cancel, q_or, q_and, q_shl, true_or, or_true, false_or, or_false, true_and, and_true, false_and, and_false, not_true_eq_false, not_false_eq_true, ne_eq, a3, e1, t1, t2, t3, t4, el, L_1000000, gM_EachAddsALineModel_tellBest_90]
      · rw [show (if beg w u k i ∧ (TB w v what bb br go i).1 < 1000000 ∧ (c = 100 ∨ lessP (TB w v what bb br go i) (TB w v what bb br go c)) then i else c) = c from if_neg (fun z => g2 z.2.1), gM_EachAddsALineModel_tellBest_13]
        simp (disch := omega) only [Option.bind_some, ↓reduceIte, ↓M_1, ↓M_2, L_0, L_1, L_2, L_3, L_4, L_5, L_6, L_7, L_8, L_9, L_10, L_11, L_12, L_13, L_20, L_24, L_26, L_30, L_31, L_32, L_39, L_40, L_48, L_57, L_76, L_80, L_90, L_91, L_97, L_99, L_100, L_255, L_273, L_1000, L_2000, q_ld, q_ldL, q_sto, q_stoL, q_add, q_sub, q_mul, q_dec, q_rem, q_div, q_lt_t, q_lt_f, q_le_t, q_le_f, q_eq_t, q_eq_f, q_em, q_me, q_ml, q_lm, q_mle, q_lem, q_s1, q_s1o, q_s1k, q_s12, q_s2, q_s2o, q_s2k, q_s21, Nat.add_sub_cancel, q_or, q_and, q_shl, true_or, or_true, false_or, or_false, true_and, and_true, false_and, and_false, not_true_eq_false, not_false_eq_true, ne_eq, a3, e1, t1, L_1000000, gM_EachAddsALineModel_tellBest_90]
    · rw [if_neg g1] at e1
      rw [show (if beg w u k i ∧ (TB w v what bb br go i).1 < 1000000 ∧ (c = 100 ∨ lessP (TB w v what bb br go i) (TB w v what bb br go c)) then i else c) = c from if_neg (fun z => g1 z.1), gM_EachAddsALineModel_tellBest_13]
      simp (disch := omega) only [Option.bind_some, ↓reduceIte, ↓M_1, ↓M_2, L_0, L_1, L_2, L_3, L_4, L_5, L_6, L_7, L_8, L_9, L_10, L_11, L_12, L_13, L_20, L_24, L_26, L_30, L_31, L_32, L_39, L_40, L_48, L_57, L_76, L_80, L_90, L_91, L_97, L_99, L_100, L_255, L_273, L_1000, L_2000, q_ld, q_ldL, q_sto, q_stoL, q_add, q_sub, q_mul, q_dec, q_rem, q_div, q_lt_t, q_lt_f, q_le_t, q_le_f, q_eq_t, q_eq_f, q_em, q_me, q_ml, q_lm, q_mle, q_lem, q_s1, q_s1o, q_s1k, q_s12, q_s2, q_s2o, q_s2k, q_s21, Nat.add_sub_cancel, q_or, q_and, q_shl, true_or, or_true, false_or, or_false, true_and, and_true, false_and, and_false, not_true_eq_false, not_false_eq_true, ne_eq, a3, e1, gM_EachAddsALineModel_tellBest_90]
  · rintro f c ⟨_, rfl⟩
    exact hP z a2 a3 a4 f
theorem M_tellBest_f (h : MW w t) (hN : 60 ≤ N) (hu : u < w 5 0) (hv : v < w 5 0) (hk : k < 1000) (hw : what < 3) (hbb : bb < 2 ^ 31) (hbr : br < 512) (h33 : t.1 0 33 = nI br) (h34 : t.1 0 34 = nI bb) (h35 : t.1 0 35 = gI go) (hf : bst w (TB w v what bb br go) u k (2 * w 5 1) = 100) :
    ∃ t', fM_EachAddsALineModel_tellBest N (nI u) (nI v) (nI k) (nI what) t = some (mI 2, t') ∧ Fm [11, 12, 13] [] [30] t t' := by
  have hb := h.bd
  refine M_tellBest_no h hN hu hv hk hw hbb hbr h33 h34 h35 (fun o => ∃ t', o = some (mI 2, t') ∧ Fm [11, 12, 13] [] [30] t t') (fun z z1 z2 z3 f => ⟨z, ?_, z1⟩)
  rw [hf, gI_no (by decide), gM_EachAddsALineModel_tellBest_13]
  simp (disch := omega) only [Option.bind_some, ↓reduceIte, ↓M_1, ↓M_2, L_0, L_1, L_2, L_3, L_4, L_5, L_6, L_7, L_8, L_9, L_10, L_11, L_12, L_13, L_20, L_24, L_26, L_30, L_31, L_32, L_39, L_40, L_48, L_57, L_76, L_80, L_90, L_91, L_97, L_99, L_100, L_255, L_273, L_1000, L_2000, q_ld, q_ldL, q_sto, q_stoL, q_add, q_sub, q_mul, q_dec, q_rem, q_div, q_lt_t, q_lt_f, q_le_t, q_le_f, q_eq_t, q_eq_f, q_em, q_me, q_ml, q_lm, q_mle, q_lem, q_s1, q_s1o, q_s1k, q_s12, q_s2, q_s2o, q_s2k, q_s21, Nat.add_sub_cancel, q_or, q_and, q_shl, true_or, or_true, false_or, or_false, true_and, and_true, false_and, and_false, not_true_eq_false, not_false_eq_true, ne_eq, z2, M_2]
theorem M_tellBest_t (h : MW w t) (hN : 200 ≤ N) (hu : u < w 5 0) (hv : v < w 5 0) (hk : k < 1000) (hw : what < 3) (hbb : bb < 2 ^ 31) (hbr : br < 512) (h33 : t.1 0 33 = nI br) (h34 : t.1 0 34 = nI bb) (h35 : t.1 0 35 = gI go) {b : Nat} (hf : bst w (TB w v what bb br go) u k (2 * w 5 1) = b) (hb1 : b < 2 * w 5 1) (hb2 : beg w u k b) (hb3 : (TB w v what bb br go b).1 < 1000000) :
    ∃ t', fM_EachAddsALineModel_tellBest N (nI u) (nI v) (nI k) (nI what) t = some (nI (TB w v what bb br go b).1, t') ∧ Fm [7, 11, 12, 13] [] [10, 30] t t' ∧ t'.1 0 10 = nI (min (TB w v what bb br go b).2 12) ∧ ∀ j, j < min (TB w v what bb br go b).2 12 → t'.1 7 j = nI (trQ w u k (vTab (TB w v what bb br go) (TB w v what bb br go b).2) (fun _ s => wo w what s) (TB w v what bb br go b).1 j / 2) := by
  have hM := h.bd
  have hok := tr_ok (u := u) (k := k) (v := v) (what := what) (bb := bb) (br := br) (go := go) h.ok hb1 hb2 hb3
  have hlt := TB_lt (v := v) (what := what) (bb := bb) (br := br) (go := go) h.ok hb1
  refine M_tellBest_no h (show 60 ≤ N by omega) hu hv hk hw hbb hbr h33 h34 h35 (fun o => ∃ t', o = some (nI (TB w v what bb br go b).1, t') ∧ Fm [7, 11, 12, 13] [] [10, 30] t t' ∧ t'.1 0 10 = nI (min (TB w v what bb br go b).2 12) ∧ ∀ j, j < min (TB w v what bb br go b).2 12 → t'.1 7 j = nI (trQ w u k (vTab (TB w v what bb br go) (TB w v what bb br go b).2) (fun _ s => wo w what s) (TB w v what bb br go b).1 j / 2)) (fun z z1 z2 z3 f => ?_)
  obtain ⟨y1, y2⟩ := z3 b hb1
  have hz : MW w z := h.fm z1 (by decide) (by decide)
  rw [hf, gI_nI (by omega), gM_EachAddsALineModel_tellBest_13]
  simp (disch := omega) only [Option.bind_some, ↓reduceIte, ↓M_1, ↓M_2, L_0, L_1, L_2, L_3, L_4, L_5, L_6, L_7, L_8, L_9, L_10, L_11, L_12, L_13, L_20, L_24, L_26, L_30, L_31, L_32, L_39, L_40, L_48, L_57, L_76, L_80, L_90, L_91, L_97, L_99, L_100, L_255, L_273, L_1000, L_2000, q_ld, q_ldL, q_sto, q_stoL, q_add, q_sub, q_mul, q_dec, q_rem, q_div, q_lt_t, q_lt_f, q_le_t, q_le_f, q_eq_t, q_eq_f, q_em, q_me, q_ml, q_lm, q_mle, q_lem, q_s1, q_s1o, q_s1k, q_s12, q_s2, q_s2o, q_s2k, q_s21, Nat.add_sub_cancel, q_or, q_and, q_shl, true_or, or_true, false_or, or_false, true_and, and_true, false_and, and_false, not_true_eq_false, not_false_eq_true, ne_eq, z2, y1, y2]
  have hTz : ∀ s, s < 2 * w 5 1 → z.1 12 s = nI (TB w v what bb br go s).1 ∧ z.1 13 s = nI (TB w v what bb br go s).2 ∧ (TB w v what bb br go s).1 ≤ 1000000 ∧ (TB w v what bb br go s).2 ≤ 1000000 := fun s hs => ⟨(z3 s hs).1, (z3 s hs).2, (TB_lt h.ok hs).1, (TB_lt h.ok hs).2.1⟩
  generalize hX : trS w u k (vTab (TB w v what bb br go) (TB w v what bb br go b).2) (fun _ s => wo w what s) (TB w v what bb br go b).1 = X at hok
  generalize hQ : trQ w u k (vTab (TB w v what bb br go) (TB w v what bb br go b).2) (fun _ s => wo w what s) (TB w v what bb br go b).1 = Q at hok
  have hX0 : X 0 = (100, (TB w v what bb br go b).1) := by rw [← hX]; rfl
  have hXs : ∀ j, X (j + 1) = (Q j, (X j).2 - wo w what (Q j)) := fun j => by rw [← hX, ← hQ]; rfl
  have hQd : ∀ j, Q j = fst1 (trP w u k (vTab (TB w v what bb br go) (TB w v what bb br go b).2) j (X j)) (2 * w 5 1) := fun j => by rw [← hX, ← hQ]; rfl
  have hXa : ∀ j, j ≤ (TB w v what bb br go b).2 → (X j).1 = 100 ∨ (X j).1 < 2 * w 5 1 := fun j hj => by
    cases j with
    | zero => rw [hX0]; exact Or.inl rfl
    | succ j => rw [hXs]; exact Or.inr (hok j (by omega)).1
  have hn : (TB w v what bb br go b).2 ≤ 100 := (hlt.2.2.2 hb3).2
  have e0 : (gI (X 0).1, nI (X 0).2) = (mI 1, nI (TB w v what bb br go b).1) := by rw [hX0]; rfl
  have e01 : mI 1 = gI (X 0).1 := (congrArg Prod.fst e0).symm
  have e02 : ∀ c : Int32, gM_EachAddsALineModel_tellBest_138 N N (nI u) (nI k) (nI what) (nI (TB w v what bb br go b).1) c (nI (TB w v what bb br go b).1) = gM_EachAddsALineModel_tellBest_138 N N (nI u) (nI k) (nI what) (nI (TB w v what bb br go b).1) c (nI (X 0).2) := fun c => by rw [hX0]
  rw [e02, e01]
  refine loopU (fun f j u' => gM_EachAddsALineModel_tellBest_138 N f (nI u) (nI k) (nI what) (nI (TB w v what bb br go b).1) (nI (TB w v what bb br go b).2) (nI (X j).2) (gI (X j).1) (nI j) u') (TB w v what bb br go b).2 (fun j u' => j ≤ (TB w v what bb br go b).2 ∧ Rm (fun j => nI (Q j / 2)) (min j 12) z u')
    (fun o => ∃ t', o = some (nI (TB w v what bb br go b).1, t') ∧ Fm [7, 11, 12, 13] [] [10, 30] t t' ∧ t'.1 0 10 = nI (min (TB w v what bb br go b).2 12) ∧ ∀ j, j < min (TB w v what bb br go b).2 12 → t'.1 7 j = nI (Q j / 2)) ?_ ?_ (TB w v what bb br go b).2 N 0 _ (by omega) (by have := h.ok.2.1; have := (TB_bd (v := v) (what := what) (bb := bb) (br := br) (go := go) h.ok b hb1); omega) ⟨by omega, Rm.nil⟩
  · rintro f j u' hj ⟨g1, g2⟩
    have hu' : MW w u' := hz.fm g2.1 (by decide) (by decide)
    obtain ⟨o1, o2, o3⟩ := hok j hj
    have hq0 := hQd j
    have h30 : u'.1 0 30 = nI (2 * w 5 1) := (g2.1.2.2 30 (by decide)).trans z2
    have st := M_tb151 (N := N) (what := what) (gM_EachAddsALineModel_tellBest_138 N f) (T := TB w v what bb br go) (a := (TB w v what bb br go b).1) (n := (TB w v what bb br go b).2) (j := j) (x := X j) hu' (show 60 ≤ N by omega) hu hk h30 (fun s hs => by
      rw [g2.1.1 12 (by decide) (by decide), g2.1.1 13 (by decide) (by decide)]
      exact hTz s hs) (hXa j (by omega)) (by omega) hj (by omega) (by rw [← hq0]; exact o1)
    rw [← hq0] at st
    have ew : ∀ y : vSt, MW w y → gM_EachAddsALineModel_tellBest_262 N (gM_EachAddsALineModel_tellBest_138 N f) (nI u) (nI k) (nI what) (nI (TB w v what bb br go b).1) (nI (TB w v what bb br go b).2) (nI (X j).2) (nI j) (nI (Q j)) y = gM_EachAddsALineModel_tellBest_138 N f (nI u) (nI k) (nI what) (nI (TB w v what bb br go b).1) (nI (TB w v what bb br go b).2) (nI (X (j + 1)).2) (gI (X (j + 1)).1) (nI (j + 1)) y := fun y hy => by
      have hw1 : wo w what (Q j) ≤ (X j).2 := by
        rcases TB_att (v := v) (what := what) (bb := bb) (br := br) (go := go) h.ok o1 with c | ⟨c1, c2, c3, c4⟩ | ⟨o, c1, c2, c3, c4, c5, c6⟩
        · rw [o3] at c
          have := congrArg Prod.fst c
          simp only at this
          omega
        · rw [o3] at c4
          have := congrArg Prod.fst c4
          simp only at this
          by_cases w0 : what = 0
          · rw [show wo w what (Q j) = 0 from (if_neg (by omega)).trans (if_neg (by omega))]
            omega
          · rw [if_neg w0] at this
            omega
        · rw [o3] at c6
          unfold prP at c6
          have := congrArg Prod.fst c6
          simp only at this
          omega
      rw [hXs, show gI (Q j, (X j).2 - wo w what (Q j)).1 = nI (Q j) from gI_nI (show Q j < 100 by omega)]
      simp (disch := omega) only [Option.bind_some, ↓reduceIte, ↓M_1, ↓M_2, L_0, L_1, L_2, L_3, L_4, L_5, L_6, L_7, L_8, L_9, L_10, L_11, L_12, L_13, L_20, L_24, L_26, L_30, L_31, L_32, L_39, L_40, L_48, L_57, L_76, L_80, L_90, L_91, L_97, L_99, L_100, L_255, L_273, L_1000, L_2000, q_ld, q_ldL, q_sto, q_stoL, q_add, q_sub, q_mul, q_dec, q_rem, q_div, q_lt_t, q_lt_f, q_le_t, q_le_f, q_eq_t, q_eq_f, q_em, q_me, q_ml, q_lm, q_mle, q_lem, q_s1, q_s1o, q_s1k, q_s12, q_s2, q_s2o, q_s2k, q_s21, Nat.add_sub_cancel, q_or, q_and, q_shl, true_or, or_true, false_or, or_false, true_and, and_true, false_and, and_false, not_true_eq_false, not_false_eq_true, ne_eq, gM_EachAddsALineModel_tellBest_262, M_worth hy o1 hw]
    refine Or.inl ?_
    by_cases c12 : j < 12
    · have e10 : u'.1 0 10 = nI j := by rw [g2.2.1, show min j 12 = j by omega]
      obtain ⟨u2, v1, v2⟩ := M_tell (N := N) g2 (by omega) (x := nI (Q j / 2)) (by rw [show min j 12 = j by omega])
      refine ⟨u2, ?_, by omega, ?_⟩
      · rw [gM_EachAddsALineModel_tellBest_138]
        simp (disch := omega) only [Option.bind_some, ↓reduceIte, ↓M_1, ↓M_2, L_0, L_1, L_2, L_3, L_4, L_5, L_6, L_7, L_8, L_9, L_10, L_11, L_12, L_13, L_20, L_24, L_26, L_30, L_31, L_32, L_39, L_40, L_48, L_57, L_76, L_80, L_90, L_91, L_97, L_99, L_100, L_255, L_273, L_1000, L_2000, q_ld, q_ldL, q_sto, q_stoL, q_add, q_sub, q_mul, q_dec, q_rem, q_div, q_lt_t, q_lt_f, q_le_t, q_le_f, q_eq_t, q_eq_f, q_em, q_me, q_ml, q_lm, q_mle, q_lem, q_s1, q_s1o, q_s1k, q_s12, q_s2, q_s2o, q_s2k, q_s21, Nat.add_sub_cancel, q_or, q_and, q_shl, true_or, or_true, false_or, or_false, true_and, and_true, false_and, and_false, not_true_eq_false, not_false_eq_true, ne_eq, st, e10, v1, ew u2 (hz.fm v2.1 (by decide) (by decide))]
      · rw [show min (j + 1) 12 = min j 12 + 1 by omega]; exact v2
    · have e10 : u'.1 0 10 = nI 12 := by rw [g2.2.1, show min j 12 = 12 by omega]
      refine ⟨u', ?_, by omega, ?_⟩
      · rw [gM_EachAddsALineModel_tellBest_138]
        simp (disch := omega) only [Option.bind_some, ↓reduceIte, ↓M_1, ↓M_2, L_0, L_1, L_2, L_3, L_4, L_5, L_6, L_7, L_8, L_9, L_10, L_11, L_12, L_13, L_20, L_24, L_26, L_30, L_31, L_32, L_39, L_40, L_48, L_57, L_76, L_80, L_90, L_91, L_97, L_99, L_100, L_255, L_273, L_1000, L_2000, q_ld, q_ldL, q_sto, q_stoL, q_add, q_sub, q_mul, q_dec, q_rem, q_div, q_lt_t, q_lt_f, q_le_t, q_le_f, q_eq_t, q_eq_f, q_em, q_me, q_ml, q_lm, q_mle, q_lem, q_s1, q_s1o, q_s1k, q_s12, q_s2, q_s2o, q_s2k, q_s21, Nat.add_sub_cancel, q_or, q_and, q_shl, true_or, or_true, false_or, or_false, true_and, and_true, false_and, and_false, not_true_eq_false, not_false_eq_true, ne_eq, st, e10, ew u' hu']
      · rw [show min (j + 1) 12 = min j 12 by omega]; exact g2
  · rintro f u' ⟨g1, g2⟩
    refine ⟨u', ?_, (z1.mono (by decide) (by decide) (by decide)).tr (g2.1.mono (by decide) (by decide) (by decide)), g2.2.1, g2.2.2⟩
    show gM_EachAddsALineModel_tellBest_138 N (f + 1) (nI u) (nI k) (nI what) (nI (TB w v what bb br go b).1) (nI (TB w v what bb br go b).2) (nI (X (TB w v what bb br go b).2).2) (gI (X (TB w v what bb br go b).2).1) (nI (TB w v what bb br go b).2) u' = _
    rw [gM_EachAddsALineModel_tellBest_138]
    simp (disch := omega) only [Option.bind_some, ↓reduceIte, ↓M_1, ↓M_2, L_0, L_1, L_2, L_3, L_4, L_5, L_6, L_7, L_8, L_9, L_10, L_11, L_12, L_13, L_20, L_24, L_26, L_30, L_31, L_32, L_39, L_40, L_48, L_57, L_76, L_80, L_90, L_91, L_97, L_99, L_100, L_255, L_273, L_1000, L_2000, q_ld, q_ldL, q_sto, q_stoL, q_add, q_sub, q_mul, q_dec, q_rem, q_div, q_lt_t, q_lt_f, q_le_t, q_le_f, q_eq_t, q_eq_f, q_em, q_me, q_ml, q_lm, q_mle, q_lem, q_s1, q_s1o, q_s1k, q_s12, q_s2, q_s2o, q_s2k, q_s21, Nat.add_sub_cancel, q_or, q_and, q_shl, true_or, or_true, false_or, or_false, true_and, and_true, false_and, and_false, not_true_eq_false, not_false_eq_true, ne_eq]
end MT
