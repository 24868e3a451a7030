/-! the class spreads: who can have it soonest -/
def ea (x : Nat) : Int32 := if x < 1000 then nI x else mI 1
abbrev cg (w : Nat → Nat → Nat) (u br : Nat) (a : Nat → Nat) (s : Nat) : Prop := gv w s = u ∨ (br.testBit (gv w s) = false ∧ a (gv w s) + w 0 (gv w s) ≤ hr w s)
def tl (w : Nat → Nat → Nat) (u br : Nat) (a : Nat → Nat) (o : Nat) : Nat → Nat := fun p => if a (gt w o) = 1000000 ∧ cg w u br a o ∧ p = gt w o then hr w o else a p
def PI (w : Nat → Nat → Nat) (u br : Nat) (S : Nat → Prop) (a : Nat → Nat) : Prop := (∀ s, S s → cg w u br a s → a (gt w s) ≤ hr w s) ∧ ∀ p, p < w 5 0 → a p = 1000000 ∨ ∃ s, S s ∧ cg w u br a s ∧ gt w s = p ∧ hr w s = a p
section PIs
variable {w : Nat → Nat → Nat} {u v k br go : Nat} {S S' : Nat → Prop} {a : Nat → Nat}
theorem PI.cong (h : PI w u br S a) (e : ∀ s, S s ↔ S' s) : PI w u br S' a := ⟨fun s hs => h.1 s ((e s).mpr hs), fun p hp => (h.2 p hp).imp id (fun ⟨s, h1, h2⟩ => ⟨s, (e s).mp h1, h2⟩)⟩
theorem PI.ext {a' : Nat → Nat} (h : PI w u br S a) (hw : okW w) (hS : ∀ s, S s → s < 2 * w 5 1) (e : ∀ p, p < w 5 0 → a p = a' p) : PI w u br S a' := by
  have hc : ∀ s, S s → (cg w u br a s ↔ cg w u br a' s) := fun s hs => by
    have := e _ (gv_lt hw (hS s hs))
    unfold cg
    rw [this]
  refine ⟨fun s hs hg => ?_, fun p hp => ?_⟩
  · rw [← e _ (gt_lt hw (hS s hs))]
    exact h.1 s hs ((hc s hs).mpr hg)
  · rw [← e p hp]
    exact (h.2 p hp).imp id (fun ⟨s, h1, h2, h3⟩ => ⟨s, h1, (hc s h1).mp h2, h3⟩)
theorem PI.step (h : PI w u br S a) (hw : okW w) (hS : ∀ s, S s → s < 2 * w 5 1) {o : Nat} (ho : o < 2 * w 5 1) (hle : ∀ s, S s → hr w s ≤ hr w o) : PI w u br (fun s => S s ∨ s = o) (tl w u br a o) := by
  have hg := gt_lt hw ho
  have hne := gv_ne hw ho
  have h99 : ∀ s, s < 2 * w 5 1 → hr w s ≤ 99 := fun s hs => hr_le hw hs
  by_cases c : a (gt w o) = 1000000 ∧ cg w u br a o
  · have e1 : ∀ p, p ≠ gt w o → tl w u br a o p = a p := fun p hp => if_neg (fun z => hp z.2.2)
    have e2 : tl w u br a o (gt w o) = hr w o := if_pos ⟨c.1, c.2, rfl⟩
    refine ⟨fun s hs hc => ?_, fun p hp => ?_⟩
    · rcases hs with hs | hs
      · have hs2 := hS s hs
        have hR := hw.2.2.1 (gv w s) (gv_lt hw hs2)
        have hl := hle s hs
        have hc' : cg w u br a s := by
          refine hc.imp id (fun z => ⟨z.1, ?_⟩)
          have z2 := z.2
          by_cases d : gv w s = gt w o
          · rw [d, e2] at z2
            rw [d] at hR
            omega
          · rw [e1 _ d] at z2
            exact z2
        have := h.1 s hs hc'
        by_cases d : gt w s = gt w o
        · have := h99 s hs2
          have c1 := c.1
          have h3 := h.1 s hs hc'
          rw [d] at h3
          omega
        · rw [e1 _ d]; exact this
      · rw [hs, e2]
        exact Nat.le_refl _
    · by_cases d : p = gt w o
      · refine Or.inr ⟨o, Or.inr rfl, ?_, d.symm, by rw [d, e2]⟩
        refine c.2.imp id (fun z => ⟨z.1, ?_⟩)
        rw [e1 _ hne]
        exact z.2
      · rw [e1 _ d]
        refine (h.2 p hp).imp id (fun ⟨s, z1, z2, z3, z4⟩ => ⟨s, Or.inl z1, ?_, z3, z4⟩)
        refine z2.imp id (fun z => ⟨z.1, ?_⟩)
        by_cases g : gv w s = gt w o
        · have := z.2
          rw [g, c.1] at this
          have := h99 s (hS s z1)
          omega
        · rw [e1 _ g]
          exact z.2
  · have e1 : tl w u br a o = a := funext (fun p => if_neg (fun z => c ⟨z.1, z.2.1⟩))
    rw [e1]
    refine ⟨fun s hs hc => ?_, fun p hp => (h.2 p hp).imp id (fun ⟨s, z1, z2⟩ => ⟨s, Or.inl z1, z2⟩)⟩
    rcases hs with hs | hs
    · exact h.1 s hs hc
    · subst hs
      rcases h.2 _ hg with d | ⟨s', z1, z2, z3, z4⟩
      · exact absurd ⟨d, hc⟩ c
      · rw [← z4]
        exact hle s' z1
/-- what is reached soonest is the best of what follows -/
theorem PI_sbm (hw : okW w) (hv : v < w 5 0) (h : PI w u br (fun s => s < 2 * w 5 1 ∧ ¬ s / 2 = go ∧ k ≤ hr w s) a) : a v = sbm w (TB w v 0 1000000 br go) u k := by
  have hale : ∀ p, p < w 5 0 → a p ≤ 1000000 := fun p hp => by
    rcases h.2 p hp with c | ⟨s, z1, z2, z3, z4⟩
    · omega
    · have := hr_le hw z1.1; omega
  have hsb : (∀ s, s < 2 * w 5 1 → beg w u k s → sbm w (TB w v 0 1000000 br go) u k ≤ (TB w v 0 1000000 br go s).1) ∧ (sbm w (TB w v 0 1000000 br go) u k = 1000000 ∨ ∃ s, s < 2 * w 5 1 ∧ beg w u k s ∧ sbm w (TB w v 0 1000000 br go) u k = (TB w v 0 1000000 br go s).1) := by
    refine fz_ind (f := fun s x => if beg w u k s then min x (TB w v 0 1000000 br go s).1 else x) (z := 1000000) (n := 2 * w 5 1) (fun i b => (∀ s, s < i → beg w u k s → b ≤ (TB w v 0 1000000 br go s).1) ∧ (b = 1000000 ∨ ∃ s, s < i ∧ beg w u k s ∧ b = (TB w v 0 1000000 br go s).1)) ⟨fun s hs => by omega, Or.inl rfl⟩ (fun i b hi hq => ?_) _ (Nat.le_refl _)
    try simp only
    by_cases c : beg w u k i
    · rw [if_pos c]
      refine ⟨fun s hs hbg => ?_, ?_⟩
      · by_cases d : s = i
        · subst d; exact Nat.min_le_right _ _
        · exact Nat.le_trans (Nat.min_le_left _ _) (hq.1 s (by omega) hbg)
      · rcases Nat.le_total b (TB w v 0 1000000 br go i).1 with d | d
        · rw [Nat.min_eq_left d]
          exact hq.2.imp id (fun ⟨s, z1, z2⟩ => ⟨s, by omega, z2⟩)
        · rw [Nat.min_eq_right d]
          exact Or.inr ⟨i, by omega, c, rfl⟩
    · rw [if_neg c]
      refine ⟨fun s hs hbg => ?_, hq.2.imp id (fun ⟨s, z1, z2⟩ => ⟨s, by omega, z2⟩)⟩
      by_cases d : s = i
      · subst d; exact absurd hbg c
      · exact hq.1 s (by omega) hbg
  have hsle := sbm_le w (TB w v 0 1000000 br go) u k
  have w00 : ∀ s, wo w 0 s = 0 := fun s => (if_neg (by decide)).trans (if_neg (by decide))
  have cl1 : ∀ s, s < 2 * w 5 1 → ¬ s / 2 = go → k ≤ hr w s → cg w u br a s → a v ≤ (TB w v 0 1000000 br go s).1 := by
    refine downI (fun s hs => hr_le hw hs) _ (fun s hs ih g1 g2 g3 => ?_)
    have ha := h.1 s ⟨hs, g1, g2⟩ g3
    rcases TB_att (v := v) (what := 0) (bb := 1000000) (br := br) (go := go) hw hs with z | ⟨z1, z2, z3, z4⟩ | ⟨o, z1, z2, z3, z4, z5, z6⟩
    · rw [z]; exact hale v hv
    · rw [z4, if_pos rfl]
      rw [z1] at ha
      exact ha
    · have hl := fol_lt hw hs z2
      rw [z6]
      unfold prP
      rw [w00]
      refine ih o z1 hl (fun y => ?_) (by omega) (Or.inr ⟨by rw [z2.1]; exact z4, ?_⟩)
      · rcases TB_att (v := v) (what := 0) (bb := 1000000) (br := br) (go := go) hw z1 with x | ⟨x1, x2, x3, x4⟩ | ⟨o', x1, x2, x3, x4, x5, x6⟩
        · rw [x] at z3; exact absurd z3 (by decide)
        · exact x3 y
        · exact x5 y
      · have := z2.2
        unfold rd at this
        rw [z2.1]
        omega
  have cl2 : ∀ s, s < 2 * w 5 1 → ¬ s / 2 = go → k ≤ hr w s → cg w u br a s → sbm w (TB w v 0 1000000 br go) u k ≤ (TB w v 0 1000000 br go s).1 := by
    refine upI (key := hr w) _ (fun s hs ih g1 g2 g3 => ?_)
    rcases g3 with g3 | ⟨g3, g4⟩
    · exact hsb.1 s hs ⟨g3, g2⟩
    · have hgl := gv_lt hw hs
      have h9 := hr_le hw hs
      rcases h.2 _ hgl with c | ⟨s', z1, z2, z3, z4⟩
      · omega
      · have hR := hw.2.2.1 (gv w s) hgl
        have := ih s' z1.1 (by omega) z1.2.1 z1.2.2 z2
        rcases Nat.lt_or_ge (TB w v 0 1000000 br go s).1 1000000 with y | y
        · have := TB_o (v := v) (what := 0) (bb := 1000000) (br := br) (go := go) hw z1.1 hs ⟨z3.symm, by unfold rd; rw [z3]; omega⟩ (by rw [z3]; exact g3) z1.2.1 y
          unfold prP at this
          rw [w00] at this
          unfold lessP at this
          simp only at this
          omega
        · omega
  refine Nat.le_antisymm ?_ ?_
  · rcases hsb.2 with c | ⟨s, z1, z2, z3⟩
    · rw [c]; exact hale v hv
    · rw [z3]
      by_cases d : s / 2 = go
      · rcases TB_att (v := v) (what := 0) (bb := 1000000) (br := br) (go := go) hw z1 with x | ⟨x1, x2, x3, x4⟩ | ⟨o', x1, x2, x3, x4, x5, x6⟩
        · rw [x]; exact hale v hv
        · exact absurd d x3
        · exact absurd d x5
      · exact cl1 s z1 d z2.2 (Or.inl z2.1)
  · rcases h.2 v hv with c | ⟨s, z1, z2, z3, z4⟩
    · rw [c]; exact hsle
    · have y1 := cl2 s z1.1 z1.2.1 z1.2.2 z2
      have y2 := TB_e (v := v) (what := 0) (bb := 1000000) (br := br) (go := go) hw z1.1 z3 (by have := hr_le hw z1.1; omega) z1.2.1
      rw [if_pos rfl] at y2
      unfold lessP at y2
      simp only at y2
      omega
end PIs
section CSp
variable {N : Nat} {w : Nat → Nat → Nat} {s : vSt} {u v k br go : Nat} {sh : Int32} {a : Nat → Nat}
theorem ea_m1 {x : Nat} (h : x < 1000 ∨ x = 1000000) : (ea x = mI 1) = (x = 1000000) := by
  unfold ea
  split
  · rw [q_em (by omega) (by decide) (by decide)]
    exact propext ⟨False.elim, fun z => by omega⟩
  · exact propext ⟨fun _ => by omega, fun _ => rfl⟩
theorem C_hasRead (h : CW w s) {g x : Nat} (hg : g < w 5 0) (hx : x ≤ 99) (ha : s.1 42 g = ea (a g)) (hb : a g ≤ 99 ∨ a g = 1000000) : fC_Paths_hasRead N (nI g) (nI x) s = some (if a g + w 0 g ≤ x then nI 1 else nI 0, s) := by
  have hp := h.bd
  have hR := h.ok.2.2.1 g hg
  rcases hb with hb | hb
  · rw [show ea (a g) = nI (a g) from if_pos (by omega)] at ha
    by_cases c : a g + w 0 g ≤ x
    · rw [if_pos c]
      simp (disch := omega) only [Option.bind_some, ↓reduceIte, ↓M_1, ↓M_2, L_0, L_1, L_2, L_3, L_4, L_5, L_6, L_7, L_8, L_9, L_10, L_11, L_12, L_13, L_20, L_24, L_26, L_30, L_31, L_32, L_39, L_40, L_48, L_57, L_76, L_80, L_90, L_91, L_97, L_99, L_100, L_255, L_273, L_1000, L_2000, q_ld, q_ldL, q_sto, q_stoL, q_add, q_sub, q_mul, q_dec, q_rem, q_div, q_lt_t, q_lt_f, q_le_t, q_le_f, q_eq_t, q_eq_f, q_em, q_me, q_ml, q_lm, q_mle, q_lem, q_s1, q_s1o, q_s1k, q_s12, q_s2, q_s2o, q_s2k, q_s21, Nat.add_sub_cancel, q_or, q_and, q_shl, true_or, or_true, false_or, or_false, true_and, and_true, false_and, and_false, not_true_eq_false, not_false_eq_true, ne_eq, fC_Paths_hasRead, gC_Paths_hasRead_0, gC_Paths_hasRead_34, ha, h.rd hg]
    · rw [if_neg c]
      simp (disch := omega) only [Option.bind_some, ↓reduceIte, ↓M_1, ↓M_2, L_0, L_1, L_2, L_3, L_4, L_5, L_6, L_7, L_8, L_9, L_10, L_11, L_12, L_13, L_20, L_24, L_26, L_30, L_31, L_32, L_39, L_40, L_48, L_57, L_76, L_80, L_90, L_91, L_97, L_99, L_100, L_255, L_273, L_1000, L_2000, q_ld, q_ldL, q_sto, q_stoL, q_add, q_sub, q_mul, q_dec, q_rem, q_div, q_lt_t, q_lt_f, q_le_t, q_le_f, q_eq_t, q_eq_f, q_em, q_me, q_ml, q_lm, q_mle, q_lem, q_s1, q_s1o, q_s1k, q_s12, q_s2, q_s2o, q_s2k, q_s21, Nat.add_sub_cancel, q_or, q_and, q_shl, true_or, or_true, false_or, or_false, true_and, and_true, false_and, and_false, not_true_eq_false, not_false_eq_true, ne_eq, fC_Paths_hasRead, gC_Paths_hasRead_0, gC_Paths_hasRead_34, ha, h.rd hg]
  · rw [show ea (a g) = mI 1 from if_neg (by omega)] at ha
    rw [if_neg (by omega)]
    simp (disch := omega) only [Option.bind_some, ↓reduceIte, ↓M_1, ↓M_2, L_0, L_1, L_2, L_3, L_4, L_5, L_6, L_7, L_8, L_9, L_10, L_11, L_12, L_13, L_20, L_24, L_26, L_30, L_31, L_32, L_39, L_40, L_48, L_57, L_76, L_80, L_90, L_91, L_97, L_99, L_100, L_255, L_273, L_1000, L_2000, q_ld, q_ldL, q_sto, q_stoL, q_add, q_sub, q_mul, q_dec, q_rem, q_div, q_lt_t, q_lt_f, q_le_t, q_le_f, q_eq_t, q_eq_f, q_em, q_me, q_ml, q_lm, q_mle, q_lem, q_s1, q_s1o, q_s1k, q_s12, q_s2, q_s2o, q_s2k, q_s21, Nat.add_sub_cancel, q_or, q_and, q_shl, true_or, or_true, false_or, or_false, true_and, and_true, false_and, and_false, not_true_eq_false, not_false_eq_true, ne_eq, fC_Paths_hasRead, gC_Paths_hasRead_0, gC_Paths_hasRead_34, ha]
theorem tl_bd (hw : okW w) {o : Nat} (ho : o < 2 * w 5 1) (hb : ∀ p, p < w 5 0 → a p ≤ 99 ∨ a p = 1000000) : ∀ p, p < w 5 0 → tl w u br a o p ≤ 99 ∨ tl w u br a o p = 1000000 := fun p hp => by
  have := hr_le hw ho
  unfold tl
  split
  · exact Or.inl this
  · exact hb p hp
theorem C_tell (h : CW w s) (hu : u < w 5 0) (hsh : shuts w sh br) {o : Nat} (ho : o < 2 * w 5 1) (ha : ∀ p, p < w 5 0 → s.1 42 p = ea (a p)) (hb : ∀ p, p < w 5 0 → a p ≤ 99 ∨ a p = 1000000) :
    ∃ z, fC_Paths_tell N (nI (o / 2)) (nI (gv w o)) (nI u) sh s = some z ∧ Fr [42] [] s z ∧ ∀ p, p < w 5 0 → z.1 42 p = ea (tl w u br a o p) := by
  have hp := h.bd
  have h1 := gv_lt h.ok ho
  have h2 := gt_lt h.ok ho
  have h3 := hr_le h.ok ho
  have eo := C_otherAt (N := N) h (m := o / 2) (u := gv w o) (by omega) h1
  rw [oth_ix h.ok ho] at eo
  have eh : s.1 13 (o / 2) = nI (hr w o) := h.h (m := o / 2) (by omega)
  have es := hsh (gv w o) h1
  have er := C_hasRead (N := N) (a := a) h h1 h3 (ha _ h1) (hb _ h1)
  have e42 := ha _ h2
  have em := ea_m1 (x := a (gt w o)) (by have := hb _ h2; omega)
  have keep : ∀ (no : ¬ (a (gt w o) = 1000000 ∧ cg w u br a o)), ∀ p, p < w 5 0 → s.1 42 p = ea (tl w u br a o p) := fun no p hp => by
    rw [show tl w u br a o p = a p from if_neg (fun z => no ⟨z.1, z.2.1⟩)]
    exact ha p hp
  have put : ∀ (yes : a (gt w o) = 1000000 ∧ cg w u br a o), ∀ p, p < w 5 0 → (s1 s 42 (gt w o) (nI (hr w o))).1 42 p = ea (tl w u br a o p) := fun yes p hp => by
    by_cases c : p = gt w o
    · rw [c, q_s1, show tl w u br a o (gt w o) = hr w o from if_pos ⟨yes.1, yes.2, rfl⟩]
      exact (if_pos (by omega)).symm
    · rw [q_s1k c, show tl w u br a o p = a p from if_neg (fun z => c z.2.2)]
      exact ha p hp
  by_cases c1 : a (gt w o) = 1000000
  · by_cases c2 : gv w o = u
    · refine ⟨s1 s 42 (gt w o) (nI (hr w o)), ?_, Fr.s1 (by decide), put ⟨c1, Or.inl c2⟩⟩
      cases hbt : br.testBit (gv w o)
      · rw [hbt] at es
        simp (disch := omega) only [Option.bind_some, ↓reduceIte, ↓M_1, ↓M_2, L_0, L_1, L_2, L_3, L_4, L_5, L_6, L_7, L_8, L_9, L_10, L_11, L_12, L_13, L_20, L_24, L_26, L_30, L_31, L_32, L_39, L_40, L_48, L_57, L_76, L_80, L_90, L_91, L_97, L_99, L_100, L_255, L_273, L_1000, L_2000, q_ld, q_ldL, q_sto, q_stoL, q_add, q_sub, q_mul, q_dec, q_rem, q_div, q_lt_t, q_lt_f, q_le_t, q_le_f, q_eq_t, q_eq_f, q_em, q_me, q_ml, q_lm, q_mle, q_lem, q_s1, q_s1o, q_s1k, q_s12, q_s2, q_s2o, q_s2k, q_s21, Nat.add_sub_cancel, q_or, q_and, q_shl, true_or, or_true, false_or, or_false, true_and, and_true, false_and, and_false, not_true_eq_false, not_false_eq_true, ne_eq, fC_Paths_tell, gC_Paths_tell_0, gC_Paths_tell_25, gC_Paths_tell_65, eo, es, e42, em, eq_true c1, eh]
      · rw [hbt] at es
        simp (disch := omega) only [Option.bind_some, ↓reduceIte, ↓M_1, ↓M_2, L_0, L_1, L_2, L_3, L_4, L_5, L_6, L_7, L_8, L_9, L_10, L_11, L_12, L_13, L_20, L_24, L_26, L_30, L_31, L_32, L_39, L_40, L_48, L_57, L_76, L_80, L_90, L_91, L_97, L_99, L_100, L_255, L_273, L_1000, L_2000, q_ld, q_ldL, q_sto, q_stoL, q_add, q_sub, q_mul, q_dec, q_rem, q_div, q_lt_t, q_lt_f, q_le_t, q_le_f, q_eq_t, q_eq_f, q_em, q_me, q_ml, q_lm, q_mle, q_lem, q_s1, q_s1o, q_s1k, q_s12, q_s2, q_s2o, q_s2k, q_s21, Nat.add_sub_cancel, q_or, q_and, q_shl, true_or, or_true, false_or, or_false, true_and, and_true, false_and, and_false, not_true_eq_false, not_false_eq_true, ne_eq, fC_Paths_tell, gC_Paths_tell_0, gC_Paths_tell_25, gC_Paths_tell_65, eo, es, e42, em, eq_true c1, eh, tfF]
    · cases hbt : br.testBit (gv w o)
      · rw [hbt] at es
        by_cases c3 : a (gv w o) + w 0 (gv w o) ≤ hr w o
        · rw [if_pos c3] at er
          refine ⟨s1 s 42 (gt w o) (nI (hr w o)), ?_, Fr.s1 (by decide), put ⟨c1, Or.inr ⟨hbt, c3⟩⟩⟩
          simp (disch := omega) only [Option.bind_some, ↓reduceIte, ↓M_1, ↓M_2, L_0, L_1, L_2, L_3, L_4, L_5, L_6, L_7, L_8, L_9, L_10, L_11, L_12, L_13, L_20, L_24, L_26, L_30, L_31, L_32, L_39, L_40, L_48, L_57, L_76, L_80, L_90, L_91, L_97, L_99, L_100, L_255, L_273, L_1000, L_2000, q_ld, q_ldL, q_sto, q_stoL, q_add, q_sub, q_mul, q_dec, q_rem, q_div, q_lt_t, q_lt_f, q_le_t, q_le_f, q_eq_t, q_eq_f, q_em, q_me, q_ml, q_lm, q_mle, q_lem, q_s1, q_s1o, q_s1k, q_s12, q_s2, q_s2o, q_s2k, q_s21, Nat.add_sub_cancel, q_or, q_and, q_shl, true_or, or_true, false_or, or_false, true_and, and_true, false_and, and_false, not_true_eq_false, not_false_eq_true, ne_eq, fC_Paths_tell, gC_Paths_tell_0, gC_Paths_tell_25, gC_Paths_tell_65, eo, es, e42, em, eq_true c1, eh, er]
        · rw [if_neg c3] at er
          refine ⟨s, ?_, Fr.rf, keep (fun z => z.2.elim c2 (fun y => c3 y.2))⟩
          simp (disch := omega) only [Option.bind_some, ↓reduceIte, ↓M_1, ↓M_2, L_0, L_1, L_2, L_3, L_4, L_5, L_6, L_7, L_8, L_9, L_10, L_11, L_12, L_13, L_20, L_24, L_26, L_30, L_31, L_32, L_39, L_40, L_48, L_57, L_76, L_80, L_90, L_91, L_97, L_99, L_100, L_255, L_273, L_1000, L_2000, q_ld, q_ldL, q_sto, q_stoL, q_add, q_sub, q_mul, q_dec, q_rem, q_div, q_lt_t, q_lt_f, q_le_t, q_le_f, q_eq_t, q_eq_f, q_em, q_me, q_ml, q_lm, q_mle, q_lem, q_s1, q_s1o, q_s1k, q_s12, q_s2, q_s2o, q_s2k, q_s21, Nat.add_sub_cancel, q_or, q_and, q_shl, true_or, or_true, false_or, or_false, true_and, and_true, false_and, and_false, not_true_eq_false, not_false_eq_true, ne_eq, fC_Paths_tell, gC_Paths_tell_0, gC_Paths_tell_25, gC_Paths_tell_65, eo, es, e42, em, eq_true c1, eh, er]
      · rw [hbt] at es
        refine ⟨s, ?_, Fr.rf, keep (fun z => z.2.elim c2 (fun y => by rw [hbt] at y; exact absurd y.1 (by decide)))⟩
        simp (disch := omega) only [Option.bind_some, ↓reduceIte, ↓M_1, ↓M_2, L_0, L_1, L_2, L_3, L_4, L_5, L_6, L_7, L_8, L_9, L_10, L_11, L_12, L_13, L_20, L_24, L_26, L_30, L_31, L_32, L_39, L_40, L_48, L_57, L_76, L_80, L_90, L_91, L_97, L_99, L_100, L_255, L_273, L_1000, L_2000, q_ld, q_ldL, q_sto, q_stoL, q_add, q_sub, q_mul, q_dec, q_rem, q_div, q_lt_t, q_lt_f, q_le_t, q_le_f, q_eq_t, q_eq_f, q_em, q_me, q_ml, q_lm, q_mle, q_lem, q_s1, q_s1o, q_s1k, q_s12, q_s2, q_s2o, q_s2k, q_s21, Nat.add_sub_cancel, q_or, q_and, q_shl, true_or, or_true, false_or, or_false, true_and, and_true, false_and, and_false, not_true_eq_false, not_false_eq_true, ne_eq, fC_Paths_tell, gC_Paths_tell_0, gC_Paths_tell_25, gC_Paths_tell_65, eo, es, e42, em, eq_true c1, tfF]
  · refine ⟨s, ?_, Fr.rf, keep (fun z => c1 z.1)⟩
    cases hbt : br.testBit (gv w o)
    · rw [hbt] at es
      simp (disch := omega) only [Option.bind_some, ↓reduceIte, ↓M_1, ↓M_2, L_0, L_1, L_2, L_3, L_4, L_5, L_6, L_7, L_8, L_9, L_10, L_11, L_12, L_13, L_20, L_24, L_26, L_30, L_31, L_32, L_39, L_40, L_48, L_57, L_76, L_80, L_90, L_91, L_97, L_99, L_100, L_255, L_273, L_1000, L_2000, q_ld, q_ldL, q_sto, q_stoL, q_add, q_sub, q_mul, q_dec, q_rem, q_div, q_lt_t, q_lt_f, q_le_t, q_le_f, q_eq_t, q_eq_f, q_em, q_me, q_ml, q_lm, q_mle, q_lem, q_s1, q_s1o, q_s1k, q_s12, q_s2, q_s2o, q_s2k, q_s21, Nat.add_sub_cancel, q_or, q_and, q_shl, true_or, or_true, false_or, or_false, true_and, and_true, false_and, and_false, not_true_eq_false, not_false_eq_true, ne_eq, fC_Paths_tell, gC_Paths_tell_0, gC_Paths_tell_25, eo, es, e42, em, eq_false c1]
    · rw [hbt] at es
      simp (disch := omega) only [Option.bind_some, ↓reduceIte, ↓M_1, ↓M_2, L_0, L_1, L_2, L_3, L_4, L_5, L_6, L_7, L_8, L_9, L_10, L_11, L_12, L_13, L_20, L_24, L_26, L_30, L_31, L_32, L_39, L_40, L_48, L_57, L_76, L_80, L_90, L_91, L_97, L_99, L_100, L_255, L_273, L_1000, L_2000, q_ld, q_ldL, q_sto, q_stoL, q_add, q_sub, q_mul, q_dec, q_rem, q_div, q_lt_t, q_lt_f, q_le_t, q_le_f, q_eq_t, q_eq_f, q_em, q_me, q_ml, q_lm, q_mle, q_lem, q_s1, q_s1o, q_s1k, q_s12, q_s2, q_s2o, q_s2k, q_s21, Nat.add_sub_cancel, q_or, q_and, q_shl, true_or, or_true, false_or, or_false, true_and, and_true, false_and, and_false, not_true_eq_false, not_false_eq_true, ne_eq, fC_Paths_tell, gC_Paths_tell_0, gC_Paths_tell_25, eo, es, e42, em, eq_false c1, tfF]
theorem C_spread (h : CW w s) (hN : 60 ≤ N) (hu : u < w 5 0) (hk : k < 1000) (hsh : shuts w sh br) (hgo : go < 20 ∨ go = 100) :
    ∃ z, fC_Paths_spread N (nI u) (nI k) sh (gI go) s = some z ∧ Fr [42] [] s z ∧ (∀ p, p < w 5 0 → z.1 42 p = ea (sbm w (TB w p 0 1000000 br go) u k)) ∧ PI w u br (fun o => o < 2 * w 5 1 ∧ ¬ o / 2 = go ∧ k ≤ hr w o) (fun p => sbm w (TB w p 0 1000000 br go) u k) := by
  have hb := h.bd
  have i1 : ∃ z, gC_Paths_spread_3 N N (nI u) (nI k) sh (gI go) (nI 0) s = gC_Paths_spread_32 N N (nI u) (nI k) sh (gI go) (nI 0) z ∧ Fr [42] [] s z ∧ ∀ p, p < w 5 0 → z.1 42 p = ea 1000000 := by
    refine loopU (fun f i z => gC_Paths_spread_3 N f (nI u) (nI k) sh (gI go) (nI i) z) (w 5 0) (fun i z => i ≤ w 5 0 ∧ Fr [42] [] s z ∧ ∀ p, p < i → z.1 42 p = ea 1000000) (fun o => ∃ z, o = gC_Paths_spread_32 N N (nI u) (nI k) sh (gI go) (nI 0) z ∧ Fr [42] [] s z ∧ ∀ p, p < w 5 0 → z.1 42 p = ea 1000000) ?_ ?_ (w 5 0) N 0 s (by omega) (by omega) ⟨by omega, Fr.rf, fun p hp => by omega⟩
    · rintro f i z hi ⟨g1, g2, g3⟩
      have hz : CW w z := h.fr g2 (by decide)
      refine Or.inl ⟨s1 z 42 i (mI 1), ?_, by omega, g2.tr (Fr.s1 (by decide)), fun p hp => ?_⟩
      · rw [gC_Paths_spread_3]
        simp (disch := omega) only [Option.bind_some, ↓reduceIte, ↓M_1, ↓M_2, L_0, L_1, L_2, L_3, L_4, L_5, L_6, L_7, L_8, L_9, L_10, L_11, L_12, L_13, L_20, L_24, L_26, L_30, L_31, L_32, L_39, L_40, L_48, L_57, L_76, L_80, L_90, L_91, L_97, L_99, L_100, L_255, L_273, L_1000, L_2000, q_ld, q_ldL, q_sto, q_stoL, q_add, q_sub, q_mul, q_dec, q_rem, q_div, q_lt_t, q_lt_f, q_le_t, q_le_f, q_eq_t, q_eq_f, q_em, q_me, q_ml, q_lm, q_mle, q_lem, q_s1, q_s1o, q_s1k, q_s12, q_s2, q_s2o, q_s2k, q_s21, Nat.add_sub_cancel, q_or, q_and, q_shl, true_or, or_true, false_or, or_false, true_and, and_true, false_and, and_false, not_true_eq_false, not_false_eq_true, ne_eq, hz.p]
      · by_cases c : p = i
        · subst c; exact q_s1 _ _ _ _
        · rw [q_s1k c]; exact g3 p (by omega)
    · rintro f z ⟨g1, g2, g3⟩
      have hz : CW w z := h.fr g2 (by decide)
      refine ⟨z, ?_, g2, g3⟩
      show gC_Paths_spread_3 N (f + 1) (nI u) (nI k) sh (gI go) (nI (w 5 0)) z = _
      rw [gC_Paths_spread_3]
      simp (disch := omega) only [Option.bind_some, ↓reduceIte, ↓M_1, ↓M_2, L_0, L_1, L_2, L_3, L_4, L_5, L_6, L_7, L_8, L_9, L_10, L_11, L_12, L_13, L_20, L_24, L_26, L_30, L_31, L_32, L_39, L_40, L_48, L_57, L_76, L_80, L_90, L_91, L_97, L_99, L_100, L_255, L_273, L_1000, L_2000, q_ld, q_ldL, q_sto, q_stoL, q_add, q_sub, q_mul, q_dec, q_rem, q_div, q_lt_t, q_lt_f, q_le_t, q_le_f, q_eq_t, q_eq_f, q_em, q_me, q_ml, q_lm, q_mle, q_lem, q_s1, q_s1o, q_s1k, q_s12, q_s2, q_s2o, q_s2k, q_s21, Nat.add_sub_cancel, q_or, q_and, q_shl, true_or, or_true, false_or, or_false, true_and, and_true, false_and, and_false, not_true_eq_false, not_false_eq_true, ne_eq, hz.p]
  obtain ⟨z0, i1, i2, i3⟩ := i1
  have i4 : ∃ z a, gC_Paths_spread_32 N N (nI u) (nI k) sh (gI go) (nI 0) z0 = some z ∧ Fr [42] [] s z ∧ (∀ p, p < w 5 0 → z.1 42 p = ea (a p)) ∧ PI w u br (fun o => o < 2 * w 5 1 ∧ ¬ o / 2 = go ∧ k ≤ hr w o) a := by
    refine loopU (fun f i z => gC_Paths_spread_32 N f (nI u) (nI k) sh (gI go) (nI i) z) (w 5 1) (fun i z => i ≤ w 5 1 ∧ Fr [42] [] s z ∧ ∃ a, (∀ p, p < w 5 0 → z.1 42 p = ea (a p)) ∧ (∀ p, p < w 5 0 → a p ≤ 99 ∨ a p = 1000000) ∧ PI w u br (fun o => (o < 2 * w 5 1 ∧ ¬ o / 2 = go ∧ k ≤ hr w o) ∧ ∃ j, j < i ∧ o / 2 = w 6 j) a)
      (fun o => ∃ z a, o = some z ∧ Fr [42] [] s z ∧ (∀ p, p < w 5 0 → z.1 42 p = ea (a p)) ∧ PI w u br (fun o => o < 2 * w 5 1 ∧ ¬ o / 2 = go ∧ k ≤ hr w o) a) ?_ ?_ (w 5 1) N 0 z0 (by omega) (by omega) ⟨by omega, i2, fun _ => 1000000, i3, fun p hp => Or.inr rfl, fun o ho => by obtain ⟨_, j, hj, _⟩ := ho; omega, fun p hp => Or.inl rfl⟩
    · rintro f i z hi ⟨g1, g2, a, g3, g4, g5⟩
      have hz : CW w z := h.fr g2 (by decide)
      have hm := h.or.1 i hi
      have eo : z.1 15 i = nI (w 6 i) := hz.o hi
      have eg := gI_eq (g := go) (m := w 6 i) (by omega)
      have hq := h.ok.2.2.2 (w 6 i) hm
      by_cases c1 : w 6 i = go
      · refine Or.inl ⟨z, ?_, by omega, g2, a, g3, g4, g5.cong (fun o => ⟨fun y => ⟨y.1, by obtain ⟨j, j1, j2⟩ := y.2; exact ⟨j, by omega, j2⟩⟩, fun y => ⟨y.1, ?_⟩⟩)⟩
        · rw [gC_Paths_spread_32]
          simp (disch := omega) only [Option.bind_some, ↓reduceIte, ↓M_1, ↓M_2, L_0, L_1, L_2, L_3, L_4, L_5, L_6, L_7, L_8, L_9, L_10, L_11, L_12, L_13, L_20, L_24, L_26, L_30, L_31, L_32, L_39, L_40, L_48, L_57, L_76, L_80, L_90, L_91, L_97, L_99, L_100, L_255, L_273, L_1000, L_2000, q_ld, q_ldL, q_sto, q_stoL, q_add, q_sub, q_mul, q_dec, q_rem, q_div, q_lt_t, q_lt_f, q_le_t, q_le_f, q_eq_t, q_eq_f, q_em, q_me, q_ml, q_lm, q_mle, q_lem, q_s1, q_s1o, q_s1k, q_s12, q_s2, q_s2o, q_s2k, q_s21, Nat.add_sub_cancel, q_or, q_and, q_shl, true_or, or_true, false_or, or_false, true_and, and_true, false_and, and_false, not_true_eq_false, not_false_eq_true, ne_eq, hz.m, eo, eg, eq_true c1, gC_Paths_spread_113]
        · obtain ⟨j, j1, j2⟩ := y.2
          by_cases d : j = i
          · subst d; rw [j2] at y; exact absurd c1 y.1.2.1
          · exact ⟨j, by omega, j2⟩
      · by_cases c2 : w 3 (w 6 i) < k
        · refine Or.inl ⟨z, ?_, by omega, g2, a, g3, g4, g5.cong (fun o => ⟨fun y => ⟨y.1, by obtain ⟨j, j1, j2⟩ := y.2; exact ⟨j, by omega, j2⟩⟩, fun y => ⟨y.1, ?_⟩⟩)⟩
          · rw [gC_Paths_spread_32]
            simp (disch := omega) only [Option.bind_some, ↓reduceIte, ↓M_1, ↓M_2, L_0, L_1, L_2, L_3, L_4, L_5, L_6, L_7, L_8, L_9, L_10, L_11, L_12, L_13, L_20, L_24, L_26, L_30, L_31, L_32, L_39, L_40, L_48, L_57, L_76, L_80, L_90, L_91, L_97, L_99, L_100, L_255, L_273, L_1000, L_2000, q_ld, q_ldL, q_sto, q_stoL, q_add, q_sub, q_mul, q_dec, q_rem, q_div, q_lt_t, q_lt_f, q_le_t, q_le_f, q_eq_t, q_eq_f, q_em, q_me, q_ml, q_lm, q_mle, q_lem, q_s1, q_s1o, q_s1k, q_s12, q_s2, q_s2o, q_s2k, q_s21, Nat.add_sub_cancel, q_or, q_and, q_shl, true_or, or_true, false_or, or_false, true_and, and_true, false_and, and_false, not_true_eq_false, not_false_eq_true, ne_eq, hz.m, eo, eg, eq_false c1, hz.h hm, gC_Paths_spread_113]
          · obtain ⟨j, j1, j2⟩ := y.2
            by_cases d : j = i
            · subst d
              have := y.1.2.2
              unfold hr at this
              rw [j2] at this
              omega
            · exact ⟨j, by omega, j2⟩
        · have o0 : 2 * w 6 i < 2 * w 5 1 := by omega
          have o1 : 2 * w 6 i + 1 < 2 * w 5 1 := by omega
          obtain ⟨z1, x1, x2, x3⟩ := C_tell (N := N) hz hu hsh o0 g3 g4
          rw [gv_0, show 2 * w 6 i / 2 = w 6 i by omega] at x1
          have hz1 : CW w z1 := hz.fr x2 (by decide)
          have g4' := tl_bd (u := u) (br := br) h.ok o0 g4
          obtain ⟨z2, y1, y2, y3⟩ := C_tell (N := N) hz1 hu hsh o1 x3 g4'
          rw [gv_1, show (2 * w 6 i + 1) / 2 = w 6 i by omega] at y1
          have hle : ∀ o, ((o < 2 * w 5 1 ∧ ¬ o / 2 = go ∧ k ≤ hr w o) ∧ ∃ j, j < i ∧ o / 2 = w 6 j) → hr w o ≤ w 3 (w 6 i) := fun o ho => by
            obtain ⟨j, j1, j2⟩ := ho.2
            have := h.or.2.1 j i j1 hi
            unfold hr
            rw [j2]
            omega
          have p1 := g5.step h.ok (fun o ho => ho.1.1) o0 (fun o ho => by rw [hr_0]; exact hle o ho)
          have p2 := p1.step h.ok (fun o ho => ho.elim (fun y => y.1.1) (fun y => by rw [y]; exact o0)) o1 (fun o ho => by
            rw [hr_1]
            rcases ho with ho | ho
            · exact hle o ho
            · rw [ho, hr_0]; exact Nat.le_refl _)
          refine Or.inl ⟨z2, ?_, by omega, (g2.tr x2).tr y2, _, y3, tl_bd h.ok o1 g4', p2.cong (fun o => ⟨fun y => ?_, fun y => ?_⟩)⟩
          · rw [gC_Paths_spread_32]
            simp (disch := omega) only [Option.bind_some, ↓reduceIte, ↓M_1, ↓M_2, L_0, L_1, L_2, L_3, L_4, L_5, L_6, L_7, L_8, L_9, L_10, L_11, L_12, L_13, L_20, L_24, L_26, L_30, L_31, L_32, L_39, L_40, L_48, L_57, L_76, L_80, L_90, L_91, L_97, L_99, L_100, L_255, L_273, L_1000, L_2000, q_ld, q_ldL, q_sto, q_stoL, q_add, q_sub, q_mul, q_dec, q_rem, q_div, q_lt_t, q_lt_f, q_le_t, q_le_f, q_eq_t, q_eq_f, q_em, q_me, q_ml, q_lm, q_mle, q_lem, q_s1, q_s1o, q_s1k, q_s12, q_s2, q_s2o, q_s2k, q_s21, Nat.add_sub_cancel, q_or, q_and, q_shl, true_or, or_true, false_or, or_false, true_and, and_true, false_and, and_false, not_true_eq_false, not_false_eq_true, ne_eq, hz.m, eo, eg, eq_false c1, hz.h hm, hz.a hm, x1, hz1.b hm, y1, gC_Paths_spread_113]
          · rcases y with (y | y) | y
            · exact ⟨y.1, by obtain ⟨j, j1, j2⟩ := y.2; exact ⟨j, by omega, j2⟩⟩
            · refine ⟨⟨by omega, ?_, ?_⟩, i, by omega, by omega⟩
              · rw [y, show 2 * w 6 i / 2 = w 6 i by omega]; exact c1
              · rw [y, hr_0]; omega
            · refine ⟨⟨by omega, ?_, ?_⟩, i, by omega, by omega⟩
              · rw [y, show (2 * w 6 i + 1) / 2 = w 6 i by omega]; exact c1
              · rw [y, hr_1]; omega
          · obtain ⟨j, j1, j2⟩ := y.2
            by_cases d : j = i
            · subst d
              have : o = 2 * w 6 j ∨ o = 2 * w 6 j + 1 := by omega
              rcases this with e | e
              · exact Or.inl (Or.inr e)
              · exact Or.inr e
            · exact Or.inl (Or.inl ⟨y.1, j, by omega, j2⟩)
    · rintro f z ⟨g1, g2, a, g3, g4, g5⟩
      have hz : CW w z := h.fr g2 (by decide)
      refine ⟨z, a, ?_, g2, g3, g5.cong (fun o => ⟨fun y => y.1, fun y => ⟨y, ?_⟩⟩)⟩
      · show gC_Paths_spread_32 N (f + 1) (nI u) (nI k) sh (gI go) (nI (w 5 1)) z = _
        rw [gC_Paths_spread_32]
        simp (disch := omega) only [Option.bind_some, ↓reduceIte, ↓M_1, ↓M_2, L_0, L_1, L_2, L_3, L_4, L_5, L_6, L_7, L_8, L_9, L_10, L_11, L_12, L_13, L_20, L_24, L_26, L_30, L_31, L_32, L_39, L_40, L_48, L_57, L_76, L_80, L_90, L_91, L_97, L_99, L_100, L_255, L_273, L_1000, L_2000, q_ld, q_ldL, q_sto, q_stoL, q_add, q_sub, q_mul, q_dec, q_rem, q_div, q_lt_t, q_lt_f, q_le_t, q_le_f, q_eq_t, q_eq_f, q_em, q_me, q_ml, q_lm, q_mle, q_lem, q_s1, q_s1o, q_s1k, q_s12, q_s2, q_s2o, q_s2k, q_s21, Nat.add_sub_cancel, q_or, q_and, q_shl, true_or, or_true, false_or, or_false, true_and, and_true, false_and, and_false, not_true_eq_false, not_false_eq_true, ne_eq, hz.m]
      · obtain ⟨j, j1, j2⟩ := h.or.2.2 (o / 2) (by omega)
        exact ⟨j, j1, j2.symm⟩
  obtain ⟨z, a, i4, i5, i6, i7⟩ := i4
  refine ⟨z, ?_, i5, fun p hp => ?_, i7.ext h.ok (fun o ho => ho.1) (fun p hp => PI_sbm h.ok hp i7)⟩
  · rw [← i4, ← i1]
    simp (disch := omega) only [Option.bind_some, ↓reduceIte, ↓M_1, ↓M_2, L_0, L_1, L_2, L_3, L_4, L_5, L_6, L_7, L_8, L_9, L_10, L_11, L_12, L_13, L_20, L_24, L_26, L_30, L_31, L_32, L_39, L_40, L_48, L_57, L_76, L_80, L_90, L_91, L_97, L_99, L_100, L_255, L_273, L_1000, L_2000, q_ld, q_ldL, q_sto, q_stoL, q_add, q_sub, q_mul, q_dec, q_rem, q_div, q_lt_t, q_lt_f, q_le_t, q_le_f, q_eq_t, q_eq_f, q_em, q_me, q_ml, q_lm, q_mle, q_lem, q_s1, q_s1o, q_s1k, q_s12, q_s2, q_s2o, q_s2k, q_s21, Nat.add_sub_cancel, q_or, q_and, q_shl, true_or, or_true, false_or, or_false, true_and, and_true, false_and, and_false, not_true_eq_false, not_false_eq_true, ne_eq, fC_Paths_spread, gC_Paths_spread_0]
  · rw [i6 p hp, PI_sbm h.ok hp i7]
end CSp
