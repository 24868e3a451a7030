/-! the class weighs what follows -/
def iZ (x : Int) : Int32 := Int32.ofInt x
def fC : Int := 1048576
theorem iZ_toInt {x : Int} (h1 : -2147483648 ≤ x) (h2 : x < 2147483648) : (iZ x).toInt = x := Int32.toInt_ofInt_of_le h1 h2
theorem z_n (k : Nat) : nI k = iZ (k : Int) := Int32.ofInt_eq_ofNat.symm
theorem z_m (k : Nat) : mI k = iZ (-(k : Int)) := by
  unfold mI
  rw [z_n]
  exact (Int32.ofInt_neg _).symm
theorem z_F : nI 1048576 = iZ fC := z_n _
theorem z_add (a b : Int) : iZ a + iZ b = iZ (a + b) := (Int32.ofInt_add a b).symm
theorem z_sub (a b : Int) : iZ a - iZ b = iZ (a - b) := (Int32.ofInt_sub a b).symm
theorem z_lt {a b : Int} (a1 : -2147483648 ≤ a) (a2 : a < 2147483648) (b1 : -2147483648 ≤ b) (b2 : b < 2147483648) : (iZ a < iZ b) = (a < b) := propext (by rw [Int32.lt_iff_toInt_lt, iZ_toInt a1 a2, iZ_toInt b1 b2])
theorem z_eq {a b : Int} (a1 : -2147483648 ≤ a) (a2 : a < 2147483648) (b1 : -2147483648 ≤ b) (b2 : b < 2147483648) : (iZ a = iZ b) = (a = b) := propext ⟨fun z => by
  have := congrArg Int32.toInt z
  rw [iZ_toInt a1 a2, iZ_toInt b1 b2] at this
  exact this, fun z => by rw [z]⟩
theorem z_min {a b : Int} (a1 : -2147483648 ≤ a) (a2 : a < 2147483648) (b1 : -2147483648 ≤ b) (b2 : b < 2147483648) : (if iZ a > iZ b then iZ b else iZ a) = iZ (min a b) := by
  have e := z_lt (a := b) (b := a) b1 b2 a1 a2
  by_cases d : b < a
  · rw [if_pos (show iZ b < iZ a by rw [e]; exact d), show min a b = b by omega]
  · rw [if_neg (show ¬ iZ b < iZ a by rw [e]; exact d), show min a b = a by omega]
def wc (w : Nat → Nat → Nat) (me m : Nat) : Int := if me = 1 then 32 * (w 4 m : Int) + 1 else if me = 2 then -1 else 1
def wb (w : Nat → Nat → Nat) (me : Nat) (K : Nat → Int) (o : Nat) : Int := if K o = fC then fC else K o + wc w me (o / 2)
def lf (w : Nat → Nat → Nat) (me : Nat) (K : Nat → Int) (u r n : Nat) : Int := fz (fun o x => if beg w u r o then min x (wb w me K o) else x) fC n
def FA (w : Nat → Nat → Nat) (v bb br me : Nat) (K : Nat → Int) (s : Nat) : Int := if br.testBit (gt w s) = true then (if gt w s = v ∧ hr w s ≤ bb then 0 else fC) else min (if gt w s = v ∧ hr w s ≤ bb then 0 else fC) (lf w me K (gt w s) (rd w s) (2 * w 5 1))
def TA (w : Nat → Nat → Nat) (v bb br me : Nat) : Nat → Int := itr (FA w v bb br me) 0 100
def okK (x : Int) : Prop := x = fC ∨ (-1000 ≤ x ∧ x ≤ 100000)
section TAs
variable {w : Nat → Nat → Nat} {u v bb br me r : Nat} {K : Nat → Int}
theorem TA_rec (h : okW w) {s : Nat} (hs : s < 2 * w 5 1) : TA w v bb br me s = FA w v bb br me (TA w v bb br me) s := by
  refine itr_rec (n := 2 * w 5 1) (key := hr w) (fun s hs => hr_le h hs) _ _ (fun T T' s hs hT => ?_) s hs
  unfold FA
  split
  · rfl
  · congr 1
    unfold lf
    refine fz_cong (fun o x ho => ?_)
    by_cases c : beg w (gt w s) (rd w s) o
    · rw [if_pos c, if_pos c]
      unfold wb
      rw [hT o ho (Nat.lt_of_lt_of_le (rd_gt h hs) c.2)]
    · rw [if_neg c, if_neg c]
theorem wc_bd (h : okW w) (me : Nat) {s : Nat} (hs : s < 2 * w 5 1) : -1 ≤ wc w me (s / 2) ∧ wc w me (s / 2) ≤ 289 := by
  have := (h.2.2.2 (s / 2) (by omega)).2.2.2.2
  unfold wc
  split
  · omega
  · split <;> omega
theorem lf_ub (n : Nat) : lf w me K u r n ≤ fC ∧ ∀ o, o < n → beg w u r o → lf w me K u r n ≤ wb w me K o := by
  refine fz_ind (f := fun o x => if beg w u r o then min x (wb w me K o) else x) (z := fC) (n := n) (fun k a => a ≤ fC ∧ ∀ o, o < k → beg w u r o → a ≤ wb w me K o) ⟨Int.le_refl _, fun o ho => by omega⟩ (fun k a hk hq => ?_) n (Nat.le_refl _)
  try simp only
  split
  · refine ⟨by have := hq.1; omega, fun o ho hb => ?_⟩
    by_cases d : o = k
    · subst d; omega
    · have := hq.2 o (by omega) hb; omega
  · refine ⟨hq.1, fun o ho hb => ?_⟩
    by_cases d : o = k
    · subst d; exact absurd hb (by assumption)
    · exact hq.2 o (by omega) hb
theorem lf_att (n : Nat) : lf w me K u r n = fC ∨ ∃ o, o < n ∧ beg w u r o ∧ lf w me K u r n = wb w me K o := by
  refine fz_ind (f := fun o x => if beg w u r o then min x (wb w me K o) else x) (z := fC) (n := n) (fun k a => a = fC ∨ ∃ o, o < k ∧ beg w u r o ∧ a = wb w me K o) (Or.inl rfl) (fun k a hk hq => ?_) n (Nat.le_refl _)
  try simp only
  split
  · rcases Int.le_total a (wb w me K k) with c | c
    · rw [show min a (wb w me K k) = a by omega]
      exact hq.imp id (fun ⟨o, h1, h2⟩ => ⟨o, by omega, h2⟩)
    · rw [show min a (wb w me K k) = wb w me K k by omega]
      exact Or.inr ⟨k, by omega, by assumption, rfl⟩
  · exact hq.imp id (fun ⟨o, h1, h2⟩ => ⟨o, by omega, h2⟩)
theorem TA_bd (h : okW w) : ∀ s, s < 2 * w 5 1 → TA w v bb br me s = fC ∨ (-100 + (hr w s : Int) ≤ TA w v bb br me s ∧ TA w v bb br me s ≤ 300 * (100 - (hr w s : Int))) := by
  refine downI (fun s hs => hr_le h hs) _ (fun s hs ih => ?_)
  have h9 := hr_le h hs
  have hl : lf w me (TA w v bb br me) (gt w s) (rd w s) (2 * w 5 1) = fC ∨ (-100 + (hr w s : Int) ≤ lf w me (TA w v bb br me) (gt w s) (rd w s) (2 * w 5 1) ∧ lf w me (TA w v bb br me) (gt w s) (rd w s) (2 * w 5 1) ≤ 300 * (100 - (hr w s : Int))) := by
    rcases lf_att (w := w) (me := me) (K := TA w v bb br me) (u := gt w s) (r := rd w s) (2 * w 5 1) with c | ⟨o, c1, c2, c3⟩
    · exact Or.inl c
    · have hlt := Nat.lt_of_lt_of_le (rd_gt h hs) c2.2
      rw [c3]
      unfold wb
      have hw := wc_bd h me c1
      rcases ih o c1 hlt with d | d
      · rw [if_pos d]; exact Or.inl rfl
      · rw [if_neg (by unfold fC; omega)]
        exact Or.inr (by omega)
  rw [TA_rec h hs]
  unfold FA
  have hb : (if gt w s = v ∧ hr w s ≤ bb then (0 : Int) else fC) = 0 ∨ (if gt w s = v ∧ hr w s ≤ bb then (0 : Int) else fC) = fC := by
    split
    · exact Or.inl rfl
    · exact Or.inr rfl
  generalize (if gt w s = v ∧ hr w s ≤ bb then (0 : Int) else fC) = b0 at hb
  generalize lf w me (TA w v bb br me) (gt w s) (rd w s) (2 * w 5 1) = l0 at hl
  unfold fC at hb hl ⊢
  split <;> omega
theorem TA_ok (h : okW w) {s : Nat} (hs : s < 2 * w 5 1) : okK (TA w v bb br me s) := by
  have h9 := hr_le h hs
  rcases TA_bd (v := v) (bb := bb) (br := br) (me := me) h s hs with c | c
  · exact Or.inl c
  · exact Or.inr (by omega)
theorem wb_ok (h : okW w) {o : Nat} (ho : o < 2 * w 5 1) (hk : okK (K o)) : wb w me K o = fC ∨ (-1001 ≤ wb w me K o ∧ wb w me K o ≤ 100289) := by
  have hw := wc_bd h me ho
  unfold wb
  rcases hk with c | c
  · rw [if_pos c]; exact Or.inl rfl
  · rw [if_neg (by unfold fC; omega)]
    exact Or.inr (by omega)
theorem lf_bd (h : okW w) {n : Nat} (hn : n ≤ 2 * w 5 1) (hk : ∀ o, o < 2 * w 5 1 → beg w u r o → okK (K o)) : lf w me K u r n = fC ∨ (-1001 ≤ lf w me K u r n ∧ lf w me K u r n ≤ 100289) := by
  rcases lf_att (w := w) (me := me) (K := K) (u := u) (r := r) n with c | ⟨o, c1, c2, c3⟩
  · exact Or.inl c
  · rw [c3]
    exact wb_ok h (by omega) (hk o (by omega) c2)
end TAs
section CA
variable {N : Nat} {w : Nat → Nat → Nat} {s : vSt} {u v bb br me r : Nat} {K : Nat → Int} {sh : Int32}
theorem C_weightOf (h : CW w s) (h7 : s.1 41 7 = nI me) (hme : me < 3) {m : Nat} (hm : m < w 5 1) : fC_Paths_weightOf N (nI m) s = some (iZ (wc w me m), s) := by
  have hb := h.bd
  unfold wc
  by_cases c : me = 1
  · rw [if_pos c]
    simp (disch := omega) only [Option.bind_some, ↓reduceIte, ↓M_1, ↓M_2, L_0, L_1, L_2, L_3, L_4, L_5, L_6, L_7, L_8, L_9, L_10, L_11, L_12, L_13, L_20, L_24, L_26, L_30, L_31, L_32, L_39, L_40, L_48, L_57, L_76, L_80, L_90, L_91, L_97, L_99, L_100, L_255, L_273, L_1000, L_2000, q_ld, q_ldL, q_sto, q_stoL, q_add, q_sub, q_mul, q_dec, q_rem, q_div, q_lt_t, q_lt_f, q_le_t, q_le_f, q_eq_t, q_eq_f, q_em, q_me, q_ml, q_lm, q_mle, q_lem, q_s1, q_s1o, q_s1k, q_s12, q_s2, q_s2o, q_s2k, q_s21, Nat.add_sub_cancel, q_or, q_and, q_shl, true_or, or_true, false_or, or_false, true_and, and_true, false_and, and_false, not_true_eq_false, not_false_eq_true, ne_eq, fC_Paths_weightOf, gC_Paths_weightOf_0, h7, h.c hm]
    rw [z_n]
    congr 3
  · rw [if_neg c]
    by_cases d : me = 2
    · rw [if_pos d]
      simp (disch := omega) only [Option.bind_some, ↓reduceIte, ↓M_1, ↓M_2, L_0, L_1, L_2, L_3, L_4, L_5, L_6, L_7, L_8, L_9, L_10, L_11, L_12, L_13, L_20, L_24, L_26, L_30, L_31, L_32, L_39, L_40, L_48, L_57, L_76, L_80, L_90, L_91, L_97, L_99, L_100, L_255, L_273, L_1000, L_2000, q_ld, q_ldL, q_sto, q_stoL, q_add, q_sub, q_mul, q_dec, q_rem, q_div, q_lt_t, q_lt_f, q_le_t, q_le_f, q_eq_t, q_eq_f, q_em, q_me, q_ml, q_lm, q_mle, q_lem, q_s1, q_s1o, q_s1k, q_s12, q_s2, q_s2o, q_s2k, q_s21, Nat.add_sub_cancel, q_or, q_and, q_shl, true_or, or_true, false_or, or_false, true_and, and_true, false_and, and_false, not_true_eq_false, not_false_eq_true, ne_eq, fC_Paths_weightOf, gC_Paths_weightOf_0, h7]
      rw [z_m]
      rfl
    · rw [if_neg d]
      simp (disch := omega) only [Option.bind_some, ↓reduceIte, ↓M_1, ↓M_2, L_0, L_1, L_2, L_3, L_4, L_5, L_6, L_7, L_8, L_9, L_10, L_11, L_12, L_13, L_20, L_24, L_26, L_30, L_31, L_32, L_39, L_40, L_48, L_57, L_76, L_80, L_90, L_91, L_97, L_99, L_100, L_255, L_273, L_1000, L_2000, q_ld, q_ldL, q_sto, q_stoL, q_add, q_sub, q_mul, q_dec, q_rem, q_div, q_lt_t, q_lt_f, q_le_t, q_le_f, q_eq_t, q_eq_f, q_em, q_me, q_ml, q_lm, q_mle, q_lem, q_s1, q_s1o, q_s1k, q_s12, q_s2, q_s2o, q_s2k, q_s21, Nat.add_sub_cancel, q_or, q_and, q_shl, true_or, or_true, false_or, or_false, true_and, and_true, false_and, and_false, not_true_eq_false, not_false_eq_true, ne_eq, fC_Paths_weightOf, gC_Paths_weightOf_0, h7]
      rw [z_n]
      rfl
theorem C_weightBy (h : CW w s) (h7 : s.1 41 7 = nI me) (hme : me < 3) (hu : u < w 5 0) (hr' : r < 1000) {m : Nat} (hm : m < w 5 1) (hK : ∀ o, o < 2 * w 5 1 → beg w u r o → s.1 43 (sw o) = iZ (K o) ∧ okK (K o)) :
    fC_Paths_weightBy N (nI m) (nI u) (nI r) s = some (if (w 1 m = u ∨ w 2 m = u) ∧ beg w u r (ix w m u) then iZ (wb w me K (ix w m u)) else iZ fC, s) := by
  have hb := h.bd
  have ha := C_isAt (N := N) h hm hu
  have h3 : w 3 m ≤ 99 := (h.ok.2.2.2 m hm).2.2.2.1
  by_cases c : w 1 m = u ∨ w 2 m = u
  · rw [if_pos c] at ha
    by_cases d : r ≤ w 3 m
    · have hbg : beg w u r (ix w m u) := ⟨ix_gv c, by rw [ix_hr]; exact d⟩
      rw [if_pos ⟨c, hbg⟩]
      have hi := ix_lt (w := w) u hm
      have hsw := sw_lt hi
      obtain ⟨k1, k2⟩ := hK _ hi hbg
      have ep := C_place (N := N) h hm c hu
      have ew := C_weightOf (N := N) h h7 hme hm
      by_cases e : K (ix w m u) = fC
      · rw [show wb w me K (ix w m u) = fC from if_pos e]
        rw [e] at k1
        rw [← z_F] at k1 ⊢
        simp (disch := omega) only [Option.bind_some, ↓reduceIte, ↓M_1, ↓M_2, L_0, L_1, L_2, L_3, L_4, L_5, L_6, L_7, L_8, L_9, L_10, L_11, L_12, L_13, L_20, L_24, L_26, L_30, L_31, L_32, L_39, L_40, L_48, L_57, L_76, L_80, L_90, L_91, L_97, L_99, L_100, L_255, L_273, L_1000, L_2000, q_ld, q_ldL, q_sto, q_stoL, q_add, q_sub, q_mul, q_dec, q_rem, q_div, q_lt_t, q_lt_f, q_le_t, q_le_f, q_eq_t, q_eq_f, q_em, q_me, q_ml, q_lm, q_mle, q_lem, q_s1, q_s1o, q_s1k, q_s12, q_s2, q_s2o, q_s2k, q_s21, Nat.add_sub_cancel, q_or, q_and, q_shl, true_or, or_true, false_or, or_false, true_and, and_true, false_and, and_false, not_true_eq_false, not_false_eq_true, ne_eq, fC_Paths_weightBy, gC_Paths_weightBy_0, ha, h.h hm, C_otherAt h hm hu, ep, k1, L_1048576]
      · rw [show wb w me K (ix w m u) = K (ix w m u) + wc w me m from (if_neg e).trans (by rw [ix_half])]
        have e1 : (iZ (K (ix w m u)) = nI 1048576) = False := by
          rw [z_F, z_eq (by rcases k2 with k2 | k2; exact absurd k2 e; omega) (by rcases k2 with k2 | k2; exact absurd k2 e; omega) (by decide) (by decide)]
          exact eq_false e
        simp (disch := omega) only [Option.bind_some, ↓reduceIte, ↓M_1, ↓M_2, L_0, L_1, L_2, L_3, L_4, L_5, L_6, L_7, L_8, L_9, L_10, L_11, L_12, L_13, L_20, L_24, L_26, L_30, L_31, L_32, L_39, L_40, L_48, L_57, L_76, L_80, L_90, L_91, L_97, L_99, L_100, L_255, L_273, L_1000, L_2000, q_ld, q_ldL, q_sto, q_stoL, q_add, q_sub, q_mul, q_dec, q_rem, q_div, q_lt_t, q_lt_f, q_le_t, q_le_f, q_eq_t, q_eq_f, q_em, q_me, q_ml, q_lm, q_mle, q_lem, q_s1, q_s1o, q_s1k, q_s12, q_s2, q_s2o, q_s2k, q_s21, Nat.add_sub_cancel, q_or, q_and, q_shl, true_or, or_true, false_or, or_false, true_and, and_true, false_and, and_false, not_true_eq_false, not_false_eq_true, ne_eq, fC_Paths_weightBy, gC_Paths_weightBy_0, ha, h.h hm, C_otherAt h hm hu, ep, k1, L_1048576, e1, ew, z_add]
    · rw [if_neg (fun z => d (by have := z.2.2; rw [ix_hr] at this; exact this)), ← z_F]
      simp (disch := omega) only [Option.bind_some, ↓reduceIte, ↓M_1, ↓M_2, L_0, L_1, L_2, L_3, L_4, L_5, L_6, L_7, L_8, L_9, L_10, L_11, L_12, L_13, L_20, L_24, L_26, L_30, L_31, L_32, L_39, L_40, L_48, L_57, L_76, L_80, L_90, L_91, L_97, L_99, L_100, L_255, L_273, L_1000, L_2000, q_ld, q_ldL, q_sto, q_stoL, q_add, q_sub, q_mul, q_dec, q_rem, q_div, q_lt_t, q_lt_f, q_le_t, q_le_f, q_eq_t, q_eq_f, q_em, q_me, q_ml, q_lm, q_mle, q_lem, q_s1, q_s1o, q_s1k, q_s12, q_s2, q_s2o, q_s2k, q_s21, Nat.add_sub_cancel, q_or, q_and, q_shl, true_or, or_true, false_or, or_false, true_and, and_true, false_and, and_false, not_true_eq_false, not_false_eq_true, ne_eq, fC_Paths_weightBy, gC_Paths_weightBy_0, ha, h.h hm, L_1048576]
  · rw [if_neg c] at ha
    rw [if_neg (fun z => c z.1), ← z_F]
    simp (disch := omega) only [Option.bind_some, ↓reduceIte, ↓M_1, ↓M_2, L_0, L_1, L_2, L_3, L_4, L_5, L_6, L_7, L_8, L_9, L_10, L_11, L_12, L_13, L_20, L_24, L_26, L_30, L_31, L_32, L_39, L_40, L_48, L_57, L_76, L_80, L_90, L_91, L_97, L_99, L_100, L_255, L_273, L_1000, L_2000, q_ld, q_ldL, q_sto, q_stoL, q_add, q_sub, q_mul, q_dec, q_rem, q_div, q_lt_t, q_lt_f, q_le_t, q_le_f, q_eq_t, q_eq_f, q_em, q_me, q_ml, q_lm, q_mle, q_lem, q_s1, q_s1o, q_s1k, q_s12, q_s2, q_s2o, q_s2k, q_s21, Nat.add_sub_cancel, q_or, q_and, q_shl, true_or, or_true, false_or, or_false, true_and, and_true, false_and, and_false, not_true_eq_false, not_false_eq_true, ne_eq, fC_Paths_weightBy, gC_Paths_weightBy_0, ha, L_1048576]
theorem C_leastFrom (h : CW w s) (hN : 60 ≤ N) (h7 : s.1 41 7 = nI me) (hme : me < 3) (hu : u < w 5 0) (hr' : r < 1000) (hK : ∀ o, o < 2 * w 5 1 → beg w u r o → s.1 43 (sw o) = iZ (K o) ∧ okK (K o)) :
    fC_Paths_leastFrom N (nI u) (nI r) s = some (iZ (lf w me K u r (2 * w 5 1)), s) := by
  have hb := h.bd
  simp (disch := omega) only [Option.bind_some, ↓reduceIte, ↓M_1, ↓M_2, L_0, L_1, L_2, L_3, L_4, L_5, L_6, L_7, L_8, L_9, L_10, L_11, L_12, L_13, L_20, L_24, L_26, L_30, L_31, L_32, L_39, L_40, L_48, L_57, L_76, L_80, L_90, L_91, L_97, L_99, L_100, L_255, L_273, L_1000, L_2000, q_ld, q_ldL, q_sto, q_stoL, q_add, q_sub, q_mul, q_dec, q_rem, q_div, q_lt_t, q_lt_f, q_le_t, q_le_f, q_eq_t, q_eq_f, q_em, q_me, q_ml, q_lm, q_mle, q_lem, q_s1, q_s1o, q_s1k, q_s12, q_s2, q_s2o, q_s2k, q_s21, Nat.add_sub_cancel, q_or, q_and, q_shl, true_or, or_true, false_or, or_false, true_and, and_true, false_and, and_false, not_true_eq_false, not_false_eq_true, ne_eq, fC_Paths_leastFrom, gC_Paths_leastFrom_0, L_1048576]
  rw [z_F]
  refine loopS (fun f i (a : Int) => gC_Paths_leastFrom_6 N f (nI u) (nI r) (iZ a) (nI i) s) (fun i => lf w me K u r (2 * i)) (w 5 1) _ (fun f m hm => ?_) (fun f => ?_) N (by omega)
  · have e := C_weightBy (N := N) h h7 hme hu hr' hm hK
    have hbd := lf_bd (me := me) (u := u) (r := r) (K := K) h.ok (n := 2 * m) (by omega) (fun o ho hbg => (hK o ho hbg).2)
    have hle := (lf_ub (w := w) (me := me) (u := u) (r := r) (K := K) (2 * m)).1
    have es : lf w me K u r (2 * (m + 1)) = if (w 1 m = u ∨ w 2 m = u) ∧ beg w u r (ix w m u) then min (lf w me K u r (2 * m)) (wb w me K (ix w m u)) else lf w me K u r (2 * m) := by
      unfold lf
      have q1 := fz_hop (f := fun o x => if beg w u r o then min x (wb w me K o) else x) (z := fC) h.ok u (fun s x hs hg => if_neg (fun z => hg z.1)) (show m + 1 ≤ w 5 1 by omega)
      have q0 := fz_hop (f := fun o x => if beg w u r o then min x (wb w me K o) else x) (z := fC) h.ok u (fun s x hs hg => if_neg (fun z => hg z.1)) (show m ≤ w 5 1 by omega)
      rw [q1, fz, ← q0]
      by_cases c : w 1 m = u ∨ w 2 m = u
      · rw [if_pos c]
        by_cases d : beg w u r (ix w m u)
        · rw [if_pos d, if_pos ⟨c, d⟩]
        · rw [if_neg d, if_neg (fun z => d z.2)]
      · rw [if_neg c, if_neg (fun z => c z.1)]
    show gC_Paths_leastFrom_6 N (f + 1) (nI u) (nI r) (iZ (lf w me K u r (2 * m))) (nI m) s = gC_Paths_leastFrom_6 N f (nI u) (nI r) (iZ (lf w me K u r (2 * (m + 1)))) (nI (m + 1)) s
    rw [es]
    generalize lf w me K u r (2 * m) = a at hbd hle
    unfold fC at hle hbd
    rw [gC_Paths_leastFrom_6]
    by_cases c : (w 1 m = u ∨ w 2 m = u) ∧ beg w u r (ix w m u)
    · have hbd2 := wb_ok (me := me) h.ok (ix_lt (w := w) u hm) (hK _ (ix_lt (w := w) u hm) c.2).2
      rw [if_pos c] at e ⊢
      generalize wb w me K (ix w m u) = b at e hbd2
      unfold fC at hbd2
      simp (disch := omega) only [Option.bind_some, ↓reduceIte, ↓M_1, ↓M_2, L_0, L_1, L_2, L_3, L_4, L_5, L_6, L_7, L_8, L_9, L_10, L_11, L_12, L_13, L_20, L_24, L_26, L_30, L_31, L_32, L_39, L_40, L_48, L_57, L_76, L_80, L_90, L_91, L_97, L_99, L_100, L_255, L_273, L_1000, L_2000, q_ld, q_ldL, q_sto, q_stoL, q_add, q_sub, q_mul, q_dec, q_rem, q_div, q_lt_t, q_lt_f, q_le_t, q_le_f, q_eq_t, q_eq_f, q_em, q_me, q_ml, q_lm, q_mle, q_lem, q_s1, q_s1o, q_s1k, q_s12, q_s2, q_s2o, q_s2k, q_s21, Nat.add_sub_cancel, q_or, q_and, q_shl, true_or, or_true, false_or, or_false, true_and, and_true, false_and, and_false, not_true_eq_false, not_false_eq_true, ne_eq, h.m, e, z_min]
    · rw [if_neg c] at e ⊢
      have e2 : min a fC = a := by unfold fC; omega
      have e3 := z_min (a := a) (b := fC) (by omega) (by omega) (by decide) (by decide)
      rw [e2] at e3
      simp (disch := omega) only [Option.bind_some, ↓reduceIte, ↓M_1, ↓M_2, L_0, L_1, L_2, L_3, L_4, L_5, L_6, L_7, L_8, L_9, L_10, L_11, L_12, L_13, L_20, L_24, L_26, L_30, L_31, L_32, L_39, L_40, L_48, L_57, L_76, L_80, L_90, L_91, L_97, L_99, L_100, L_255, L_273, L_1000, L_2000, q_ld, q_ldL, q_sto, q_stoL, q_add, q_sub, q_mul, q_dec, q_rem, q_div, q_lt_t, q_lt_f, q_le_t, q_le_f, q_eq_t, q_eq_f, q_em, q_me, q_ml, q_lm, q_mle, q_lem, q_s1, q_s1o, q_s1k, q_s12, q_s2, q_s2o, q_s2k, q_s21, Nat.add_sub_cancel, q_or, q_and, q_shl, true_or, or_true, false_or, or_false, true_and, and_true, false_and, and_false, not_true_eq_false, not_false_eq_true, ne_eq, h.m, e, e3]
  · show gC_Paths_leastFrom_6 N (f + 1) (nI u) (nI r) (iZ (lf w me K u r (2 * w 5 1))) (nI (w 5 1)) s = _
    rw [gC_Paths_leastFrom_6]
    simp (disch := omega) only [Option.bind_some, ↓reduceIte, ↓M_1, ↓M_2, L_0, L_1, L_2, L_3, L_4, L_5, L_6, L_7, L_8, L_9, L_10, L_11, L_12, L_13, L_20, L_24, L_26, L_30, L_31, L_32, L_39, L_40, L_48, L_57, L_76, L_80, L_90, L_91, L_97, L_99, L_100, L_255, L_273, L_1000, L_2000, q_ld, q_ldL, q_sto, q_stoL, q_add, q_sub, q_mul, q_dec, q_rem, q_div, q_lt_t, q_lt_f, q_le_t, q_le_f, q_eq_t, q_eq_f, q_em, q_me, q_ml, q_lm, q_mle, q_lem, q_s1, q_s1o, q_s1k, q_s12, q_s2, q_s2o, q_s2k, q_s21, Nat.add_sub_cancel, q_or, q_and, q_shl, true_or, or_true, false_or, or_false, true_and, and_true, false_and, and_false, not_true_eq_false, not_false_eq_true, ne_eq, h.m]
theorem tfF : (true = false) = False := by decide
/-- those who are shut, as bits -/
def shuts (w : Nat → Nat → Nat) (sh : Int32) (br : Nat) : Prop := ∀ p, p < w 5 0 → (sh &&& nI (2 ^ p) = nI 0) = (br.testBit p = false)
theorem C_restAt (h : CW w s) (hN : 60 ≤ N) (h7 : s.1 41 7 = nI me) (hme : me < 3) (hv : v < w 5 0) (hbb : bb < 2 ^ 31) (hsh : shuts w sh br) {a : Nat} (ha : a < 2 * w 5 1) (hK : ∀ o, o < 2 * w 5 1 → beg w (gt w a) (rd w a) o → s.1 43 (sw o) = iZ (K o) ∧ okK (K o)) :
    fC_Paths_restAt N (nI (sw a)) (nI v) (nI bb) sh s = some (iZ (FA w v bb br me K a), s) := by
  have hb := h.bd
  have hsw := sw_lt ha
  have eg := C_getter (N := N) h ha
  have h9 := gt_lt h.ok ha
  have h3 : s.1 13 (sw a / 2) = nI (hr w a) := by rw [sw_half]; exact h.h (m := a / 2) (by omega)
  have hh := hr_le h.ok ha
  have e1 : sw a / 2 ^ 1 = sw a / 2 := rfl
  have hd : fC_Paths_restAt N (nI (sw a)) (nI v) (nI bb) sh s = gC_Paths_restAt_49 N (nI (sw a)) sh (nI (gt w a)) (iZ (if gt w a = v ∧ hr w a ≤ bb then 0 else fC)) s := by
    by_cases c1 : gt w a = v
    · by_cases c2 : hr w a ≤ bb
      · rw [if_pos ⟨c1, c2⟩, show iZ 0 = nI 0 from (z_n 0).symm]
        simp (disch := omega) only [Option.bind_some, ↓reduceIte, ↓M_1, ↓M_2, L_0, L_1, L_2, L_3, L_4, L_5, L_6, L_7, L_8, L_9, L_10, L_11, L_12, L_13, L_20, L_24, L_26, L_30, L_31, L_32, L_39, L_40, L_48, L_57, L_76, L_80, L_90, L_91, L_97, L_99, L_100, L_255, L_273, L_1000, L_2000, q_ld, q_ldL, q_sto, q_stoL, q_add, q_sub, q_mul, q_dec, q_rem, q_div, q_lt_t, q_lt_f, q_le_t, q_le_f, q_eq_t, q_eq_f, q_em, q_me, q_ml, q_lm, q_mle, q_lem, q_s1, q_s1o, q_s1k, q_s12, q_s2, q_s2o, q_s2k, q_s21, Nat.add_sub_cancel, q_or, q_and, q_shl, true_or, or_true, false_or, or_false, true_and, and_true, false_and, and_false, not_true_eq_false, not_false_eq_true, ne_eq, fC_Paths_restAt, gC_Paths_restAt_0, gC_Paths_restAt_35, gC_Paths_restAt_36, eg, q_shr, e1, h3]
      · rw [if_neg (fun z => c2 z.2), ← z_F]
        simp (disch := omega) only [Option.bind_some, ↓reduceIte, ↓M_1, ↓M_2, L_0, L_1, L_2, L_3, L_4, L_5, L_6, L_7, L_8, L_9, L_10, L_11, L_12, L_13, L_20, L_24, L_26, L_30, L_31, L_32, L_39, L_40, L_48, L_57, L_76, L_80, L_90, L_91, L_97, L_99, L_100, L_255, L_273, L_1000, L_2000, q_ld, q_ldL, q_sto, q_stoL, q_add, q_sub, q_mul, q_dec, q_rem, q_div, q_lt_t, q_lt_f, q_le_t, q_le_f, q_eq_t, q_eq_f, q_em, q_me, q_ml, q_lm, q_mle, q_lem, q_s1, q_s1o, q_s1k, q_s12, q_s2, q_s2o, q_s2k, q_s21, Nat.add_sub_cancel, q_or, q_and, q_shl, true_or, or_true, false_or, or_false, true_and, and_true, false_and, and_false, not_true_eq_false, not_false_eq_true, ne_eq, fC_Paths_restAt, gC_Paths_restAt_0, gC_Paths_restAt_35, gC_Paths_restAt_36, eg, q_shr, e1, h3, L_1048576]
    · rw [if_neg (fun z => c1 z.1), ← z_F]
      simp (disch := omega) only [Option.bind_some, ↓reduceIte, ↓M_1, ↓M_2, L_0, L_1, L_2, L_3, L_4, L_5, L_6, L_7, L_8, L_9, L_10, L_11, L_12, L_13, L_20, L_24, L_26, L_30, L_31, L_32, L_39, L_40, L_48, L_57, L_76, L_80, L_90, L_91, L_97, L_99, L_100, L_255, L_273, L_1000, L_2000, q_ld, q_ldL, q_sto, q_stoL, q_add, q_sub, q_mul, q_dec, q_rem, q_div, q_lt_t, q_lt_f, q_le_t, q_le_f, q_eq_t, q_eq_f, q_em, q_me, q_ml, q_lm, q_mle, q_lem, q_s1, q_s1o, q_s1k, q_s12, q_s2, q_s2o, q_s2k, q_s21, Nat.add_sub_cancel, q_or, q_and, q_shl, true_or, or_true, false_or, or_false, true_and, and_true, false_and, and_false, not_true_eq_false, not_false_eq_true, ne_eq, fC_Paths_restAt, gC_Paths_restAt_0, gC_Paths_restAt_35, gC_Paths_restAt_36, eg, q_shr, e1, h3, L_1048576]
  rw [hd, gC_Paths_restAt_49]
  have hs1 := hsh (gt w a) h9
  have hrd := rd_le h.ok ha
  have el := C_leastFrom (N := N) (K := K) h hN h7 hme h9 (show rd w a < 1000 by omega) hK
  have hbd := lf_bd (me := me) (u := gt w a) (r := rd w a) (K := K) h.ok (n := 2 * w 5 1) (Nat.le_refl _) (fun o ho hbg => (hK o ho hbg).2)
  have hb0 : (if gt w a = v ∧ hr w a ≤ bb then (0 : Int) else fC) = 0 ∨ (if gt w a = v ∧ hr w a ≤ bb then (0 : Int) else fC) = fC := by
    split
    · exact Or.inl rfl
    · exact Or.inr rfl
  unfold FA
  generalize (if gt w a = v ∧ hr w a ≤ bb then (0 : Int) else fC) = b0 at hb0
  generalize lf w me K (gt w a) (rd w a) (2 * w 5 1) = l0 at hbd el
  unfold fC at hb0 hbd
  by_cases c : br.testBit (gt w a) = true
  · rw [c] at hs1
    rw [if_pos c]
    simp (disch := omega) only [Option.bind_some, ↓reduceIte, ↓M_1, ↓M_2, L_0, L_1, L_2, L_3, L_4, L_5, L_6, L_7, L_8, L_9, L_10, L_11, L_12, L_13, L_20, L_24, L_26, L_30, L_31, L_32, L_39, L_40, L_48, L_57, L_76, L_80, L_90, L_91, L_97, L_99, L_100, L_255, L_273, L_1000, L_2000, q_ld, q_ldL, q_sto, q_stoL, q_add, q_sub, q_mul, q_dec, q_rem, q_div, q_lt_t, q_lt_f, q_le_t, q_le_f, q_eq_t, q_eq_f, q_em, q_me, q_ml, q_lm, q_mle, q_lem, q_s1, q_s1o, q_s1k, q_s12, q_s2, q_s2o, q_s2k, q_s21, Nat.add_sub_cancel, q_or, q_and, q_shl, true_or, or_true, false_or, or_false, true_and, and_true, false_and, and_false, not_true_eq_false, not_false_eq_true, ne_eq, hs1, tfF]
  · rw [if_neg c]
    rw [eq_false_of_ne_true c] at hs1
    simp (disch := omega) only [Option.bind_some, ↓reduceIte, ↓M_1, ↓M_2, L_0, L_1, L_2, L_3, L_4, L_5, L_6, L_7, L_8, L_9, L_10, L_11, L_12, L_13, L_20, L_24, L_26, L_30, L_31, L_32, L_39, L_40, L_48, L_57, L_76, L_80, L_90, L_91, L_97, L_99, L_100, L_255, L_273, L_1000, L_2000, q_ld, q_ldL, q_sto, q_stoL, q_add, q_sub, q_mul, q_dec, q_rem, q_div, q_lt_t, q_lt_f, q_le_t, q_le_f, q_eq_t, q_eq_f, q_em, q_me, q_ml, q_lm, q_mle, q_lem, q_s1, q_s1o, q_s1k, q_s12, q_s2, q_s2o, q_s2k, q_s21, Nat.add_sub_cancel, q_or, q_and, q_shl, true_or, or_true, false_or, or_false, true_and, and_true, false_and, and_false, not_true_eq_false, not_false_eq_true, ne_eq, hs1, C_ready h ha, el, z_min]
theorem C_aim (h : CW w s) (hN : 60 ≤ N) (hme : me < 3) (hv : v < w 5 0) (hbb : bb < 2 ^ 31) (hsh : shuts w sh br) :
    ∃ z, fC_Paths_aim N (nI v) (nI bb) sh (nI me) s = some z ∧ Fr [41, 43] [] s z ∧ (∀ k, k ≠ 7 → z.1 41 k = s.1 41 k) ∧ z.1 41 7 = nI me ∧ ∀ o, o < 2 * w 5 1 → z.1 43 (sw o) = iZ (TA w v bb br me o) := by
  have hb := h.bd
  have em : nI (w 5 1) - nI 1 = nI (w 5 1) + mI 1 := Int32.sub_eq_add_neg _ _
  simp (disch := omega) only [Option.bind_some, ↓reduceIte, ↓M_1, ↓M_2, L_0, L_1, L_2, L_3, L_4, L_5, L_6, L_7, L_8, L_9, L_10, L_11, L_12, L_13, L_20, L_24, L_26, L_30, L_31, L_32, L_39, L_40, L_48, L_57, L_76, L_80, L_90, L_91, L_97, L_99, L_100, L_255, L_273, L_1000, L_2000, q_ld, q_ldL, q_sto, q_stoL, q_add, q_mul, q_rem, q_div, q_lt_t, q_lt_f, q_le_t, q_le_f, q_eq_t, q_eq_f, q_em, q_me, q_ml, q_lm, q_mle, q_lem, q_s1, q_s1o, q_s1k, q_s12, q_s2, q_s2o, q_s2k, q_s21, Nat.add_sub_cancel, q_or, q_and, q_shl, true_or, or_true, false_or, or_false, true_and, and_true, false_and, and_false, not_true_eq_false, not_false_eq_true, ne_eq, fC_Paths_aim, gC_Paths_aim_0, h.m, em]
  refine loopD (fun f k z => gC_Paths_aim_17 N f (nI v) (nI bb) sh (nI k + mI 1) z) (w 5 1) (fun k z => k ≤ w 5 1 ∧ Fr [41, 43] [] s z ∧ (∀ k, k ≠ 7 → z.1 41 k = s.1 41 k) ∧ z.1 41 7 = nI me ∧ ∀ j o, j < w 5 1 → k ≤ j → o < 2 * w 5 1 → o / 2 = w 6 j → z.1 43 (sw o) = iZ (TA w v bb br me o))
    (fun o => ∃ z, o = some z ∧ Fr [41, 43] [] s z ∧ (∀ k, k ≠ 7 → z.1 41 k = s.1 41 k) ∧ z.1 41 7 = nI me ∧ ∀ o, o < 2 * w 5 1 → z.1 43 (sw o) = iZ (TA w v bb br me o)) ?_ ?_ (w 5 1) N _ (Nat.le_refl _) (by omega) ⟨Nat.le_refl _, Fr.s1 (by decide), fun k hk => q_s1k hk, q_s1 _ _ _ _, fun j o h1 h2 => by omega⟩
  · rintro f k z hk ⟨h1, h2, h3, h4, h5⟩
    have hz : CW w z := h.fr h2 (by decide)
    have e1 : nI (k + 1) + mI 1 = nI k := q_dec (by omega)
    have hm := h.or.1 k hk
    have eo : z.1 15 k = nI (w 6 k) := hz.o hk
    have hKz : ∀ z' : vSt, (∀ o, o < 2 * w 5 1 → o / 2 ≠ w 6 k → z'.1 43 (sw o) = z.1 43 (sw o)) → ∀ a, a < 2 * w 5 1 → a / 2 = w 6 k → ∀ o, o < 2 * w 5 1 → beg w (gt w a) (rd w a) o → z'.1 43 (sw o) = iZ (TA w v bb br me o) ∧ okK (TA w v bb br me o) := fun z' hz' a ha1 ha2 o ho hbg => by
      have hlt := Nat.lt_of_lt_of_le (rd_gt h.ok ha1) hbg.2
      have hne : o / 2 ≠ w 6 k := fun y => by
        unfold hr at hlt
        rw [ha2, y] at hlt
        exact absurd hlt (Nat.lt_irrefl _)
      obtain ⟨j, j1, j2⟩ := h.or.2.2 (o / 2) (by omega)
      have hkj : k < j := by
        rcases Nat.lt_trichotomy k j with d | d | d
        · exact d
        · subst d; exact absurd j2.symm hne
        · have := h.or.2.1 j k d hk
          rw [j2, ← ha2] at this
          unfold hr at hlt
          omega
      exact ⟨(hz' o ho hne).trans (h5 j o j1 (by omega) ho j2.symm), TA_ok h.ok ho⟩
    have ha0 : 2 * w 6 k + 1 < 2 * w 5 1 := by omega
    have ha1 : 2 * w 6 k < 2 * w 5 1 := by omega
    have r0 := C_restAt (N := N) (K := TA w v bb br me) hz hN h4 hme hv hbb hsh ha0 (hKz z (fun _ _ _ => rfl) _ ha0 (by omega))
    rw [sw_1, ← TA_rec h.ok ha0] at r0
    have hz1 : CW w (s1 z 43 (2 * w 6 k) (iZ (TA w v bb br me (2 * w 6 k + 1)))) := hz.fr (Fr.s1 (L := [43]) (K := []) (by decide)) (by decide)
    have r1 := C_restAt (N := N) (K := TA w v bb br me) hz1 hN (by simp (disch := omega) only [Option.bind_some, ↓reduceIte, ↓M_1, ↓M_2, L_0, L_1, L_2, L_3, L_4, L_5, L_6, L_7, L_8, L_9, L_10, L_11, L_12, L_13, L_20, L_24, L_26, L_30, L_31, L_32, L_39, L_40, L_48, L_57, L_76, L_80, L_90, L_91, L_97, L_99, L_100, L_255, L_273, L_1000, L_2000, q_ld, q_ldL, q_sto, q_stoL, q_add, q_sub, q_mul, q_dec, q_rem, q_div, q_lt_t, q_lt_f, q_le_t, q_le_f, q_eq_t, q_eq_f, q_em, q_me, q_ml, q_lm, q_mle, q_lem, q_s1, q_s1o, q_s1k, q_s12, q_s2, q_s2o, q_s2k, q_s21, Nat.add_sub_cancel, q_or, q_and, q_shl, true_or, or_true, false_or, or_false, true_and, and_true, false_and, and_false, not_true_eq_false, not_false_eq_true, ne_eq]; exact h4) hme hv hbb hsh ha1 (hKz _ (fun o ho hne => q_s1k (fun y => hne (by have := sw_half o; omega))) _ ha1 (by omega))
    rw [sw_0, ← TA_rec h.ok ha1] at r1
    refine Or.inl ⟨s1 (s1 z 43 (2 * w 6 k) (iZ (TA w v bb br me (2 * w 6 k + 1)))) 43 (2 * w 6 k + 1) (iZ (TA w v bb br me (2 * w 6 k))), ?_, by omega, (h2.tr (Fr.s1 (by decide))).tr (Fr.s1 (by decide)), fun j hj => ?_, ?_, fun j o j1 j2 o1 o2 => ?_⟩
    · simp only [e1]
      rw [gC_Paths_aim_17]
      simp (disch := omega) only [Option.bind_some, ↓reduceIte, ↓M_1, ↓M_2, L_0, L_1, L_2, L_3, L_4, L_5, L_6, L_7, L_8, L_9, L_10, L_11, L_12, L_13, L_20, L_24, L_26, L_30, L_31, L_32, L_39, L_40, L_48, L_57, L_76, L_80, L_90, L_91, L_97, L_99, L_100, L_255, L_273, L_1000, L_2000, q_ld, q_ldL, q_sto, q_stoL, q_add, q_sub, q_mul, q_rem, q_div, q_lt_t, q_lt_f, q_le_t, q_le_f, q_eq_t, q_eq_f, q_em, q_me, q_ml, q_lm, q_mle, q_lem, q_s1, q_s1o, q_s1k, q_s12, q_s2, q_s2o, q_s2k, q_s21, Nat.add_sub_cancel, q_or, q_and, q_shl, true_or, or_true, false_or, or_false, true_and, and_true, false_and, and_false, not_true_eq_false, not_false_eq_true, ne_eq, eo, r0, r1]
    · simp (disch := omega) only [Option.bind_some, ↓reduceIte, ↓M_1, ↓M_2, L_0, L_1, L_2, L_3, L_4, L_5, L_6, L_7, L_8, L_9, L_10, L_11, L_12, L_13, L_20, L_24, L_26, L_30, L_31, L_32, L_39, L_40, L_48, L_57, L_76, L_80, L_90, L_91, L_97, L_99, L_100, L_255, L_273, L_1000, L_2000, q_ld, q_ldL, q_sto, q_stoL, q_add, q_sub, q_mul, q_dec, q_rem, q_div, q_lt_t, q_lt_f, q_le_t, q_le_f, q_eq_t, q_eq_f, q_em, q_me, q_ml, q_lm, q_mle, q_lem, q_s1, q_s1o, q_s1k, q_s12, q_s2, q_s2o, q_s2k, q_s21, Nat.add_sub_cancel, q_or, q_and, q_shl, true_or, or_true, false_or, or_false, true_and, and_true, false_and, and_false, not_true_eq_false, not_false_eq_true, ne_eq]; exact h3 j hj
    · simp (disch := omega) only [Option.bind_some, ↓reduceIte, ↓M_1, ↓M_2, L_0, L_1, L_2, L_3, L_4, L_5, L_6, L_7, L_8, L_9, L_10, L_11, L_12, L_13, L_20, L_24, L_26, L_30, L_31, L_32, L_39, L_40, L_48, L_57, L_76, L_80, L_90, L_91, L_97, L_99, L_100, L_255, L_273, L_1000, L_2000, q_ld, q_ldL, q_sto, q_stoL, q_add, q_sub, q_mul, q_dec, q_rem, q_div, q_lt_t, q_lt_f, q_le_t, q_le_f, q_eq_t, q_eq_f, q_em, q_me, q_ml, q_lm, q_mle, q_lem, q_s1, q_s1o, q_s1k, q_s12, q_s2, q_s2o, q_s2k, q_s21, Nat.add_sub_cancel, q_or, q_and, q_shl, true_or, or_true, false_or, or_false, true_and, and_true, false_and, and_false, not_true_eq_false, not_false_eq_true, ne_eq]; exact h4
    · by_cases d : j = k
      · subst d
        have oo : o = 2 * w 6 j ∨ o = 2 * w 6 j + 1 := by omega
        rcases oo with oo | oo
        · rw [oo, sw_0, q_s1]
        · rw [oo, sw_1, q_s1k (by omega), q_s1]
      · have hne : o / 2 ≠ w 6 k := fun y => by
          rcases Nat.lt_trichotomy j k with g | g | g
          · omega
          · exact d g
          · have := h.or.2.1 k j g j1
            rw [← o2, y] at this
            omega
        have hh := sw_half o
        rw [q_s1k (by omega), q_s1k (by omega)]
        exact h5 j o j1 (by omega) o1 o2
  · rintro f z ⟨h1, h2, h3, h4, h5⟩
    refine ⟨z, ?_, h2, h3, h4, fun o ho => ?_⟩
    · show gC_Paths_aim_17 N (f + 1) (nI v) (nI bb) sh (nI 0 + mI 1) z = _
      rw [gC_Paths_aim_17, if_pos (by decide)]
    · obtain ⟨j, j1, j2⟩ := h.or.2.2 (o / 2) (by omega)
      exact h5 j o j1 (by omega) ho j2.symm
/-! the class tells a way -/
def grC (w : Nat → Nat → Nat) (u k : Nat) (q : Nat → Nat) : Nat → Nat × Nat
  | 0 => (u, k)
  | j + 1 => (gt w (q j), rd w (q j))
theorem C_stepFrom (h : CW w s) (hN : 60 ≤ N) (h7 : s.1 41 7 = nI me) (hme : me < 3) (hu : u < w 5 0) (hr' : r < 1000) (hK : ∀ o, o < 2 * w 5 1 → beg w u r o → s.1 43 (sw o) = iZ (K o) ∧ okK (K o)) {e : Int} (he : -1001 ≤ e ∧ e ≤ 100289) {q : Nat} (hq : q < 2 * w 5 1) (hq1 : beg w u r q) (hq2 : wb w me K q = e) (hq3 : ∀ o, o < q → beg w u r o → ¬ wb w me K o = e) :
    fC_Paths_stepFrom N (nI u) (nI r) (iZ e) s = some (nI (q / 2), s) := by
  have hb := h.bd
  have ei : ix w (q / 2) u = q := by rw [← hq1.1, ix_eq h.ok hq]
  simp (disch := omega) only [Option.bind_some, ↓reduceIte, ↓M_1, ↓M_2, L_0, L_1, L_2, L_3, L_4, L_5, L_6, L_7, L_8, L_9, L_10, L_11, L_12, L_13, L_20, L_24, L_26, L_30, L_31, L_32, L_39, L_40, L_48, L_57, L_76, L_80, L_90, L_91, L_97, L_99, L_100, L_255, L_273, L_1000, L_2000, q_ld, q_ldL, q_sto, q_stoL, q_add, q_sub, q_mul, q_dec, q_rem, q_div, q_lt_t, q_lt_f, q_le_t, q_le_f, q_eq_t, q_eq_f, q_em, q_me, q_ml, q_lm, q_mle, q_lem, q_s1, q_s1o, q_s1k, q_s12, q_s2, q_s2o, q_s2k, q_s21, Nat.add_sub_cancel, q_or, q_and, q_shl, true_or, or_true, false_or, or_false, true_and, and_true, false_and, and_false, not_true_eq_false, not_false_eq_true, ne_eq, fC_Paths_stepFrom, gC_Paths_stepFrom_0]
  refine loopU (fun f i (_ : Unit) => gC_Paths_stepFrom_3 N f (nI u) (nI r) (iZ e) (nI i) s) (w 5 1) (fun i _ => i ≤ q / 2) (fun o => o = some (nI (q / 2), s)) ?_ ?_ (w 5 1) N 0 () (by omega) (by omega) (by omega)
  · rintro f m _ hm hle
    have ew := C_weightBy (N := N) h h7 hme hu hr' hm hK
    try simp only
    rw [gC_Paths_stepFrom_3]
    by_cases c : m = q / 2
    · subst c
      rw [ei, if_pos ⟨by have := gv_hop (w := w) q; rw [hq1.1] at this; exact this, hq1⟩, hq2] at ew
      refine Or.inr ?_
      simp (disch := omega) only [Option.bind_some, ↓reduceIte, ↓M_1, ↓M_2, L_0, L_1, L_2, L_3, L_4, L_5, L_6, L_7, L_8, L_9, L_10, L_11, L_12, L_13, L_20, L_24, L_26, L_30, L_31, L_32, L_39, L_40, L_48, L_57, L_76, L_80, L_90, L_91, L_97, L_99, L_100, L_255, L_273, L_1000, L_2000, q_ld, q_ldL, q_sto, q_stoL, q_add, q_sub, q_mul, q_dec, q_rem, q_div, q_lt_t, q_lt_f, q_le_t, q_le_f, q_eq_t, q_eq_f, q_em, q_me, q_ml, q_lm, q_mle, q_lem, q_s1, q_s1o, q_s1k, q_s12, q_s2, q_s2o, q_s2k, q_s21, Nat.add_sub_cancel, q_or, q_and, q_shl, true_or, or_true, false_or, or_false, true_and, and_true, false_and, and_false, not_true_eq_false, not_false_eq_true, ne_eq, h.m, ew]
    · refine Or.inl ⟨(), ?_, by omega⟩
      by_cases d : (w 1 m = u ∨ w 2 m = u) ∧ beg w u r (ix w m u)
      · have hi := ix_lt (w := w) u hm
        have hh := ix_half w m u
        have hne := hq3 (ix w m u) (by omega) d.2
        rw [if_pos d] at ew
        have hok := wb_ok (me := me) h.ok hi (hK _ hi d.2).2
        generalize wb w me K (ix w m u) = b at ew hne hok
        unfold fC at hok
        have e1 : (iZ b = iZ e) = False := by
          rw [z_eq (by omega) (by omega) (by omega) (by omega)]
          exact eq_false hne
        simp (disch := omega) only [Option.bind_some, ↓reduceIte, ↓M_1, ↓M_2, L_0, L_1, L_2, L_3, L_4, L_5, L_6, L_7, L_8, L_9, L_10, L_11, L_12, L_13, L_20, L_24, L_26, L_30, L_31, L_32, L_39, L_40, L_48, L_57, L_76, L_80, L_90, L_91, L_97, L_99, L_100, L_255, L_273, L_1000, L_2000, q_ld, q_ldL, q_sto, q_stoL, q_add, q_sub, q_mul, q_dec, q_rem, q_div, q_lt_t, q_lt_f, q_le_t, q_le_f, q_eq_t, q_eq_f, q_em, q_me, q_ml, q_lm, q_mle, q_lem, q_s1, q_s1o, q_s1k, q_s12, q_s2, q_s2o, q_s2k, q_s21, Nat.add_sub_cancel, q_or, q_and, q_shl, true_or, or_true, false_or, or_false, true_and, and_true, false_and, and_false, not_true_eq_false, not_false_eq_true, ne_eq, h.m, ew, e1]
      · rw [if_neg d] at ew
        have e1 : (iZ fC = iZ e) = False := by
          rw [z_eq (by decide) (by decide) (by omega) (by omega)]
          unfold fC
          exact eq_false (by omega)
        simp (disch := omega) only [Option.bind_some, ↓reduceIte, ↓M_1, ↓M_2, L_0, L_1, L_2, L_3, L_4, L_5, L_6, L_7, L_8, L_9, L_10, L_11, L_12, L_13, L_20, L_24, L_26, L_30, L_31, L_32, L_39, L_40, L_48, L_57, L_76, L_80, L_90, L_91, L_97, L_99, L_100, L_255, L_273, L_1000, L_2000, q_ld, q_ldL, q_sto, q_stoL, q_add, q_sub, q_mul, q_dec, q_rem, q_div, q_lt_t, q_lt_f, q_le_t, q_le_f, q_eq_t, q_eq_f, q_em, q_me, q_ml, q_lm, q_mle, q_lem, q_s1, q_s1o, q_s1k, q_s12, q_s2, q_s2o, q_s2k, q_s21, Nat.add_sub_cancel, q_or, q_and, q_shl, true_or, or_true, false_or, or_false, true_and, and_true, false_and, and_false, not_true_eq_false, not_false_eq_true, ne_eq, h.m, ew, e1]
  · rintro f _ hle
    omega
theorem C_traceFrom_f (h : CW w s) (hN : 60 ≤ N) (h7 : s.1 41 7 = nI me) (hme : me < 3) (hu : u < w 5 0) {k : Nat} (hk : k < 1000) (hK : ∀ o, o < 2 * w 5 1 → beg w u k o → s.1 43 (sw o) = iZ (K o) ∧ okK (K o)) (hf : lf w me K u k (2 * w 5 1) = fC) : fC_Paths_traceFrom N (nI u) (nI k) s = some (mI 2, s) := by
  have el := C_leastFrom (N := N) (K := K) h hN h7 hme hu hk hK
  rw [hf, ← z_F] at el
  simp (disch := omega) only [Option.bind_some, ↓reduceIte, ↓M_1, ↓M_2, L_0, L_1, L_2, L_3, L_4, L_5, L_6, L_7, L_8, L_9, L_10, L_11, L_12, L_13, L_20, L_24, L_26, L_30, L_31, L_32, L_39, L_40, L_48, L_57, L_76, L_80, L_90, L_91, L_97, L_99, L_100, L_255, L_273, L_1000, L_2000, q_ld, q_ldL, q_sto, q_stoL, q_add, q_sub, q_mul, q_dec, q_rem, q_div, q_lt_t, q_lt_f, q_le_t, q_le_f, q_eq_t, q_eq_f, q_em, q_me, q_ml, q_lm, q_mle, q_lem, q_s1, q_s1o, q_s1k, q_s12, q_s2, q_s2o, q_s2k, q_s21, Nat.add_sub_cancel, q_or, q_and, q_shl, true_or, or_true, false_or, or_false, true_and, and_true, false_and, and_false, not_true_eq_false, not_false_eq_true, ne_eq, fC_Paths_traceFrom, gC_Paths_traceFrom_0, el, L_1048576]
theorem C_traceFrom_t (h : CW w s) (hN : 60 ≤ N) (h7 : s.1 41 7 = nI me) (hme : me < 3) (hu : u < w 5 0) {k : Nat} (hk : k < 1000) (hK : ∀ o, o < 2 * w 5 1 → s.1 43 (sw o) = iZ (K o) ∧ okK (K o)) {n : Nat} {q : Nat → Nat} {E : Nat → Int} (hn : n ≤ w 5 1) (hE0 : lf w me K u k (2 * w 5 1) = E 0) (hEb : ∀ j, j ≤ n → -1001 ≤ E j ∧ E j ≤ 100289) (hE1 : ∀ j, j < n → E j ≠ 0) (hE2 : E n = 0)
    (hq : ∀ j, j < n → q j < 2 * w 5 1 ∧ beg w (grC w u k q j).1 (grC w u k q j).2 (q j) ∧ wb w me K (q j) = E j ∧ ∀ o, o < q j → beg w (grC w u k q j).1 (grC w u k q j).2 o → ¬ wb w me K o = E j) (hS : ∀ j, j < n → E (j + 1) = E j - wc w me (q j / 2)) :
    ∃ s' r, fC_Paths_traceFrom N (nI u) (nI k) s = some (r, s') ∧ (∀ z : vSt, z.1 41 7 = nI me → fC_Paths_measured N (iZ (E 0)) z = some (r, z)) ∧ Rw (fun j => nI (q j / 2)) n s s' := by
  have hb := h.bd
  have el := C_leastFrom (N := N) (K := K) h hN h7 hme hu hk (fun o ho _ => hK o ho)
  have hb0 := hEb 0 (by omega)
  have eF : (iZ (E 0) = nI 1048576) = False := by
    rw [z_F, z_eq (by omega) (by omega) (by decide) (by decide)]
    unfold fC
    exact eq_false (by omega)
  rw [hE0] at el
  obtain ⟨s0, x1, x2⟩ := C_clear_row (N := N) (q := fun j => nI (q j / 2)) (s := s)
  have hms : ∃ r, ∀ z : vSt, z.1 41 7 = nI me → fC_Paths_measured N (iZ (E 0)) z = some (r, z) := by
    by_cases c1 : me = 1
    · exact ⟨iZ (E 0) / nI 32, fun z hz => by simp (disch := omega) only [Option.bind_some, ↓reduceIte, ↓M_1, ↓M_2, L_0, L_1, L_2, L_3, L_4, L_5, L_6, L_7, L_8, L_9, L_10, L_11, L_12, L_13, L_20, L_24, L_26, L_30, L_31, L_32, L_39, L_40, L_48, L_57, L_76, L_80, L_90, L_91, L_97, L_99, L_100, L_255, L_273, L_1000, L_2000, q_ld, q_ldL, q_sto, q_stoL, q_add, q_sub, q_mul, q_dec, q_rem, q_div, q_lt_t, q_lt_f, q_le_t, q_le_f, q_eq_t, q_eq_f, q_em, q_me, q_ml, q_lm, q_mle, q_lem, q_s1, q_s1o, q_s1k, q_s12, q_s2, q_s2o, q_s2k, q_s21, Nat.add_sub_cancel, q_or, q_and, q_shl, true_or, or_true, false_or, or_false, true_and, and_true, false_and, and_false, not_true_eq_false, not_false_eq_true, ne_eq, fC_Paths_measured, gC_Paths_measured_0, hz]⟩
    · by_cases c2 : me = 2
      · exact ⟨-iZ (E 0), fun z hz => by simp (disch := omega) only [Option.bind_some, ↓reduceIte, ↓M_1, ↓M_2, L_0, L_1, L_2, L_3, L_4, L_5, L_6, L_7, L_8, L_9, L_10, L_11, L_12, L_13, L_20, L_24, L_26, L_30, L_31, L_32, L_39, L_40, L_48, L_57, L_76, L_80, L_90, L_91, L_97, L_99, L_100, L_255, L_273, L_1000, L_2000, q_ld, q_ldL, q_sto, q_stoL, q_add, q_sub, q_mul, q_dec, q_rem, q_div, q_lt_t, q_lt_f, q_le_t, q_le_f, q_eq_t, q_eq_f, q_em, q_me, q_ml, q_lm, q_mle, q_lem, q_s1, q_s1o, q_s1k, q_s12, q_s2, q_s2o, q_s2k, q_s21, Nat.add_sub_cancel, q_or, q_and, q_shl, true_or, or_true, false_or, or_false, true_and, and_true, false_and, and_false, not_true_eq_false, not_false_eq_true, ne_eq, fC_Paths_measured, gC_Paths_measured_0, hz]⟩
      · exact ⟨iZ (E 0), fun z hz => by simp (disch := omega) only [Option.bind_some, ↓reduceIte, ↓M_1, ↓M_2, L_0, L_1, L_2, L_3, L_4, L_5, L_6, L_7, L_8, L_9, L_10, L_11, L_12, L_13, L_20, L_24, L_26, L_30, L_31, L_32, L_39, L_40, L_48, L_57, L_76, L_80, L_90, L_91, L_97, L_99, L_100, L_255, L_273, L_1000, L_2000, q_ld, q_ldL, q_sto, q_stoL, q_add, q_sub, q_mul, q_dec, q_rem, q_div, q_lt_t, q_lt_f, q_le_t, q_le_f, q_eq_t, q_eq_f, q_em, q_me, q_ml, q_lm, q_mle, q_lem, q_s1, q_s1o, q_s1k, q_s12, q_s2, q_s2o, q_s2k, q_s21, Nat.add_sub_cancel, q_or, q_and, q_shl, true_or, or_true, false_or, or_false, true_and, and_true, false_and, and_false, not_true_eq_false, not_false_eq_true, ne_eq, fC_Paths_measured, gC_Paths_measured_0, hz]⟩
  obtain ⟨rr, hms⟩ := hms
  have gok : ∀ j, j ≤ n → (grC w u k q j).1 < w 5 0 ∧ (grC w u k q j).2 < 1000 := fun j hj => by
    cases j with
    | zero => exact ⟨hu, hk⟩
    | succ j =>
      have hqj := (hq j (by omega)).1
      have := rd_le h.ok hqj
      exact ⟨gt_lt h.ok hqj, by show rd w (q j) < 1000; omega⟩
  have main : ∃ s', gC_Paths_traceFrom_35 N N (iZ (E 0)) (iZ (E 0)) (nI u) (nI k) (nI 0) s0 = some (rr, s') ∧ Rw (fun j => nI (q j / 2)) n s s' := by
    refine loopU (fun f j z => gC_Paths_traceFrom_35 N f (iZ (E j)) (iZ (E 0)) (nI (grC w u k q j).1) (nI (grC w u k q j).2) (nI j) z) n (fun j z => j ≤ n ∧ Rw (fun j => nI (q j / 2)) j s z) (fun o => ∃ s', o = some (rr, s') ∧ Rw (fun j => nI (q j / 2)) n s s') ?_ ?_ n N 0 s0 (by omega) (by omega) ⟨by omega, x2⟩
    · rintro f j z hj ⟨g1, g2⟩
      have hz : CW w z := h.fr g2.1 (by decide)
      have z7 : z.1 41 7 = nI me := by rw [g2.1.1 41 (by decide)]; exact h7
      obtain ⟨y1, y2⟩ := gok j (by omega)
      obtain ⟨q1, q2, q3, q4⟩ := hq j hj
      have es := C_stepFrom (N := N) (K := K) hz hN z7 hme y1 y2 (fun o ho _ => by rw [g2.1.1 43 (by decide)]; exact hK o ho) (hEb j (by omega)) q1 q2 q3 q4
      obtain ⟨z2, v1, v2⟩ := C_add_row (N := N) g2 (x := nI (q j / 2)) rfl
      have hz2 : CW w z2 := h.fr v2.1 (by decide)
      have z27 : z2.1 41 7 = nI me := by rw [v2.1.1 41 (by decide)]; exact h7
      have ne0 : (iZ (E j) = nI 0) = False := by
        have := hEb j (by omega)
        rw [z_n, z_eq (by omega) (by omega) (by decide) (by decide)]
        exact eq_false (hE1 j hj)
      have eot := C_otherAt (N := N) hz2 (m := q j / 2) (u := (grC w u k q j).1) (by omega) y1
      have epl := C_place (N := N) hz2 (m := q j / 2) (u := (grC w u k q j).1) (by omega) (by have := gv_hop (w := w) (q j); rw [q2.1] at this; exact this) y1
      rw [← q2.1, oth_ix h.ok q1] at eot
      rw [← q2.1, oth_ix h.ok q1, ix_eq h.ok q1] at epl
      have erd := C_ready (N := N) hz2 q1
      have ewo := C_weightOf (N := N) hz2 z27 hme (m := q j / 2) (by omega)
      refine Or.inl ⟨z2, ?_, by omega, v2⟩
      show gC_Paths_traceFrom_35 N (f + 1) (iZ (E j)) (iZ (E 0)) (nI (grC w u k q j).1) (nI (grC w u k q j).2) (nI j) z = gC_Paths_traceFrom_35 N f (iZ (E (j + 1))) (iZ (E 0)) (nI (gt w (q j))) (nI (rd w (q j))) (nI (j + 1)) z2
      rw [hS j hj, ← z_sub, gC_Paths_traceFrom_35]
      rw [← q2.1] at es ⊢
      simp (disch := omega) only [Option.bind_some, ↓reduceIte, ↓M_1, ↓M_2, L_0, L_1, L_2, L_3, L_4, L_5, L_6, L_7, L_8, L_9, L_10, L_11, L_12, L_13, L_20, L_24, L_26, L_30, L_31, L_32, L_39, L_40, L_48, L_57, L_76, L_80, L_90, L_91, L_97, L_99, L_100, L_255, L_273, L_1000, L_2000, q_ld, q_ldL, q_sto, q_stoL, q_add, q_mul, q_dec, q_rem, q_div, q_lt_t, q_lt_f, q_le_t, q_le_f, q_eq_t, q_eq_f, q_em, q_me, q_ml, q_lm, q_mle, q_lem, q_s1, q_s1o, q_s1k, q_s12, q_s2, q_s2o, q_s2k, q_s21, Nat.add_sub_cancel, q_or, q_and, q_shl, true_or, or_true, false_or, or_false, true_and, and_true, false_and, and_false, not_true_eq_false, not_false_eq_true, ne_eq, hz.m, ne0, es, v1, eot, epl, erd, ewo]
    · rintro f z ⟨g1, g2⟩
      have hz : CW w z := h.fr g2.1 (by decide)
      have z7 : z.1 41 7 = nI me := by rw [g2.1.1 41 (by decide)]; exact h7
      refine ⟨z, ?_, g2⟩
      try simp only
      rw [hE2, gC_Paths_traceFrom_35, show iZ 0 = nI 0 from (z_n 0).symm, hms z z7]
      by_cases c : w 5 1 ≤ n
      · simp (disch := omega) only [Option.bind_some, ↓reduceIte, ↓M_1, ↓M_2, L_0, L_1, L_2, L_3, L_4, L_5, L_6, L_7, L_8, L_9, L_10, L_11, L_12, L_13, L_20, L_24, L_26, L_30, L_31, L_32, L_39, L_40, L_48, L_57, L_76, L_80, L_90, L_91, L_97, L_99, L_100, L_255, L_273, L_1000, L_2000, q_ld, q_ldL, q_sto, q_stoL, q_add, q_sub, q_mul, q_dec, q_rem, q_div, q_lt_t, q_lt_f, q_le_t, q_le_f, q_eq_t, q_eq_f, q_em, q_me, q_ml, q_lm, q_mle, q_lem, q_s1, q_s1o, q_s1k, q_s12, q_s2, q_s2o, q_s2k, q_s21, Nat.add_sub_cancel, q_or, q_and, q_shl, true_or, or_true, false_or, or_false, true_and, and_true, false_and, and_false, not_true_eq_false, not_false_eq_true, ne_eq, hz.m]
      · simp (disch := omega) only [Option.bind_some, ↓reduceIte, ↓M_1, ↓M_2, L_0, L_1, L_2, L_3, L_4, L_5, L_6, L_7, L_8, L_9, L_10, L_11, L_12, L_13, L_20, L_24, L_26, L_30, L_31, L_32, L_39, L_40, L_48, L_57, L_76, L_80, L_90, L_91, L_97, L_99, L_100, L_255, L_273, L_1000, L_2000, q_ld, q_ldL, q_sto, q_stoL, q_add, q_sub, q_mul, q_dec, q_rem, q_div, q_lt_t, q_lt_f, q_le_t, q_le_f, q_eq_t, q_eq_f, q_em, q_me, q_ml, q_lm, q_mle, q_lem, q_s1, q_s1o, q_s1k, q_s12, q_s2, q_s2o, q_s2k, q_s21, Nat.add_sub_cancel, q_or, q_and, q_shl, true_or, or_true, false_or, or_false, true_and, and_true, false_and, and_false, not_true_eq_false, not_false_eq_true, ne_eq, hz.m]
  obtain ⟨s', m1, m2⟩ := main
  refine ⟨s', rr, ?_, hms, m2⟩
  simp (disch := omega) only [Option.bind_some, ↓reduceIte, ↓M_1, ↓M_2, L_0, L_1, L_2, L_3, L_4, L_5, L_6, L_7, L_8, L_9, L_10, L_11, L_12, L_13, L_20, L_24, L_26, L_30, L_31, L_32, L_39, L_40, L_48, L_57, L_76, L_80, L_90, L_91, L_97, L_99, L_100, L_255, L_273, L_1000, L_2000, q_ld, q_ldL, q_sto, q_stoL, q_add, q_sub, q_mul, q_dec, q_rem, q_div, q_lt_t, q_lt_f, q_le_t, q_le_f, q_eq_t, q_eq_f, q_em, q_me, q_ml, q_lm, q_mle, q_lem, q_s1, q_s1o, q_s1k, q_s12, q_s2, q_s2o, q_s2k, q_s21, Nat.add_sub_cancel, q_or, q_and, q_shl, true_or, or_true, false_or, or_false, true_and, and_true, false_and, and_false, not_true_eq_false, not_false_eq_true, ne_eq, fC_Paths_traceFrom, gC_Paths_traceFrom_0, el, L_1048576, eF, x1, m1]
end CA
