/-! what the class weighs is what the reference finds -/
section WB
variable {w : Nat → Nat → Nat} {u k v what bb bb' br me : Nat}
/-- E tells the class' weight of what the reference has -/
def EOK (w : Nat → Nat → Nat) (v what bb bb' br me : Nat) (G : Nat → Prop) (E : Nat × Nat → Int) : Prop :=
  (∀ s o, s < 2 * w 5 1 → o < 2 * w 5 1 → G s → fol w o s → br.testBit (gt w s) = false → G o) ∧
  (∀ s, s < 2 * w 5 1 → G s → ∀ y, ¬ lessP y (TB w v what bb br 100 s) → E (TB w v what bb br 100 s) ≤ E y) ∧
  (∀ s, s < 2 * w 5 1 → E (TB w v what bb br 100 s) ≤ fC ∧ (1000000 ≤ (TB w v what bb br 100 s).1 → E (TB w v what bb br 100 s) = fC)) ∧
  (∀ s, s < 2 * w 5 1 → G s → gt w s = v → (hr w s ≤ bb' → hr w s ≤ bb ∧ E (if what = 0 then hr w s else wo w what s, 1) = wc w me (s / 2)) ∧ (hr w s ≤ bb → ¬ hr w s ≤ bb' → E (if what = 0 then hr w s else wo w what s, 1) = fC)) ∧
  (∀ s o, s < 2 * w 5 1 → o < 2 * w 5 1 → G s → fol w o s → (TB w v what bb br 100 o).1 < 1000000 → (E (TB w v what bb br 100 o) = fC → E (prP w what (TB w v what bb br 100) s o) = fC) ∧ (E (TB w v what bb br 100 o) ≠ fC → E (prP w what (TB w v what bb br 100) s o) = E (TB w v what bb br 100 o) + wc w me (s / 2)))
theorem wb_eq (h : okW w) {G : Nat → Prop} {E : Nat × Nat → Int} (hE : EOK w v what bb bb' br me G E) : ∀ s, s < 2 * w 5 1 → G s → wb w me (TA w v bb' br me) s = E (TB w v what bb br 100 s) := by
  obtain ⟨e1, e2, e3, e4, e5⟩ := hE
  refine downI (fun s hs => hr_le h hs) _ (fun s hs ih hG => ?_)
  have nog : ¬ s / 2 = 100 := by have := h.2.1; omega
  have hw := wc_bd h me hs
  have hK := TA_rec (v := v) (bb := bb') (br := br) (me := me) h hs
  have hkb := TA_ok (v := v) (bb := bb') (br := br) (me := me) h hs
  have hwb := wb_ok (me := me) h hs hkb
  -- the end, and those that follow
  have k0 : gt w s = v → hr w s ≤ bb' → TA w v bb' br me s ≤ 0 := fun a b => by
    have e : (if gt w s = v ∧ hr w s ≤ bb' then (0 : Int) else fC) = 0 := if_pos ⟨a, b⟩
    rw [hK]
    unfold FA
    rw [e]
    split
    · exact Int.le_refl _
    · exact Int.min_le_left _ _
  have k1 : ∀ o, o < 2 * w 5 1 → fol w o s → br.testBit (gt w s) = false → TA w v bb' br me s ≤ wb w me (TA w v bb' br me) o := fun o ho hf hb => by
    rw [hK]
    unfold FA
    rw [if_neg (by rw [hb]; decide)]
    exact Int.le_trans (Int.min_le_right _ _) ((lf_ub (2 * w 5 1)).2 o ho hf)
  have k2 : TA w v bb' br me s = fC ∨ (gt w s = v ∧ hr w s ≤ bb' ∧ TA w v bb' br me s = 0) ∨ ∃ o, o < 2 * w 5 1 ∧ fol w o s ∧ br.testBit (gt w s) = false ∧ TA w v bb' br me s = wb w me (TA w v bb' br me) o := by
    have b0 : (gt w s = v ∧ hr w s ≤ bb' ∧ (if gt w s = v ∧ hr w s ≤ bb' then (0 : Int) else fC) = 0) ∨ (if gt w s = v ∧ hr w s ≤ bb' then (0 : Int) else fC) = fC := by
      by_cases c : gt w s = v ∧ hr w s ≤ bb'
      · rw [if_pos c]; exact Or.inl ⟨c.1, c.2, rfl⟩
      · rw [if_neg c]; exact Or.inr rfl
    have hl := lf_att (w := w) (me := me) (K := TA w v bb' br me) (u := gt w s) (r := rd w s) (2 * w 5 1)
    have hl2 := (lf_ub (w := w) (me := me) (K := TA w v bb' br me) (u := gt w s) (r := rd w s) (2 * w 5 1)).1
    have hF : FA w v bb' br me (TA w v bb' br me) s = if br.testBit (gt w s) = true then (if gt w s = v ∧ hr w s ≤ bb' then 0 else fC) else min (if gt w s = v ∧ hr w s ≤ bb' then 0 else fC) (lf w me (TA w v bb' br me) (gt w s) (rd w s) (2 * w 5 1)) := rfl
    rw [hF] at hK
    generalize (if gt w s = v ∧ hr w s ≤ bb' then (0 : Int) else fC) = b at hK b0
    generalize lf w me (TA w v bb' br me) (gt w s) (rd w s) (2 * w 5 1) = l at hK hl hl2
    by_cases c : br.testBit (gt w s) = true
    · rw [if_pos c] at hK
      rcases b0 with b0 | b0
      · exact Or.inr (Or.inl ⟨b0.1, b0.2.1, hK.trans b0.2.2⟩)
      · exact Or.inl (hK.trans b0)
    · rw [if_neg c] at hK
      rcases Int.le_total b l with d | d
      · rw [Int.min_eq_left d] at hK
        rcases b0 with b0 | b0
        · exact Or.inr (Or.inl ⟨b0.1, b0.2.1, hK.trans b0.2.2⟩)
        · exact Or.inl (hK.trans b0)
      · rw [Int.min_eq_right d] at hK
        rcases hl with hl | ⟨o, o1, o2, o3⟩
        · exact Or.inl (hK.trans hl)
        · exact Or.inr (Or.inr ⟨o, o1, o2, eq_false_of_ne_true c, hK.trans o3⟩)
  have wbne : TA w v bb' br me s ≠ fC → wb w me (TA w v bb' br me) s = TA w v bb' br me s + wc w me (s / 2) := fun z => if_neg z
  refine Int.le_antisymm ?_ ?_
  · -- at most
    clear k2
    rcases TB_att (v := v) (what := what) (bb := bb) (br := br) (go := 100) h hs with z | ⟨z1, z2, z3, z4⟩ | ⟨o, z1, z2, z3, z4, z5, z6⟩
    · rw [(e3 s hs).2 (by rw [z]; exact Nat.le_refl _)]
      unfold fC at hwb ⊢
      omega
    · rw [z4]
      by_cases c : hr w s ≤ bb'
      · rw [((e4 s hs hG z1).1 c).2]
        have := k0 z1 c
        rw [wbne (by unfold fC; omega)]
        omega
      · rw [(e4 s hs hG z1).2 z2 c]
        unfold fC at hwb ⊢
        omega
    · have hGo := e1 s o hs z1 hG z2 z4
      have hi := ih o z1 (fol_lt h hs z2) hGo
      have hk := k1 o z1 z2 z4
      rw [z6]
      by_cases c : E (TB w v what bb br 100 o) = fC
      · rw [(e5 s o hs z1 hG z2 z3).1 c]
        unfold fC at hwb ⊢
        omega
      · rw [(e5 s o hs z1 hG z2 z3).2 c]
        rw [hi] at hk
        have := (e3 o z1).1
        rw [wbne (by omega)]
        omega
  · -- at least
    rcases k2 with z | ⟨z1, z2, z3⟩ | ⟨o, z1, z2, z3, z4⟩
    · rw [show wb w me (TA w v bb' br me) s = fC from if_pos z]
      exact (e3 s hs).1
    · rw [wbne (by rw [z3]; decide), z3, Int.zero_add]
      have y := (e4 s hs hG z1).1 z2
      rw [← y.2]
      exact e2 s hs hG _ (TB_e h hs z1 y.1 nog)
    · by_cases c : TA w v bb' br me s = fC
      · rw [show wb w me (TA w v bb' br me) s = fC from if_pos c]
        exact (e3 s hs).1
      · rw [wbne c, z4]
        have hGo := e1 s o hs z1 hG z2 z3
        have hi := ih o z1 (fol_lt h hs z2) hGo
        rw [hi]
        rw [z4, hi] at c
        rcases Nat.lt_or_ge (TB w v what bb br 100 o).1 1000000 with d | d
        · rw [← (e5 s o hs z1 hG z2 d).2 c]
          exact e2 s hs hG _ (TB_o h hs z1 z2 z3 nog d)
        · exact absurd ((e3 o z1).2 d) c
/-- the ways that both tell are one -/
theorem trace_ok (h : okW w) (ho : okO w) {G : Nat → Prop} {E : Nat × Nat → Int} (hE : EOK w v what bb bb' br me G E) (hG0 : ∀ s, s < 2 * w 5 1 → beg w u k s → G s)
    (hpos : ∀ s, s < 2 * w 5 1 → (TB w v what bb br 100 s).1 < 1000000 → 1 ≤ E (TB w v what bb br 100 s))
    (hbd : ∀ s, s < 2 * w 5 1 → (TB w v what bb br 100 s).1 < 1000000 → E (TB w v what bb br 100 s) = fC ∨ E (TB w v what bb br 100 s) ≤ 100000)
    (hinj : ∀ s s', s < 2 * w 5 1 → s' < 2 * w 5 1 → E (TB w v what bb br 100 s) = E (TB w v what bb br 100 s') → E (TB w v what bb br 100 s) ≠ fC → TB w v what bb br 100 s = TB w v what bb br 100 s')
    {b : Nat} (hb : b < 2 * w 5 1) (hb1 : beg w u k b) (hb2 : (TB w v what bb br 100 b).1 < 1000000) (hb3 : ∀ s, s < 2 * w 5 1 → beg w u k s → ¬ lessP (TB w v what bb br 100 s) (TB w v what bb br 100 b)) (hb4 : E (TB w v what bb br 100 b) ≠ fC) :
    ∃ Ej : Nat → Int, (TB w v what bb br 100 b).2 ≤ w 5 1 ∧ Ej 0 = E (TB w v what bb br 100 b) ∧ lf w me (TA w v bb' br me) u k (2 * w 5 1) = Ej 0 ∧ (∀ j, j ≤ (TB w v what bb br 100 b).2 → -1001 ≤ Ej j ∧ Ej j ≤ 100289) ∧ (∀ j, j < (TB w v what bb br 100 b).2 → Ej j ≠ 0) ∧ Ej (TB w v what bb br 100 b).2 = 0 ∧
      (∀ j, j < (TB w v what bb br 100 b).2 → trQ w u k (vTab (TB w v what bb br 100) (TB w v what bb br 100 b).2) (fun _ s => wo w what s) (TB w v what bb br 100 b).1 j < 2 * w 5 1 ∧ beg w (grC w u k (trQ w u k (vTab (TB w v what bb br 100) (TB w v what bb br 100 b).2) (fun _ s => wo w what s) (TB w v what bb br 100 b).1) j).1 (grC w u k (trQ w u k (vTab (TB w v what bb br 100) (TB w v what bb br 100 b).2) (fun _ s => wo w what s) (TB w v what bb br 100 b).1) j).2 (trQ w u k (vTab (TB w v what bb br 100) (TB w v what bb br 100 b).2) (fun _ s => wo w what s) (TB w v what bb br 100 b).1 j) ∧
        wb w me (TA w v bb' br me) (trQ w u k (vTab (TB w v what bb br 100) (TB w v what bb br 100 b).2) (fun _ s => wo w what s) (TB w v what bb br 100 b).1 j) = Ej j ∧ ∀ o, o < trQ w u k (vTab (TB w v what bb br 100) (TB w v what bb br 100 b).2) (fun _ s => wo w what s) (TB w v what bb br 100 b).1 j → beg w (grC w u k (trQ w u k (vTab (TB w v what bb br 100) (TB w v what bb br 100 b).2) (fun _ s => wo w what s) (TB w v what bb br 100 b).1) j).1 (grC w u k (trQ w u k (vTab (TB w v what bb br 100) (TB w v what bb br 100 b).2) (fun _ s => wo w what s) (TB w v what bb br 100 b).1) j).2 o → ¬ wb w me (TA w v bb' br me) o = Ej j) ∧
      (∀ j, j < (TB w v what bb br 100 b).2 → Ej (j + 1) = Ej j - wc w me (trQ w u k (vTab (TB w v what bb br 100) (TB w v what bb br 100 b).2) (fun _ s => wo w what s) (TB w v what bb br 100 b).1 j / 2)) := by
  have hM := h.2.1
  have hok := tr_ok (u := u) (k := k) (v := v) (what := what) (bb := bb) (br := br) (go := 100) h hb hb1 hb2
  have hwb := wb_eq h hE
  obtain ⟨e1, e2, e3, e4, e5⟩ := hE
  generalize hX : trS w u k (vTab (TB w v what bb br 100) (TB w v what bb br 100 b).2) (fun _ s => wo w what s) (TB w v what bb br 100 b).1 = X at hok
  generalize hQ : trQ w u k (vTab (TB w v what bb br 100) (TB w v what bb br 100 b).2) (fun _ s => wo w what s) (TB w v what bb br 100 b).1 = Q at hok
  have hX0 : X 0 = (100, (TB w v what bb br 100 b).1) := by rw [← hX]; rfl
  have hXs : ∀ j, X (j + 1) = (Q j, (X j).2 - wo w what (Q j)) := fun j => by rw [← hX, ← hQ]; rfl
  have hQd : ∀ j, Q j = fst1 (trP w u k (vTab (TB w v what bb br 100) (TB w v what bb br 100 b).2) j (X j)) (2 * w 5 1) := fun j => by rw [← hX, ← hQ]; rfl
  have hlt := TB_lt (v := v) (what := what) (bb := bb) (br := br) (go := 100) h hb
  have hn := TB_M (v := v) (what := what) (bb := bb) (br := br) (go := 100) h ho hb hb2
  generalize hT : TB w v what bb br 100 = T at *
  generalize hn' : (T b).2 = n at *
  -- who gives, from when on
  have hgr : ∀ j s, j < n → (beg w (grC w u k Q j).1 (grC w u k Q j).2 s ↔ (if (X j).1 = 100 then decide (beg w u k s) else decide (fol w s (X j).1)) = true) := fun j s hj => by
    cases j with
    | zero =>
      rw [hX0, if_pos rfl]
      exact ⟨fun z => decide_eq_true z, fun z => of_decide_eq_true z⟩
    | succ j =>
      have := (hok j (by omega)).1
      rw [hXs, if_neg (show ¬ (Q j, (X j).2 - wo w what (Q j)).1 = 100 by show ¬ Q j = 100; omega)]
      exact ⟨fun z => decide_eq_true z, fun z => of_decide_eq_true z⟩
  have hadm : ∀ j, j < n → beg w (grC w u k Q j).1 (grC w u k Q j).2 (Q j) := fun j hj => by
    have h1 : trP w u k (vTab T n) j (X j) (Q j) = true := by
      rw [hQd j]
      exact fst1_lt (by rw [← hQd j]; exact (hok j hj).1)
    rw [trP_eq, Bool.and_eq_true] at h1
    exact (hgr j _ hj).mpr h1.1
  -- what follows is the next one
  have hnext : ∀ j, j < n → (j + 1 = n ∧ gt w (Q j) = v ∧ hr w (Q j) ≤ bb ∧ T (Q j) = (if what = 0 then hr w (Q j) else wo w what (Q j), 1)) ∨ (j + 1 < n ∧ T (Q j) = prP w what T (Q j) (Q (j + 1)) ∧ fol w (Q (j + 1)) (Q j) ∧ br.testBit (gt w (Q j)) = false) := fun j hj => by
    obtain ⟨o1, o2, o3⟩ := hok j hj
    have ha := TB_att (v := v) (what := what) (bb := bb) (br := br) (go := 100) h o1
    rw [hT] at ha
    rcases ha with z | ⟨z1, z2, z3, z4⟩ | ⟨o, z1, z2, z3, z4, z5, z6⟩
    · rw [o3] at z
      have := congrArg Prod.fst z
      simp only at this
      omega
    · have h2 := congrArg Prod.snd (o3.symm.trans z4)
      simp only at h2
      exact Or.inl ⟨by omega, z1, z2, z4⟩
    · have h2 := congrArg Prod.snd (o3.symm.trans z6)
      have h1 := congrArg Prod.fst (o3.symm.trans z6)
      unfold prP at h1 h2
      simp only at h1 h2
      have hlo := TB_lt (v := v) (what := what) (bb := bb) (br := br) (go := 100) h z1
      rw [hT] at hlo
      have hj2 : j + 1 < n := by omega
      have eo : T o = T (Q (j + 1)) := by
        rw [(hok (j + 1) hj2).2.2, hXs]
        exact Prod.ext (by show (T o).1 = (X j).2 - wo w what (Q j); omega) (by show (T o).2 = n - (j + 1); omega)
      refine Or.inr ⟨hj2, ?_, hadm (j + 1) hj2, z4⟩
      rw [z6]
      unfold prP
      rw [eo]
  have hG : ∀ j, j < n → G (Q j) ∧ E (T (Q j)) ≠ fC := by
    intro j
    induction j with
    | zero =>
      intro hj
      refine ⟨hG0 _ (hok 0 hj).1 (hadm 0 hj), ?_⟩
      have : T (Q 0) = T b := by
        rw [(hok 0 hj).2.2, hX0]
        exact Prod.ext rfl hn'.symm
      rw [this]
      exact hb4
    | succ j ih =>
      intro hj
      obtain ⟨i1, i2⟩ := ih (by omega)
      rcases hnext j (by omega) with z | ⟨z1, z2, z3, z4⟩
      · omega
      · have hq1 := (hok j (by omega)).1
        have hq2 := (hok (j + 1) hj).1
        have hfar : (T (Q (j + 1))).1 < 1000000 := by
          rw [(hok (j + 1) hj).2.2]
          exact (hok (j + 1) hj).2.1
        refine ⟨e1 _ _ hq1 hq2 i1 z3 z4, fun y => i2 ?_⟩
        rw [z2]
        exact (e5 _ _ hq1 hq2 i1 z3 hfar).1 y
  have hval : ∀ j, j < n → E (T (Q j)) = (if j + 1 < n then E (T (Q (j + 1))) else 0) + wc w me (Q j / 2) := fun j hj => by
    have hq1 := (hok j hj).1
    obtain ⟨i1, i2⟩ := hG j hj
    rcases hnext j hj with ⟨z1, z2, z3, z4⟩ | ⟨z1, z2, z3, z4⟩
    · rw [if_neg (by omega), Int.zero_add, z4]
      by_cases c : hr w (Q j) ≤ bb'
      · exact ((e4 _ hq1 i1 z2).1 c).2
      · rw [z4] at i2
        exact absurd ((e4 _ hq1 i1 z2).2 z3 c) i2
    · have hq2 := (hok (j + 1) z1).1
      have hfar : (T (Q (j + 1))).1 < 1000000 := by
        rw [(hok (j + 1) z1).2.2]
        exact (hok (j + 1) z1).2.1
      rw [if_pos z1, z2]
      exact (e5 _ _ hq1 hq2 i1 z3 hfar).2 (hG (j + 1) z1).2
  have hfr : ∀ j, j < n → (T (Q j)).1 < 1000000 := fun j hj => by
    rw [(hok j hj).2.2]
    exact (hok j hj).2.1
  have h0n : 0 < n := by omega
  refine ⟨fun j => if j < n then E (T (Q j)) else 0, hn, ?_, ?_, fun j hj => ?_, fun j hj => ?_, if_neg (Nat.lt_irrefl n), fun j hj => ⟨(hok j hj).1, hadm j hj, ?_, fun o ho hbg => ?_⟩, fun j hj => ?_⟩
  · simp only
    rw [if_pos h0n, (hok 0 h0n).2.2, hX0]
    exact congrArg E (Prod.ext rfl hn'.symm)
  · simp only
    rw [if_pos h0n, (hok 0 h0n).2.2, hX0]
    have eb : ((100, (T b).1).2, n - 0) = T b := Prod.ext rfl hn'.symm
    rw [eb]
    refine Int.le_antisymm ?_ ?_
    · rw [← hwb b hb (hG0 b hb hb1)]
      exact (lf_ub (2 * w 5 1)).2 b hb hb1
    · rcases lf_att (w := w) (me := me) (K := TA w v bb' br me) (u := u) (r := k) (2 * w 5 1) with c | ⟨o, c1, c2, c3⟩
      · rw [c]; exact (e3 b hb).1
      · rw [c3, hwb o c1 (hG0 o c1 c2)]
        exact e2 b hb (hG0 b hb hb1) _ (hb3 o c1 c2)
  · simp only
    split
    · rename_i c
      have y1 := hpos _ (hok j c).1 (hfr j c)
      rcases hbd _ (hok j c).1 (hfr j c) with y | y
      · exact absurd y (hG j c).2
      · omega
    · omega
  · simp only
    rw [if_pos hj]
    have := hpos _ (hok j hj).1 (hfr j hj)
    omega
  · simp only
    rw [if_pos hj]
    exact hwb _ (hok j hj).1 (hG j hj).1
  · simp only
    rw [if_pos hj]
    have hq1 := (hok j hj).1
    have ho2 : o < 2 * w 5 1 := by omega
    have hGo : G o := by
      cases j with
      | zero => exact hG0 o ho2 hbg
      | succ j =>
        rcases hnext j (by omega) with z | ⟨z1, z2, z3, z4⟩
        · omega
        · exact e1 _ _ (hok j (by omega)).1 ho2 (hG j (by omega)).1 hbg z4
    rw [hwb o ho2 hGo]
    intro y
    have hT2 := hinj o (Q j) ho2 hq1 y (by rw [y]; exact (hG j hj).2)
    have hp : trP w u k (vTab T n) j (X j) o = true := by
      rw [trP_eq, Bool.and_eq_true]
      exact ⟨(hgr j o hj).mp hbg, vTab_t (by rw [hT2]; exact (hok j hj).2.2)⟩
    rw [hQd j] at ho
    rw [fst1_not ho] at hp
    cases hp
  · simp only
    rw [if_pos hj]
    have := hval j hj
    omega
end WB
