/-! longest -/
def FL (w : Nat → Nat → Nat) (v : Nat) (T : Nat → Nat) (s : Nat) : Nat := fz (fun o x => if fol w o s ∧ 0 < T o then max x (T o + 1) else x) (if gt w s = v then 1 else 0) (2 * w 5 1)
def LG (w : Nat → Nat → Nat) (v : Nat) : Nat → Nat := itr (FL w v) 0 100
section LGs
variable {w : Nat → Nat → Nat} {u v k : Nat}
theorem LG_rec (h : okW w) {s : Nat} (hs : s < 2 * w 5 1) : LG w v s = FL w v (LG w v) s := by
  refine itr_rec (n := 2 * w 5 1) (key := hr w) (fun s hs => hr_le h hs) _ _ (fun T T' s hs hT => ?_) s hs
  unfold FL
  refine fz_cong (fun o x ho => ?_)
  by_cases c : fol w o s
  · rw [hT o ho (fol_lt h hs c)]
  · rw [if_neg (fun z => c z.1), if_neg (fun z => c z.1)]
theorem FL_ok (T : Nat → Nat) (s n : Nat) : (gt w s = v → 1 ≤ fz (fun o x => if fol w o s ∧ 0 < T o then max x (T o + 1) else x) (if gt w s = v then 1 else 0) n) ∧ (∀ o, o < n → fol w o s → 0 < T o → T o + 1 ≤ fz (fun o x => if fol w o s ∧ 0 < T o then max x (T o + 1) else x) (if gt w s = v then 1 else 0) n) ∧ (fz (fun o x => if fol w o s ∧ 0 < T o then max x (T o + 1) else x) (if gt w s = v then 1 else 0) n = 0 ∨ (gt w s = v ∧ fz (fun o x => if fol w o s ∧ 0 < T o then max x (T o + 1) else x) (if gt w s = v then 1 else 0) n = 1) ∨ ∃ o, o < n ∧ fol w o s ∧ 0 < T o ∧ fz (fun o x => if fol w o s ∧ 0 < T o then max x (T o + 1) else x) (if gt w s = v then 1 else 0) n = T o + 1) := by
  refine fz_ind (f := fun o x => if fol w o s ∧ 0 < T o then max x (T o + 1) else x) (z := if gt w s = v then 1 else 0) (n := n) (fun j a => (gt w s = v → 1 ≤ a) ∧ (∀ o, o < j → fol w o s → 0 < T o → T o + 1 ≤ a) ∧ (a = 0 ∨ (gt w s = v ∧ a = 1) ∨ ∃ o, o < j ∧ fol w o s ∧ 0 < T o ∧ a = T o + 1)) ⟨fun z => by rw [if_pos z]; exact Nat.le_refl _, fun o ho => by omega, ?_⟩ (fun j a hj ha => ?_) n (Nat.le_refl _)
  · by_cases c : gt w s = v
    · rw [if_pos c]; exact Or.inr (Or.inl ⟨c, rfl⟩)
    · rw [if_neg c]; exact Or.inl rfl
  · obtain ⟨a1, a2, a3⟩ := ha
    by_cases c : fol w j s ∧ 0 < T j
    · rw [if_pos c]
      refine ⟨fun z => by have := a1 z; omega, fun o ho hf hp => ?_, ?_⟩
      · by_cases d : o = j
        · subst d; omega
        · have := a2 o (by omega) hf hp; omega
      · rcases Nat.le_total a (T j + 1) with d | d
        · rw [Nat.max_eq_right d]
          exact Or.inr (Or.inr ⟨j, by omega, c.1, c.2, rfl⟩)
        · rw [Nat.max_eq_left d]
          rcases a3 with z | z | ⟨o, z1, z2⟩
          · exact Or.inl z
          · exact Or.inr (Or.inl z)
          · exact Or.inr (Or.inr ⟨o, by omega, z2⟩)
    · rw [if_neg c]
      refine ⟨a1, fun o ho hf hp => ?_, ?_⟩
      · by_cases d : o = j
        · subst d; exact absurd ⟨hf, hp⟩ c
        · exact a2 o (by omega) hf hp
      · rcases a3 with z | z | ⟨o, z1, z2⟩
        · exact Or.inl z
        · exact Or.inr (Or.inl z)
        · exact Or.inr (Or.inr ⟨o, by omega, z2⟩)
theorem LG_ok (h : okW w) {s : Nat} (hs : s < 2 * w 5 1) : (gt w s = v → 1 ≤ LG w v s) ∧ (∀ o, o < 2 * w 5 1 → fol w o s → 0 < LG w v o → LG w v o + 1 ≤ LG w v s) ∧ (LG w v s = 0 ∨ (gt w s = v ∧ LG w v s = 1) ∨ ∃ o, o < 2 * w 5 1 ∧ fol w o s ∧ 0 < LG w v o ∧ LG w v s = LG w v o + 1) := by
  have e := LG_rec (v := v) h hs
  unfold FL at e
  rw [e]
  exact FL_ok (LG w v) s (2 * w 5 1)
theorem LG_cnt (h : okW w) (ho : okO w) : ∀ s, s < 2 * w 5 1 → ∀ k, k < w 5 1 → w 6 k = s / 2 → LG w v s + k ≤ w 5 1 := by
  refine downI (fun s hs => hr_le h hs) _ (fun s hs ih k hk e => ?_)
  rcases (LG_ok (v := v) h hs).2.2 with z | ⟨z1, z2⟩ | ⟨o, z1, z2, z3, z4⟩
  · omega
  · omega
  · have hl := fol_lt h hs z2
    obtain ⟨j, j1, j2⟩ := ho.2.2 (o / 2) (by omega)
    have hkj : k < j := by
      rcases Nat.lt_trichotomy k j with d | d | d
      · exact d
      · subst d
        rw [e] at j2
        unfold hr at hl
        rw [j2] at hl
        exact absurd hl (Nat.lt_irrefl _)
      · have := ho.2.1 j k d hk
        rw [e, j2] at this
        unfold hr at hl
        omega
    have := ih o z1 hl j j1 j2
    omega
theorem LG_M (h : okW w) (ho : okO w) {s : Nat} (hs : s < 2 * w 5 1) : LG w v s ≤ w 5 1 := by
  obtain ⟨k, k1, k2⟩ := ho.2.2 (s / 2) (by omega)
  have := LG_cnt (v := v) h ho s hs k k1 k2
  omega
theorem LG_bd (h : okW w) : ∀ s, s < 2 * w 5 1 → LG w v s ≤ 100 := by
  have : ∀ s, s < 2 * w 5 1 → LG w v s + hr w s ≤ 100 := by
    refine downI (fun s hs => hr_le h hs) _ (fun s hs ih => ?_)
    have h9 := hr_le h hs
    rcases (LG_ok (v := v) h hs).2.2 with z | ⟨z1, z2⟩ | ⟨o, z1, z2, z3, z4⟩
    · omega
    · omega
    · have hl := fol_lt h hs z2
      have := ih o z1 hl
      omega
  exact fun s hs => by have := this s hs; omega
def eL (n : Nat) : Int := if n = 0 then fC else -(n : Int)
theorem wb_lg (h : okW w) : ∀ s, s < 2 * w 5 1 → wb w 2 (TA w v 99 0 2) s = eL (LG w v s) := by
  refine downI (fun s hs => hr_le h hs) _ (fun s hs ih => ?_)
  have hK := TA_rec (v := v) (bb := 99) (br := 0) (me := 2) h hs
  have e0 : FA w v 99 0 2 (TA w v 99 0 2) s = min (if gt w s = v ∧ hr w s ≤ 99 then 0 else fC) (lf w 2 (TA w v 99 0 2) (gt w s) (rd w s) (2 * w 5 1)) := if_neg (by rw [Nat.zero_testBit]; decide)
  rw [e0] at hK
  have hub := lf_ub (w := w) (me := 2) (K := TA w v 99 0 2) (u := gt w s) (r := rd w s) (2 * w 5 1)
  have hat := lf_att (w := w) (me := 2) (K := TA w v 99 0 2) (u := gt w s) (r := rd w s) (2 * w 5 1)
  have hL := LG_ok (v := v) h hs
  have h99 := hr_le h hs
  have hlb := LG_bd (v := v) h s hs
  have wn : wb w 2 (TA w v 99 0 2) s = if TA w v 99 0 2 s = fC then fC else TA w v 99 0 2 s + (-1) := rfl
  -- what the least of those behind is
  have hlf : lf w 2 (TA w v 99 0 2) (gt w s) (rd w s) (2 * w 5 1) = if 2 ≤ LG w v s then -((LG w v s : Int) - 1) else fC := by
    refine Int.le_antisymm ?_ ?_
    · by_cases c : 2 ≤ LG w v s
      · rw [if_pos c]
        rcases hL.2.2 with z | ⟨z1, z2⟩ | ⟨o, z1, z2, z3, z4⟩
        · omega
        · omega
        · have h1 := hub.2 o z1 z2
          rw [ih o z1 (fol_lt h hs z2)] at h1
          unfold eL at h1
          rw [if_neg (by omega)] at h1
          omega
      · rw [if_neg c]
        exact hub.1
    · rcases hat with z | ⟨o, z1, z2, z3⟩
      · rw [z]
        unfold fC
        split <;> omega
      · rw [z3, ih o z1 (Nat.lt_of_lt_of_le (rd_gt h hs) z2.2)]
        unfold eL
        by_cases d : LG w v o = 0
        · rw [if_pos d]
          unfold fC
          split <;> omega
        · have := hL.2.1 o z1 z2 (by omega)
          rw [if_neg d, if_pos (by omega)]
          omega
  rw [hlf] at hK
  have hg := hL.1
  have hz := hL.2.2
  have hz2 : ¬ gt w s = v → ¬ 2 ≤ LG w v s → LG w v s = 0 := fun c d => by
    rcases hz with z | ⟨z1, z2⟩ | ⟨o, z1, z2, z3, z4⟩
    · exact z
    · exact absurd z1 c
    · omega
  clear hat hub hL hz hlf e0 ih
  have fin : ∀ x : Int, TA w v 99 0 2 s = x → (x = fC → LG w v s = 0) → (x ≠ fC → ¬ LG w v s = 0 ∧ x + (-1) = -(LG w v s : Int)) → wb w 2 (TA w v 99 0 2) s = eL (LG w v s) := fun x e p q => by
    rw [wn, e]
    unfold eL
    by_cases c : x = fC
    · rw [if_pos c, if_pos (p c)]
    · rw [if_neg c, if_neg (q c).1, (q c).2]
  by_cases c : gt w s = v
  · have h1 := hg c
    have eb : (if gt w s = v ∧ hr w s ≤ 99 then (0 : Int) else fC) = 0 := if_pos ⟨c, h99⟩
    by_cases d : 2 ≤ LG w v s
    · have el : (if 2 ≤ LG w v s then -((LG w v s : Int) - 1) else fC) = -((LG w v s : Int) - 1) := if_pos d
      rw [eb, el] at hK
      exact fin _ hK (fun z => by unfold fC at z; omega) (fun _ => ⟨by omega, by omega⟩)
    · have el : (if 2 ≤ LG w v s then -((LG w v s : Int) - 1) else fC) = fC := if_neg d
      rw [eb, el] at hK
      exact fin _ hK (fun z => by unfold fC at z; omega) (fun _ => ⟨by omega, by unfold fC; omega⟩)
  · have eb : (if gt w s = v ∧ hr w s ≤ 99 then (0 : Int) else fC) = fC := if_neg (fun z => c z.1)
    by_cases d : 2 ≤ LG w v s
    · have el : (if 2 ≤ LG w v s then -((LG w v s : Int) - 1) else fC) = -((LG w v s : Int) - 1) := if_pos d
      rw [eb, el] at hK
      exact fin _ hK (fun z => by unfold fC at z; omega) (fun _ => ⟨by omega, by unfold fC; omega⟩)
    · have el : (if 2 ≤ LG w v s then -((LG w v s : Int) - 1) else fC) = fC := if_neg d
      rw [eb, el] at hK
      have h0 := hz2 c d
      exact fin _ hK (fun _ => h0) (fun z => absurd (Int.min_self fC) z)
/-- the most of those who begin -/
def lgM (w : Nat → Nat → Nat) (u v k n : Nat) : Nat := fz (fun s x => if beg w u k s then max x (LG w v s) else x) 0 n
theorem lgM_ok (h : okW w) (n : Nat) (hn : n ≤ 2 * w 5 1) : lgM w u v k n ≤ 100 ∧ (∀ s, s < n → beg w u k s → LG w v s ≤ lgM w u v k n) ∧ (lgM w u v k n = 0 ∨ ∃ s, s < n ∧ beg w u k s ∧ LG w v s = lgM w u v k n) := by
  refine fz_ind (f := fun s x => if beg w u k s then max x (LG w v s) else x) (z := 0) (n := n) (fun j a => a ≤ 100 ∧ (∀ s, s < j → beg w u k s → LG w v s ≤ a) ∧ (a = 0 ∨ ∃ s, s < j ∧ beg w u k s ∧ LG w v s = a)) ⟨by omega, fun s hs => by omega, Or.inl rfl⟩ (fun j a hj ha => ?_) n (Nat.le_refl _)
  obtain ⟨a1, a2, a3⟩ := ha
  have hb := LG_bd (v := v) h j (by omega)
  by_cases c : beg w u k j
  · rw [if_pos c]
    refine ⟨by omega, fun s hs hbg => ?_, ?_⟩
    · by_cases d : s = j
      · subst d; omega
      · have := a2 s (by omega) hbg; omega
    · rcases Nat.le_total a (LG w v j) with d | d
      · rw [Nat.max_eq_right d]; exact Or.inr ⟨j, by omega, c, rfl⟩
      · rw [Nat.max_eq_left d]; exact a3.imp id (fun ⟨s, z1, z2⟩ => ⟨s, by omega, z2⟩)
  · rw [if_neg c]
    refine ⟨a1, fun s hs hbg => ?_, a3.imp id (fun ⟨s, z1, z2⟩ => ⟨s, by omega, z2⟩)⟩
    by_cases d : s = j
    · subst d; exact absurd hbg c
    · exact a2 s (by omega) hbg
abbrev lgX (w : Nat → Nat → Nat) (u v k n : Nat) : Nat → Nat × Nat := trS w u k (vTab (fun s => (0, LG w v s)) n) (fun _ _ => 0) 0
abbrev lgQ (w : Nat → Nat → Nat) (u v k n : Nat) : Nat → Nat := trQ w u k (vTab (fun s => (0, LG w v s)) n) (fun _ _ => 0) 0
theorem lgX_s (n j : Nat) : lgX w u v k n (j + 1) = (lgQ w u v k n j, (lgX w u v k n j).2 - 0) := rfl
theorem lgX_2 (n : Nat) : ∀ j, (lgX w u v k n j).2 = 0
  | 0 => rfl
  | j + 1 => by rw [lgX_s]; show (lgX w u v k n j).2 - 0 = 0; rw [lgX_2 n j]
theorem lg_ok (h : okW w) {b : Nat} (hb : b < 2 * w 5 1) (h1 : beg w u k b) : ∀ j, j < LG w v b → lgQ w u v k (LG w v b) j < 2 * w 5 1 ∧ LG w v (lgQ w u v k (LG w v b) j) = LG w v b - j := by
  have hM := h.2.1
  generalize hn : LG w v b = n
  have fin : ∀ j o, o < 2 * w 5 1 → trP w u k (vTab (fun s => (0, LG w v s)) n) j (lgX w u v k n j) o = true → lgQ w u v k n j < 2 * w 5 1 ∧ LG w v (lgQ w u v k n j) = n - j := fun j o ho hp => by
    have hq : lgQ w u v k n j < 2 * w 5 1 := fst1_ex ho hp
    have ht := fst1_lt hq
    refine ⟨hq, ?_⟩
    rw [trP_eq, Bool.and_eq_true] at ht
    exact congrArg Prod.snd (vTab_of ht.2)
  intro j
  induction j with
  | zero =>
    intro hj
    refine fin 0 b hb ?_
    rw [trP_eq, Bool.and_eq_true]
    exact ⟨by rw [if_pos (show (lgX w u v k n 0).1 = 100 from rfl)]; exact decide_eq_true h1, vTab_t (Prod.ext rfl hn)⟩
  | succ j ih =>
    intro hj
    obtain ⟨i1, i2⟩ := ih (by omega)
    rcases (LG_ok (v := v) h i1).2.2 with z | ⟨z1, z2⟩ | ⟨o, z1, z2, z3, z4⟩
    · omega
    · omega
    · refine fin (j + 1) o z1 ?_
      rw [trP_eq, Bool.and_eq_true]
      refine ⟨?_, vTab_t (Prod.ext (lgX_2 n (j + 1)).symm (by show LG w v o = n - (j + 1); omega))⟩
      rw [lgX_s, if_neg (show ¬ lgQ w u v k n j = 100 by omega)]
      exact decide_eq_true z2
end LGs
section KL
variable {N : Nat} {U : vSt → vSt → Prop} {w : Nat → Nat → Nat} {s t : vSt} {u v k : Nat}
theorem C_longest (h : CW w s) (hN : 60 ≤ N) (hu : u < w 5 0) (hv : v < w 5 0) (hk : k < 1000) :
    ∃ z s' r, fC_Paths_aim N (nI v) (nI 99) (nI 0) (nI 2) s = some z ∧ fC_Paths_traceFrom N (nI u) (nI k) z = some (r, s') ∧ Fr [41, 43] [] s z ∧ ((lgM w u v k (2 * w 5 1) = 0 ∧ r = mI 2 ∧ s' = z) ∨ (0 < lgM w u v k (2 * w 5 1) ∧ r = nI (lgM w u v k (2 * w 5 1)) ∧ Rw (fun j => nI (lgQ w u v k (lgM w u v k (2 * w 5 1)) j / 2)) (lgM w u v k (2 * w 5 1)) z s')) := by
  have hb := h.bd
  obtain ⟨z, a1, a2, a3, a4, a5⟩ := C_aim (N := N) (me := 2) h hN (by decide) hv (show 99 < 2 ^ 31 by decide) shuts0
  have hz : CW w z := h.fr a2 (by decide)
  have hmo := lgM_ok (u := u) (v := v) (k := k) h.ok (2 * w 5 1) (Nat.le_refl _)
  have hwb := wb_lg (v := v) h.ok
  have hat := lf_att (w := w) (me := 2) (K := TA w v 99 0 2) (u := u) (r := k) (2 * w 5 1)
  have hub := lf_ub (w := w) (me := 2) (K := TA w v 99 0 2) (u := u) (r := k) (2 * w 5 1)
  by_cases c : lgM w u v k (2 * w 5 1) = 0
  · have hlf : lf w 2 (TA w v 99 0 2) u k (2 * w 5 1) = fC := by
      rcases hat with d | ⟨o, d1, d2, d3⟩
      · exact d
      · have := hmo.2.1 o d1 d2
        rw [d3, hwb o d1]
        exact if_pos (by omega)
    exact ⟨z, z, mI 2, a1, C_traceFrom_f (K := TA w v 99 0 2) hz hN a4 (by decide) hu hk (fun o ho _ => ⟨a5 o ho, TA_ok h.ok ho⟩) hlf, a2, Or.inl ⟨c, rfl, rfl⟩⟩
  · obtain ⟨b, b1, b2, b3⟩ := hmo.2.2.resolve_left c
    have hlo := lg_ok (u := u) (v := v) (k := k) h.ok b1 b2
    have hM := LG_M (v := v) h.ok h.or b1
    rw [b3] at hlo hM
    generalize hn : lgM w u v k (2 * w 5 1) = n at *
    have hlf : lf w 2 (TA w v 99 0 2) u k (2 * w 5 1) = -(((n - 0 : Nat)) : Int) := by
      refine Int.le_antisymm ?_ ?_
      · have := hub.2 b b1 b2
        rw [hwb b b1, b3] at this
        unfold eL at this
        rw [if_neg c] at this
        omega
      · rcases hat with d | ⟨o, d1, d2, d3⟩
        · rw [d]
          unfold fC
          omega
        · have := hmo.2.1 o d1 d2
          rw [d3, hwb o d1]
          unfold eL fC
          split <;> omega
    have hgr : ∀ j o, j < n → (beg w (grC w u k (lgQ w u v k n) j).1 (grC w u k (lgQ w u v k n) j).2 o ↔ (if (lgX w u v k n j).1 = 100 then decide (beg w u k o) else decide (fol w o (lgX w u v k n j).1)) = true) := fun j o hj => by
      cases j with
      | zero =>
        rw [if_pos (show (lgX w u v k n 0).1 = 100 from rfl)]
        exact ⟨fun y => decide_eq_true y, fun y => of_decide_eq_true y⟩
      | succ j =>
        have := (hlo j (by omega)).1
        rw [lgX_s, if_neg (show ¬ lgQ w u v k n j = 100 by omega)]
        exact ⟨fun y => decide_eq_true y, fun y => of_decide_eq_true y⟩
    obtain ⟨s', r, x1, x2, x3⟩ := C_traceFrom_t (N := N) (K := TA w v 99 0 2) (n := n) (q := lgQ w u v k n) (E := fun j => -((n - j : Nat) : Int)) hz hN a4 (by decide) hu hk (fun o ho => ⟨a5 o ho, TA_ok h.ok ho⟩) hM hlf (fun j hj => by omega) (fun j hj => by omega) (by omega) (fun j hj => by
      obtain ⟨o1, o2⟩ := hlo j hj
      have ht := fst1_lt (show fst1 (trP w u k (vTab (fun s => (0, LG w v s)) n) j (lgX w u v k n j)) (2 * w 5 1) < 2 * w 5 1 from o1)
      rw [trP_eq, Bool.and_eq_true] at ht
      refine ⟨o1, (hgr j _ hj).mpr ht.1, ?_, fun o ho hbg => ?_⟩
      · rw [hwb _ o1, o2]
        exact if_neg (by omega)
      · have ho2 : o < 2 * w 5 1 := by omega
        rw [hwb o ho2]
        intro y
        have hlb := LG_bd (v := v) h.ok o ho2
        have e : LG w v o = n - j := by
          unfold eL fC at y
          split at y <;> omega
        have hp : trP w u k (vTab (fun s => (0, LG w v s)) n) j (lgX w u v k n j) o = true := by
          rw [trP_eq, Bool.and_eq_true]
          exact ⟨(hgr j o hj).mp hbg, vTab_t (Prod.ext (lgX_2 n j).symm e)⟩
        rw [fst1_not (show o < fst1 (trP w u k (vTab (fun s => (0, LG w v s)) n) j (lgX w u v k n j)) (2 * w 5 1) from ho)] at hp
        cases hp) (fun j hj => by
      show -((n - (j + 1) : Nat) : Int) = -((n - j : Nat) : Int) - (-1)
      omega)
    refine ⟨z, s', nI n, a1, ?_, a2, Or.inr ⟨by omega, rfl, x3⟩⟩
    have x6 := x2 (s1 s 41 7 (nI 2)) (q_s1 _ _ _ _)
    have x7 : fC_Paths_measured N (iZ (-((n - 0 : Nat) : Int))) (s1 s 41 7 (nI 2)) = some (nI n, s1 s 41 7 (nI 2)) := by
      have e : -iZ (-((n - 0 : Nat) : Int)) = nI n := by
        rw [z_n]
        show -Int32.ofInt (-((n - 0 : Nat) : Int)) = Int32.ofInt (n : Int)
        rw [← Int32.ofInt_neg, Int.neg_neg]
        rfl
      simp (disch := omega) only [Option.bind_some, ↓reduceIte, ↓M_1, ↓M_2, L_0, L_1, L_2, L_3, L_4, L_5, L_6, L_7, L_8, L_9, L_10, L_11, L_12, L_13, L_20, L_24, L_26, L_30, L_31, L_32, L_39, L_40, L_48, L_57, L_76, L_80, L_90, L_91, L_97, L_99, L_100, L_255, L_273, L_1000, L_2000, q_ld, q_ldL, q_sto, q_stoL, q_add, q_sub, q_mul, q_dec, q_rem, q_div, q_lt_t, q_lt_f, q_le_t, q_le_f, q_eq_t, q_eq_f, q_em, q_me, q_ml, q_lm, q_mle, q_lem, q_s1, q_s1o, q_s1k, q_s12, q_s2, q_s2o, q_s2k, q_s21, Nat.add_sub_cancel, q_or, q_and, q_shl, true_or, or_true, false_or, or_false, true_and, and_true, false_and, and_false, not_true_eq_false, not_false_eq_true, ne_eq, fC_Paths_measured, gC_Paths_measured_0, e]
    rw [x7] at x6
    have er : nI n = r := congrArg Prod.fst (Option.some.inj x6)
    rw [er]
    exact x1
/-- the reference -/
theorem M_lg68 (R : Int32 → Int32 → Int32 → Int32 → vSt → Option (Int32 × vSt)) {T : Nat → Nat} {a x0 : Nat} {z : Int32} (h : MW w t) (hN : 60 ≤ N) (ha : a < 2 * w 5 1) (h30 : t.1 0 30 = nI (2 * w 5 1))
    (hT : ∀ o, o < 2 * w 5 1 → fol w o a → t.1 13 o = nI (T o) ∧ T o ≤ 1000) (h13 : t.1 13 a = nI x0) (hx : x0 ≤ 1000) :
    ∃ y, gM_EachAddsALineModel_longest_68 N R N (nI u) (nI v) (nI k) z (nI a) (nI 0) t = R (nI u) (nI v) (nI k) (z + mI 1) y ∧ Fm [13] [] [] t y ∧ (∀ o, o ≠ a → y.1 13 o = t.1 13 o) ∧ y.1 13 a = nI (fz (fun o x => if fol w o a ∧ 0 < T o then max x (T o + 1) else x) x0 (2 * w 5 1)) := by
  have hb := h.bd
  refine loopU (fun f i y => gM_EachAddsALineModel_longest_68 N R f (nI u) (nI v) (nI k) z (nI a) (nI i) y) (2 * w 5 1) (fun i y => i ≤ 2 * w 5 1 ∧ Fm [13] [] [] t y ∧ (∀ o, o ≠ a → y.1 13 o = t.1 13 o) ∧ y.1 13 a = nI (fz (fun o x => if fol w o a ∧ 0 < T o then max x (T o + 1) else x) x0 i) ∧ fz (fun o x => if fol w o a ∧ 0 < T o then max x (T o + 1) else x) x0 i ≤ 2000)
    (fun o => ∃ y, o = R (nI u) (nI v) (nI k) (z + mI 1) y ∧ Fm [13] [] [] t y ∧ (∀ o, o ≠ a → y.1 13 o = t.1 13 o) ∧ y.1 13 a = nI (fz (fun o x => if fol w o a ∧ 0 < T o then max x (T o + 1) else x) x0 (2 * w 5 1))) ?_ ?_ (2 * w 5 1) N 0 t (by omega) (by omega) ⟨by omega, Fm.rf, fun _ _ => rfl, h13, by show x0 ≤ 2000; omega⟩
  · rintro f i y hi ⟨g1, g2, g3, g4, g5⟩
    have hy : MW w y := h.fm g2 (by decide) (by decide)
    have y30 : y.1 0 30 = nI (2 * w 5 1) := (g2.2.2 30 (by decide)).trans h30
    have ef := M_follows (N := N) hy hi ha
    have es : fz (fun o x => if fol w o a ∧ 0 < T o then max x (T o + 1) else x) x0 (i + 1) = if fol w i a ∧ 0 < T i then max (fz (fun o x => if fol w o a ∧ 0 < T o then max x (T o + 1) else x) x0 i) (T i + 1) else fz (fun o x => if fol w o a ∧ 0 < T o then max x (T o + 1) else x) x0 i := rfl
    try simp only
    rw [es]
    generalize fz (fun o x => if fol w o a ∧ 0 < T o then max x (T o + 1) else x) x0 i = x at g4 g5
    by_cases c : fol w i a
    · rw [if_pos c] at ef
      have ne : i ≠ a := fun q => by
        rw [q] at c
        exact gv_ne h.ok ha c.1
      obtain ⟨t1, t2⟩ := hT i hi c
      rw [← g3 i ne] at t1
      by_cases d : 0 < T i
      · rw [show (if fol w i a ∧ 0 < T i then max x (T i + 1) else x) = max x (T i + 1) from if_pos ⟨c, d⟩]
        refine Or.inl ⟨s1 y 13 a (nI (max x (T i + 1))), ?_, by omega, g2.tr (Fm.w1 (by decide) (by decide)), fun o ho => ?_, q_s1 _ _ _ _, by omega⟩
        · rw [gM_EachAddsALineModel_longest_68]
          simp (disch := omega) only [Option.bind_some, ↓reduceIte, ↓M_1, ↓M_2, L_0, L_1, L_2, L_3, L_4, L_5, L_6, L_7, L_8, L_9, L_10, L_11, L_12, L_13, L_20, L_24, L_26, L_30, L_31, L_32, L_39, L_40, L_48, L_57, L_76, L_80, L_90, L_91, L_97, L_99, L_100, L_255, L_273, L_1000, L_2000, q_ld, q_ldL, q_sto, q_stoL, q_add, q_sub, q_mul, q_dec, q_rem, q_div, q_lt_t, q_lt_f, q_le_t, q_le_f, q_eq_t, q_eq_f, q_em, q_me, q_ml, q_lm, q_mle, q_lem, q_s1, q_s1o, q_s1k, q_s12, q_s2, q_s2o, q_s2k, q_s21, Nat.add_sub_cancel, q_or, q_and, q_shl, true_or, or_true, false_or, or_false, true_and, and_true, false_and, and_false, not_true_eq_false, not_false_eq_true, ne_eq, y30, ef, t1, g4, q_max, gM_EachAddsALineModel_longest_124]
        · rw [q_s1k ho]; exact g3 o ho
      · rw [show (if fol w i a ∧ 0 < T i then max x (T i + 1) else x) = x from if_neg (fun q => d q.2)]
        refine Or.inl ⟨y, ?_, by omega, g2, g3, g4, g5⟩
        rw [gM_EachAddsALineModel_longest_68]
        simp (disch := omega) only [Option.bind_some, ↓reduceIte, ↓M_1, ↓M_2, L_0, L_1, L_2, L_3, L_4, L_5, L_6, L_7, L_8, L_9, L_10, L_11, L_12, L_13, L_20, L_24, L_26, L_30, L_31, L_32, L_39, L_40, L_48, L_57, L_76, L_80, L_90, L_91, L_97, L_99, L_100, L_255, L_273, L_1000, L_2000, q_ld, q_ldL, q_sto, q_stoL, q_add, q_sub, q_mul, q_dec, q_rem, q_div, q_lt_t, q_lt_f, q_le_t, q_le_f, q_eq_t, q_eq_f, q_em, q_me, q_ml, q_lm, q_mle, q_lem, q_s1, q_s1o, q_s1k, q_s12, q_s2, q_s2o, q_s2k, q_s21, Nat.add_sub_cancel, q_or, q_and, q_shl, true_or, or_true, false_or, or_false, true_and, and_true, false_and, and_false, not_true_eq_false, not_false_eq_true, ne_eq, y30, ef, t1, gM_EachAddsALineModel_longest_124]
    · rw [if_neg c] at ef
      rw [show (if fol w i a ∧ 0 < T i then max x (T i + 1) else x) = x from if_neg (fun q => c q.1)]
      refine Or.inl ⟨y, ?_, by omega, g2, g3, g4, g5⟩
      rw [gM_EachAddsALineModel_longest_68]
      simp (disch := omega) only [Option.bind_some, ↓reduceIte, ↓M_1, ↓M_2, L_0, L_1, L_2, L_3, L_4, L_5, L_6, L_7, L_8, L_9, L_10, L_11, L_12, L_13, L_20, L_24, L_26, L_30, L_31, L_32, L_39, L_40, L_48, L_57, L_76, L_80, L_90, L_91, L_97, L_99, L_100, L_255, L_273, L_1000, L_2000, q_ld, q_ldL, q_sto, q_stoL, q_add, q_sub, q_mul, q_dec, q_rem, q_div, q_lt_t, q_lt_f, q_le_t, q_le_f, q_eq_t, q_eq_f, q_em, q_me, q_ml, q_lm, q_mle, q_lem, q_s1, q_s1o, q_s1k, q_s12, q_s2, q_s2o, q_s2k, q_s21, Nat.add_sub_cancel, q_or, q_and, q_shl, true_or, or_true, false_or, or_false, true_and, and_true, false_and, and_false, not_true_eq_false, not_false_eq_true, ne_eq, y30, ef, gM_EachAddsALineModel_longest_124]
  · rintro f y ⟨g1, g2, g3, g4, g5⟩
    have y30 : y.1 0 30 = nI (2 * w 5 1) := (g2.2.2 30 (by decide)).trans h30
    refine ⟨y, ?_, g2, g3, g4⟩
    try simp only
    rw [gM_EachAddsALineModel_longest_68]
    simp (disch := omega) only [Option.bind_some, ↓reduceIte, ↓M_1, ↓M_2, L_0, L_1, L_2, L_3, L_4, L_5, L_6, L_7, L_8, L_9, L_10, L_11, L_12, L_13, L_20, L_24, L_26, L_30, L_31, L_32, L_39, L_40, L_48, L_57, L_76, L_80, L_90, L_91, L_97, L_99, L_100, L_255, L_273, L_1000, L_2000, q_ld, q_ldL, q_sto, q_stoL, q_add, q_sub, q_mul, q_dec, q_rem, q_div, q_lt_t, q_lt_f, q_le_t, q_le_f, q_eq_t, q_eq_f, q_em, q_me, q_ml, q_lm, q_mle, q_lem, q_s1, q_s1o, q_s1k, q_s12, q_s2, q_s2o, q_s2k, q_s21, Nat.add_sub_cancel, q_or, q_and, q_shl, true_or, or_true, false_or, or_false, true_and, and_true, false_and, and_false, not_true_eq_false, not_false_eq_true, ne_eq, y30]
theorem M_lg29 (h : MW w t) (hN : 60 ≤ N) (hu : u < w 5 0) (hv : v < w 5 0) (hk : k < 1000) :
    ∃ z, (fM_EachAddsALineModel_findOrder N t).bind (fun z3 => (some ((z3.1 0 30) - 1 : Int32)).bind fun v4 => gM_EachAddsALineModel_longest_29 N N (nI u) (nI v) (nI k) v4 z3) = gM_EachAddsALineModel_longest_142 N N (nI u) (nI k) (nI 0) (nI 0) z ∧ Fm [11, 13] [] [30] t z ∧ z.1 0 30 = nI (2 * w 5 1) ∧ ∀ s, s < 2 * w 5 1 → z.1 13 s = nI (LG w v s) := by
  have hb := h.bd
  obtain ⟨t0, e, a1, a2, a3, a4, a5⟩ := M_findOrder (N := N) h hN
  have em : nI (2 * w 5 1) - nI 1 = nI (2 * w 5 1) + mI 1 := Int32.sub_eq_add_neg _ _
  have h0 : MW w t0 := h.fm a2 (by decide) (by decide)
  simp (disch := omega) only [Option.bind_some, ↓reduceIte, ↓M_1, ↓M_2, L_0, L_1, L_2, L_3, L_4, L_5, L_6, L_7, L_8, L_9, L_10, L_11, L_12, L_13, L_20, L_24, L_26, L_30, L_31, L_32, L_39, L_40, L_48, L_57, L_76, L_80, L_90, L_91, L_97, L_99, L_100, L_255, L_273, L_1000, L_2000, q_ld, q_ldL, q_sto, q_stoL, q_add, q_mul, q_rem, q_div, q_lt_t, q_lt_f, q_le_t, q_le_f, q_eq_t, q_eq_f, q_em, q_me, q_ml, q_lm, q_mle, q_lem, q_s1, q_s1o, q_s1k, q_s12, q_s2, q_s2o, q_s2k, q_s21, Nat.add_sub_cancel, q_or, q_and, q_shl, true_or, or_true, false_or, or_false, true_and, and_true, false_and, and_false, not_true_eq_false, not_false_eq_true, ne_eq, a1, a3, em]
  refine loopD (fun f i z => gM_EachAddsALineModel_longest_29 N f (nI u) (nI v) (nI k) (nI i + mI 1) z) (2 * w 5 1) (fun i z => i ≤ 2 * w 5 1 ∧ Fm [13] [] [] t0 z ∧ ∀ j, j < 2 * w 5 1 → i ≤ j → z.1 13 (e j) = nI (LG w v (e j)))
    (fun o => ∃ z, o = gM_EachAddsALineModel_longest_142 N N (nI u) (nI k) (nI 0) (nI 0) z ∧ Fm [11, 13] [] [30] t z ∧ z.1 0 30 = nI (2 * w 5 1) ∧ ∀ s, s < 2 * w 5 1 → z.1 13 s = nI (LG w v s)) ?_ ?_ (2 * w 5 1) N t0 (Nat.le_refl _) (by omega) ⟨Nat.le_refl _, Fm.rf, fun j h1 h2 => by omega⟩
  · rintro f i z hi ⟨g1, g2, g3⟩
    have hz : MW w z := h0.fm g2 (by decide) (by decide)
    have ha := a5.1 i (by omega)
    have e1 : nI (i + 1) + mI 1 = nI i := q_dec (by omega)
    have z11 : z.1 11 i = nI (e i) := by rw [g2.1 11 (by decide) (by decide)]; exact a4 i (by omega)
    have z30 : z.1 0 30 = nI (2 * w 5 1) := by rw [g2.2.2 30 (by decide)]; exact a3
    have eg := M_getter (N := N) hz ha
    have hg := gt_lt h.ok ha
    have hz2 : MW w (s1 z 13 (e i) (nI (if gt w (e i) = v then 1 else 0))) := hz.fm (Fm.w1 (L := [13]) (K := []) (F := []) (by decide) (by decide)) (by decide) (by decide)
    obtain ⟨y, y1, y2, y3, y4⟩ := M_lg68 (N := N) (u := u) (v := v) (k := k) (gM_EachAddsALineModel_longest_29 N f) (T := LG w v) (a := e i) (x0 := if gt w (e i) = v then 1 else 0) (z := nI i) hz2 hN ha (by simp (disch := omega) only [Option.bind_some, ↓reduceIte, ↓M_1, ↓M_2, L_0, L_1, L_2, L_3, L_4, L_5, L_6, L_7, L_8, L_9, L_10, L_11, L_12, L_13, L_20, L_24, L_26, L_30, L_31, L_32, L_39, L_40, L_48, L_57, L_76, L_80, L_90, L_91, L_97, L_99, L_100, L_255, L_273, L_1000, L_2000, q_ld, q_ldL, q_sto, q_stoL, q_add, q_sub, q_mul, q_dec, q_rem, q_div, q_lt_t, q_lt_f, q_le_t, q_le_f, q_eq_t, q_eq_f, q_em, q_me, q_ml, q_lm, q_mle, q_lem, q_s1, q_s1o, q_s1k, q_s12, q_s2, q_s2o, q_s2k, q_s21, Nat.add_sub_cancel, q_or, q_and, q_shl, true_or, or_true, false_or, or_false, true_and, and_true, false_and, and_false, not_true_eq_false, not_false_eq_true, ne_eq, z30]) (fun o ho hf => by
      have ne : o ≠ e i := fun q => by
        rw [q] at hf
        exact gv_ne h.ok ha hf.1
      obtain ⟨j, j1, j2⟩ := srt_onto a5 ho
      have hjk : i < j := srt_pos a5 j1 (by omega) (by rw [j2]; exact fol_lt h.ok ha hf)
      have h3 := g3 j j1 (by omega)
      rw [j2] at h3
      have hlb := LG_bd (v := v) h.ok o ho
      exact ⟨by rw [q_s1k ne]; exact h3, by omega⟩) (q_s1 _ _ _ _) (by split <;> omega)
    refine Or.inl ⟨y, ?_, by omega, (g2.tr (Fm.w1 (by decide) (by decide))).tr y2, fun j hj1 hj2 => ?_⟩
    · simp only [e1]
      rw [← y1, gM_EachAddsALineModel_longest_29]
      by_cases c : gt w (e i) = v
      · rw [show (if gt w (e i) = v then 1 else 0) = 1 from if_pos c]
        simp (disch := omega) only [Option.bind_some, ↓reduceIte, ↓M_1, ↓M_2, L_0, L_1, L_2, L_3, L_4, L_5, L_6, L_7, L_8, L_9, L_10, L_11, L_12, L_13, L_20, L_24, L_26, L_30, L_31, L_32, L_39, L_40, L_48, L_57, L_76, L_80, L_90, L_91, L_97, L_99, L_100, L_255, L_273, L_1000, L_2000, q_ld, q_ldL, q_sto, q_stoL, q_add, q_sub, q_mul, q_dec, q_rem, q_div, q_lt_t, q_lt_f, q_le_t, q_le_f, q_eq_t, q_eq_f, q_em, q_me, q_ml, q_lm, q_mle, q_lem, q_s1, q_s1o, q_s1k, q_s12, q_s2, q_s2o, q_s2k, q_s21, Nat.add_sub_cancel, q_or, q_and, q_shl, true_or, or_true, false_or, or_false, true_and, and_true, false_and, and_false, not_true_eq_false, not_false_eq_true, ne_eq, z11, eg, c, gM_EachAddsALineModel_longest_64]
      · rw [show (if gt w (e i) = v then 1 else 0) = 0 from if_neg c]
        simp (disch := omega) only [Option.bind_some, ↓reduceIte, ↓M_1, ↓M_2, L_0, L_1, L_2, L_3, L_4, L_5, L_6, L_7, L_8, L_9, L_10, L_11, L_12, L_13, L_20, L_24, L_26, L_30, L_31, L_32, L_39, L_40, L_48, L_57, L_76, L_80, L_90, L_91, L_97, L_99, L_100, L_255, L_273, L_1000, L_2000, q_ld, q_ldL, q_sto, q_stoL, q_add, q_sub, q_mul, q_dec, q_rem, q_div, q_lt_t, q_lt_f, q_le_t, q_le_f, q_eq_t, q_eq_f, q_em, q_me, q_ml, q_lm, q_mle, q_lem, q_s1, q_s1o, q_s1k, q_s12, q_s2, q_s2o, q_s2k, q_s21, Nat.add_sub_cancel, q_or, q_and, q_shl, true_or, or_true, false_or, or_false, true_and, and_true, false_and, and_false, not_true_eq_false, not_false_eq_true, ne_eq, z11, eg, gM_EachAddsALineModel_longest_64]
    · by_cases d : j = i
      · rw [d, y4, LG_rec h.ok ha]
        rfl
      · have ne : e j ≠ e i := fun q => d (srt_inj a5 hj1 (by omega) q)
        rw [y3 _ ne, q_s1k ne]
        exact g3 j hj1 (by omega)
  · rintro f z ⟨g1, g2, g3⟩
    refine ⟨z, ?_, (a2.mono (by decide) (by decide) (by decide)).tr (g2.mono (by decide) (by decide) (by decide)), ?_, fun s hs => ?_⟩
    · show gM_EachAddsALineModel_longest_29 N (f + 1) (nI u) (nI v) (nI k) (nI 0 + mI 1) z = _
      rw [gM_EachAddsALineModel_longest_29, if_pos (by decide)]
      simp (disch := omega) only [Option.bind_some, ↓reduceIte, ↓M_1, ↓M_2, L_0, L_1, L_2, L_3, L_4, L_5, L_6, L_7, L_8, L_9, L_10, L_11, L_12, L_13, L_20, L_24, L_26, L_30, L_31, L_32, L_39, L_40, L_48, L_57, L_76, L_80, L_90, L_91, L_97, L_99, L_100, L_255, L_273, L_1000, L_2000, q_ld, q_ldL, q_sto, q_stoL, q_add, q_sub, q_mul, q_dec, q_rem, q_div, q_lt_t, q_lt_f, q_le_t, q_le_f, q_eq_t, q_eq_f, q_em, q_me, q_ml, q_lm, q_mle, q_lem, q_s1, q_s1o, q_s1k, q_s12, q_s2, q_s2o, q_s2k, q_s21, Nat.add_sub_cancel, q_or, q_and, q_shl, true_or, or_true, false_or, or_false, true_and, and_true, false_and, and_false, not_true_eq_false, not_false_eq_true, ne_eq]
    · rw [g2.2.2 30 (by decide)]; exact a3
    · obtain ⟨j, j1, j2⟩ := srt_onto a5 hs
      rw [← j2]
      exact g3 j j1 (by omega)
theorem M_lgHead (R : Int32 → Int32 → Int32 → Int32 → Int32 → vSt → Option (Int32 × vSt)) (f : Nat) {a4 a6 c : Int32} {x1 i : Nat} (h : MW w t) (hu : u < w 5 0) (hk : k < 1000) (h30 : t.1 0 30 = nI (2 * w 5 1)) (hi : i < 2 * w 5 1) (hx : x1 = 100 ∨ x1 < 2 * w 5 1) :
    gM_EachAddsALineModel_longest_213 N R (f + 1) (nI u) (nI k) a4 (gI x1) a6 c (nI i) t = if (if x1 = 100 then decide (beg w u k i) else decide (fol w i x1)) = true then gM_EachAddsALineModel_longest_253 N (gM_EachAddsALineModel_longest_213 N R f) (nI u) (nI k) a4 (gI x1) a6 c (nI i) t else gM_EachAddsALineModel_longest_213 N R f (nI u) (nI k) a4 (gI x1) a6 c (nI (i + 1)) t := by
  have hb := h.bd
  rw [gM_EachAddsALineModel_longest_213]
  by_cases d : x1 = 100
  · have e1 := M_begins (N := N) h hi hu hk
    rw [if_pos d, d, gI_no (g := 100) (by decide)]
    by_cases g : beg w u k i
    · rw [if_pos g] at e1
      rw [if_pos (decide_eq_true g)]
      simp (disch := omega) only [Option.bind_some, ↓reduceIte, ↓M_1, ↓M_2, L_0, L_1, L_2, L_3, L_4, L_5, L_6, L_7, L_8, L_9, L_10, L_11, L_12, L_13, L_20, L_24, L_26, L_30, L_31, L_32, L_39, L_40, L_48, L_57, L_76, L_80, L_90, L_91, L_97, L_99, L_100, L_255, L_273, L_1000, L_2000, q_ld, q_ldL, q_sto, q_stoL, q_add, q_sub, q_mul, q_dec, q_rem, q_div, q_lt_t, q_lt_f, q_le_t, q_le_f, q_eq_t, q_eq_f, q_em, q_me, q_ml, q_lm, q_mle, q_lem, q_s1, q_s1o, q_s1k, q_s12, q_s2, q_s2o, q_s2k, q_s21, Nat.add_sub_cancel, q_or, q_and, q_shl, true_or, or_true, false_or, or_false, true_and, and_true, false_and, and_false, not_true_eq_false, not_false_eq_true, ne_eq, h30, e1]
    · rw [if_neg g] at e1
      rw [if_neg (show ¬ decide (beg w u k i) = true by rw [decide_eq_false g]; decide)]
      simp (disch := omega) only [Option.bind_some, ↓reduceIte, ↓M_1, ↓M_2, L_0, L_1, L_2, L_3, L_4, L_5, L_6, L_7, L_8, L_9, L_10, L_11, L_12, L_13, L_20, L_24, L_26, L_30, L_31, L_32, L_39, L_40, L_48, L_57, L_76, L_80, L_90, L_91, L_97, L_99, L_100, L_255, L_273, L_1000, L_2000, q_ld, q_ldL, q_sto, q_stoL, q_add, q_sub, q_mul, q_dec, q_rem, q_div, q_lt_t, q_lt_f, q_le_t, q_le_f, q_eq_t, q_eq_f, q_em, q_me, q_ml, q_lm, q_mle, q_lem, q_s1, q_s1o, q_s1k, q_s12, q_s2, q_s2o, q_s2k, q_s21, Nat.add_sub_cancel, q_or, q_and, q_shl, true_or, or_true, false_or, or_false, true_and, and_true, false_and, and_false, not_true_eq_false, not_false_eq_true, ne_eq, h30, e1, gM_EachAddsALineModel_longest_286]
  · have hx1 : x1 < 2 * w 5 1 := hx.elim (fun z => absurd z d) id
    have e1 := M_follows (N := N) h hi hx1
    rw [if_neg d, gI_nI (g := x1) (by omega)]
    by_cases g : fol w i x1
    · rw [if_pos g] at e1
      rw [if_pos (decide_eq_true g)]
      simp (disch := omega) only [Option.bind_some, ↓reduceIte, ↓M_1, ↓M_2, L_0, L_1, L_2, L_3, L_4, L_5, L_6, L_7, L_8, L_9, L_10, L_11, L_12, L_13, L_20, L_24, L_26, L_30, L_31, L_32, L_39, L_40, L_48, L_57, L_76, L_80, L_90, L_91, L_97, L_99, L_100, L_255, L_273, L_1000, L_2000, q_ld, q_ldL, q_sto, q_stoL, q_add, q_sub, q_mul, q_dec, q_rem, q_div, q_lt_t, q_lt_f, q_le_t, q_le_f, q_eq_t, q_eq_f, q_em, q_me, q_ml, q_lm, q_mle, q_lem, q_s1, q_s1o, q_s1k, q_s12, q_s2, q_s2o, q_s2k, q_s21, Nat.add_sub_cancel, q_or, q_and, q_shl, true_or, or_true, false_or, or_false, true_and, and_true, false_and, and_false, not_true_eq_false, not_false_eq_true, ne_eq, h30, e1]
    · rw [if_neg g] at e1
      rw [if_neg (show ¬ decide (fol w i x1) = true by rw [decide_eq_false g]; decide)]
      simp (disch := omega) only [Option.bind_some, ↓reduceIte, ↓M_1, ↓M_2, L_0, L_1, L_2, L_3, L_4, L_5, L_6, L_7, L_8, L_9, L_10, L_11, L_12, L_13, L_20, L_24, L_26, L_30, L_31, L_32, L_39, L_40, L_48, L_57, L_76, L_80, L_90, L_91, L_97, L_99, L_100, L_255, L_273, L_1000, L_2000, q_ld, q_ldL, q_sto, q_stoL, q_add, q_sub, q_mul, q_dec, q_rem, q_div, q_lt_t, q_lt_f, q_le_t, q_le_f, q_eq_t, q_eq_f, q_em, q_me, q_ml, q_lm, q_mle, q_lem, q_s1, q_s1o, q_s1k, q_s12, q_s2, q_s2o, q_s2k, q_s21, Nat.add_sub_cancel, q_or, q_and, q_shl, true_or, or_true, false_or, or_false, true_and, and_true, false_and, and_false, not_true_eq_false, not_false_eq_true, ne_eq, h30, e1, gM_EachAddsALineModel_longest_286]
theorem M_lg213 (R : Int32 → Int32 → Int32 → Int32 → Int32 → vSt → Option (Int32 × vSt)) {a4 : Int32} {n j : Nat} {x : Nat × Nat} (h : MW w t) (hN : 60 ≤ N) (hu : u < w 5 0) (hk : k < 1000) (h30 : t.1 0 30 = nI (2 * w 5 1))
    (hT : ∀ s, s < 2 * w 5 1 → t.1 13 s = nI (LG w v s)) (hx : x.1 = 100 ∨ x.1 < 2 * w 5 1) (hx2 : x.2 = 0) (hj : j < n) (hn : n ≤ 1000)
    (hq : fst1 (trP w u k (vTab (fun s => (0, LG w v s)) n) j x) (2 * w 5 1) < 2 * w 5 1) :
    gM_EachAddsALineModel_longest_213 N R N (nI u) (nI k) a4 (gI x.1) (nI (n - j)) (mI 1) (nI 0) t =
    if 12 ≤ t.1 0 10 then gM_EachAddsALineModel_longest_309 N R (nI u) (nI k) a4 (nI (n - j)) (nI (fst1 (trP w u k (vTab (fun s => (0, LG w v s)) n) j x) (2 * w 5 1))) t
    else (fM_EachAddsALineModel_tell N (nI (fst1 (trP w u k (vTab (fun s => (0, LG w v s)) n) j x) (2 * w 5 1) / 2)) t).bind fun z1 => gM_EachAddsALineModel_longest_309 N R (nI u) (nI k) a4 (nI (n - j)) (nI (fst1 (trP w u k (vTab (fun s => (0, LG w v s)) n) j x) (2 * w 5 1))) z1 := by
  have hb := h.bd
  refine loopS (fun f i (c : Nat) => gM_EachAddsALineModel_longest_213 N R f (nI u) (nI k) a4 (gI x.1) (nI (n - j)) (gI c) (nI i) t) (fun i => if fst1 (trP w u k (vTab (fun s => (0, LG w v s)) n) j x) i < i then fst1 (trP w u k (vTab (fun s => (0, LG w v s)) n) j x) i else 100) (2 * w 5 1) _ (fun f i hi => ?_) (fun f => ?_) N (by omega)
  · have t1 := hT i hi
    have t2 := LG_bd (v := v) h.ok i hi
    have hle := fst1_le (trP w u k (vTab (fun s => (0, LG w v s)) n) j x) i
    have e1 := M_lgHead (N := N) R f (a4 := a4) (a6 := nI (n - j)) (c := gI (if fst1 (trP w u k (vTab (fun s => (0, LG w v s)) n) j x) i < i then fst1 (trP w u k (vTab (fun s => (0, LG w v s)) n) j x) i else 100)) h hu hk h30 hi hx
    have ep := trP_eq w u k (vTab (fun s => (0, LG w v s)) n) j x i
    show gM_EachAddsALineModel_longest_213 N R (f + 1) (nI u) (nI k) a4 (gI x.1) (nI (n - j)) (gI (if fst1 (trP w u k (vTab (fun s => (0, LG w v s)) n) j x) i < i then fst1 (trP w u k (vTab (fun s => (0, LG w v s)) n) j x) i else 100)) (nI i) t = gM_EachAddsALineModel_longest_213 N R f (nI u) (nI k) a4 (gI x.1) (nI (n - j)) (gI (if fst1 (trP w u k (vTab (fun s => (0, LG w v s)) n) j x) (i + 1) < i + 1 then fst1 (trP w u k (vTab (fun s => (0, LG w v s)) n) j x) (i + 1) else 100)) (nI (i + 1)) t
    rw [fst1_next, e1]
    generalize fst1 (trP w u k (vTab (fun s => (0, LG w v s)) n) j x) i = c at hle
    generalize (if x.1 = 100 then decide (beg w u k i) else decide (fol w i x.1)) = ab at ep
    by_cases d1 : ab = true
    · rw [if_pos d1, gM_EachAddsALineModel_longest_253]
      by_cases d2 : LG w v i = n - j
      · have d3 : trP w u k (vTab (fun s => (0, LG w v s)) n) j x i = true := by rw [ep, d1, vTab_t (T := fun s => (0, LG w v s)) (Prod.ext hx2.symm d2)]; rfl
        by_cases d : c < i
        · rw [if_pos d, if_pos d, gI_nI (g := c) (by omega)]
          have hh : c / 2 ≤ i / 2 := by omega
          simp (disch := omega) only [Option.bind_some, ↓reduceIte, ↓M_1, ↓M_2, L_0, L_1, L_2, L_3, L_4, L_5, L_6, L_7, L_8, L_9, L_10, L_11, L_12, L_13, L_20, L_24, L_26, L_30, L_31, L_32, L_39, L_40, L_48, L_57, L_76, L_80, L_90, L_91, L_97, L_99, L_100, L_255, L_273, L_1000, L_2000, q_ld, q_ldL, q_sto, q_stoL, q_add, q_sub, q_mul, q_dec, q_rem, q_div, q_lt_t, q_lt_f, q_le_t, q_le_f, q_eq_t, q_eq_f, q_em, q_me, q_ml, q_lm, q_mle, q_lem, q_s1, q_s1o, q_s1k, q_s12, q_s2, q_s2o, q_s2k, q_s21, Nat.add_sub_cancel, q_or, q_and, q_shl, true_or, or_true, false_or, or_false, true_and, and_true, false_and, and_false, not_true_eq_false, not_false_eq_true, ne_eq, t1, d2, gM_EachAddsALineModel_longest_282, gM_EachAddsALineModel_longest_286]
        · rw [if_neg d, if_neg d, if_pos d3, gI_no (g := 100) (by decide), gI_nI (g := i) (by omega)]
          simp (disch := omega) only [Option.bind_some, ↓reduceIte, ↓M_1, ↓M_2, L_0, L_1, L_2, L_3, L_4, L_5, L_6, L_7, L_8, L_9, L_10, L_11, L_12, L_13, L_20, L_24, L_26, L_30, L_31, L_32, L_39, L_40, L_48, L_57, L_76, L_80, L_90, L_91, L_97, L_99, L_100, L_255, L_273, L_1000, L_2000, q_ld, q_ldL, q_sto, q_stoL, q_add, q_sub, q_mul, q_dec, q_rem, q_div, q_lt_t, q_lt_f, q_le_t, q_le_f, q_eq_t, q_eq_f, q_em, q_me, q_ml, q_lm, q_mle, q_lem, q_s1, q_s1o, q_s1k, q_s12, q_s2, q_s2o, q_s2k, q_s21, Nat.add_sub_cancel, q_or, q_and, q_shl, true_or, or_true, false_or, or_false, true_and, and_true, false_and, and_false, not_true_eq_false, not_false_eq_true, ne_eq, t1, d2, gM_EachAddsALineModel_longest_282, gM_EachAddsALineModel_longest_286]
      · have d3 : ¬ trP w u k (vTab (fun s => (0, LG w v s)) n) j x i = true := fun z => d2 (by
          rw [ep, Bool.and_eq_true] at z
          exact congrArg Prod.snd (vTab_of z.2))
        rw [if_neg d3]
        simp (disch := omega) only [Option.bind_some, ↓reduceIte, ↓M_1, ↓M_2, L_0, L_1, L_2, L_3, L_4, L_5, L_6, L_7, L_8, L_9, L_10, L_11, L_12, L_13, L_20, L_24, L_26, L_30, L_31, L_32, L_39, L_40, L_48, L_57, L_76, L_80, L_90, L_91, L_97, L_99, L_100, L_255, L_273, L_1000, L_2000, q_ld, q_ldL, q_sto, q_stoL, q_add, q_sub, q_mul, q_dec, q_rem, q_div, q_lt_t, q_lt_f, q_le_t, q_le_f, q_eq_t, q_eq_f, q_em, q_me, q_ml, q_lm, q_mle, q_lem, q_s1, q_s1o, q_s1k, q_s12, q_s2, q_s2o, q_s2k, q_s21, Nat.add_sub_cancel, q_or, q_and, q_shl, true_or, or_true, false_or, or_false, true_and, and_true, false_and, and_false, not_true_eq_false, not_false_eq_true, ne_eq, t1, gM_EachAddsALineModel_longest_286]
    · rw [if_neg d1]
      have d3 : ¬ trP w u k (vTab (fun s => (0, LG w v s)) n) j x i = true := fun z => d1 (by
        rw [ep, Bool.and_eq_true] at z
        exact z.1)
      rw [if_neg d3]
  · show gM_EachAddsALineModel_longest_213 N R (f + 1) (nI u) (nI k) a4 (gI x.1) (nI (n - j)) (gI (if fst1 (trP w u k (vTab (fun s => (0, LG w v s)) n) j x) (2 * w 5 1) < 2 * w 5 1 then fst1 (trP w u k (vTab (fun s => (0, LG w v s)) n) j x) (2 * w 5 1) else 100)) (nI (2 * w 5 1)) t = _
    rw [if_pos hq, gI_nI (g := fst1 (trP w u k (vTab (fun s => (0, LG w v s)) n) j x) (2 * w 5 1)) (by omega), gM_EachAddsALineModel_longest_213, h30, if_pos (Int32.le_refl _)]
    generalize fst1 (trP w u k (vTab (fun s => (0, LG w v s)) n) j x) (2 * w 5 1) = q at hq
    rw [show nI q / 2 = nI (q / 2) from q_div (by omega) (by decide) (by decide)]
theorem M_longest (h : MW w t) (hN : 200 ≤ N) (hu : u < w 5 0) (hv : v < w 5 0) (hk : k < 1000) :
    ∃ r t', (fM_EachAddsALineModel_findOrder N t).bind (fun z3 => (some ((z3.1 0 30) - 1 : Int32)).bind fun v4 => gM_EachAddsALineModel_longest_29 N N (nI u) (nI v) (nI k) v4 z3) = some (r, t') ∧ ((lgM w u v k (2 * w 5 1) = 0 ∧ r = mI 2 ∧ Fm [11, 13] [] [30] t t') ∨ (0 < lgM w u v k (2 * w 5 1) ∧ r = nI (lgM w u v k (2 * w 5 1)) ∧ Fm [7, 11, 13] [] [10, 30] t t' ∧ t'.1 0 10 = nI (min (lgM w u v k (2 * w 5 1)) 12) ∧ ∀ j, j < min (lgM w u v k (2 * w 5 1)) 12 → t'.1 7 j = nI (lgQ w u v k (lgM w u v k (2 * w 5 1)) j / 2))) := by
  have hb := h.bd
  obtain ⟨z, x1, x2, x3, x4⟩ := M_lg29 (N := N) h (by omega) hu hv hk
  have hz : MW w z := h.fm x2 (by decide) (by decide)
  rw [x1]
  have hmo := fun n hn => lgM_ok (u := u) (v := v) (k := k) h.ok n hn
  refine loopU (fun f i (a : Nat) => gM_EachAddsALineModel_longest_142 N f (nI u) (nI k) (nI a) (nI i) z) (2 * w 5 1) (fun i a => i ≤ 2 * w 5 1 ∧ a = lgM w u v k i) (fun o => ∃ r t', o = some (r, t') ∧ ((lgM w u v k (2 * w 5 1) = 0 ∧ r = mI 2 ∧ Fm [11, 13] [] [30] t t') ∨ (0 < lgM w u v k (2 * w 5 1) ∧ r = nI (lgM w u v k (2 * w 5 1)) ∧ Fm [7, 11, 13] [] [10, 30] t t' ∧ t'.1 0 10 = nI (min (lgM w u v k (2 * w 5 1)) 12) ∧ ∀ j, j < min (lgM w u v k (2 * w 5 1)) 12 → t'.1 7 j = nI (lgQ w u v k (lgM w u v k (2 * w 5 1)) j / 2)))) ?_ ?_ (2 * w 5 1) N 0 0 (by omega) (by omega) ⟨by omega, rfl⟩
  · rintro f i a hi ⟨_, rfl⟩
    refine Or.inl ⟨_, ?_, by omega, rfl⟩
    have e1 := M_begins (N := N) hz hi hu hk
    have ha := (hmo i (by omega)).1
    have hlb := LG_bd (v := v) h.ok i hi
    have es : lgM w u v k (i + 1) = if beg w u k i then max (lgM w u v k i) (LG w v i) else lgM w u v k i := rfl
    rw [es]
    generalize lgM w u v k i = a at ha
    by_cases c : beg w u k i
    · rw [if_pos c] at e1
      rw [show (if beg w u k i then max a (LG w v i) else a) = max a (LG w v i) from if_pos c, gM_EachAddsALineModel_longest_142]
      simp (disch := omega) only [Option.bind_some, ↓reduceIte, ↓M_1, ↓M_2, L_0, L_1, L_2, L_3, L_4, L_5, L_6, L_7, L_8, L_9, L_10, L_11, L_12, L_13, L_20, L_24, L_26, L_30, L_31, L_32, L_39, L_40, L_48, L_57, L_76, L_80, L_90, L_91, L_97, L_99, L_100, L_255, L_273, L_1000, L_2000, q_ld, q_ldL, q_sto, q_stoL, q_add, q_sub, q_mul, q_dec, q_rem, q_div, q_lt_t, q_lt_f, q_le_t, q_le_f, q_eq_t, q_eq_f, q_em, q_me, q_ml, q_lm, q_mle, q_lem, q_s1, q_s1o, q_s1k, q_s12, q_s2, q_s2o, q_s2k, q_s21, Nat.add_sub_cancel, q_or, q_and, q_shl, true_or, or_true, false_or, or_false, true_and, and_true, false_and, and_false, not_true_eq_false, not_false_eq_true, ne_eq, x3, e1, x4 i hi, q_max, gM_EachAddsALineModel_longest_176]
    · rw [if_neg c] at e1
      rw [show (if beg w u k i then max a (LG w v i) else a) = a from if_neg c, gM_EachAddsALineModel_longest_142]
      simp (disch := omega) only [Option.bind_some, ↓reduceIte, ↓M_1, ↓M_2, L_0, L_1, L_2, L_3, L_4, L_5, L_6, L_7, L_8, L_9, L_10, L_11, L_12, L_13, L_20, L_24, L_26, L_30, L_31, L_32, L_39, L_40, L_48, L_57, L_76, L_80, L_90, L_91, L_97, L_99, L_100, L_255, L_273, L_1000, L_2000, q_ld, q_ldL, q_sto, q_stoL, q_add, q_sub, q_mul, q_dec, q_rem, q_div, q_lt_t, q_lt_f, q_le_t, q_le_f, q_eq_t, q_eq_f, q_em, q_me, q_ml, q_lm, q_mle, q_lem, q_s1, q_s1o, q_s1k, q_s12, q_s2, q_s2o, q_s2k, q_s21, Nat.add_sub_cancel, q_or, q_and, q_shl, true_or, or_true, false_or, or_false, true_and, and_true, false_and, and_false, not_true_eq_false, not_false_eq_true, ne_eq, x3, e1, gM_EachAddsALineModel_longest_176]
  · rintro f a ⟨_, rfl⟩
    have hm := hmo (2 * w 5 1) (Nat.le_refl _)
    try simp only
    by_cases c : lgM w u v k (2 * w 5 1) = 0
    · refine ⟨mI 2, z, ?_, Or.inl ⟨c, rfl, x2⟩⟩
      rw [c, gM_EachAddsALineModel_longest_142]
      simp (disch := omega) only [Option.bind_some, ↓reduceIte, ↓M_1, ↓M_2, L_0, L_1, L_2, L_3, L_4, L_5, L_6, L_7, L_8, L_9, L_10, L_11, L_12, L_13, L_20, L_24, L_26, L_30, L_31, L_32, L_39, L_40, L_48, L_57, L_76, L_80, L_90, L_91, L_97, L_99, L_100, L_255, L_273, L_1000, L_2000, q_ld, q_ldL, q_sto, q_stoL, q_add, q_sub, q_mul, q_dec, q_rem, q_div, q_lt_t, q_lt_f, q_le_t, q_le_f, q_eq_t, q_eq_f, q_em, q_me, q_ml, q_lm, q_mle, q_lem, q_s1, q_s1o, q_s1k, q_s12, q_s2, q_s2o, q_s2k, q_s21, Nat.add_sub_cancel, q_or, q_and, q_shl, true_or, or_true, false_or, or_false, true_and, and_true, false_and, and_false, not_true_eq_false, not_false_eq_true, ne_eq, x3, M_2]
    · obtain ⟨b, b1, b2, b3⟩ := hm.2.2.resolve_left c
      have hlo := lg_ok (u := u) (v := v) (k := k) h.ok b1 b2
      rw [b3] at hlo
      have hn100 := hm.1
      generalize lgM w u v k (2 * w 5 1) = n at *
      have hXa : ∀ j, j ≤ n → (lgX w u v k n j).1 = 100 ∨ (lgX w u v k n j).1 < 2 * w 5 1 := fun j hj => by
        cases j with
        | zero => exact Or.inl rfl
        | succ j => exact Or.inr (hlo j (by omega)).1
      have main : ∃ t', gM_EachAddsALineModel_longest_202 N N (nI u) (nI k) (nI n) (mI 1) (nI n) (s1 z 0 10 (nI 0)) = some (nI n, t') ∧ Rm (fun j => nI (lgQ w u v k n j / 2)) (min n 12) z t' := by
        refine loopU (fun f j y => gM_EachAddsALineModel_longest_202 N f (nI u) (nI k) (nI n) (gI (lgX w u v k n j).1) (nI (n - j)) y) n (fun j y => j ≤ n ∧ Rm (fun j => nI (lgQ w u v k n j / 2)) (min j 12) z y) (fun o => ∃ t', o = some (nI n, t') ∧ Rm (fun j => nI (lgQ w u v k n j / 2)) (min n 12) z t') ?_ ?_ n N 0 _ (by omega) (by omega) ⟨by omega, Rm.nil⟩
        · rintro f' j y hj ⟨g1, g2⟩
          have hy : MW w y := hz.fm g2.1 (by decide) (by decide)
          obtain ⟨o1, o2⟩ := hlo j hj
          have y30 : y.1 0 30 = nI (2 * w 5 1) := (g2.1.2.2 30 (by decide)).trans x3
          have st := M_lg213 (N := N) (v := v) (gM_EachAddsALineModel_longest_202 N f') (a4 := nI n) (n := n) (j := j) (x := lgX w u v k n j) hy (by omega) hu hk y30 (fun s hs => by
            rw [g2.1.1 13 (by decide) (by decide)]
            exact x4 s hs) (hXa j (by omega)) (lgX_2 n j) hj (by omega) o1
          have eq1 : fst1 (trP w u k (vTab (fun s => (0, LG w v s)) n) j (lgX w u v k n j)) (2 * w 5 1) = lgQ w u v k n j := rfl
          rw [eq1] at st
          have ex : (lgX w u v k n (j + 1)).1 = lgQ w u v k n j := rfl
          have ed : n - j - 1 = n - (j + 1) := by omega
          refine Or.inl ?_
          try simp only
          rw [ex, gI_nI (g := lgQ w u v k n j) (by omega)]
          by_cases c12 : j < 12
          · have e10 : y.1 0 10 = nI j := by rw [g2.2.1, show min j 12 = j by omega]
            obtain ⟨u2, v1, v2⟩ := M_tell (N := N) g2 (by omega) (x := nI (lgQ w u v k n j / 2)) (by rw [show min j 12 = j by omega])
            refine ⟨u2, ?_, by omega, ?_⟩
            · rw [gM_EachAddsALineModel_longest_202]
              simp (disch := omega) only [Option.bind_some, ↓reduceIte, ↓M_1, ↓M_2, L_0, L_1, L_2, L_3, L_4, L_5, L_6, L_7, L_8, L_9, L_10, L_11, L_12, L_13, L_20, L_24, L_26, L_30, L_31, L_32, L_39, L_40, L_48, L_57, L_76, L_80, L_90, L_91, L_97, L_99, L_100, L_255, L_273, L_1000, L_2000, q_ld, q_ldL, q_sto, q_stoL, q_add, q_sub, q_mul, q_dec, q_rem, q_div, q_lt_t, q_lt_f, q_le_t, q_le_f, q_eq_t, q_eq_f, q_em, q_me, q_ml, q_lm, q_mle, q_lem, q_s1, q_s1o, q_s1k, q_s12, q_s2, q_s2o, q_s2k, q_s21, Nat.add_sub_cancel, q_or, q_and, q_shl, true_or, or_true, false_or, or_false, true_and, and_true, false_and, and_false, not_true_eq_false, not_false_eq_true, ne_eq, st, e10, v1, gM_EachAddsALineModel_longest_309, ed]
            · rw [show min (j + 1) 12 = min j 12 + 1 by omega]; exact v2
          · have e10 : y.1 0 10 = nI 12 := by rw [g2.2.1, show min j 12 = 12 by omega]
            refine ⟨y, ?_, by omega, ?_⟩
            · rw [gM_EachAddsALineModel_longest_202]
              simp (disch := omega) only [Option.bind_some, ↓reduceIte, ↓M_1, ↓M_2, L_0, L_1, L_2, L_3, L_4, L_5, L_6, L_7, L_8, L_9, L_10, L_11, L_12, L_13, L_20, L_24, L_26, L_30, L_31, L_32, L_39, L_40, L_48, L_57, L_76, L_80, L_90, L_91, L_97, L_99, L_100, L_255, L_273, L_1000, L_2000, q_ld, q_ldL, q_sto, q_stoL, q_add, q_sub, q_mul, q_dec, q_rem, q_div, q_lt_t, q_lt_f, q_le_t, q_le_f, q_eq_t, q_eq_f, q_em, q_me, q_ml, q_lm, q_mle, q_lem, q_s1, q_s1o, q_s1k, q_s12, q_s2, q_s2o, q_s2k, q_s21, Nat.add_sub_cancel, q_or, q_and, q_shl, true_or, or_true, false_or, or_false, true_and, and_true, false_and, and_false, not_true_eq_false, not_false_eq_true, ne_eq, st, e10, gM_EachAddsALineModel_longest_309, ed]
            · rw [show min (j + 1) 12 = min j 12 by omega]; exact g2
        · rintro f' y ⟨g1, g2⟩
          refine ⟨y, ?_, g2⟩
          try simp only
          rw [gM_EachAddsALineModel_longest_202]
          simp (disch := omega) only [Option.bind_some, ↓reduceIte, ↓M_1, ↓M_2, L_0, L_1, L_2, L_3, L_4, L_5, L_6, L_7, L_8, L_9, L_10, L_11, L_12, L_13, L_20, L_24, L_26, L_30, L_31, L_32, L_39, L_40, L_48, L_57, L_76, L_80, L_90, L_91, L_97, L_99, L_100, L_255, L_273, L_1000, L_2000, q_ld, q_ldL, q_sto, q_stoL, q_add, q_sub, q_mul, q_dec, q_rem, q_div, q_lt_t, q_lt_f, q_le_t, q_le_f, q_eq_t, q_eq_f, q_em, q_me, q_ml, q_lm, q_mle, q_lem, q_s1, q_s1o, q_s1k, q_s12, q_s2, q_s2o, q_s2k, q_s21, Nat.add_sub_cancel, q_or, q_and, q_shl, true_or, or_true, false_or, or_false, true_and, and_true, false_and, and_false, not_true_eq_false, not_false_eq_true, ne_eq, Nat.sub_self]
      obtain ⟨t', m1, m2⟩ := main
      refine ⟨nI n, t', ?_, Or.inr ⟨by omega, rfl, (x2.mono (by decide) (by decide) (by decide)).tr (m2.1.mono (by decide) (by decide) (by decide)), m2.2.1, m2.2.2⟩⟩
      rw [gM_EachAddsALineModel_longest_142]
      simp (disch := omega) only [Option.bind_some, ↓reduceIte, ↓M_1, ↓M_2, L_0, L_1, L_2, L_3, L_4, L_5, L_6, L_7, L_8, L_9, L_10, L_11, L_12, L_13, L_20, L_24, L_26, L_30, L_31, L_32, L_39, L_40, L_48, L_57, L_76, L_80, L_90, L_91, L_97, L_99, L_100, L_255, L_273, L_1000, L_2000, q_ld, q_ldL, q_sto, q_stoL, q_add, q_sub, q_mul, q_dec, q_rem, q_div, q_lt_t, q_lt_f, q_le_t, q_le_f, q_eq_t, q_eq_f, q_em, q_me, q_ml, q_lm, q_mle, q_lem, q_s1, q_s1o, q_s1k, q_s12, q_s2, q_s2o, q_s2k, q_s21, Nat.add_sub_cancel, q_or, q_and, q_shl, true_or, or_true, false_or, or_false, true_and, and_true, false_and, and_false, not_true_eq_false, not_false_eq_true, ne_eq, x3, m1]
theorem k_longest (hU : okU U) (hN : 200 ≤ N) : keeps3 N (RR U) fC_EachAddsALine_longest fM_EachAddsALineModel_longest := by
  refine keeps3_trip hU (fun w s a b c hw e => by simp (disch := omega) only [Option.bind_some, ↓reduceIte, ↓M_1, ↓M_2, L_0, L_1, L_2, L_3, L_4, L_5, L_6, L_7, L_8, L_9, L_10, L_11, L_12, L_13, L_20, L_24, L_26, L_30, L_31, L_32, L_39, L_40, L_48, L_57, L_76, L_80, L_90, L_91, L_97, L_99, L_100, L_255, L_273, L_1000, L_2000, q_ld, q_ldL, q_sto, q_stoL, q_add, q_sub, q_mul, q_dec, q_rem, q_div, q_lt_t, q_lt_f, q_le_t, q_le_f, q_eq_t, q_eq_f, q_em, q_me, q_ml, q_lm, q_mle, q_lem, q_s1, q_s1o, q_s1k, q_s12, q_s2, q_s2o, q_s2k, q_s21, Nat.add_sub_cancel, q_or, q_and, q_shl, true_or, or_true, false_or, or_false, true_and, and_true, false_and, and_false, not_true_eq_false, not_false_eq_true, ne_eq, fC_EachAddsALine_longest, gC_EachAddsALine_longest_0, e]) (fun w t a b c hw e => by simp (disch := omega) only [Option.bind_some, ↓reduceIte, ↓M_1, ↓M_2, L_0, L_1, L_2, L_3, L_4, L_5, L_6, L_7, L_8, L_9, L_10, L_11, L_12, L_13, L_20, L_24, L_26, L_30, L_31, L_32, L_39, L_40, L_48, L_57, L_76, L_80, L_90, L_91, L_97, L_99, L_100, L_255, L_273, L_1000, L_2000, q_ld, q_ldL, q_sto, q_stoL, q_add, q_sub, q_mul, q_dec, q_rem, q_div, q_lt_t, q_lt_f, q_le_t, q_le_f, q_eq_t, q_eq_f, q_em, q_me, q_ml, q_lm, q_mle, q_lem, q_s1, q_s1o, q_s1k, q_s12, q_s2, q_s2o, q_s2k, q_s21, Nat.add_sub_cancel, q_or, q_and, q_shl, true_or, or_true, false_or, or_false, true_and, and_true, false_and, and_false, not_true_eq_false, not_false_eq_true, ne_eq, fM_EachAddsALineModel_longest, gM_EachAddsALineModel_longest_0, e]) (fun s t w u v k hr h1 h2 hu hv hk ec em => ?_)
  have h2' := M_rd0 h2 (nI 0)
  obtain ⟨z, s', r, x1, x2, x3, x4⟩ := C_longest (N := N) h1 (by omega) hu hv (show k < 1000 by omega)
  obtain ⟨r', t', y1, y2⟩ := M_longest (N := N) h2' hN hu hv (show k < 1000 by omega)
  have e1 : fC_EachAddsALine_longest N (nI u) (nI v) (nI k) s = some (r, s') := by simp (disch := omega) only [Option.bind_some, ↓reduceIte, ↓M_1, ↓M_2, L_0, L_1, L_2, L_3, L_4, L_5, L_6, L_7, L_8, L_9, L_10, L_11, L_12, L_13, L_20, L_24, L_26, L_30, L_31, L_32, L_39, L_40, L_48, L_57, L_76, L_80, L_90, L_91, L_97, L_99, L_100, L_255, L_273, L_1000, L_2000, q_ld, q_ldL, q_sto, q_stoL, q_add, q_sub, q_mul, q_dec, q_rem, q_div, q_lt_t, q_lt_f, q_le_t, q_le_f, q_eq_t, q_eq_f, q_em, q_me, q_ml, q_lm, q_mle, q_lem, q_s1, q_s1o, q_s1k, q_s12, q_s2, q_s2o, q_s2k, q_s21, Nat.add_sub_cancel, q_or, q_and, q_shl, true_or, or_true, false_or, or_false, true_and, and_true, false_and, and_false, not_true_eq_false, not_false_eq_true, ne_eq, fC_EachAddsALine_longest, gC_EachAddsALine_longest_0, ec, x1, x2]
  have e2 : fM_EachAddsALineModel_longest N (nI u) (nI v) (nI k) t = some (r', t') := by
    rw [fM_EachAddsALineModel_longest, gM_EachAddsALineModel_longest_0, Option.bind_some, ← y1]
    simp (disch := omega) only [Option.bind_some, ↓reduceIte, ↓M_1, ↓M_2, L_0, L_1, L_2, L_3, L_4, L_5, L_6, L_7, L_8, L_9, L_10, L_11, L_12, L_13, L_20, L_24, L_26, L_30, L_31, L_32, L_39, L_40, L_48, L_57, L_76, L_80, L_90, L_91, L_97, L_99, L_100, L_255, L_273, L_1000, L_2000, q_ld, q_ldL, q_sto, q_stoL, q_add, q_mul, q_dec, q_rem, q_div, q_lt_t, q_lt_f, q_le_t, q_le_f, q_eq_t, q_eq_f, q_em, q_me, q_ml, q_lm, q_mle, q_lem, q_s1, q_s1o, q_s1k, q_s12, q_s2, q_s2o, q_s2k, q_s21, Nat.add_sub_cancel, q_or, q_and, q_shl, true_or, or_true, false_or, or_false, true_and, and_true, false_and, and_false, not_true_eq_false, not_false_eq_true, ne_eq, em]
  rcases x4 with ⟨c1, c2, c3⟩ | ⟨c1, c2, c3⟩
  · rcases y2 with ⟨d1, d2, d3⟩ | ⟨d1, d2, d3⟩
    · subst c2 d2 c3
      exact ⟨_, _, _, e1, e2, hr.fr hU x3 ((Fm.w10 (by decide)).tr (d3.mono (by decide) (by decide) (by decide)) : Fm [11, 13] [] [11, 30] t t') (by decide) (by decide) (by decide)⟩
    · omega
  · rcases y2 with ⟨d1, d2, d3⟩ | ⟨d1, d2, d3, d4, d5⟩
    · omega
    · subst c2 d2
      have hro : RO s' t' := RO.of c3 (t := t') ⟨Fm.rf, d4, d5⟩
      exact ⟨_, _, _, e1, e2, hr.ro hU hro ((x3.mono (by decide) (by decide)).tr (c3.1.mono (by decide) (by decide)) : Fr [3, 4, 41, 43] [] s s') ((Fm.w10 (by decide)).tr (d3.mono (by decide) (by decide) (by decide)) : Fm [7, 11, 13] [] [10, 11, 30] t t') (by decide) (by decide) (by decide)⟩
end KL
