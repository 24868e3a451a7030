/-! sums, and in how many ways: forward and backward -/
theorem sm_swap (f : Nat → Nat → Nat) (m : Nat) : ∀ n, fb_sm (fun i => fb_sm (fun j => f i j) m) n = fb_sm (fun j => fb_sm (fun i => f i j) n) m
  | 0 => by
    show 0 = fb_sm (fun j => 0) m
    rw [fb_sm_const, Nat.mul_zero]
  | n + 1 => by
    rw [fb_sm_succ, sm_swap f m n, ← fb_sm_add]
    rfl
theorem sm_mul (c : Nat) (f : Nat → Nat) : ∀ n, fb_sm (fun k => c * f k) n = c * fb_sm f n
  | 0 => rfl
  | n + 1 => by rw [fb_sm_succ, fb_sm_succ, sm_mul c f n, Nat.mul_add]
theorem sm_one {c : Nat} : ∀ {n s : Nat}, s < n → fb_sm (fun k => if k = s then c else 0) n = c
  | 0, s, h => absurd h (Nat.not_lt_zero s)
  | n + 1, s, h => by
    rw [fb_sm_succ]
    by_cases d : n = s
    · subst d
      rw [if_pos rfl, fb_sm_cong (g := fun _ => 0) (fun k hk => if_neg (by omega)), fb_sm_const, Nat.mul_zero, Nat.zero_add]
    · rw [if_neg d, sm_one (by omega), Nat.add_zero]
/-- in another order -/
theorem sm_perm {key e : Nat → Nat} {n : Nat} (h : srt key e n) (f : Nat → Nat) : fb_sm (fun k => f (e k)) n = fb_sm f n := by
  have h1 : fb_sm (fun k => f (e k)) n = fb_sm (fun k => fb_sm (fun s => if s = e k then f s else 0) n) n := fb_sm_cong (fun k hk => by
    rw [fb_sm_cong (g := fun s => if s = e k then f (e k) else 0) (fun s hs => by
      by_cases c : s = e k
      · rw [if_pos c, if_pos c, c]
      · rw [if_neg c, if_neg c]), sm_one (h.1 k hk)])
  rw [h1, sm_swap]
  refine fb_sm_cong (fun s hs => ?_)
  obtain ⟨j, j1, j2⟩ := srt_onto h hs
  rw [fb_sm_cong (g := fun k => if k = j then f s else 0) (fun k hk => by
    by_cases c : k = j
    · rw [if_pos c, c, if_pos j2.symm]
    · rw [if_neg c, if_neg (fun z => c (srt_inj h hk j1 (by rw [j2, z])))]), sm_one j1]
theorem sm_term {f g : Nat → Nat} : ∀ {n : Nat}, (∀ k, k < n → f k ≤ g k) → fb_sm f n = fb_sm g n → ∀ k, k < n → f k = g k
  | 0, _, _, k, hk => absurd hk (Nat.not_lt_zero k)
  | n + 1, h, e, k, hk => by
    have h1 := fb_sm_le (f := f) (g := g) (n := n) (fun k hk => h k (by omega))
    have h2 := h n (by omega)
    rw [fb_sm_succ, fb_sm_succ] at e
    by_cases c : k = n
    · subst c; omega
    · exact sm_term (f := f) (g := g) (n := n) (fun k hk => h k (by omega)) (by omega) k (by omega)
theorem sm_pos {f : Nat → Nat} {n : Nat} : 0 < fb_sm f n ↔ ∃ k, k < n ∧ 0 < f k := by
  constructor
  · intro h
    refine Classical.byContradiction (fun z => ?_)
    rw [fb_sm_cong (g := fun _ => 0) (fun k hk => Nat.eq_zero_of_not_pos (fun y => z ⟨k, hk, y⟩)), fb_sm_const, Nat.mul_zero] at h
    exact absurd h (Nat.lt_irrefl _)
  · rintro ⟨k, hk, h⟩
    have := fb_sm_part f hk
    omega
abbrev fre (w : Nat → Nat → Nat) (go no s : Nat) : Prop := ¬ s / 2 = go ∧ ¬ gt w s = no
/-- in how many ways it can come to a step -/
def FP (w : Nat → Nat → Nat) (u k go no : Nat) (P : Nat → Nat) (s : Nat) : Nat := if fre w go no s then (if beg w u k s then 1 else 0) + fb_sm (fun o => if fol w s o then P o else 0) (2 * w 5 1) else 0
def TP (w : Nat → Nat → Nat) (u k go no : Nat) : Nat → Nat := itr (FP w u k go no) 0 100
/-- and from it on -/
def FN (w : Nat → Nat → Nat) (v go no : Nat) (P : Nat → Nat) (s : Nat) : Nat := if fre w go no s then (if gt w s = v then 1 else 0) + fb_sm (fun o => if fol w o s then P o else 0) (2 * w 5 1) else 0
def TN (w : Nat → Nat → Nat) (v go no : Nat) : Nat → Nat := itr (FN w v go no) 0 100
def cw (w : Nat → Nat → Nat) (u v k go no : Nat) : Nat := fb_sm (fun s => if gt w s = v then TP w u k go no s else 0) (2 * w 5 1)
section CN
variable {w : Nat → Nat → Nat} {u v k go no : Nat}
theorem TP_rec (h : okW w) {s : Nat} (hs : s < 2 * w 5 1) : TP w u k go no s = FP w u k go no (TP w u k go no) s := by
  refine itr_up (n := 2 * w 5 1) (key := hr w) (fun s hs => hr_le h hs) _ _ (fun T T' s hs hT => ?_) s hs
  unfold FP
  split
  · congr 1
    refine fb_sm_cong (fun o ho => ?_)
    by_cases c : fol w s o
    · rw [if_pos c, if_pos c, hT o ho (fol_lt h ho c)]
    · rw [if_neg c, if_neg c]
  · rfl
theorem TN_rec (h : okW w) {s : Nat} (hs : s < 2 * w 5 1) : TN w v go no s = FN w v go no (TN w v go no) s := by
  refine itr_rec (n := 2 * w 5 1) (key := hr w) (fun s hs => hr_le h hs) _ _ (fun T T' s hs hT => ?_) s hs
  unfold FN
  split
  · congr 1
    refine fb_sm_cong (fun o ho => ?_)
    by_cases c : fol w o s
    · rw [if_pos c, if_pos c, hT o ho (fol_lt h hs c)]
    · rw [if_neg c, if_neg c]
  · rfl
/-- forward and backward are as many -/
theorem cw_back (h : okW w) : cw w u v k go no = fb_sm (fun s => if beg w u k s then TN w v go no s else 0) (2 * w 5 1) := by
  have hP : ∀ s, s < 2 * w 5 1 → TN w v go no s * TP w u k go no s = (if beg w u k s then TN w v go no s else 0) + fb_sm (fun o => TN w v go no s * (if fol w s o then TP w u k go no o else 0)) (2 * w 5 1) := fun s hs => by
    rw [sm_mul, TP_rec h hs]
    unfold FP
    by_cases c : fre w go no s
    · rw [if_pos c, Nat.mul_add]
      congr 1
      by_cases d : beg w u k s
      · rw [if_pos d, if_pos d, Nat.mul_one]
      · rw [if_neg d, if_neg d, Nat.mul_zero]
    · have e : TN w v go no s = 0 := (TN_rec h hs).trans (if_neg c)
      rw [if_neg c, e, Nat.mul_zero, Nat.zero_mul, ite_self]
  have hN : ∀ s, s < 2 * w 5 1 → TN w v go no s * TP w u k go no s = (if gt w s = v then TP w u k go no s else 0) + fb_sm (fun o => TP w u k go no s * (if fol w o s then TN w v go no o else 0)) (2 * w 5 1) := fun s hs => by
    rw [sm_mul, TN_rec h hs, Nat.mul_comm]
    unfold FN
    by_cases c : fre w go no s
    · rw [if_pos c, Nat.mul_add]
      congr 1
      by_cases d : gt w s = v
      · rw [if_pos d, if_pos d, Nat.mul_one]
      · rw [if_neg d, if_neg d, Nat.mul_zero]
    · have e : TP w u k go no s = 0 := (TP_rec h hs).trans (if_neg c)
      rw [if_neg c, e, Nat.mul_zero, Nat.zero_mul, ite_self]
  have e1 := fb_sm_cong hP
  have e2 := fb_sm_cong hN
  rw [fb_sm_add] at e1 e2
  have e3 : fb_sm (fun s => fb_sm (fun o => TN w v go no s * (if fol w s o then TP w u k go no o else 0)) (2 * w 5 1)) (2 * w 5 1) = fb_sm (fun s => fb_sm (fun o => TP w u k go no s * (if fol w o s then TN w v go no o else 0)) (2 * w 5 1)) (2 * w 5 1) := by
    rw [sm_swap]
    refine fb_sm_cong (fun s hs => fb_sm_cong (fun o ho => ?_))
    by_cases c : fol w o s
    · rw [if_pos c, if_pos c, Nat.mul_comm]
    · rw [if_neg c, if_neg c, Nat.mul_zero, Nat.mul_zero]
  unfold cw
  omega
/-- there are no more than .. -/
theorem cw_lt (h : okW w) {e : Nat → Nat} (he : srt (hr w) e (2 * w 5 1)) : cw w u v k go no < 2 ^ 41 := by
  have hM := h.2.1
  have hp : ∀ j, j < 2 * w 5 1 → TP w u k go no (e j) ≤ 1 + fb_sm (fun i => TP w u k go no (e i)) j := fun j hj => by
    rw [TP_rec h (he.1 j hj)]
    unfold FP
    split
    · have h1 : fb_sm (fun o => if fol w (e j) o then TP w u k go no o else 0) (2 * w 5 1) ≤ fb_sm (fun i => TP w u k go no (e i)) j := by
        rw [← sm_perm he]
        have h2 : ∀ i, i < 2 * w 5 1 → (if fol w (e j) (e i) then TP w u k go no (e i) else 0) ≤ (if i < j then TP w u k go no (e i) else 0) := fun i hi => by
          by_cases c : fol w (e j) (e i)
          · rw [if_pos c, if_pos (srt_pos he hj hi (fol_lt h (he.1 i hi) c))]
            exact Nat.le_refl _
          · rw [if_neg c]
            exact Nat.zero_le _
        refine Nat.le_trans (fb_sm_le h2) ?_
        have h3 : 2 * w 5 1 = j + (2 * w 5 1 - j) := by omega
        rw [h3, fb_sm_split, fb_sm_cong (f := fun i => if j + i < j then TP w u k go no (e (j + i)) else 0) (g := fun _ => 0) (fun i hi => if_neg (by omega)), fb_sm_const, Nat.mul_zero, Nat.add_zero]
        exact Nat.le_of_eq (fb_sm_cong (fun i hi => if_pos hi))
      have h2 : (if beg w u k (e j) then 1 else 0) ≤ 1 := by split <;> omega
      omega
    · exact Nat.zero_le _
  have hs : ∀ j, j ≤ 2 * w 5 1 → fb_sm (fun i => TP w u k go no (e i)) j + 1 ≤ 2 ^ j := by
    intro j
    induction j with
    | zero => intro _; exact Nat.le_refl _
    | succ j ih =>
      intro hj
      have := ih (by omega)
      have := hp j (by omega)
      rw [fb_sm_succ, Nat.pow_succ]
      omega
  have h1 : cw w u v k go no ≤ fb_sm (TP w u k go no) (2 * w 5 1) := fb_sm_le (fun s hs => by split <;> omega)
  rw [← sm_perm he] at h1
  have h2 := hs (2 * w 5 1) (Nat.le_refl _)
  have h3 : 2 ^ (2 * w 5 1) ≤ 2 ^ 40 := Nat.pow_le_pow_right (by decide) (by omega)
  omega
/-- where it can go on from, there are ways -/
theorem TN_pos (h : okW w) : ∀ s, s < 2 * w 5 1 → (0 < TN w v go 100 s ↔ (TB w v 0 1000000 0 go s).1 < 1000000) := by
  have w00 : ∀ s, wo w 0 s = 0 := fun s => (if_neg (by decide)).trans (if_neg (by decide))
  refine downI (fun s hs => hr_le h hs) _ (fun s hs ih => ?_)
  have hg := gt_lt h hs
  have h9 := h.1
  rw [TN_rec h hs]
  unfold FN
  by_cases c : fre w go 100 s
  · rw [if_pos c]
    constructor
    · intro z
      by_cases d : gt w s = v
      · have := TB_e (v := v) (what := 0) (bb := 1000000) (br := 0) (go := go) h hs d (by have := hr_le h hs; omega) c.1
        have h99 := hr_le h hs
        rw [if_pos rfl] at this
        unfold lessP at this
        simp only at this
        omega
      · rw [if_neg d, Nat.zero_add] at z
        obtain ⟨o, o1, o2⟩ := sm_pos.mp z
        by_cases f : fol w o s
        · rw [if_pos f] at o2
          have h1 := (ih o o1 (fol_lt h hs f)).mp o2
          have := TB_o (v := v) (what := 0) (bb := 1000000) (br := 0) (go := go) h hs o1 f (Nat.zero_testBit _) c.1 h1
          unfold prP at this
          rw [w00] at this
          unfold lessP at this
          simp only at this
          omega
        · rw [if_neg f] at o2
          exact absurd o2 (Nat.lt_irrefl _)
    · intro z
      rcases TB_att (v := v) (what := 0) (bb := 1000000) (br := 0) (go := go) h hs with y | ⟨z1, z2, z3, z4⟩ | ⟨o, z1, z2, z3, z4, z5, z6⟩
      · rw [y] at z
        simp only at z
        omega
      · rw [if_pos z1]
        omega
      · have h1 := (ih o z1 (fol_lt h hs z2)).mpr z3
        have : 0 < fb_sm (fun o => if fol w o s then TN w v go 100 o else 0) (2 * w 5 1) := sm_pos.mpr ⟨o, z1, by rw [if_pos z2]; exact h1⟩
        omega
  · rw [if_neg c]
    refine ⟨fun z => absurd z (Nat.lt_irrefl _), fun z => ?_⟩
    have hgo : s / 2 = go := Classical.byContradiction (fun y => c ⟨y, by omega⟩)
    rcases TB_att (v := v) (what := 0) (bb := 1000000) (br := 0) (go := go) h hs with y | ⟨z1, z2, z3, z4⟩ | ⟨o, z1, z2, z3, z4, z5, z6⟩
    · rw [y] at z
      simp only at z
      omega
    · exact absurd hgo z3
    · exact absurd hgo z5
theorem cw_arr (h : okW w) : (cw w u v k go 100 = 0) ↔ arr w 0 go u k v = 1000000 := by
  have hb := arr_bd (br := 0) (go := go) (u := u) (k := k) (v := v) h
  have hm := arr_min (br := 0) (go := go) (u := u) (k := k) (v := v) h (e := 99) (by decide)
  have hp : 0 < cw w u v k go 100 ↔ arr w 0 go u k v ≤ 99 := by
    rw [cw_back h, sm_pos, hm]
    constructor
    · rintro ⟨s, s1, s2⟩
      by_cases c : beg w u k s
      · rw [if_pos c] at s2
        have h1 := (TN_pos h s s1).mp s2
        exact ⟨s, s1, c, TB99 h s s1 h1⟩
      · rw [if_neg c] at s2
        exact absurd s2 (Nat.lt_irrefl _)
    · rintro ⟨s, s1, s2, s3⟩
      exact ⟨s, s1, by rw [if_pos s2]; exact (TN_pos h s s1).mpr (by omega)⟩
  omega
/-- who is on no way -/
theorem cw_idle (h : okW w) {i : Nat} : cw w u v k 100 i = cw w u v k 100 100 ↔ ¬ ∃ s, s < 2 * w 5 1 ∧ gt w s = i ∧ 0 < TP w u k 100 100 s ∧ 0 < TN w v 100 100 s := by
  have h5 := h.2.1
  have h6 := h.1
  have fr0 : ∀ s, s < 2 * w 5 1 → fre w 100 100 s := fun s hs => ⟨by omega, by have := gt_lt h hs; omega⟩
  have hle : ∀ s, s < 2 * w 5 1 → TP w u k 100 i s ≤ TP w u k 100 100 s := by
    refine upI (key := hr w) _ (fun s hs ih => ?_)
    rw [TP_rec h hs, TP_rec (no := 100) h hs]
    unfold FP
    rw [if_pos (fr0 s hs)]
    split
    · refine Nat.add_le_add_left (fb_sm_le (fun o ho => ?_)) _
      by_cases c : fol w s o
      · rw [if_pos c, if_pos c]
        exact ih o ho (fol_lt h ho c)
      · rw [if_neg c, if_neg c]
        exact Nat.le_refl _
    · exact Nat.zero_le _
  have nxt : ∀ s o, s < 2 * w 5 1 → o < 2 * w 5 1 → fol w o s → 0 < TN w v 100 100 o → 0 < TN w v 100 100 s := fun s o hs ho hf hp => by
    rw [TN_rec h hs]
    unfold FN
    rw [if_pos (fr0 s hs)]
    have : 0 < fb_sm (fun o => if fol w o s then TN w v 100 100 o else 0) (2 * w 5 1) := sm_pos.mpr ⟨o, ho, by rw [if_pos hf]; exact hp⟩
    omega
  constructor
  · intro e
    have h0 := sm_term (fun s hs => by
      by_cases c : gt w s = v
      · rw [if_pos c, if_pos c]; exact hle s hs
      · rw [if_neg c, if_neg c]; exact Nat.le_refl _) e
    have cl : ∀ s, s < 2 * w 5 1 → 0 < TN w v 100 100 s → TP w u k 100 i s = TP w u k 100 100 s := by
      refine downI (fun s hs => hr_le h hs) _ (fun s hs ih hp => ?_)
      rw [TN_rec h hs] at hp
      unfold FN at hp
      rw [if_pos (fr0 s hs)] at hp
      by_cases c : gt w s = v
      · have := h0 s hs
        rw [if_pos c, if_pos c] at this
        exact this
      · rw [if_neg c, Nat.zero_add] at hp
        obtain ⟨o, o1, o2⟩ := sm_pos.mp hp
        by_cases f : fol w o s
        · rw [if_pos f] at o2
          have he := ih o o1 (fol_lt h hs f) o2
          rw [TP_rec h o1, TP_rec (no := 100) h o1] at he
          unfold FP at he
          rw [if_pos (fr0 o o1)] at he
          by_cases g : fre w 100 i o
          · rw [if_pos g] at he
            have h1 := sm_term (fun s hs => by
              by_cases c : fol w o s
              · rw [if_pos c, if_pos c]; exact hle s hs
              · rw [if_neg c, if_neg c]; exact Nat.le_refl _) (Nat.add_left_cancel he) s hs
            rw [if_pos f, if_pos f] at h1
            exact h1
          · rw [if_neg g] at he
            have hz : fb_sm (fun o' => if fol w o o' then TP w u k 100 100 o' else 0) (2 * w 5 1) = 0 := by omega
            have h1 := fb_sm_zero hz s hs
            rw [if_pos f] at h1
            have := hle s hs
            omega
        · rw [if_neg f] at o2
          exact absurd o2 (Nat.lt_irrefl _)
    rintro ⟨s, s1, s2, s3, s4⟩
    have h1 := cl s s1 s4
    have h2 : TP w u k 100 i s = 0 := (TP_rec h s1).trans (if_neg (fun z => z.2 s2))
    omega
  · intro hno
    have cl : ∀ s, s < 2 * w 5 1 → 0 < TN w v 100 100 s → TP w u k 100 i s = TP w u k 100 100 s := by
      refine upI (key := hr w) _ (fun s hs ih hp => ?_)
      by_cases c : gt w s = i
      · have h2 : TP w u k 100 i s = 0 := (TP_rec h hs).trans (if_neg (fun z => z.2 c))
        have h3 : ¬ 0 < TP w u k 100 100 s := fun z => hno ⟨s, hs, c, z, hp⟩
        omega
      · rw [TP_rec h hs, TP_rec (no := 100) h hs]
        unfold FP
        rw [if_pos (fr0 s hs), if_pos ⟨(fr0 s hs).1, c⟩]
        congr 1
        refine fb_sm_cong (fun o ho => ?_)
        by_cases f : fol w s o
        · rw [if_pos f, if_pos f]
          exact ih o ho (fol_lt h ho f) (nxt o s ho hs f hp)
        · rw [if_neg f, if_neg f]
    unfold cw
    refine fb_sm_cong (fun s hs => ?_)
    by_cases c : gt w s = v
    · rw [if_pos c, if_pos c]
      refine cl s hs ?_
      rw [TN_rec h hs]
      unfold FN
      rw [if_pos (fr0 s hs), if_pos c]
      omega
    · rw [if_neg c, if_neg c]
end CN
