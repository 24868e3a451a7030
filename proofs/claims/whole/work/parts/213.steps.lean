/-! steps: meeting s / 2, who gives, who gets -/
def gv (w : Nat → Nat → Nat) (s : Nat) : Nat := if s % 2 = 0 then w 1 (s / 2) else w 2 (s / 2)
def gt (w : Nat → Nat → Nat) (s : Nat) : Nat := if s % 2 = 0 then w 2 (s / 2) else w 1 (s / 2)
def hr (w : Nat → Nat → Nat) (s : Nat) : Nat := w 3 (s / 2)
def rd (w : Nat → Nat → Nat) (s : Nat) : Nat := hr w s + w 0 (gt w s)
abbrev fol (w : Nat → Nat → Nat) (o s : Nat) : Prop := gv w o = gt w s ∧ rd w s ≤ hr w o
abbrev beg (w : Nat → Nat → Nat) (u k s : Nat) : Prop := gv w s = u ∧ k ≤ hr w s
def sw (s : Nat) : Nat := if s % 2 = 0 then s + 1 else s - 1
def ix (w : Nat → Nat → Nat) (m u : Nat) : Nat := if w 1 m = u then 2 * m else 2 * m + 1
section ST
variable {w : Nat → Nat → Nat}
theorem st_half {s M : Nat} (h : s < 2 * M) : s / 2 < M := by omega
theorem gv_0 (w : Nat → Nat → Nat) (m : Nat) : gv w (2 * m) = w 1 m := by
  unfold gv
  rw [if_pos (by omega), show 2 * m / 2 = m by omega]
theorem gv_1 (w : Nat → Nat → Nat) (m : Nat) : gv w (2 * m + 1) = w 2 m := by
  unfold gv
  rw [if_neg (by omega), show (2 * m + 1) / 2 = m by omega]
theorem gt_0 (w : Nat → Nat → Nat) (m : Nat) : gt w (2 * m) = w 2 m := by
  unfold gt
  rw [if_pos (by omega), show 2 * m / 2 = m by omega]
theorem gt_1 (w : Nat → Nat → Nat) (m : Nat) : gt w (2 * m + 1) = w 1 m := by
  unfold gt
  rw [if_neg (by omega), show (2 * m + 1) / 2 = m by omega]
theorem hr_0 (w : Nat → Nat → Nat) (m : Nat) : hr w (2 * m) = w 3 m := by
  unfold hr
  rw [show 2 * m / 2 = m by omega]
theorem hr_1 (w : Nat → Nat → Nat) (m : Nat) : hr w (2 * m + 1) = w 3 m := by
  unfold hr
  rw [show (2 * m + 1) / 2 = m by omega]
theorem sw_0 (m : Nat) : sw (2 * m) = 2 * m + 1 := if_pos (by omega)
theorem sw_1 (m : Nat) : sw (2 * m + 1) = 2 * m := (if_neg (by omega)).trans (by omega)
theorem sw_half (s : Nat) : sw s / 2 = s / 2 := by unfold sw; split <;> omega
theorem sw_sw (s : Nat) : sw (sw s) = s := by
  rcases Nat.mod_two_eq_zero_or_one s with c | c
  · obtain ⟨m, rfl⟩ : ∃ m, s = 2 * m := ⟨s / 2, by omega⟩
    rw [sw_0, sw_1]
  · obtain ⟨m, rfl⟩ : ∃ m, s = 2 * m + 1 := ⟨s / 2, by omega⟩
    rw [sw_1, sw_0]
theorem sw_lt {s M : Nat} (h : s < 2 * M) : sw s < 2 * M := by unfold sw; split <;> omega
theorem sw_ne {s o : Nat} (h : s ≠ o) : sw s ≠ sw o := fun c => h (by rw [← sw_sw s, c, sw_sw])
theorem gv_sw (w : Nat → Nat → Nat) (s : Nat) : gv w (sw s) = gt w s := by
  rcases Nat.mod_two_eq_zero_or_one s with c | c
  · obtain ⟨m, rfl⟩ : ∃ m, s = 2 * m := ⟨s / 2, by omega⟩
    rw [sw_0, gv_1, gt_0]
  · obtain ⟨m, rfl⟩ : ∃ m, s = 2 * m + 1 := ⟨s / 2, by omega⟩
    rw [sw_1, gv_0, gt_1]
theorem gt_sw (w : Nat → Nat → Nat) (s : Nat) : gt w (sw s) = gv w s := by rw [← gv_sw, sw_sw]
theorem hr_sw (w : Nat → Nat → Nat) (s : Nat) : hr w (sw s) = hr w s := by unfold hr; rw [sw_half]
theorem ix_half (w : Nat → Nat → Nat) (m u : Nat) : ix w m u / 2 = m := by unfold ix; split <;> omega
theorem ix_lt {m M : Nat} (u : Nat) (h : m < M) : ix w m u < 2 * M := by unfold ix; split <;> omega
theorem ix_gv {m u : Nat} (h : hop w m u) : gv w (ix w m u) = u := by
  unfold ix
  split
  · rw [gv_0]; assumption
  · rw [gv_1]; rcases h with h | h
    · exact absurd h (by assumption)
    · exact h
theorem ix_gt {m u : Nat} : gt w (ix w m u) = oth w m u := by
  unfold ix oth
  split
  · rw [gt_0]
  · rw [gt_1]
theorem ix_hr (m u : Nat) : hr w (ix w m u) = w 3 m := by unfold hr; rw [ix_half]
theorem ix_eq (h : okW w) {s : Nat} (hs : s < 2 * w 5 1) : ix w (s / 2) (gv w s) = s := by
  have hq := (h.2.2.2 (s / 2) (by omega)).2.2.1
  rcases Nat.mod_two_eq_zero_or_one s with c | c
  · obtain ⟨m, rfl⟩ : ∃ m, s = 2 * m := ⟨s / 2, by omega⟩
    rw [gv_0, show 2 * m / 2 = m by omega]
    exact if_pos rfl
  · obtain ⟨m, rfl⟩ : ∃ m, s = 2 * m + 1 := ⟨s / 2, by omega⟩
    rw [gv_1, show (2 * m + 1) / 2 = m by omega]
    rw [show (2 * m + 1) / 2 = m by omega] at hq
    exact if_neg hq
theorem gv_hop (s : Nat) : hop w (s / 2) (gv w s) := by
  unfold gv hop
  split
  · exact Or.inl rfl
  · exact Or.inr rfl
theorem gv_lt (h : okW w) {s : Nat} (hs : s < 2 * w 5 1) : gv w s < w 5 0 := by
  have := h.2.2.2 (s / 2) (by omega)
  unfold gv
  split <;> omega
theorem gt_lt (h : okW w) {s : Nat} (hs : s < 2 * w 5 1) : gt w s < w 5 0 := by
  have := h.2.2.2 (s / 2) (by omega)
  unfold gt
  split <;> omega
theorem gv_ne (h : okW w) {s : Nat} (hs : s < 2 * w 5 1) : gv w s ≠ gt w s := by
  have := h.2.2.2 (s / 2) (by omega)
  unfold gv gt
  split <;> omega
theorem hr_le (h : okW w) {s : Nat} (hs : s < 2 * w 5 1) : hr w s ≤ 99 := (h.2.2.2 (s / 2) (by omega)).2.2.2.1
theorem rd_gt (h : okW w) {s : Nat} (hs : s < 2 * w 5 1) : hr w s < rd w s := by
  have := h.2.2.1 _ (gt_lt h hs)
  unfold rd
  omega
theorem rd_le (h : okW w) {s : Nat} (hs : s < 2 * w 5 1) : rd w s ≤ 108 := by
  have := h.2.2.1 _ (gt_lt h hs)
  have := hr_le h hs
  unfold rd
  omega
theorem fol_lt (h : okW w) {o s : Nat} (hs : s < 2 * w 5 1) (hf : fol w o s) : hr w s < hr w o := Nat.lt_of_lt_of_le (rd_gt h hs) hf.2
theorem oth_ix (h : okW w) {s : Nat} (hs : s < 2 * w 5 1) : oth w (s / 2) (gv w s) = gt w s := by rw [← ix_gt, ix_eq h hs]
/-- the steps of one giver, meeting by meeting -/
theorem fz_hop {α : Type} {f : Nat → α → α} {z : α} (h : okW w) (u : Nat) (hf : ∀ s x, s < 2 * w 5 1 → gv w s ≠ u → f s x = x) {k : Nat} (hk : k ≤ w 5 1) :
    fz f z (2 * k) = fz (fun m x => if w 1 m = u ∨ w 2 m = u then f (ix w m u) x else x) z k := by
  refine fz_two (fun m x hm => ?_)
  have hq := (h.2.2.2 m (by omega)).2.2.1
  by_cases c1 : w 1 m = u
  · rw [if_pos (Or.inl c1), show ix w m u = 2 * m from if_pos c1, hf (2 * m + 1) _ (by omega) (by rw [gv_1]; exact fun z => hq (by rw [c1, z]))]
  · rw [hf (2 * m) _ (by omega) (by rw [gv_0]; exact c1)]
    by_cases c2 : w 2 m = u
    · rw [if_pos (Or.inr c2), show ix w m u = 2 * m + 1 from if_neg c1]
    · rw [hf (2 * m + 1) _ (by omega) (by rw [gv_1]; exact c2), if_neg (by rintro (z | z); exact c1 z; exact c2 z)]
end ST
