/-! people and meetings: w 0: READS; w 1, w 2: the two of a meeting; w 3: HOUR; w 4: PRICE; w 5 0, w 5 1: how many; w 6: the meetings by HOUR, then number -/
def okW (w : Nat → Nat → Nat) : Prop := w 5 0 ≤ 9 ∧ w 5 1 ≤ 20 ∧ (∀ k, k < w 5 0 → 1 ≤ w 0 k ∧ w 0 k ≤ 9) ∧ ∀ m, m < w 5 1 → w 1 m < w 5 0 ∧ w 2 m < w 5 0 ∧ w 1 m ≠ w 2 m ∧ w 3 m ≤ 99 ∧ w 4 m ≤ 9
def okO (w : Nat → Nat → Nat) : Prop := (∀ k, k < w 5 1 → w 6 k < w 5 1) ∧ (∀ i j, i < j → j < w 5 1 → w 3 (w 6 i) < w 3 (w 6 j) ∨ (w 3 (w 6 i) = w 3 (w 6 j) ∧ w 6 i < w 6 j)) ∧ ∀ m, m < w 5 1 → ∃ k, k < w 5 1 ∧ w 6 k = m
def CW (w : Nat → Nat → Nat) (s : vSt) : Prop := okW w ∧ okO w ∧ s.1 9 6 = nI (w 5 0) ∧ s.1 9 7 = nI (w 5 1) ∧ (∀ k, k < w 5 0 → s.1 10 k = nI (w 0 k)) ∧ (∀ m, m < w 5 1 → s.1 11 m = nI (w 1 m) ∧ s.1 12 m = nI (w 2 m) ∧ s.1 13 m = nI (w 3 m) ∧ s.1 14 m = nI (w 4 m)) ∧ ∀ k, k < w 5 1 → s.1 15 k = nI (w 6 k)
def MW (w : Nat → Nat → Nat) (s : vSt) : Prop := okW w ∧ s.1 0 0 = nI (w 5 0) ∧ s.1 0 2 = nI (w 5 1) ∧ (∀ k, k < w 5 0 → s.1 1 k = nI (w 0 k)) ∧ ∀ m, m < w 5 1 → s.1 2 m = nI (w 1 m) ∧ s.1 3 m = nI (w 2 m) ∧ s.1 4 m = nI (w 3 m) ∧ s.1 5 m = nI (w 4 m)
def isP (n : Nat) (a : Int32) : Prop := ∃ k, k < n ∧ a = nI k
theorem isP_lt {n : Nat} {a : Int32} (hn : n < 2 ^ 31) (h : ¬ isP n a) : a < 0 ∨ nI n ≤ a := by
  rcases pk_ix a hn with h1 | h1 | h1
  · exact Or.inl h1
  · exact Or.inr h1
  · exact absurd h1 h
/-- who gives, who gets: the other one at a meeting -/
def oth (w : Nat → Nat → Nat) (m u : Nat) : Nat := if w 1 m = u then w 2 m else w 1 m
def hop (w : Nat → Nat → Nat) (m u : Nat) : Prop := w 1 m = u ∨ w 2 m = u
section RD
variable {N : Nat} {w : Nat → Nat → Nat} {s t : vSt}
theorem CW.ok (h : CW w s) : okW w := h.1
theorem CW.or (h : CW w s) : okO w := h.2.1
theorem CW.p (h : CW w s) : s.1 9 6 = nI (w 5 0) := h.2.2.1
theorem CW.m (h : CW w s) : s.1 9 7 = nI (w 5 1) := h.2.2.2.1
theorem CW.rd (h : CW w s) {k : Nat} (hk : k < w 5 0) : s.1 10 k = nI (w 0 k) := h.2.2.2.2.1 k hk
theorem CW.a (h : CW w s) {m : Nat} (hm : m < w 5 1) : s.1 11 m = nI (w 1 m) := (h.2.2.2.2.2.1 m hm).1
theorem CW.b (h : CW w s) {m : Nat} (hm : m < w 5 1) : s.1 12 m = nI (w 2 m) := (h.2.2.2.2.2.1 m hm).2.1
theorem CW.h (h : CW w s) {m : Nat} (hm : m < w 5 1) : s.1 13 m = nI (w 3 m) := (h.2.2.2.2.2.1 m hm).2.2.1
theorem CW.c (h : CW w s) {m : Nat} (hm : m < w 5 1) : s.1 14 m = nI (w 4 m) := (h.2.2.2.2.2.1 m hm).2.2.2
theorem CW.o (h : CW w s) {k : Nat} (hk : k < w 5 1) : s.1 15 k = nI (w 6 k) := h.2.2.2.2.2.2 k hk
theorem CW.fr (h : CW w s) {L K : List Nat} (f : Fr L K s t) (hL : 9 ∉ L ∧ 10 ∉ L ∧ 11 ∉ L ∧ 12 ∉ L ∧ 13 ∉ L ∧ 14 ∉ L ∧ 15 ∉ L) : CW w t := by
  obtain ⟨h1, h2, h3, h4, h5, h6, h7⟩ := hL
  unfold CW at h ⊢
  rw [f.1 9 h1, f.1 10 h2, f.1 11 h3, f.1 12 h4, f.1 13 h5, f.1 14 h6, f.1 15 h7]
  exact h
theorem MW.ok (h : MW w s) : okW w := h.1
theorem MW.p (h : MW w s) : s.1 0 0 = nI (w 5 0) := h.2.1
theorem MW.m (h : MW w s) : s.1 0 2 = nI (w 5 1) := h.2.2.1
theorem MW.rd (h : MW w s) {k : Nat} (hk : k < w 5 0) : s.1 1 k = nI (w 0 k) := h.2.2.2.1 k hk
theorem MW.a (h : MW w s) {m : Nat} (hm : m < w 5 1) : s.1 2 m = nI (w 1 m) := (h.2.2.2.2 m hm).1
theorem MW.b (h : MW w s) {m : Nat} (hm : m < w 5 1) : s.1 3 m = nI (w 2 m) := (h.2.2.2.2 m hm).2.1
theorem MW.h (h : MW w s) {m : Nat} (hm : m < w 5 1) : s.1 4 m = nI (w 3 m) := (h.2.2.2.2 m hm).2.2.1
theorem MW.c (h : MW w s) {m : Nat} (hm : m < w 5 1) : s.1 5 m = nI (w 4 m) := (h.2.2.2.2 m hm).2.2.2
theorem MW.fr (h : MW w s) {L K : List Nat} (f : Fr L K s t) (h0 : t.1 0 0 = s.1 0 0 ∧ t.1 0 2 = s.1 0 2) (hL : 1 ∉ L ∧ 2 ∉ L ∧ 3 ∉ L ∧ 4 ∉ L ∧ 5 ∉ L) : MW w t := by
  obtain ⟨h1, h2, h3, h4, h5⟩ := hL
  unfold MW at h ⊢
  rw [f.1 1 h1, f.1 2 h2, f.1 3 h3, f.1 4 h4, f.1 5 h5, h0.1, h0.2]
  exact h
theorem C_hasPerson_t (h : CW w s) {u : Nat} (hu : u < w 5 0) : fC_Roads_hasPerson N (nI u) s = some (1, s) := by
  have h9 := h.ok.1
  simp only [fC_Roads_hasPerson, gC_Roads_hasPerson_0, h.p]
  rw [if_neg (nI_pos (by omega)), if_neg (nI_ge hu (by omega))]
theorem C_hasPerson_f (h : CW w s) {a : Int32} (ha : ¬ isP (w 5 0) a) : fC_Roads_hasPerson N a s = some (0, s) := by
  have h9 := h.ok.1
  simp only [fC_Roads_hasPerson, gC_Roads_hasPerson_0, h.p, gC_Roads_hasPerson_16]
  rcases isP_lt (by omega) ha with h1 | h1
  · rw [if_pos h1]
  · rw [if_pos h1, ite_self]
theorem C_hasMeeting_t (h : CW w s) {u : Nat} (hu : u < w 5 1) : fC_Roads_hasMeeting N (nI u) s = some (1, s) := by
  have h9 := h.ok.2.1
  simp only [fC_Roads_hasMeeting, gC_Roads_hasMeeting_0, h.m]
  rw [if_neg (nI_pos (by omega)), if_neg (nI_ge hu (by omega))]
theorem C_hasMeeting_f (h : CW w s) {a : Int32} (ha : ¬ isP (w 5 1) a) : fC_Roads_hasMeeting N a s = some (0, s) := by
  have h9 := h.ok.2.1
  simp only [fC_Roads_hasMeeting, gC_Roads_hasMeeting_0, h.m, gC_Roads_hasMeeting_16]
  rcases isP_lt (by omega) ha with h1 | h1
  · rw [if_pos h1]
  · rw [if_pos h1, ite_self]
theorem C_isAt (h : CW w s) {m u : Nat} (hm : m < w 5 1) (hu : u < w 5 0) : fC_Roads_isAt N (nI u) (nI m) s = some (if w 1 m = u ∨ w 2 m = u then 1 else 0, s) := by
  have h9 := h.ok
  have hq := h9.2.2.2 m hm
  have := h9.1; have := h9.2.1
  simp only [fC_Roads_isAt, gC_Roads_isAt_0, gC_Roads_isAt_20]
  rw [ld_n (by omega), ld_n (by omega)]
  simp only [Option.bind_some, h.a hm, h.b hm]
  rw [ie, ie]
  by_cases c1 : w 1 m = u
  · rw [if_pos c1, if_pos (Or.inl c1)]
  · rw [if_neg c1]
    by_cases c2 : w 2 m = u
    · rw [if_pos c2, if_pos (Or.inr c2)]
    · rw [if_neg c2, if_neg (by rintro (z | z); exact c1 z; exact c2 z)]
theorem C_otherAt (h : CW w s) {m u : Nat} (hm : m < w 5 1) (hu : u < w 5 0) : fC_Roads_otherAt N (nI m) (nI u) s = some (nI (oth w m u), s) := by
  have h9 := h.ok
  have hq := h9.2.2.2 m hm
  have := h9.1; have := h9.2.1
  simp only [fC_Roads_otherAt, gC_Roads_otherAt_0]
  rw [ld_n (by omega), ld_n (by omega)]
  simp only [Option.bind_some, h.a hm, h.b hm]
  rw [ie]
  unfold oth
  by_cases c1 : w 1 m = u
  · rw [if_pos c1, if_pos c1]
  · rw [if_neg c1, if_neg c1]
theorem oth_lt (h : okW w) {m u : Nat} (hm : m < w 5 1) : oth w m u < w 5 0 := by
  have hq := h.2.2.2 m hm
  unfold oth
  split <;> omega
end RD
