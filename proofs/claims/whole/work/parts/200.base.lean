/-! numbers, rows, loops -/
theorem b31 {n k : Nat} (h : n < k) (hk : k ≤ 2 ^ 31 := by decide) : n < 2 ^ 31 := Nat.lt_of_lt_of_le h hk
theorem ld_n {s : vSt} {o n i : Nat} (h : i < n) (hn : n < 2 ^ 31 := by decide) : ld s o n (nI i) = some (s.1 o i) := by
  unfold ld
  rw [if_neg (nI_in h hn), nI_clamp (Nat.lt_trans h hn)]
theorem ldL_n {s : vSt} {o n i : Nat} (h : i < n) (hn : n < 2 ^ 31 := by decide) : ldL s o n (nI i) = some (s.2 o i) := by
  unfold ldL
  rw [if_neg (nI_in h hn), nI_clamp (Nat.lt_trans h hn)]
theorem sto_n {s : vSt} {o n i : Nat} {x : Int32} (h : i < n) (hn : n < 2 ^ 31 := by decide) : sto s o n (nI i) x = some (s1 s o i x) := by
  unfold sto
  rw [if_neg (nI_in h hn), nI_clamp (Nat.lt_trans h hn)]
theorem stoL_n {s : vSt} {o n i : Nat} {x : Int64} (h : i < n) (hn : n < 2 ^ 31 := by decide) : stoL s o n (nI i) x = some (s2 s o i x) := by
  unfold stoL
  rw [if_neg (nI_in h hn), nI_clamp (Nat.lt_trans h hn)]
theorem n_le {a b : Nat} (ha : a < 2 ^ 31 := by omega) (hb : b < 2 ^ 31 := by omega) : (nI a ≤ nI b) = (a ≤ b) := propext (nI_leI ha hb)
theorem n_lt {a b : Nat} (ha : a < 2 ^ 31 := by omega) (hb : b < 2 ^ 31 := by omega) : (nI a < nI b) = (a < b) := propext (nI_ltI ha hb)
theorem n_eq {a b : Nat} (ha : a < 2 ^ 31 := by omega) (hb : b < 2 ^ 31 := by omega) : (nI a = nI b) = (a = b) := propext (nI_eq ha hb)
theorem n_m1 {a : Nat} (ha : a < 2 ^ 31 := by omega) : (nI a = -1) = False := by
  refine propext ⟨fun h => ?_, False.elim⟩
  have h1 : (nI a).toInt = -1 := by rw [h]; decide
  rw [nI_toInt ha] at h1
  omega
theorem n_neg {a : Nat} (ha : a < 2 ^ 31 := by omega) : (nI a < 0) = False := propext ⟨fun h => absurd h (nI_pos ha), False.elim⟩
theorem li0 : (0 : Int32) = nI 0 := rfl
theorem li1 : (1 : Int32) = nI 1 := rfl
theorem li2 : (2 : Int32) = nI 2 := rfl
theorem n_ge0 {a : Nat} (ha : a < 2 ^ 31 := by omega) : (0 ≤ nI a) = True := propext ⟨fun _ => trivial, fun _ => nI_pos' ha⟩
/-- the rows of cells behind a write -/
theorem s1_1 (s : vSt) (o k : Nat) (x : Int32) (o' : Nat) : (s1 s o k x).1 o' = if o' = o then upd (s.1 o) k x else s.1 o' := rfl
theorem s1_eq (s : vSt) (o k : Nat) (x : Int32) (j : Nat) : (s1 s o k x).1 o j = if j = k then x else s.1 o j := by simp only [s1, if_pos, upd]
theorem s1_ne {s : vSt} {o k : Nat} {x : Int32} {o' : Nat} (h : o' ≠ o) : (s1 s o k x).1 o' = s.1 o' := by simp only [s1, if_neg h]
theorem s1_2 (s : vSt) (o k : Nat) (x : Int32) : (s1 s o k x).2 = s.2 := rfl
theorem s2_eq (s : vSt) (o k : Nat) (x : Int64) (j : Nat) : (s2 s o k x).2 o j = if j = k then x else s.2 o j := by simp only [s2, if_pos, vp_updL]
theorem s2_ne {s : vSt} {o k : Nat} {x : Int64} {o' : Nat} (h : o' ≠ o) : (s2 s o k x).2 o' = s.2 o' := by simp only [s2, if_neg h]
theorem s2_1 (s : vSt) (o k : Nat) (x : Int64) : (s2 s o k x).1 = s.1 := rfl
/-- only these rows change -/
def Fr (L K : List Nat) (s t : vSt) : Prop := (∀ o, o ∉ L → t.1 o = s.1 o) ∧ ∀ o, o ∉ K → t.2 o = s.2 o
theorem Fr.rf {L K : List Nat} {s : vSt} : Fr L K s s := ⟨fun _ _ => rfl, fun _ _ => rfl⟩
theorem Fr.tr {L K : List Nat} {s t u : vSt} (h : Fr L K s t) (g : Fr L K t u) : Fr L K s u := ⟨fun o ho => (g.1 o ho).trans (h.1 o ho), fun o ho => (g.2 o ho).trans (h.2 o ho)⟩
theorem Fr.mono {L K L' K' : List Nat} {s t : vSt} (h : Fr L K s t) (hL : ∀ o, o ∈ L → o ∈ L') (hK : ∀ o, o ∈ K → o ∈ K') : Fr L' K' s t := ⟨fun o ho => h.1 o (fun z => ho (hL o z)), fun o ho => h.2 o (fun z => ho (hK o z))⟩
theorem Fr.s1 {L K : List Nat} {s : vSt} {o k : Nat} {x : Int32} (h : o ∈ L) : Fr L K s (s1 s o k x) := ⟨fun o' ho => s1_ne (fun z => ho (z ▸ h)), fun _ _ => rfl⟩
theorem Fr.s2 {L K : List Nat} {s : vSt} {o k : Nat} {x : Int64} (h : o ∈ K) : Fr L K s (s2 s o k x) := ⟨fun _ _ => rfl, fun o' ho => s2_ne (fun z => ho (z ▸ h))⟩
/-- loops: up, with an end in the midst, and down -/
theorem loopU {α β : Type} (G : Nat → Nat → α → β) (M : Nat) (Inv : Nat → α → Prop) (Post : β → Prop)
    (hs : ∀ n i a, i < M → Inv i a → (∃ a', G (n + 1) i a = G n (i + 1) a' ∧ Inv (i + 1) a') ∨ Post (G (n + 1) i a))
    (he : ∀ n a, Inv M a → Post (G (n + 1) M a)) : ∀ k n i a, i + k = M → k < n → Inv i a → Post (G n i a) := by
  intro k
  induction k with
  | zero =>
    intro n i a hi hn h
    obtain ⟨n, rfl⟩ : ∃ m, n = m + 1 := ⟨n - 1, by omega⟩
    obtain rfl : i = M := by omega
    exact he n a h
  | succ k ih =>
    intro n i a hi hn h
    obtain ⟨n, rfl⟩ : ∃ m, n = m + 1 := ⟨n - 1, by omega⟩
    rcases hs n i a (by omega) h with ⟨a', h1, h2⟩ | h1
    · rw [h1]
      exact ih n (i + 1) a' (by omega) (by omega) h2
    · exact h1
theorem loopD {α β : Type} (G : Nat → Nat → α → β) (M : Nat) (Inv : Nat → α → Prop) (Post : β → Prop)
    (hs : ∀ n i a, i < M → Inv (i + 1) a → (∃ a', G (n + 1) (i + 1) a = G n i a' ∧ Inv i a') ∨ Post (G (n + 1) (i + 1) a))
    (he : ∀ n a, Inv 0 a → Post (G (n + 1) 0 a)) : ∀ k n a, k ≤ M → k < n → Inv k a → Post (G n k a) := by
  intro k
  induction k with
  | zero =>
    intro n a _ hn h
    obtain ⟨n, rfl⟩ : ∃ m, n = m + 1 := ⟨n - 1, by omega⟩
    exact he n a h
  | succ k ih =>
    intro n a hk hn h
    obtain ⟨n, rfl⟩ : ∃ m, n = m + 1 := ⟨n - 1, by omega⟩
    rcases hs n k a (by omega) h with ⟨a', h1, h2⟩ | h1
    · rw [h1]
      exact ih n a' (by omega) (by omega) h2
    · exact h1
/-- k steps of f from i on -/
def lp {α : Type} (f : Nat → α → α) : Nat → Nat → α → α
  | 0, _, a => a
  | k + 1, i, a => lp f k (i + 1) (f i a)

theorem ie {α : Type} {a b : Nat} {x y : α} (ha : a < 2 ^ 31 := by omega) (hb : b < 2 ^ 31 := by omega) : (if nI a = nI b then x else y) = if a = b then x else y := by
  by_cases c : a = b
  · rw [if_pos c, if_pos (by rw [c])]
  · rw [if_neg c, if_neg (fun z => c ((nI_eq ha hb).mp z))]
theorem il {α : Type} {a b : Nat} {x y : α} (ha : a < 2 ^ 31 := by omega) (hb : b < 2 ^ 31 := by omega) : (if nI a ≤ nI b then x else y) = if a ≤ b then x else y := by
  by_cases c : a ≤ b
  · rw [if_pos c, if_pos ((nI_leI ha hb).mpr c)]
  · rw [if_neg c, if_neg (fun z => c ((nI_leI ha hb).mp z))]
theorem it {α : Type} {a b : Nat} {x y : α} (ha : a < 2 ^ 31 := by omega) (hb : b < 2 ^ 31 := by omega) : (if nI a < nI b then x else y) = if a < b then x else y := by
  by_cases c : a < b
  · rw [if_pos c, if_pos ((nI_ltI ha hb).mpr c)]
  · rw [if_neg c, if_neg (fun z => c ((nI_ltI ha hb).mp z))]
theorem im {α : Type} {a : Nat} {x y : α} (ha : a < 2 ^ 31 := by omega) : (if nI a = -1 then x else y) = y := if_neg (fun z => by
  have h1 : (nI a).toInt = -1 := by rw [z]; decide
  rw [nI_toInt ha] at h1
  omega)
