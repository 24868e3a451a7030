/-! folds, the first of some, tables that are given by what follows -/
theorem loopS {α β : Type} (G : Nat → Nat → α → β) (st : Nat → α) (M : Nat) (r : β) (hs : ∀ f i, i < M → G (f + 1) i (st i) = G f (i + 1) (st (i + 1))) (he : ∀ f, G (f + 1) M (st M) = r) (N : Nat) (hN : M < N) : G N 0 (st 0) = r :=
  loopU G M (fun i a => i ≤ M ∧ a = st i) (fun o => o = r) (fun f i a hi h => Or.inl ⟨st (i + 1), by rw [h.2]; exact hs f i hi, by omega, rfl⟩) (fun f a h => by rw [h.2]; exact he f) M N 0 (st 0) (by omega) hN ⟨by omega, rfl⟩
theorem loopDS {α β : Type} (G : Nat → Nat → α → β) (st : Nat → α) (M : Nat) (r : β) (hs : ∀ f i, i < M → G (f + 1) (i + 1) (st (i + 1)) = G f i (st i)) (he : ∀ f, G (f + 1) 0 (st 0) = r) (N : Nat) (hN : M < N) : G N M (st M) = r :=
  loopD G M (fun i a => a = st i) (fun o => o = r) (fun f i a hi h => Or.inl ⟨st i, by rw [h]; exact hs f i hi, rfl⟩) (fun f a h => by rw [h]; exact he f) M N (st M) (Nat.le_refl _) hN rfl
/-- f at 0, 1, .. -/
def fz {α : Type} (f : Nat → α → α) (z : α) : Nat → α
  | 0 => z
  | k + 1 => f k (fz f z k)
theorem fz_cong {α : Type} {z : α} {f g : Nat → α → α} : ∀ {n : Nat}, (∀ k x, k < n → f k x = g k x) → fz f z n = fz g z n
  | 0, _ => rfl
  | n + 1, h => by rw [fz, fz, fz_cong (fun k x hk => h k x (by omega)), h n _ (by omega)]
theorem fz_ind {α : Type} {z : α} {f : Nat → α → α} (Q : Nat → α → Prop) {n : Nat} (h0 : Q 0 z) (hs : ∀ k a, k < n → Q k a → Q (k + 1) (f k a)) : ∀ k, k ≤ n → Q k (fz f z k)
  | 0, _ => h0
  | k + 1, h => hs k _ (by omega) (fz_ind Q h0 hs k (by omega))
/-- two steps of the one are a step of the other -/
theorem fz_two {α : Type} {z : α} {f g : Nat → α → α} : ∀ {n : Nat}, (∀ m x, m < n → f (2 * m + 1) (f (2 * m) x) = g m x) → fz f z (2 * n) = fz g z n
  | 0, _ => rfl
  | n + 1, h => by
    rw [show 2 * (n + 1) = 2 * n + 1 + 1 from by omega, fz, fz, fz, fz_two (fun m x hm => h m x (by omega)), h n _ (by omega)]
/-- the first of some below n, else n -/
def fst1 (p : Nat → Bool) : Nat → Nat
  | 0 => 0
  | n + 1 => if fst1 p n < n then fst1 p n else if p n = true then n else n + 1
theorem fst1_le (p : Nat → Bool) : ∀ n, fst1 p n ≤ n
  | 0 => Nat.le_refl _
  | n + 1 => by
    have := fst1_le p n
    rw [fst1]
    split
    · omega
    · split <;> omega
theorem fst1_lt {p : Nat → Bool} : ∀ {n : Nat}, fst1 p n < n → p (fst1 p n) = true
  | 0, h => absurd h (Nat.not_lt_zero _)
  | n + 1, h => by
    rw [fst1] at h ⊢
    split
    · exact fst1_lt (by assumption)
    · rename_i c
      rw [if_neg c] at h
      split
      · assumption
      · rename_i d
        rw [if_neg d] at h
        exact absurd h (Nat.lt_irrefl _)
theorem fst1_not {p : Nat → Bool} : ∀ {n : Nat} {j : Nat}, j < fst1 p n → p j = false
  | 0, _, h => absurd h (Nat.not_lt_zero _)
  | n + 1, j, h => by
    rw [fst1] at h
    split at h
    · exact fst1_not h
    · rename_i c
      have e : fst1 p n = n := by have := fst1_le p n; omega
      split at h
      · exact fst1_not (n := n) (by omega)
      · rename_i d
        rcases Nat.lt_or_ge j n with z | z
        · exact fst1_not (n := n) (by omega)
        · rw [show j = n by omega]; exact eq_false_of_ne_true d
theorem fst1_of {p : Nat → Bool} {n j : Nat} (hj : j < n) (h1 : p j = true) (h2 : ∀ i, i < j → p i = false) : fst1 p n = j := by
  rcases Nat.lt_trichotomy (fst1 p n) j with c | c | c
  · have := fst1_lt (p := p) (n := n) (by omega)
    rw [h2 _ c] at this
    cases this
  · exact c
  · rw [fst1_not c] at h1
    cases h1
theorem fst1_ex {p : Nat → Bool} {n j : Nat} (hj : j < n) (h1 : p j = true) : fst1 p n < n := by
  rcases Nat.lt_or_ge (fst1 p n) n with c | c
  · exact c
  · rw [fst1_not (p := p) (n := n) (j := j) (by omega)] at h1
    cases h1
theorem fst1_cong {p q : Nat → Bool} : ∀ {n : Nat}, (∀ k, k < n → p k = q k) → fst1 p n = fst1 q n
  | 0, _ => rfl
  | n + 1, h => by rw [fst1, fst1, fst1_cong (fun k hk => h k (by omega)), h n (by omega)]
/-- by what comes later, by what came ahead -/
theorem downI {n : Nat} {key : Nat → Nat} (hk : ∀ s, s < n → key s ≤ 99) (Q : Nat → Prop) (h : ∀ s, s < n → (∀ o, o < n → key s < key o → Q o) → Q s) : ∀ s, s < n → Q s := by
  have : ∀ k s, s < n → 99 - key s ≤ k → Q s := by
    intro k
    induction k with
    | zero => exact fun s hs h1 => h s hs (fun o ho h2 => by have := hk o ho; omega)
    | succ k ih => exact fun s hs h1 => h s hs (fun o ho h2 => ih o ho (by have := hk o ho; omega))
  exact fun s hs => this _ s hs (Nat.le_refl _)
theorem upI {n : Nat} {key : Nat → Nat} (Q : Nat → Prop) (h : ∀ s, s < n → (∀ o, o < n → key o < key s → Q o) → Q s) : ∀ s, s < n → Q s := by
  have : ∀ k s, s < n → key s ≤ k → Q s := by
    intro k
    induction k with
    | zero => exact fun s hs h1 => h s hs (fun o ho h2 => by omega)
    | succ k ih => exact fun s hs h1 => h s hs (fun o ho h2 => ih o ho (by omega))
  exact fun s hs => this _ s hs (Nat.le_refl _)
def itr {α : Type} (F : (Nat → α) → Nat → α) (d : α) : Nat → Nat → α
  | 0 => fun _ => d
  | k + 1 => F (itr F d k)
theorem itr_rec {α : Type} {n : Nat} {key : Nat → Nat} (hk : ∀ s, s < n → key s ≤ 99) (F : (Nat → α) → Nat → α) (d : α) (hF : ∀ T T' s, s < n → (∀ o, o < n → key s < key o → T o = T' o) → F T s = F T' s) : ∀ s, s < n → itr F d 100 s = F (itr F d 100) s := by
  have h : ∀ k j s, s < n → 100 ≤ key s + k → k ≤ j → itr F d j s = itr F d k s := by
    intro k
    induction k with
    | zero => exact fun j s hs h1 => by have := hk s hs; omega
    | succ k ih =>
      intro j s hs h1 h2
      obtain ⟨j, rfl⟩ : ∃ i, j = i + 1 := ⟨j - 1, by omega⟩
      exact hF _ _ s hs (fun o ho h3 => ih j o ho (by omega) (by omega))
  exact fun s hs => (h 100 101 s hs (by omega) (by omega)).symm
/-- the same, forward -/
theorem itr_up {α : Type} {n : Nat} {key : Nat → Nat} (hk : ∀ s, s < n → key s ≤ 99) (F : (Nat → α) → Nat → α) (d : α) (hF : ∀ T T' s, s < n → (∀ o, o < n → key o < key s → T o = T' o) → F T s = F T' s) : ∀ s, s < n → itr F d 100 s = F (itr F d 100) s :=
  itr_rec (key := fun s => 99 - key s) (fun s hs => by omega) F d (fun T T' s hs h => hF T T' s hs (fun o ho h1 => h o ho (by have := hk s hs; omega)))
/-- in the order by key: what has a greater key stands behind -/
theorem srt_pos {key e : Nat → Nat} {n j k : Nat} (h : srt key e n) (hj : j < n) (hk : k < n) (c : key (e k) < key (e j)) : k < j := by
  rcases Nat.lt_trichotomy k j with d | d | d
  · exact d
  · subst d; exact absurd c (Nat.lt_irrefl _)
  · have := h.2 j k d hk
    omega
theorem srt_inj {key e : Nat → Nat} {n j k : Nat} (h : srt key e n) (hj : j < n) (hk : k < n) (c : e j = e k) : j = k := by
  rcases Nat.lt_trichotomy k j with d | d | d
  · have := h.2 k j d hj; rw [c] at this; omega
  · exact d.symm
  · have := h.2 j k d hk; rw [c] at this; omega
