/-! what class and reference keep, side by side -/
def RO (s t : vSt) : Prop := ∃ n, n ≤ 12 ∧ s.1 3 1 = nI n ∧ t.1 0 10 = nI n ∧ ∀ k, k < n → s.1 4 k = t.1 7 k
def TLr (c cr f mo : Nat) (s t : vSt) : Prop := ∃ n, n ≤ 12 ∧ s.1 c 1 = nI n ∧ t.1 0 f = nI n ∧ ∀ k, k < n → ∃ x, x ≤ 9 ∧ s.1 cr k = nI x ∧ t.1 16 (mo + k) = nI x
def LTd (p c m off l n : Nat) (wh si li : Nat → Nat) (s t : vSt) : Prop := n ≤ 30 ∧ s.1 (c + 1) l = nI n ∧ t.1 m (off + 91 * l) = nI n ∧ ∀ k, k < n → wh k < p ∧ si k ≤ 99 ∧ li k ≤ 9 ∧ s.1 (c + 2) (30 * l + k) = nI (wh k) ∧ s.1 (c + 3) (30 * l + k) = nI (si k) ∧ s.1 (c + 4) (30 * l + k) = nI (li k) ∧ t.1 m (off + 91 * l + 1 + 3 * k) = nI (li k) ∧ t.1 m (off + 91 * l + 2 + 3 * k) = nI (wh k) ∧ t.1 m (off + 91 * l + 3 + 3 * k) = nI (si k)
def LTx (p c m off : Nat) (s t : vSt) : Prop := ∀ l, l < 3 → ∃ n wh si li, LTd p c m off l n wh si li s t
def KP (p : Nat) (s t : vSt) : Prop := LTx p 26 9 0 s t ∧ ∀ i, i < 2 → (s.1 25 i = nI 0 ∧ t.1 23 i = nI 0) ∨ (s.1 25 i = nI 1 ∧ t.1 23 i = nI 1 ∧ LTx p (31 + 5 * i) 22 (273 * i) s t)
def MC (t : vSt) : Prop := t.1 0 34 = nI 1000000 ∧ t.1 0 35 = mI 1 ∧ t.1 0 37 = mI 1 ∧ t.1 0 44 = mI 1
def RR (U : vSt → vSt → Prop) (s t : vSt) : Prop := ∃ w, CW w s ∧ MW w t ∧ TX s t ∧ RO s t ∧ TLr 5 6 40 0 s t ∧ TLr 7 8 41 12 s t ∧ KP (w 5 0) s t ∧ U s t ∧ MC t
/-- the rule's part hangs on these cells alone -/
def okU (U : vSt → vSt → Prop) : Prop := ∀ s s' t t', U s t → s'.1 17 1 = s.1 17 1 → s'.1 18 = s.1 18 → t'.1 0 18 = t.1 0 18 → t'.1 8 = t.1 8 → U s' t'
section RF
variable {L K L' K' F : List Nat} {s s' t t' : vSt}
theorem TX.fr (h : TX s t) (f : Fr L K s s') (g : Fm L' K' F t t') (hL : 1 ∉ L ∧ 2 ∉ L) (hM : 6 ∉ L' ∧ 8 ∉ F) : TX s' t' := by
  unfold TX at h ⊢
  rw [f.1 1 hL.1, f.1 2 hL.2, g.1 6 (by decide) hM.1, g.2.2 8 hM.2]
  exact h
theorem RO.fr (h : RO s t) (f : Fr L K s s') (g : Fm L' K' F t t') (hL : 3 ∉ L ∧ 4 ∉ L) (hM : 7 ∉ L' ∧ 10 ∉ F) : RO s' t' := by
  unfold RO at h ⊢
  rw [f.1 3 hL.1, f.1 4 hL.2, g.1 7 (by decide) hM.1, g.2.2 10 hM.2]
  exact h
theorem TLr.fr {c cr fi mo : Nat} (h : TLr c cr fi mo s t) (f : Fr L K s s') (g : Fm L' K' F t t') (hL : c ∉ L ∧ cr ∉ L) (hM : 16 ∉ L' ∧ fi ∉ F) : TLr c cr fi mo s' t' := by
  unfold TLr at h ⊢
  rw [f.1 c hL.1, f.1 cr hL.2, g.1 16 (by decide) hM.1, g.2.2 fi hM.2]
  exact h
theorem LTx.fr {p c m off : Nat} (h : LTx p c m off s t) (f : Fr L K s s') (g : Fm L' K' F t t') (hL : c + 1 ∉ L ∧ c + 2 ∉ L ∧ c + 3 ∉ L ∧ c + 4 ∉ L) (hM : m ≠ 0 ∧ m ∉ L') : LTx p c m off s' t' := by
  unfold LTx LTd at h ⊢
  rw [f.1 _ hL.1, f.1 _ hL.2.1, f.1 _ hL.2.2.1, f.1 _ hL.2.2.2, g.1 m hM.1 hM.2]
  exact h
theorem LTx.mono {p q c m off : Nat} (h : LTx p c m off s t) (hp : p ≤ q) : LTx q c m off s t := fun l hl => by
  obtain ⟨n, wh, si, li, h1, h2, h3, h4⟩ := h l hl
  exact ⟨n, wh, si, li, h1, h2, h3, fun k hk => ⟨Nat.lt_of_lt_of_le (h4 k hk).1 hp, (h4 k hk).2⟩⟩
theorem KP.mono {p q : Nat} (h : KP p s t) (hp : p ≤ q) : KP q s t := ⟨h.1.mono hp, fun i hi => (h.2 i hi).imp id (fun z => ⟨z.1, z.2.1, z.2.2.mono hp⟩)⟩
theorem KP.fr {p : Nat} (h : KP p s t) (f : Fr L K s s') (g : Fm L' K' F t t') (hL : ∀ o, o ∈ L → ¬ (25 ≤ o ∧ o ≤ 40)) (hM : 9 ∉ L' ∧ 22 ∉ L' ∧ 23 ∉ L') : KP p s' t' := by
  refine ⟨h.1.fr f g ⟨fun z => hL _ z (by decide), fun z => hL _ z (by decide), fun z => hL _ z (by decide), fun z => hL _ z (by decide)⟩ ⟨by decide, hM.1⟩, fun i hi => ?_⟩
  rw [f.1 25 (fun z => hL _ z (by decide)), g.1 23 (by decide) hM.2.2]
  exact (h.2 i hi).imp id (fun z => ⟨z.1, z.2.1, z.2.2.fr f g ⟨fun z => hL _ z (by omega), fun z => hL _ z (by omega), fun z => hL _ z (by omega), fun z => hL _ z (by omega)⟩ ⟨by decide, hM.2.1⟩⟩)
theorem MC.fr (h : MC t) (g : Fm L' K' F t t') (hM : 34 ∉ F ∧ 35 ∉ F ∧ 37 ∉ F ∧ 44 ∉ F) : MC t' := by
  unfold MC at h ⊢
  rw [g.2.2 34 hM.1, g.2.2 35 hM.2.1, g.2.2 37 hM.2.2.1, g.2.2 44 hM.2.2.2]
  exact h
theorem okU.fr {U : vSt → vSt → Prop} (hU : okU U) (h : U s t) (f : Fr L K s s') (g : Fm L' K' F t t') (hL : 17 ∉ L ∧ 18 ∉ L) (hM : 8 ∉ L' ∧ 18 ∉ F) : U s' t' := hU _ _ _ _ h (by rw [f.1 17 hL.1]) (f.1 18 hL.2) (g.2.2 18 hM.2) (g.1 8 (by decide) hM.1)
/-- nothing that counts has changed -/
theorem RR.fr {U : vSt → vSt → Prop} (hU : okU U) (h : RR U s t) (f : Fr L K s s') (g : Fm L' K' F t t') (hL : ∀ o, o ∈ L → o = 16 ∨ (19 ≤ o ∧ o ≤ 24) ∨ 41 ≤ o)
    (hM : ∀ o, o ∈ L' → (10 ≤ o ∧ o ≤ 15) ∨ (17 ≤ o ∧ o ≤ 21)) (hF : ∀ o, o ∈ F → (11 ≤ o ∧ o ≤ 17) ∨ (19 ≤ o ∧ o ≤ 33) ∨ (45 ≤ o)) : RR U s' t' := by
  obtain ⟨w, h1, h2, h3, h4, h5, h6, h7, h8, h9⟩ := h
  have a : ∀ o, (o < 16 ∨ (16 < o ∧ o < 19) ∨ (24 < o ∧ o < 41)) → o ∉ L := fun o ho z => by have := hL o z; omega
  have b : ∀ o, (o < 10 ∨ o = 16 ∨ 21 < o) → o ∉ L' := fun o ho z => by have := hM o z; omega
  have c : ∀ o, (o < 11 ∨ o = 18 ∨ (33 < o ∧ o < 45)) → o ∉ F := fun o ho z => by have := hF o z; omega
  exact ⟨w, h1.fr f ⟨a _ (by decide), a _ (by decide), a _ (by decide), a _ (by decide), a _ (by decide), a _ (by decide), a _ (by decide)⟩,
    h2.fm g ⟨c _ (by decide), c _ (by decide)⟩ ⟨b _ (by decide), b _ (by decide), b _ (by decide), b _ (by decide), b _ (by decide)⟩,
    h3.fr f g ⟨a _ (by decide), a _ (by decide)⟩ ⟨b _ (by decide), c _ (by decide)⟩, h4.fr f g ⟨a _ (by decide), a _ (by decide)⟩ ⟨b _ (by decide), c _ (by decide)⟩,
    h5.fr f g ⟨a _ (by decide), a _ (by decide)⟩ ⟨b _ (by decide), c _ (by decide)⟩, h6.fr f g ⟨a _ (by decide), a _ (by decide)⟩ ⟨b _ (by decide), c _ (by decide)⟩,
    h7.fr f g (fun o ho z => a o (by omega) ho) ⟨b _ (by decide), b _ (by decide), b _ (by decide)⟩, hU.fr h8 f g ⟨a _ (by decide), a _ (by decide)⟩ ⟨b _ (by decide), c _ (by decide)⟩,
    h9.fr g ⟨c _ (by decide), c _ (by decide), c _ (by decide), c _ (by decide)⟩⟩
/-- nothing but the text -/
theorem RR.tx {U : vSt → vSt → Prop} (hU : okU U) (h : RR U s t) (h3 : TX s' t') (f : Fr L K s s') (g : Fm L' K' F t t') (hL : ∀ o, o ∈ L → o = 1 ∨ o = 2 ∨ o = 16 ∨ (19 ≤ o ∧ o ≤ 24) ∨ 41 ≤ o)
    (hM : ∀ o, o ∈ L' → o = 6 ∨ (10 ≤ o ∧ o ≤ 15) ∨ (17 ≤ o ∧ o ≤ 21)) (hF : ∀ o, o ∈ F → o = 8 ∨ (11 ≤ o ∧ o ≤ 17) ∨ (19 ≤ o ∧ o ≤ 33) ∨ (45 ≤ o)) : RR U s' t' := by
  obtain ⟨w, h1, h2, _, h4, h5, h6, h7, h8, h9⟩ := h
  have a : ∀ o, ((2 < o ∧ o < 16) ∨ (16 < o ∧ o < 19) ∨ (24 < o ∧ o < 41)) → o ∉ L := fun o ho z => by have := hL o z; omega
  have b : ∀ o, (o < 6 ∨ (6 < o ∧ o < 10) ∨ o = 16 ∨ 21 < o) → o ∉ L' := fun o ho z => by have := hM o z; omega
  have c : ∀ o, (o < 8 ∨ (8 < o ∧ o < 11) ∨ o = 18 ∨ (33 < o ∧ o < 45)) → o ∉ F := fun o ho z => by have := hF o z; omega
  exact ⟨w, h1.fr f ⟨a _ (by decide), a _ (by decide), a _ (by decide), a _ (by decide), a _ (by decide), a _ (by decide), a _ (by decide)⟩,
    h2.fm g ⟨c _ (by decide), c _ (by decide)⟩ ⟨b _ (by decide), b _ (by decide), b _ (by decide), b _ (by decide), b _ (by decide)⟩, h3,
    h4.fr f g ⟨a _ (by decide), a _ (by decide)⟩ ⟨b _ (by decide), c _ (by decide)⟩,
    h5.fr f g ⟨a _ (by decide), a _ (by decide)⟩ ⟨b _ (by decide), c _ (by decide)⟩, h6.fr f g ⟨a _ (by decide), a _ (by decide)⟩ ⟨b _ (by decide), c _ (by decide)⟩,
    h7.fr f g (fun o ho z => a o (by omega) ho) ⟨b _ (by decide), b _ (by decide), b _ (by decide)⟩, hU.fr h8 f g ⟨a _ (by decide), a _ (by decide)⟩ ⟨b _ (by decide), c _ (by decide)⟩,
    h9.fr g ⟨c _ (by decide), c _ (by decide), c _ (by decide), c _ (by decide)⟩⟩
/-- nothing but the row -/
theorem RR.ro {U : vSt → vSt → Prop} (hU : okU U) (h : RR U s t) (h4 : RO s' t') (f : Fr L K s s') (g : Fm L' K' F t t') (hL : ∀ o, o ∈ L → o = 3 ∨ o = 4 ∨ o = 16 ∨ (19 ≤ o ∧ o ≤ 24) ∨ 41 ≤ o)
    (hM : ∀ o, o ∈ L' → o = 7 ∨ (10 ≤ o ∧ o ≤ 15) ∨ (17 ≤ o ∧ o ≤ 21)) (hF : ∀ o, o ∈ F → (10 ≤ o ∧ o ≤ 17) ∨ (19 ≤ o ∧ o ≤ 33) ∨ (45 ≤ o)) : RR U s' t' := by
  obtain ⟨w, h1, h2, h3, _, h5, h6, h7, h8, h9⟩ := h
  have a : ∀ o, (o < 3 ∨ (4 < o ∧ o < 16) ∨ (16 < o ∧ o < 19) ∨ (24 < o ∧ o < 41)) → o ∉ L := fun o ho z => by have := hL o z; omega
  have b : ∀ o, (o < 7 ∨ (7 < o ∧ o < 10) ∨ o = 16 ∨ 21 < o) → o ∉ L' := fun o ho z => by have := hM o z; omega
  have c : ∀ o, (o < 10 ∨ o = 18 ∨ (33 < o ∧ o < 45)) → o ∉ F := fun o ho z => by have := hF o z; omega
  exact ⟨w, h1.fr f ⟨a _ (by decide), a _ (by decide), a _ (by decide), a _ (by decide), a _ (by decide), a _ (by decide), a _ (by decide)⟩,
    h2.fm g ⟨c _ (by decide), c _ (by decide)⟩ ⟨b _ (by decide), b _ (by decide), b _ (by decide), b _ (by decide), b _ (by decide)⟩,
    h3.fr f g ⟨a _ (by decide), a _ (by decide)⟩ ⟨b _ (by decide), c _ (by decide)⟩, h4,
    h5.fr f g ⟨a _ (by decide), a _ (by decide)⟩ ⟨b _ (by decide), c _ (by decide)⟩, h6.fr f g ⟨a _ (by decide), a _ (by decide)⟩ ⟨b _ (by decide), c _ (by decide)⟩,
    h7.fr f g (fun o ho z => a o (by omega) ho) ⟨b _ (by decide), b _ (by decide), b _ (by decide)⟩, hU.fr h8 f g ⟨a _ (by decide), a _ (by decide)⟩ ⟨b _ (by decide), c _ (by decide)⟩,
    h9.fr g ⟨c _ (by decide), c _ (by decide), c _ (by decide), c _ (by decide)⟩⟩
/-- nothing but people and meetings -/
theorem RR.w {U : vSt → vSt → Prop} (hU : okU U) {w w' : Nat → Nat → Nat} (h1 : CW w' s') (h2 : MW w' t') (hw : w 5 0 ≤ w' 5 0) (h3 : TX s t) (h4 : RO s t) (h5 : TLr 5 6 40 0 s t) (h6 : TLr 7 8 41 12 s t) (h7 : KP (w 5 0) s t) (h8 : U s t) (h9 : MC t)
    (f : Fr L K s s') (g : Fm L' K' F t t') (hL : ∀ o, o ∈ L → (9 ≤ o ∧ o ≤ 16) ∨ (19 ≤ o ∧ o ≤ 24) ∨ 41 ≤ o)
    (hM : ∀ o, o ∈ L' → o < 6 ∨ (10 ≤ o ∧ o ≤ 15) ∨ (17 ≤ o ∧ o ≤ 21)) (hF : ∀ o, o ∈ F → o < 8 ∨ (11 ≤ o ∧ o ≤ 17) ∨ (19 ≤ o ∧ o ≤ 33) ∨ (45 ≤ o)) : RR U s' t' := by
  have a : ∀ o, (o < 9 ∨ (16 < o ∧ o < 19) ∨ (24 < o ∧ o < 41)) → o ∉ L := fun o ho z => by have := hL o z; omega
  have b : ∀ o, ((5 < o ∧ o < 10) ∨ o = 16 ∨ 21 < o) → o ∉ L' := fun o ho z => by have := hM o z; omega
  have c : ∀ o, ((7 < o ∧ o < 11) ∨ o = 18 ∨ (33 < o ∧ o < 45)) → o ∉ F := fun o ho z => by have := hF o z; omega
  exact ⟨w', h1, h2, h3.fr f g ⟨a _ (by decide), a _ (by decide)⟩ ⟨b _ (by decide), c _ (by decide)⟩, h4.fr f g ⟨a _ (by decide), a _ (by decide)⟩ ⟨b _ (by decide), c _ (by decide)⟩,
    h5.fr f g ⟨a _ (by decide), a _ (by decide)⟩ ⟨b _ (by decide), c _ (by decide)⟩, h6.fr f g ⟨a _ (by decide), a _ (by decide)⟩ ⟨b _ (by decide), c _ (by decide)⟩,
    (h7.mono hw).fr f g (fun o ho z => a o (by omega) ho) ⟨b _ (by decide), b _ (by decide), b _ (by decide)⟩, hU.fr h8 f g ⟨a _ (by decide), a _ (by decide)⟩ ⟨b _ (by decide), c _ (by decide)⟩,
    h9.fr g ⟨c _ (by decide), c _ (by decide), c _ (by decide), c _ (by decide)⟩⟩
end RF
section KA
variable {N : Nat} {U : vSt → vSt → Prop}
theorem k_sign (hU : okU U) (hN : 5 ≤ N) : keeps1 N (RR U) fC_EachAddsALine_sign fM_EachAddsALineModel_sign := fun s t h v => by
  obtain ⟨r, s', t', a1, a2, a3, a4, a5⟩ := sign_ok hN (h.choose_spec.2.2.1) v
  exact ⟨r, s', t', a1, a2, h.tx hU a3 a4 a5 (by decide) (by decide) (by decide)⟩
end KA
