/-! sign, end -/
def chC (v : Int32) (j : Nat) : Int32 := vp_nar .char ((((((v : Int32).toUInt32 >>> ((nI (8 * (3 - j)) : Int32).toUInt32 &&& Int32.toUInt32 31)).toInt32) &&& 255 : Int32).toUInt32 % 65536).toInt32)
def chM (v : Int32) (j : Nat) : Int32 := vp_nar .byte ((v >>> (((8 : Int32) * nI (3 - j)) &&& 31) : Int32).toInt8.toInt32)
def byteI (x : Nat) : Int32 := (nI x).toInt8.toInt32
/-- the signs of the text: their numbers, as the class and the reference keep them -/
def TX (σ τ : vSt) : Prop := ∃ n, n ≤ 80 ∧ σ.1 1 1 = nI n ∧ τ.1 0 8 = nI n ∧ ∀ k, k < n → ∃ x, x < 256 ∧ σ.1 2 k = nI x ∧ τ.1 6 k = byteI x
theorem n_add_m8 (i : Nat) : nI (8 * (i + 1)) + (-8) = nI (8 * i) := by
  rw [show 8 * (i + 1) = 8 * i + 8 from rfl, ← nI_add]
  show nI (8 * i) + nI 8 + (-8) = nI (8 * i)
  rw [Int32.add_assoc]
  exact Int32.add_zero _
section SG
variable {N : Nat} {s t : vSt}
theorem C_addFour (hN : 5 ≤ N) {n : Nat} {v : Int32} (hn : s.1 1 1 = nI n) (h : n + 4 ≤ 80) : ∃ s', fC_Text_addFour N v s = some (1, s') ∧ Fr [1, 2] [] s s' ∧ s'.1 1 1 = nI (n + 4) ∧ (∀ k, k < n → s'.1 2 k = s.1 2 k) ∧ ∀ j, j < 4 → s'.1 2 (n + j) = chC v j := by
  have h76 : nI n ≤ 76 := nI_le (a := n) (b := 76) (by omega) (by omega)
  simp only [fC_Text_addFour, gC_Text_addFour_0, hn, if_pos h76]
  refine loopD (fun f i u => gC_Text_addFour_14 N f v (nI (8 * i) + (-8)) u) 4 (fun i u => i ≤ 4 ∧ Fr [1, 2] [] s u ∧ u.1 1 1 = nI (n + (4 - i)) ∧ (∀ k, k < n → u.1 2 k = s.1 2 k) ∧ ∀ j, j < 4 - i → u.1 2 (n + j) = chC v j) (fun o => ∃ s', o = some (1, s') ∧ Fr [1, 2] [] s s' ∧ s'.1 1 1 = nI (n + 4) ∧ (∀ k, k < n → s'.1 2 k = s.1 2 k) ∧ ∀ j, j < 4 → s'.1 2 (n + j) = chC v j) ?_ ?_ 4 N s (Nat.le_refl _) (by omega) ⟨Nat.le_refl _, Fr.rf, hn, fun _ _ => rfl, fun j hj => by omega⟩
  · rintro f i u hi ⟨h1, h2, h3, h4, h5⟩
    refine Or.inl ⟨s1 (s1 u 2 (n + (3 - i)) (chC v (3 - i))) 1 1 (nI (n + (4 - i))), ?_, by omega, (h2.tr (Fr.s1 (by decide))).tr (Fr.s1 (by decide)), ?_, fun k hk => ?_, fun j hj => ?_⟩
    · simp only [n_add_m8]
      rw [gC_Text_addFour_14, if_neg (nI_pos (by omega)), h3, show n + (4 - (i + 1)) = n + (3 - i) by omega, sto_n (by omega)]
      simp only [Option.bind_some, s1_1, if_pos, if_neg, upd, show ((1 : Nat) = 2) = False from by decide, if_false, h3, nI_1, show n + (4 - (i + 1)) + 1 = n + (4 - i) by omega, chC, show 3 - (3 - i) = i by omega]
    · rw [s1_eq, if_pos rfl]
    · rw [s1_ne (by decide), s1_eq, if_neg (by omega), h4 k hk]
    · rw [s1_ne (by decide), s1_eq]
      by_cases c : n + j = n + (3 - i)
      · rw [if_pos c, show j = 3 - i by omega]
      · rw [if_neg c, h5 j (by omega)]
  · rintro f u ⟨h1, h2, h3, h4, h5⟩
    refine ⟨u, ?_, h2, h3, h4, fun j hj => h5 j hj⟩
    show gC_Text_addFour_14 N (f + 1) v (nI (8 * 0) + (-8)) u = _
    rw [gC_Text_addFour_14, if_pos (by decide)]
end SG
