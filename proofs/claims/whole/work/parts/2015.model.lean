/-! the reference's small ones; its fields lie all in cell 0 -/
def Fm (L K F : List Nat) (s t : vSt) : Prop := (∀ o, o ≠ 0 → o ∉ L → t.1 o = s.1 o) ∧ (∀ o, o ∉ K → t.2 o = s.2 o) ∧ ∀ k, k ∉ F → t.1 0 k = s.1 0 k
theorem Fm.rf {L K F : List Nat} {s : vSt} : Fm L K F s s := ⟨fun _ _ _ => rfl, fun _ _ => rfl, fun _ _ => rfl⟩
theorem Fm.tr {L K F : List Nat} {s t u : vSt} (h : Fm L K F s t) (g : Fm L K F t u) : Fm L K F s u := ⟨fun o h0 ho => (g.1 o h0 ho).trans (h.1 o h0 ho), fun o ho => (g.2.1 o ho).trans (h.2.1 o ho), fun k hk => (g.2.2 k hk).trans (h.2.2 k hk)⟩
theorem Fm.mono {L K F L' K' F' : List Nat} {s t : vSt} (h : Fm L K F s t) (hL : ∀ o, o ∈ L → o ∈ L') (hK : ∀ o, o ∈ K → o ∈ K') (hF : ∀ o, o ∈ F → o ∈ F') : Fm L' K' F' s t := ⟨fun o h0 ho => h.1 o h0 (fun z => ho (hL o z)), fun o ho => h.2.1 o (fun z => ho (hK o z)), fun k hk => h.2.2 k (fun z => hk (hF k z))⟩
theorem Fm.w1 {L K F : List Nat} {s : vSt} {o k : Nat} {x : Int32} (h : o ∈ L) (h0 : o ≠ 0) : Fm L K F s (s1 s o k x) := ⟨fun o' _ ho => s1_ne (fun z => ho (z ▸ h)), fun _ _ => rfl, fun _ _ => by rw [s1_ne (Ne.symm h0)]⟩
theorem Fm.w10 {L K F : List Nat} {s : vSt} {k : Nat} {x : Int32} (h : k ∈ F) : Fm L K F s (s1 s 0 k x) := ⟨fun o' h0 _ => s1_ne h0, fun _ _ => rfl, fun j hj => by rw [s1_eq, if_neg (fun z : j = k => hj (z ▸ h))]⟩
theorem Fm.w2 {L K F : List Nat} {s : vSt} {o k : Nat} {x : Int64} (h : o ∈ K) : Fm L K F s (s2 s o k x) := ⟨fun _ _ _ => rfl, fun o' ho => s2_ne (fun z => ho (z ▸ h)), fun _ _ => rfl⟩
theorem MW.fm {w : Nat → Nat → Nat} {s t : vSt} (h : MW w s) {L K F : List Nat} (f : Fm L K F s t) (hF : 0 ∉ F ∧ 2 ∉ F) (hL : 1 ∉ L ∧ 2 ∉ L ∧ 3 ∉ L ∧ 4 ∉ L ∧ 5 ∉ L) : MW w t := by
  obtain ⟨h1, h2, h3, h4, h5⟩ := hL
  unfold MW at h ⊢
  rw [f.1 1 (by decide) h1, f.1 2 (by decide) h2, f.1 3 (by decide) h3, f.1 4 (by decide) h4, f.1 5 (by decide) h5, f.2.2 0 hF.1, f.2.2 2 hF.2]
  exact h
theorem sub1_lt {p : Nat} {a : Int32} (hp : p < 2 ^ 30) (h : nI p ≤ a) : nI p - 1 < a := by
  have h1 : (nI p - 1).toInt = (p : Int) - 1 := pk_sub_toInt (a := p) (b := 1) hp (by decide)
  have h2 : (nI p).toInt ≤ a.toInt := Int32.le_iff_toInt_le.mp h
  rw [nI_toInt (by omega)] at h2
  rw [Int32.lt_iff_toInt_lt, h1]
  omega
theorem sub1_ge {u p : Nat} (hp : p < 2 ^ 30) (h : u < p) : ¬ nI p - 1 < nI u := by
  have h1 : (nI p - 1).toInt = (p : Int) - 1 := pk_sub_toInt (a := p) (b := 1) hp (by decide)
  rw [Int32.lt_iff_toInt_lt, h1, nI_toInt (by omega)]
  omega
section MB
variable {N : Nat} {w : Nat → Nat → Nat} {s t : vSt}
theorem M_in_t {a lo hi : Int32} (h1 : ¬ a < lo) (h2 : ¬ hi < a) : fM_EachAddsALineModel_in N a lo hi s = some (1, s) := by
  simp only [fM_EachAddsALineModel_in, gM_EachAddsALineModel_in_0, if_neg h1, if_neg h2]
theorem M_in_f {a lo hi : Int32} (h : a < lo ∨ hi < a) : fM_EachAddsALineModel_in N a lo hi s = some (0, s) := by
  simp only [fM_EachAddsALineModel_in, gM_EachAddsALineModel_in_0, gM_EachAddsALineModel_in_14]
  rcases h with h | h
  · rw [if_pos h]
  · rw [if_pos h, ite_self]
theorem M_isOne_t (h : MW w s) {u : Nat} (hu : u < w 5 0) : fM_EachAddsALineModel_isOne N (nI u) s = some (1, s) := by
  have h9 := h.ok.1
  simp only [fM_EachAddsALineModel_isOne, gM_EachAddsALineModel_isOne_0, h.p]
  rw [M_in_t (nI_pos (by omega)) (sub1_ge (by omega) hu)]
  rfl
theorem M_isOne_f (h : MW w s) {a : Int32} (ha : ¬ isP (w 5 0) a) : fM_EachAddsALineModel_isOne N a s = some (0, s) := by
  have h9 := h.ok.1
  simp only [fM_EachAddsALineModel_isOne, gM_EachAddsALineModel_isOne_0, h.p]
  rw [M_in_f ((isP_lt (by omega) ha).imp id (sub1_lt (by omega)))]
  rfl
theorem M_isMeeting_t (h : MW w s) {u : Nat} (hu : u < w 5 1) : fM_EachAddsALineModel_isMeeting N (nI u) s = some (1, s) := by
  have h9 := h.ok.2.1
  simp only [fM_EachAddsALineModel_isMeeting, gM_EachAddsALineModel_isMeeting_0, h.m]
  rw [M_in_t (nI_pos (by omega)) (sub1_ge (by omega) hu)]
  rfl
theorem M_isMeeting_f (h : MW w s) {a : Int32} (ha : ¬ isP (w 5 1) a) : fM_EachAddsALineModel_isMeeting N a s = some (0, s) := by
  have h9 := h.ok.2.1
  simp only [fM_EachAddsALineModel_isMeeting, gM_EachAddsALineModel_isMeeting_0, h.m]
  rw [M_in_f ((isP_lt (by omega) ha).imp id (sub1_lt (by omega)))]
  rfl
theorem M_isHour_t {u : Nat} (hu : u < 100) : fM_EachAddsALineModel_isHour N (nI u) s = some (1, s) := by
  simp only [fM_EachAddsALineModel_isHour, gM_EachAddsALineModel_isHour_0]
  rw [M_in_t (nI_pos (by omega)) (show ¬ (99 : Int32) < nI u from nI_nlt (a := 99) (b := u) (by omega) (by decide))]
  rfl
theorem lt99 {a : Int32} (h : nI 100 ≤ a) : (99 : Int32) < a := by
  rw [Int32.lt_iff_toInt_lt]
  have := Int32.le_iff_toInt_le.mp h
  have e1 : (nI 100).toInt = 100 := by decide
  have e2 : (99 : Int32).toInt = 99 := by decide
  omega
theorem M_isHour_f {a : Int32} (ha : ¬ isP 100 a) : fM_EachAddsALineModel_isHour N a s = some (0, s) := by
  simp only [fM_EachAddsALineModel_isHour, gM_EachAddsALineModel_isHour_0]
  rw [M_in_f ((isP_lt (by decide) ha).imp id lt99)]
  rfl
theorem C_isHour_t {u : Nat} (hu : u < 100) : fC_EachAddsALine_isHour N (nI u) s = some (1, s) := by
  simp only [fC_EachAddsALine_isHour, gC_EachAddsALine_isHour_0]
  rw [if_neg (nI_pos (by omega)), if_neg (show ¬ (99 : Int32) < nI u from nI_nlt (a := 99) (b := u) (by omega) (by decide))]
theorem C_isHour_f {a : Int32} (ha : ¬ isP 100 a) : fC_EachAddsALine_isHour N a s = some (0, s) := by
  simp only [fC_EachAddsALine_isHour, gC_EachAddsALine_isHour_0]
  rcases isP_lt (by decide) ha with h | h
  · rw [if_pos h]; rfl
  · rw [if_pos (lt99 h)]; exact ite_self _
/-- a trip: two people and an hour -/
def trip (w : Nat → Nat → Nat) (a b c : Int32) : Prop := isP (w 5 0) a ∧ isP (w 5 0) b ∧ isP 100 c
theorem C_isTrip_t (h : CW w s) {u v k : Nat} (hu : u < w 5 0) (hv : v < w 5 0) (hk : k < 100) : fC_EachAddsALine_isTrip N (nI u) (nI v) (nI k) s = some (1, s) := by
  simp only [fC_EachAddsALine_isTrip, gC_EachAddsALine_isTrip_0]
  rw [C_hasPerson_t h hu]
  simp only [Option.bind_some]
  rw [if_neg (by decide), C_hasPerson_t h hv]
  simp only [Option.bind_some]
  rw [if_neg (by decide), C_isHour_t hk]
  rfl
theorem C_isTrip_f (h : CW w s) {a b c : Int32} (hn : ¬ trip w a b c) : fC_EachAddsALine_isTrip N a b c s = some (0, s) := by
  simp only [fC_EachAddsALine_isTrip, gC_EachAddsALine_isTrip_0]
  by_cases h1 : isP (w 5 0) a
  · obtain ⟨u, hu, rfl⟩ := h1
    rw [C_hasPerson_t h hu]
    simp only [Option.bind_some]
    rw [if_neg (by decide)]
    by_cases h2 : isP (w 5 0) b
    · obtain ⟨v, hv, rfl⟩ := h2
      rw [C_hasPerson_t h hv]
      simp only [Option.bind_some]
      rw [if_neg (by decide), C_isHour_f (fun h3 => hn ⟨⟨u, hu, rfl⟩, ⟨v, hv, rfl⟩, h3⟩)]
      rfl
    · rw [C_hasPerson_f h h2]
      rfl
  · rw [C_hasPerson_f h h1]
    rfl
theorem M_isTrip_t (h : MW w s) {u v k : Nat} (hu : u < w 5 0) (hv : v < w 5 0) (hk : k < 100) : fM_EachAddsALineModel_isTrip N (nI u) (nI v) (nI k) s = some (1, s) := by
  simp only [fM_EachAddsALineModel_isTrip, gM_EachAddsALineModel_isTrip_0]
  rw [M_isOne_t h hu]
  simp only [Option.bind_some]
  rw [if_neg (by decide), M_isOne_t h hv]
  simp only [Option.bind_some]
  rw [if_neg (by decide), M_isHour_t hk]
  rfl
theorem M_isTrip_f (h : MW w s) {a b c : Int32} (hn : ¬ trip w a b c) : fM_EachAddsALineModel_isTrip N a b c s = some (0, s) := by
  simp only [fM_EachAddsALineModel_isTrip, gM_EachAddsALineModel_isTrip_0]
  by_cases h1 : isP (w 5 0) a
  · obtain ⟨u, hu, rfl⟩ := h1
    rw [M_isOne_t h hu]
    simp only [Option.bind_some]
    rw [if_neg (by decide)]
    by_cases h2 : isP (w 5 0) b
    · obtain ⟨v, hv, rfl⟩ := h2
      rw [M_isOne_t h hv]
      simp only [Option.bind_some]
      rw [if_neg (by decide), M_isHour_f (fun h3 => hn ⟨⟨u, hu, rfl⟩, ⟨v, hv, rfl⟩, h3⟩)]
      rfl
    · rw [M_isOne_f h h2]
      rfl
  · rw [M_isOne_f h h1]
    rfl
end MB
