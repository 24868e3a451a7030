
abbrev lP : Type := vSt → vSt → (Nat → Int64) → Nat → Nat → Nat → List (Nat × Value) → List Value → Prop
def lOK (P : lP) (l : Launch) (adC adM : Nat → Nat) (ao b L : Nat) (xs : Nat → Int32) : Prop :=
  ∃ (p : Program) (e : Env) (s : State) (m : MethodId) (below : List Frame) (meth : Method) (c : Code) (D : va_G) (cA : Nat → ClassId),
    P = (fun σ τ g cells slots pc lv stk => ∀ (H : Heap) (locs : List Loc) (ls : Array Slot), va_P D vCl (wl shC adC cA σ) H → va_P D vCl (wl shM adM cA τ) H → va_P D vCl [(ao, .inl (cA 1, 1, .inr (.inl g)))] H → va_S (fun q : Nat => s.heap.size ≤ q) s.heap H locs → lv_has ls 7 lv → W p l e room_1 s m #[Value.ref b] below meth c H locs cells slots (lw_Z below #[Value.ref b] s) (F0 m pc ls stk)) ∧
    lw_At p s m meth c b L xs ∧ va_K D vCl (vTys cA) s ∧ vAd shC adC (fun q : Nat => s.heap.size ≤ q) ∧ vAd shM adM (fun q : Nat => s.heap.size ≤ q) ∧ s.heap.size ≤ ao ∧ (∀ i, i < shC.1 → ∀ j, j < shM.1 → adC i ≠ adM j) ∧ (∀ i, i < shC.1 → adC i ≠ ao) ∧ (∀ i, i < shM.1 → adM i ≠ ao) ∧ l.flags = flags0
theorem wl_kept {D : va_G} {sh : vSh} {ad : Nat → Nat} {cA : Nat → ClassId} {st : vSt} {H H1 : Heap} {F : Nat → Prop} (hP : va_P D vCl (wl sh ad cA st) H) (hk : ∀ q : Nat, q < H.size → ¬ F q → H1[q]? = H[q]?) (hF : ∀ i, i < sh.1 → ¬ F (ad i)) : va_P D vCl (wl sh ad cA st) H1 := by
  intro k q hq
  have h0 := hP k q hq
  obtain ⟨h1, rfl⟩ := wl_at' hq
  exact va_at.kept h0 (hk _ (va_at.lt h0) (hF k h1))
theorem one_kept {D : va_G} {q : Nat × va_E} {H H1 : Heap} {F : Nat → Prop} (hP : va_P D vCl [q] H) (hk : ∀ q : Nat, q < H.size → ¬ F q → H1[q]? = H[q]?) (hF : ¬ F q.1) : va_P D vCl [q] H1 := by
  intro k r hq
  have h0 := hP k r hq
  have hr : r = q := by
    cases k with
    | zero => exact (Option.some.inj hq).symm
    | succ k => cases hq
  subst hr
  exact va_at.kept h0 (hk _ (va_at.lt h0) hF)
theorem wl_notA {sh sh2 : vSh} {ad ad2 : Nat → Nat} {cA : Nat → ClassId} {st : vSt} {H : Heap} {D : va_G} {st2 : vSt} (hP : va_P D vCl (wl sh2 ad2 cA st2) H) (hd : ∀ i, i < sh.1 → ∀ j, j < sh2.1 → ad i ≠ ad2 j) : ∀ j, j < sh2.1 → ¬ va_A (wl sh ad cA st) H.size (ad2 j) := by
  rintro j hj (⟨k, e, hk⟩ | h)
  · obtain ⟨h1, h2⟩ := wl_at' hk
    have h3 : ad2 j = ad k := congrArg Prod.fst h2
    exact hd k h1 j hj h3.symm
  · exact absurd (va_at.lt (hP j _ (wl_at hj))) (Nat.not_lt.mpr h)
section LW
variable {P : lP} {l : Launch} {adC adM : Nat → Nat} {ao b L : Nat} {xs : Nat → Int32} {σ τ : vSt} {g : Nat → Int64} {cells slots pc : Nat} {lv : List (Nat × Value)} {rest : List Value}

theorem l_iconst (hX : lOK P l adC adM ao b L xs) {n : Int} {v : Int32} (hdg : decode code pc = .ok (.iconst n, 1)) (hv : Int32.ofInt n = v) (k : P σ τ g cells slots (pc + 1) lv (.int v :: rest)) : P σ τ g cells slots pc lv (rest) := by
  obtain ⟨p, e, s, m, below, meth, c, D, cA, rfl, hAt, hK, hdC, hdM, hao, hCM, hCo, hMo, hfl⟩ := hX
  obtain ⟨hx, hb, hr, hml, hown, hts, hXs, hbl, hlocks, hgv⟩ := hAt
  have hbA : ¬ (fun q : Nat => s.heap.size ≤ q) b := Nat.not_le.mpr hbl
  intro H locs ls hP1 hP2 hP3 hS hl
  exact lv_iconst hx hb hdg hv (k H locs ls hP1 hP2 hP3 hS hl)
theorem l_bipush (hX : lOK P l adC adM ao b L xs) {n : Int} {v : Int32} (hdg : decode code pc = .ok (.bipush n, 2)) (hv : (Int8.ofInt n).toInt32 = v) (k : P σ τ g cells slots (pc + 2) lv (.int v :: rest)) : P σ τ g cells slots pc lv (rest) := by
  obtain ⟨p, e, s, m, below, meth, c, D, cA, rfl, hAt, hK, hdC, hdM, hao, hCM, hCo, hMo, hfl⟩ := hX
  obtain ⟨hx, hb, hr, hml, hown, hts, hXs, hbl, hlocks, hgv⟩ := hAt
  have hbA : ¬ (fun q : Nat => s.heap.size ≤ q) b := Nat.not_le.mpr hbl
  intro H locs ls hP1 hP2 hP3 hS hl
  exact lv_bipush hx hb hdg hv (k H locs ls hP1 hP2 hP3 hS hl)
theorem l_iadd (hX : lOK P l adC adM ao b L xs) {x y : Int32} (hdg : decode code pc = .ok (.iadd, 1))  (k : P σ τ g cells slots (pc + 1) lv (.int (x + y) :: rest)) : P σ τ g cells slots pc lv (.int y :: .int x :: rest) := by
  obtain ⟨p, e, s, m, below, meth, c, D, cA, rfl, hAt, hK, hdC, hdM, hao, hCM, hCo, hMo, hfl⟩ := hX
  obtain ⟨hx, hb, hr, hml, hown, hts, hXs, hbl, hlocks, hgv⟩ := hAt
  have hbA : ¬ (fun q : Nat => s.heap.size ≤ q) b := Nat.not_le.mpr hbl
  intro H locs ls hP1 hP2 hP3 hS hl
  exact lv_iadd hx hb hdg  (k H locs ls hP1 hP2 hP3 hS hl)
theorem l_isub (hX : lOK P l adC adM ao b L xs) {x y : Int32} (hdg : decode code pc = .ok (.isub, 1))  (k : P σ τ g cells slots (pc + 1) lv (.int (x - y) :: rest)) : P σ τ g cells slots pc lv (.int y :: .int x :: rest) := by
  obtain ⟨p, e, s, m, below, meth, c, D, cA, rfl, hAt, hK, hdC, hdM, hao, hCM, hCo, hMo, hfl⟩ := hX
  obtain ⟨hx, hb, hr, hml, hown, hts, hXs, hbl, hlocks, hgv⟩ := hAt
  have hbA : ¬ (fun q : Nat => s.heap.size ≤ q) b := Nat.not_le.mpr hbl
  intro H locs ls hP1 hP2 hP3 hS hl
  exact lv_isub hx hb hdg  (k H locs ls hP1 hP2 hP3 hS hl)
theorem l_iand (hX : lOK P l adC adM ao b L xs) {x y : Int32} (hdg : decode code pc = .ok (.iand, 1))  (k : P σ τ g cells slots (pc + 1) lv (.int (x &&& y) :: rest)) : P σ τ g cells slots pc lv (.int y :: .int x :: rest) := by
  obtain ⟨p, e, s, m, below, meth, c, D, cA, rfl, hAt, hK, hdC, hdM, hao, hCM, hCo, hMo, hfl⟩ := hX
  obtain ⟨hx, hb, hr, hml, hown, hts, hXs, hbl, hlocks, hgv⟩ := hAt
  have hbA : ¬ (fun q : Nat => s.heap.size ≤ q) b := Nat.not_le.mpr hbl
  intro H locs ls hP1 hP2 hP3 hS hl
  exact lv_iand hx hb hdg  (k H locs ls hP1 hP2 hP3 hS hl)
theorem l_i2l (hX : lOK P l adC adM ao b L xs) {x : Int32} (hdg : decode code pc = .ok (.i2l, 1))  (k : P σ τ g cells slots (pc + 1) lv (.long x.toInt64 :: rest)) : P σ τ g cells slots pc lv (.int x :: rest) := by
  obtain ⟨p, e, s, m, below, meth, c, D, cA, rfl, hAt, hK, hdC, hdM, hao, hCM, hCo, hMo, hfl⟩ := hX
  obtain ⟨hx, hb, hr, hml, hown, hts, hXs, hbl, hlocks, hgv⟩ := hAt
  have hbA : ¬ (fun q : Nat => s.heap.size ≤ q) b := Nat.not_le.mpr hbl
  intro H locs ls hP1 hP2 hP3 hS hl
  exact lv_i2l hx hb hdg rfl (k H locs ls hP1 hP2 hP3 hS hl)
theorem l_lcmp (hX : lOK P l adC adM ao b L xs) {x y : Int64} (hdg : decode code pc = .ok (.lcmp, 1))  (k : P σ τ g cells slots (pc + 1) lv (.int (lg_cmp x y) :: rest)) : P σ τ g cells slots pc lv (.long y :: .long x :: rest) := by
  obtain ⟨p, e, s, m, below, meth, c, D, cA, rfl, hAt, hK, hdC, hdM, hao, hCM, hCo, hMo, hfl⟩ := hX
  obtain ⟨hx, hb, hr, hml, hown, hts, hXs, hbl, hlocks, hgv⟩ := hAt
  have hbA : ¬ (fun q : Nat => s.heap.size ≤ q) b := Nat.not_le.mpr hbl
  intro H locs ls hP1 hP2 hP3 hS hl
  exact W.lcmp hx hb hdg  (k H locs ls hP1 hP2 hP3 hS hl)
theorem l_iload_n (hX : lOK P l adC adM ao b L xs) {n : Fin 4} {i : Nat} {x : Int32} (hdg : decode code pc = .ok (.iload_n n, 1)) (hi : (n : Nat) = i) (j : Nat) (hj : lv[j]? = some (i, .int x)) (k : P σ τ g cells slots (pc + 1) lv (.int x :: rest)) : P σ τ g cells slots pc lv (rest) := by
  obtain ⟨p, e, s, m, below, meth, c, D, cA, rfl, hAt, hK, hdC, hdM, hao, hCM, hCo, hMo, hfl⟩ := hX
  obtain ⟨hx, hb, hr, hml, hown, hts, hXs, hbl, hlocks, hgv⟩ := hAt
  have hbA : ¬ (fun q : Nat => s.heap.size ≤ q) b := Nat.not_le.mpr hbl
  intro H locs ls hP1 hP2 hP3 hS hl
  exact lv_iload_n hx hb hdg hi (lv_at hl j hj) (k H locs ls hP1 hP2 hP3 hS hl)
theorem l_iload (hX : lOK P l adC adM ao b L xs) {i : Nat} {x : Int32} (hdg : decode code pc = .ok (.iload i, 2)) (j : Nat) (hj : lv[j]? = some (i, .int x)) (k : P σ τ g cells slots (pc + 2) lv (.int x :: rest)) : P σ τ g cells slots pc lv (rest) := by
  obtain ⟨p, e, s, m, below, meth, c, D, cA, rfl, hAt, hK, hdC, hdM, hao, hCM, hCo, hMo, hfl⟩ := hX
  obtain ⟨hx, hb, hr, hml, hown, hts, hXs, hbl, hlocks, hgv⟩ := hAt
  have hbA : ¬ (fun q : Nat => s.heap.size ≤ q) b := Nat.not_le.mpr hbl
  intro H locs ls hP1 hP2 hP3 hS hl
  exact lv_iload hx hb hdg (lv_at hl j hj) (k H locs ls hP1 hP2 hP3 hS hl)
theorem l_aload_n (hX : lOK P l adC adM ao b L xs) {n : Fin 4} {i : Nat} {x : Nat} (hdg : decode code pc = .ok (.aload_n n, 1)) (hi : (n : Nat) = i) (j : Nat) (hj : lv[j]? = some (i, .ref x)) (k : P σ τ g cells slots (pc + 1) lv (.ref x :: rest)) : P σ τ g cells slots pc lv (rest) := by
  obtain ⟨p, e, s, m, below, meth, c, D, cA, rfl, hAt, hK, hdC, hdM, hao, hCM, hCo, hMo, hfl⟩ := hX
  obtain ⟨hx, hb, hr, hml, hown, hts, hXs, hbl, hlocks, hgv⟩ := hAt
  have hbA : ¬ (fun q : Nat => s.heap.size ≤ q) b := Nat.not_le.mpr hbl
  intro H locs ls hP1 hP2 hP3 hS hl
  exact lv_aload_n hx hb hdg hi (lv_at hl j hj) (k H locs ls hP1 hP2 hP3 hS hl)
theorem l_aload (hX : lOK P l adC adM ao b L xs) {i : Nat} {x : Nat} (hdg : decode code pc = .ok (.aload i, 2)) (j : Nat) (hj : lv[j]? = some (i, .ref x)) (k : P σ τ g cells slots (pc + 2) lv (.ref x :: rest)) : P σ τ g cells slots pc lv (rest) := by
  obtain ⟨p, e, s, m, below, meth, c, D, cA, rfl, hAt, hK, hdC, hdM, hao, hCM, hCo, hMo, hfl⟩ := hX
  obtain ⟨hx, hb, hr, hml, hown, hts, hXs, hbl, hlocks, hgv⟩ := hAt
  have hbA : ¬ (fun q : Nat => s.heap.size ≤ q) b := Nat.not_le.mpr hbl
  intro H locs ls hP1 hP2 hP3 hS hl
  exact lv_aload hx hb hdg (lv_at hl j hj) (k H locs ls hP1 hP2 hP3 hS hl)
theorem l_istore (hX : lOK P l adC adM ao b L xs) {i : Nat} {x : Int32} {lv' : List (Nat × Value)} (hdg : decode code pc = .ok (.istore i, 2)) (hn : i < 7) (hl' : (i, Value.int x) :: lv.filter (fun q => !(q.1 == i) && !(q.1 + 1 == i && q.2.category == 2)) = lv') (k : P σ τ g cells slots (pc + 2) lv' rest) : P σ τ g cells slots pc lv (.int x :: rest) := by
  obtain ⟨p, e, s, m, below, meth, c, D, cA, rfl, hAt, hK, hdC, hdM, hao, hCM, hCo, hMo, hfl⟩ := hX
  obtain ⟨hx, hb, hr, hml, hown, hts, hXs, hbl, hlocks, hgv⟩ := hAt
  have hbA : ¬ (fun q : Nat => s.heap.size ≤ q) b := Nat.not_le.mpr hbl
  intro H locs ls hP1 hP2 hP3 hS hl
  exact lv_istore hx hb hdg hl hn hl' (fun ls' hl2 => k H locs ls' hP1 hP2 hP3 hS hl2)
theorem l_iinc (hX : lOK P l adC adM ao b L xs) {i j : Nat} {n : Int} {x v : Int32} {lv' : List (Nat × Value)} (hdg : decode code pc = .ok (.iinc i n, 3)) (hj : lv[j]? = some (i, .int x)) (hv : x + Int32.ofInt n = v) (hn : i < 7) (hl' : (i, Value.int v) :: lv.filter (fun q => !(q.1 == i) && !(q.1 + 1 == i && q.2.category == 2)) = lv') (k : P σ τ g cells slots (pc + 3) lv' rest) : P σ τ g cells slots pc lv (rest) := by
  obtain ⟨p, e, s, m, below, meth, c, D, cA, rfl, hAt, hK, hdC, hdM, hao, hCM, hCo, hMo, hfl⟩ := hX
  obtain ⟨hx, hb, hr, hml, hown, hts, hXs, hbl, hlocks, hgv⟩ := hAt
  have hbA : ¬ (fun q : Nat => s.heap.size ≤ q) b := Nat.not_le.mpr hbl
  intro H locs ls hP1 hP2 hP3 hS hl
  exact lv_iinc hx hb hdg hl hj hv hn hl' (fun ls' hl2 => k H locs ls' hP1 hP2 hP3 hS hl2)
theorem l_goto (hX : lOK P l adC adM ao b L xs) {off : Int} {tgt : Nat} (hdg : decode code pc = .ok (.goto off, 3)) (ht : (pc : Int) + off = (tgt : Int)) (k : P σ τ g cells slots tgt lv rest) : P σ τ g cells slots pc lv (rest) := by
  obtain ⟨p, e, s, m, below, meth, c, D, cA, rfl, hAt, hK, hdC, hdM, hao, hCM, hCo, hMo, hfl⟩ := hX
  obtain ⟨hx, hb, hr, hml, hown, hts, hXs, hbl, hlocks, hgv⟩ := hAt
  have hbA : ¬ (fun q : Nat => s.heap.size ≤ q) b := Nat.not_le.mpr hbl
  intro H locs ls hP1 hP2 hP3 hS hl
  exact lv_goto hx hb hdg ht (k H locs ls hP1 hP2 hP3 hS hl)
theorem l_eqT (hX : lOK P l adC adM ao b L xs) {x y : Int32} {off : Int} {tgt : Nat} (hdg : decode code pc = .ok (.if_icmp .eq off, 3)) (ht : (pc : Int) + off = (tgt : Int)) (hc : x = y) (k : P σ τ g cells slots tgt lv rest) : P σ τ g cells slots pc lv (.int y :: .int x :: rest) := by
  obtain ⟨p, e, s, m, below, meth, c, D, cA, rfl, hAt, hK, hdC, hdM, hao, hCM, hCo, hMo, hfl⟩ := hX
  obtain ⟨hx, hb, hr, hml, hown, hts, hXs, hbl, hlocks, hgv⟩ := hAt
  have hbA : ¬ (fun q : Nat => s.heap.size ≤ q) b := Nat.not_le.mpr hbl
  intro H locs ls hP1 hP2 hP3 hS hl
  exact lv_icmp_eq hx hb hdg ht (fun _ => (k H locs ls hP1 hP2 hP3 hS hl)) (fun z => absurd hc z)
theorem l_ifeqT (hX : lOK P l adC adM ao b L xs) {x : Int32} {off : Int} {tgt : Nat} (hdg : decode code pc = .ok (.ifCond .eq off, 3)) (ht : (pc : Int) + off = (tgt : Int)) (hc : x = 0) (k : P σ τ g cells slots tgt lv rest) : P σ τ g cells slots pc lv (.int x :: rest) := by
  obtain ⟨p, e, s, m, below, meth, c, D, cA, rfl, hAt, hK, hdC, hdM, hao, hCM, hCo, hMo, hfl⟩ := hX
  obtain ⟨hx, hb, hr, hml, hown, hts, hXs, hbl, hlocks, hgv⟩ := hAt
  have hbA : ¬ (fun q : Nat => s.heap.size ≤ q) b := Nat.not_le.mpr hbl
  intro H locs ls hP1 hP2 hP3 hS hl
  exact lv_if_eq hx hb hdg ht (fun _ => (k H locs ls hP1 hP2 hP3 hS hl)) (fun z => absurd hc z)
theorem l_ifne (hX : lOK P l adC adM ao b L xs) {x : Int32} {off : Int} {tgt : Nat} (hdg : decode code pc = .ok (.ifCond .ne off, 3)) (ht : (pc : Int) + off = (tgt : Int)) (kt : ¬ x = 0 → P σ τ g cells slots tgt lv rest) (kf : x = 0 → P σ τ g cells slots (pc + 3) lv rest) : P σ τ g cells slots pc lv (.int x :: rest) := by
  obtain ⟨p, e, s, m, below, meth, c, D, cA, rfl, hAt, hK, hdC, hdM, hao, hCM, hCo, hMo, hfl⟩ := hX
  obtain ⟨hx, hb, hr, hml, hown, hts, hXs, hbl, hlocks, hgv⟩ := hAt
  have hbA : ¬ (fun q : Nat => s.heap.size ≤ q) b := Nat.not_le.mpr hbl
  intro H locs ls hP1 hP2 hP3 hS hl
  exact lv_if_ne hx hb hdg ht (fun z => kt z H locs ls hP1 hP2 hP3 hS hl) (fun z => kf z H locs ls hP1 hP2 hP3 hS hl)
theorem l_gt (hX : lOK P l adC adM ao b L xs) {x y : Int32} {off : Int} {tgt : Nat} (hdg : decode code pc = .ok (.if_icmp .gt off, 3)) (ht : (pc : Int) + off = (tgt : Int)) (kt : y < x → P σ τ g cells slots tgt lv rest) (kf : ¬ y < x → P σ τ g cells slots (pc + 3) lv rest) : P σ τ g cells slots pc lv (.int y :: .int x :: rest) := by
  obtain ⟨p, e, s, m, below, meth, c, D, cA, rfl, hAt, hK, hdC, hdM, hao, hCM, hCo, hMo, hfl⟩ := hX
  obtain ⟨hx, hb, hr, hml, hown, hts, hXs, hbl, hlocks, hgv⟩ := hAt
  have hbA : ¬ (fun q : Nat => s.heap.size ≤ q) b := Nat.not_le.mpr hbl
  intro H locs ls hP1 hP2 hP3 hS hl
  exact lv_icmp_gt hx hb hdg ht (fun z => kt z H locs ls hP1 hP2 hP3 hS hl) (fun z => kf z H locs ls hP1 hP2 hP3 hS hl)
theorem l_tblIn (hX : lOK P l adC adM ao b L xs) {dflt lo hi : Int} {offs : Array Int} {len : Nat} {x : Int32} {off : Int} {tgt : Nat} (hdg : decode code pc = .ok (.tableswitch dflt lo hi offs, len)) (h1 : ¬ x.toInt < lo) (h2 : ¬ hi < x.toInt) (ho : offs[(x.toInt - lo).toNat]? = some off) (ht : (pc : Int) + off = (tgt : Int)) (k : P σ τ g cells slots tgt lv rest) : P σ τ g cells slots pc lv (.int x :: rest) := by
  obtain ⟨p, e, s, m, below, meth, c, D, cA, rfl, hAt, hK, hdC, hdM, hao, hCM, hCo, hMo, hfl⟩ := hX
  obtain ⟨hx, hb, hr, hml, hown, hts, hXs, hbl, hlocks, hgv⟩ := hAt
  have hbA : ¬ (fun q : Nat => s.heap.size ≤ q) b := Nat.not_le.mpr hbl
  intro H locs ls hP1 hP2 hP3 hS hl
  exact lv_tableIn hx hb hdg h1 h2 ho ht (k H locs ls hP1 hP2 hP3 hS hl)
theorem l_tblOut (hX : lOK P l adC adM ao b L xs) {dflt lo hi : Int} {offs : Array Int} {len : Nat} {x : Int32} {tgt : Nat} (hdg : decode code pc = .ok (.tableswitch dflt lo hi offs, len)) (h : x.toInt < lo ∨ hi < x.toInt) (ht : (pc : Int) + dflt = (tgt : Int)) (k : P σ τ g cells slots tgt lv rest) : P σ τ g cells slots pc lv (.int x :: rest) := by
  obtain ⟨p, e, s, m, below, meth, c, D, cA, rfl, hAt, hK, hdC, hdM, hao, hCM, hCo, hMo, hfl⟩ := hX
  obtain ⟨hx, hb, hr, hml, hown, hts, hXs, hbl, hlocks, hgv⟩ := hAt
  have hbA : ¬ (fun q : Nat => s.heap.size ≤ q) b := Nat.not_le.mpr hbl
  intro H locs ls hP1 hP2 hP3 hS hl
  exact lv_tableOut hx hb hdg h ht (k H locs ls hP1 hP2 hP3 hS hl)
theorem l_slen (hX : lOK P l adC adM ao b L xs) (hdg : decode code pc = .ok (.arraylength, 1)) (k : P σ τ g cells slots (pc + 1) lv (.int (nI L) :: rest)) : P σ τ g cells slots pc lv (.ref b :: rest) := by
  obtain ⟨p, e, s, m, below, meth, c, D, cA, rfl, hAt, hK, hdC, hdM, hao, hCM, hCo, hMo, hfl⟩ := hX
  obtain ⟨hx, hb, hr, hml, hown, hts, hXs, hbl, hlocks, hgv⟩ := hAt
  have hbA : ¬ (fun q : Nat => s.heap.size ≤ q) b := Nat.not_le.mpr hbl
  intro H locs ls hP1 hP2 hP3 hS hl
  exact va_slen hx hb hXs hbl hbA hS hdg (k H locs ls hP1 hP2 hP3 hS hl)
theorem l_sld (hX : lOK P l adC adM ao b L xs) {i : Int32} (hi : vp_in i L) (hdg : decode code pc = .ok (.iaload, 1)) (k : P σ τ g cells slots (pc + 1) lv (.int (xs i.toNatClampNeg) :: rest)) : P σ τ g cells slots pc lv (.int i :: .ref b :: rest) := by
  obtain ⟨p, e, s, m, below, meth, c, D, cA, rfl, hAt, hK, hdC, hdM, hao, hCM, hCo, hMo, hfl⟩ := hX
  obtain ⟨hx, hb, hr, hml, hown, hts, hXs, hbl, hlocks, hgv⟩ := hAt
  have hbA : ¬ (fun q : Nat => s.heap.size ≤ q) b := Nat.not_le.mpr hbl
  intro H locs ls hP1 hP2 hP3 hS hl
  exact va_sld hx hb hXs hbl hbA hS hi hdg (k H locs ls hP1 hP2 hP3 hS hl)
theorem l_old (hX : lOK P l adC adM ao b L xs) (hdg : decode code pc = .ok (.laload, 1)) (k : P σ τ g cells slots (pc + 1) lv (.long (g 0) :: rest)) : P σ τ g cells slots pc lv (.int 0 :: .ref ao :: rest) := by
  obtain ⟨p, e, s, m, below, meth, c, D, cA, rfl, hAt, hK, hdC, hdM, hao, hCM, hCo, hMo, hfl⟩ := hX
  obtain ⟨hx, hb, hr, hml, hown, hts, hXs, hbl, hlocks, hgv⟩ := hAt
  have hbA : ¬ (fun q : Nat => s.heap.size ≤ q) b := Nat.not_le.mpr hbl
  intro H locs ls hP1 hP2 hP3 hS hl
  exact va_lald hx hb hK hP3 0 1 rfl rfl (i := 0) (by unfold vp_in; decide) hdg (k H locs ls hP1 hP2 hP3 hS hl)
theorem l_sub (hX : lOK P l adC adM ao b L xs) (ks : List Nat) {lv' : List (Nat × Value)} (h : lv_pick lv ks = lv') (k : P σ τ g cells slots pc lv' rest) : P σ τ g cells slots pc lv (rest) := by
  obtain ⟨p, e, s, m, below, meth, c, D, cA, rfl, hAt, hK, hdC, hdM, hao, hCM, hCo, hMo, hfl⟩ := hX
  obtain ⟨hx, hb, hr, hml, hown, hts, hXs, hbl, hlocks, hgv⟩ := hAt
  have hbA : ¬ (fun q : Nat => s.heap.size ≤ q) b := Nat.not_le.mpr hbl
  intro H locs ls hP1 hP2 hP3 hS hl
  exact k H locs ls hP1 hP2 hP3 hS (lv_sub hl ks h)
theorem l_ret (hX : lOK P l adC adM ao b L xs) (hdg : decode code pc = .ok (.ireturn, 1)) (hc : cells ≤ 601024) (hs : slots ≤ 7293034) : P σ τ g cells slots pc lv ([.int 1]) := by
  obtain ⟨p, e, s, m, below, meth, c, D, cA, rfl, hAt, hK, hdC, hdM, hao, hCM, hCo, hMo, hfl⟩ := hX
  obtain ⟨hx, hb, hr, hml, hown, hts, hXs, hbl, hlocks, hgv⟩ := hAt
  have hbA : ¬ (fun q : Nat => s.heap.size ≤ q) b := Nat.not_le.mpr hbl
  intro H locs ls hP1 hP2 hP3 hS hl
  refine va_forget (fun q hq => hS.2.2 q hq) ?_
  refine W.widen hc hs ?_
  exact lw_ret hx hb hr hlocks hdg
theorem l_callIC (hX : lOK P l adC adM ao b L xs) {y : MethodName} {cy : ByteArray} {maxL f n kn idx : Nat} {t1 : vSt} {As stk : List Value} {rt : FieldType} {r : Int32} (hM : vMI l shC adC y cy maxL rt f n σ (.ref (adC 0) :: As) r t1) (hy : vMth y cy maxL (some rt) kn) (hi : vMthV y) (hyc : y.cls = RX11) (hw : Cond.methodLink R_law idx y ∈ vT) (hn : As.length = kn) (hstk : stk = As.reverse ++ .ref (adC 0) :: rest) (hroom : (rest.map fun v => v.category).sum ≤ 8) (hR : f + 1 ≤ room_1.frames ∧ 8 + (maxL + 11) + n ≤ room_1.locals) (hc1 : cells ≤ 601024) (hs1 : slots ≤ 7293034) (hdg : decode code pc = .ok (.invokevirtual idx, 3)) (kk : P t1 τ g cells slots (pc + 3) lv (.int r :: rest)) : P σ τ g cells slots pc lv stk := by
  subst hstk
  obtain ⟨p, e, s, m, below, meth, c, D, cA, rfl, hAt, hK, hdC, hdM, hao, hCM, hCo, hMo, hfl⟩ := hX
  obtain ⟨hx, hb, hr, hml, hown, hts, hXs, hbl, hlocks, hgv⟩ := hAt
  have hbA : ¬ (fun q : Nat => s.heap.size ≤ q) b := Nat.not_le.mpr hbl
  intro H locs ls hP1 hP2 hP3 hS hl
  have hH0 : ∀ q : Nat, s.heap.size ≤ q → (fun q : Nat => s.heap.size ≤ q) q := fun _ h => h
  have hfree := vAd_free hdC (cA := cA) (st := σ) hH0 hS.1
  have htv : ∀ w ∈ vT, w.before #[Value.ref b] s = true := fun w h => hts w (vT_tbl h)
  refine va_calli (va_runV (As := As) (rest := rest) (nL := 7) (Ts := vT) (own := R_law) (C := y.cls) ⟨hx, hb, hml, hown, htv⟩ (hM D cA H.size) ⟨callB_of kn htv (vGood hy.1) rfl rfl rfl (htv _ hy.2.1) (htv _ hw) hy.2.2 hR, htv _ hi.1, htv _ hi.2⟩ ⟨vBlind, by rw [hyc]; exact va_recv hK hP1 (ci := 11) (q0 := 0) rfl rfl, fun U hU hW => ⟨rfl, by rw [hU], by rw [hU]; exact hP1, va_K.moved hW.alike hK, vAd_wk hdC (fun _ _ => trivial)⟩⟩ rfl hn hl.1 rfl (lv_room hroom) hdg ⟨hc1, hs1⟩) hS (fun q _ h => hfree q h) hfree (fun r' u t H1 locs1 ht hvm hw' hB hz1 hk1 hS1 => ?_)
  subst ht
  subst hw'
  exact kk _ locs1 ls hB (wl_kept hP2 hk1 (wl_notA hP2 (fun i hi j hj => hCM i hi j hj))) (one_kept hP3 hk1 (fun z => by
    rcases z with ⟨k, e, hk⟩ | h
    · obtain ⟨h1, h2⟩ := wl_at' hk
      have h3 : adC k = ao := (congrArg Prod.fst h2).symm
      exact hCo k h1 h3
    · exact absurd (va_at.lt (hP3 0 _ rfl)) (Nat.not_lt.mpr h))) hS1 hl
theorem l_callLC (hX : lOK P l adC adM ao b L xs) {y : MethodName} {cy : ByteArray} {maxL f n kn idx : Nat} {t1 : vSt} {As stk : List Value} {r : Int64} (hM : vML l shC adC y cy maxL f n σ (.ref (adC 0) :: As) r t1) (hy : vMth y cy maxL (some .long) kn) (hi : vMthV y) (hyc : y.cls = RX11) (hw : Cond.methodLink R_law idx y ∈ vT) (hn : As.length = kn) (hstk : stk = As.reverse ++ .ref (adC 0) :: rest) (hroom : (rest.map fun v => v.category).sum ≤ 8) (hR : f + 1 ≤ room_1.frames ∧ 8 + (maxL + 11) + n ≤ room_1.locals) (hc1 : cells ≤ 601024) (hs1 : slots ≤ 7293034) (hdg : decode code pc = .ok (.invokevirtual idx, 3)) (kk : P t1 τ g cells slots (pc + 3) lv (.long r :: rest)) : P σ τ g cells slots pc lv stk := by
  subst hstk
  obtain ⟨p, e, s, m, below, meth, c, D, cA, rfl, hAt, hK, hdC, hdM, hao, hCM, hCo, hMo, hfl⟩ := hX
  obtain ⟨hx, hb, hr, hml, hown, hts, hXs, hbl, hlocks, hgv⟩ := hAt
  have hbA : ¬ (fun q : Nat => s.heap.size ≤ q) b := Nat.not_le.mpr hbl
  intro H locs ls hP1 hP2 hP3 hS hl
  have hH0 : ∀ q : Nat, s.heap.size ≤ q → (fun q : Nat => s.heap.size ≤ q) q := fun _ h => h
  have hfree := vAd_free hdC (cA := cA) (st := σ) hH0 hS.1
  have htv : ∀ w ∈ vT, w.before #[Value.ref b] s = true := fun w h => hts w (vT_tbl h)
  refine va_calll (va_runV (As := As) (rest := rest) (nL := 7) (Ts := vT) (own := R_law) (C := y.cls) ⟨hx, hb, hml, hown, htv⟩ (hM D cA H.size) ⟨callB_of kn htv (vGood hy.1) rfl rfl rfl (htv _ hy.2.1) (htv _ hw) hy.2.2 hR, htv _ hi.1, htv _ hi.2⟩ ⟨vBlind, by rw [hyc]; exact va_recv hK hP1 (ci := 11) (q0 := 0) rfl rfl, fun U hU hW => ⟨rfl, by rw [hU], by rw [hU]; exact hP1, va_K.moved hW.alike hK, vAd_wk hdC (fun _ _ => trivial)⟩⟩ rfl hn hl.1 rfl (lv_room hroom) hdg ⟨hc1, hs1⟩) hS (fun q _ h => hfree q h) hfree (fun r' u t H1 locs1 ht hvm hw' hB hz1 hk1 hS1 => ?_)
  subst ht
  subst hw'
  exact kk _ locs1 ls hB (wl_kept hP2 hk1 (wl_notA hP2 (fun i hi j hj => hCM i hi j hj))) (one_kept hP3 hk1 (fun z => by
    rcases z with ⟨k, e, hk⟩ | h
    · obtain ⟨h1, h2⟩ := wl_at' hk
      have h3 : adC k = ao := (congrArg Prod.fst h2).symm
      exact hCo k h1 h3
    · exact absurd (va_at.lt (hP3 0 _ rfl)) (Nat.not_lt.mpr h))) hS1 hl
theorem l_callIM (hX : lOK P l adC adM ao b L xs) {y : MethodName} {cy : ByteArray} {maxL f n kn idx : Nat} {t1 : vSt} {As stk : List Value} {rt : FieldType} {r : Int32} (hM : vMI l shM adM y cy maxL rt f n τ (.ref (adM 0) :: As) r t1) (hy : vMth y cy maxL (some rt) kn) (hi : vMthV y) (hyc : y.cls = RX12) (hw : Cond.methodLink R_law idx y ∈ vT) (hn : As.length = kn) (hstk : stk = As.reverse ++ .ref (adM 0) :: rest) (hroom : (rest.map fun v => v.category).sum ≤ 8) (hR : f + 1 ≤ room_1.frames ∧ 8 + (maxL + 11) + n ≤ room_1.locals) (hc1 : cells ≤ 601024) (hs1 : slots ≤ 7293034) (hdg : decode code pc = .ok (.invokevirtual idx, 3)) (kk : P σ t1 g cells slots (pc + 3) lv (.int r :: rest)) : P σ τ g cells slots pc lv stk := by
  subst hstk
  obtain ⟨p, e, s, m, below, meth, c, D, cA, rfl, hAt, hK, hdC, hdM, hao, hCM, hCo, hMo, hfl⟩ := hX
  obtain ⟨hx, hb, hr, hml, hown, hts, hXs, hbl, hlocks, hgv⟩ := hAt
  have hbA : ¬ (fun q : Nat => s.heap.size ≤ q) b := Nat.not_le.mpr hbl
  intro H locs ls hP1 hP2 hP3 hS hl
  have hH0 : ∀ q : Nat, s.heap.size ≤ q → (fun q : Nat => s.heap.size ≤ q) q := fun _ h => h
  have hfree := vAd_free hdM (cA := cA) (st := τ) hH0 hS.1
  have htv : ∀ w ∈ vT, w.before #[Value.ref b] s = true := fun w h => hts w (vT_tbl h)
  refine va_calli (va_runV (As := As) (rest := rest) (nL := 7) (Ts := vT) (own := R_law) (C := y.cls) ⟨hx, hb, hml, hown, htv⟩ (hM D cA H.size) ⟨callB_of kn htv (vGood hy.1) rfl rfl rfl (htv _ hy.2.1) (htv _ hw) hy.2.2 hR, htv _ hi.1, htv _ hi.2⟩ ⟨vBlind, by rw [hyc]; exact va_recv hK hP2 (ci := 12) (q0 := 0) rfl rfl, fun U hU hW => ⟨rfl, by rw [hU], by rw [hU]; exact hP2, va_K.moved hW.alike hK, vAd_wk hdM (fun _ _ => trivial)⟩⟩ rfl hn hl.1 rfl (lv_room hroom) hdg ⟨hc1, hs1⟩) hS (fun q _ h => hfree q h) hfree (fun r' u t H1 locs1 ht hvm hw' hB hz1 hk1 hS1 => ?_)
  subst ht
  subst hw'
  exact kk _ locs1 ls (wl_kept hP1 hk1 (wl_notA hP1 (fun i hi j hj z => hCM j hj i hi z.symm))) hB (one_kept hP3 hk1 (fun z => by
    rcases z with ⟨k, e, hk⟩ | h
    · obtain ⟨h1, h2⟩ := wl_at' hk
      have h3 : adM k = ao := (congrArg Prod.fst h2).symm
      exact hMo k h1 h3
    · exact absurd (va_at.lt (hP3 0 _ rfl)) (Nat.not_lt.mpr h))) hS1 hl
theorem l_callLM (hX : lOK P l adC adM ao b L xs) {y : MethodName} {cy : ByteArray} {maxL f n kn idx : Nat} {t1 : vSt} {As stk : List Value} {r : Int64} (hM : vML l shM adM y cy maxL f n τ (.ref (adM 0) :: As) r t1) (hy : vMth y cy maxL (some .long) kn) (hi : vMthV y) (hyc : y.cls = RX12) (hw : Cond.methodLink R_law idx y ∈ vT) (hn : As.length = kn) (hstk : stk = As.reverse ++ .ref (adM 0) :: rest) (hroom : (rest.map fun v => v.category).sum ≤ 8) (hR : f + 1 ≤ room_1.frames ∧ 8 + (maxL + 11) + n ≤ room_1.locals) (hc1 : cells ≤ 601024) (hs1 : slots ≤ 7293034) (hdg : decode code pc = .ok (.invokevirtual idx, 3)) (kk : P σ t1 g cells slots (pc + 3) lv (.long r :: rest)) : P σ τ g cells slots pc lv stk := by
  subst hstk
  obtain ⟨p, e, s, m, below, meth, c, D, cA, rfl, hAt, hK, hdC, hdM, hao, hCM, hCo, hMo, hfl⟩ := hX
  obtain ⟨hx, hb, hr, hml, hown, hts, hXs, hbl, hlocks, hgv⟩ := hAt
  have hbA : ¬ (fun q : Nat => s.heap.size ≤ q) b := Nat.not_le.mpr hbl
  intro H locs ls hP1 hP2 hP3 hS hl
  have hH0 : ∀ q : Nat, s.heap.size ≤ q → (fun q : Nat => s.heap.size ≤ q) q := fun _ h => h
  have hfree := vAd_free hdM (cA := cA) (st := τ) hH0 hS.1
  have htv : ∀ w ∈ vT, w.before #[Value.ref b] s = true := fun w h => hts w (vT_tbl h)
  refine va_calll (va_runV (As := As) (rest := rest) (nL := 7) (Ts := vT) (own := R_law) (C := y.cls) ⟨hx, hb, hml, hown, htv⟩ (hM D cA H.size) ⟨callB_of kn htv (vGood hy.1) rfl rfl rfl (htv _ hy.2.1) (htv _ hw) hy.2.2 hR, htv _ hi.1, htv _ hi.2⟩ ⟨vBlind, by rw [hyc]; exact va_recv hK hP2 (ci := 12) (q0 := 0) rfl rfl, fun U hU hW => ⟨rfl, by rw [hU], by rw [hU]; exact hP2, va_K.moved hW.alike hK, vAd_wk hdM (fun _ _ => trivial)⟩⟩ rfl hn hl.1 rfl (lv_room hroom) hdg ⟨hc1, hs1⟩) hS (fun q _ h => hfree q h) hfree (fun r' u t H1 locs1 ht hvm hw' hB hz1 hk1 hS1 => ?_)
  subst ht
  subst hw'
  exact kk _ locs1 ls (wl_kept hP1 hk1 (wl_notA hP1 (fun i hi j hj z => hCM j hj i hi z.symm))) hB (one_kept hP3 hk1 (fun z => by
    rcases z with ⟨k, e, hk⟩ | h
    · obtain ⟨h1, h2⟩ := wl_at' hk
      have h3 : adM k = ao := (congrArg Prod.fst h2).symm
      exact hMo k h1 h3
    · exact absurd (va_at.lt (hP3 0 _ rfl)) (Nat.not_lt.mpr h))) hS1 hl
end LW
