
theorem vArrOf {s : State} {args : Array Value} {ty : FieldType} (hp : refKind ty = false) (h : (Cond.arrayClass ty).before args s = true) : ∃ cA, ArrOfT s cA ty ∧ s.vm.findClass ("[" ++ ty.toString) = some cA := by
  obtain ⟨cA, kA, comp, h1, h2, h3⟩ := Cond.arrayClass_spec h
  exact ⟨cA, fun n z => ⟨fun k h => (by cases h), kA, h2, comp, h3⟩, h1⟩
def vN (s : State) : Prop := va_Nw (.methodLinkNest RX11 11 yX10_init "EachAddsALine") s ∧ va_Nw (.methodLinkNest RX11 18 yX2_init "EachAddsALine") s ∧ va_Nw (.methodLinkNest RX11 25 yX6_init "EachAddsALine") s ∧ va_Nw (.methodLinkNest RX11 41 yX7_init "EachAddsALine") s ∧ va_Nw (.methodLinkNest RX4 11 yX1_init "EachAddsALine") s ∧ va_AO "EachAddsALine$Letters" s
theorem vN_warm {s U : State} (hW : s.WarmedH U.vm) (h : vN s) : vN U := by
  obtain ⟨n0, n1, n2, n3, n4, ha⟩ := h
  exact ⟨va_Nw.warmM hW n0, va_Nw.warmM hW n1, va_Nw.warmM hW n2, va_Nw.warmM hW n3, va_Nw.warmM hW n4, va_AO.moved hW.alike ha⟩
theorem vN_same {s U : State} (hv : s.vm = U.vm) (h : vN s) : vN U := by
  obtain ⟨n0, n1, n2, n3, n4, ha⟩ := h
  exact ⟨va_Nw.same rfl hv n0, va_Nw.same rfl hv n1, va_Nw.same rfl hv n2, va_Nw.same rfl hv n3, va_Nw.same rfl hv n4, va_AO.moved (by rw [← hv]; exact Vm.Alike.refl _) ha⟩
abbrev cP : Type := va_W → Nat → Nat → Nat → List (Nat × Value) → List Value → Prop
def cOK (Y : cP) (l : Launch) (R : Room) (cc : ByteArray) (own : String) (nL : Nat) (D : va_G) (cA : Nat → ClassId) (A : Nat → Prop) (isI : Bool) : Prop :=
  ∃ (p : Program) (e : Env) (s : State) (m : MethodId) (args : Array Value) (below : List Frame) (meth : Method) (c : Code) (H0 : Heap) (Q : State → Prop),
    Y = (fun ws cells slots pc lv stk => ∀ (H : Heap) (locs : List Loc) (ls : Array Slot), va_P D vCl ws H → va_D A ws → va_S A H0 H locs → lv_has ls nL lv → W p l e R s m args below meth c H locs cells slots Q (F0 m pc ls stk)) ∧
    p.tables.exec = Jvm.exec ∧ c.code = cc ∧ c.maxLocals = nL ∧ s.vm.findClass own = some m.cls ∧ (∀ w ∈ vT, w.before args s = true) ∧ va_K D vCl (vTys cA) s ∧ (∀ q, H0.size ≤ q → A q) ∧ (isI = true → meth.name = "<init>") ∧ vN s
def cM (l : Launch) (D : va_G) (cA : Nat → ClassId) (y : MethodName) (cy : ByteArray) (maxL f n mc ms : Nat) (wc : va_W) (as : List Value) (B : va_W → Prop) : Prop :=
  ∀ sz : Nat, Met l y (.code y cy maxL none :: vT) ({ frames := f, cells := mc, slots := ms, locals := n } : Room) (va_Pc as (fun U => U.heap.size = sz ∧ va_P D vCl wc U.heap ∧ va_K D vCl (vTys cA) U ∧ va_D (fun _ => True) wc ∧ vN U)) (va_Qv (fun (_ : Unit) => True) (fun _ t => ∃ w1, B w1 ∧ va_P D vCl w1 t.heap ∧ va_D (va_A wc sz) w1) (va_A wc sz)) mc ms (va_A wc sz)
section CT
variable {Y : cP} {l : Launch} {R : Room} {cc : ByteArray} {own : String} {nL pc cells slots : Nat} {D : va_G} {cA : Nat → ClassId} {A : Nat → Prop} {isI : Bool} {ws ws' : va_W} {lv : List (Nat × Value)} {rest : List Value}

theorem y_iconst (hX : cOK Y l R cc own nL D cA A isI) {n : Int} {v : Int32} (hdg : decode cc pc = .ok (.iconst n, 1)) (hv : Int32.ofInt n = v) (k : Y ws cells slots (pc + 1) lv (.int v :: rest)) : Y ws cells slots pc lv (rest) := by
  obtain ⟨p, e, s, m, args, below, meth, c, H0, Q, rfl, hx, hb, hml, hown, hts, hK, hH0, hI, hZ⟩ := hX
  intro H locs ls hP hD hS hl
  exact lv_iconst hx hb hdg hv (k H locs ls hP hD hS hl)
theorem y_bipush (hX : cOK Y l R cc own nL D cA A isI) {n : Int} {v : Int32} (hdg : decode cc pc = .ok (.bipush n, 2)) (hv : (Int8.ofInt n).toInt32 = v) (k : Y ws cells slots (pc + 2) lv (.int v :: rest)) : Y ws cells slots pc lv (rest) := by
  obtain ⟨p, e, s, m, args, below, meth, c, H0, Q, rfl, hx, hb, hml, hown, hts, hK, hH0, hI, hZ⟩ := hX
  intro H locs ls hP hD hS hl
  exact lv_bipush hx hb hdg hv (k H locs ls hP hD hS hl)
theorem y_sipush (hX : cOK Y l R cc own nL D cA A isI) {n : Int} {v : Int32} (hdg : decode cc pc = .ok (.sipush n, 3)) (hv : (Int16.ofInt n).toInt32 = v) (k : Y ws cells slots (pc + 3) lv (.int v :: rest)) : Y ws cells slots pc lv (rest) := by
  obtain ⟨p, e, s, m, args, below, meth, c, H0, Q, rfl, hx, hb, hml, hown, hts, hK, hH0, hI, hZ⟩ := hX
  intro H locs ls hP hD hS hl
  exact lv_sipush hx hb hdg hv (k H locs ls hP hD hS hl)
theorem y_dup (hX : cOK Y l R cc own nL D cA A isI) {va : Value} (hdg : decode cc pc = .ok (.dup, 1)) (hva : va.category = 1) (k : Y ws cells slots (pc + 1) lv (va :: va :: rest)) : Y ws cells slots pc lv (va :: rest) := by
  obtain ⟨p, e, s, m, args, below, meth, c, H0, Q, rfl, hx, hb, hml, hown, hts, hK, hH0, hI, hZ⟩ := hX
  intro H locs ls hP hD hS hl
  exact lv_dup hx hb hdg hva (k H locs ls hP hD hS hl)
theorem y_iload_n (hX : cOK Y l R cc own nL D cA A isI) {n : Fin 4} {i : Nat} {x : Int32} (hdg : decode cc pc = .ok (.iload_n n, 1)) (hi : (n : Nat) = i) (j : Nat) (hj : lv[j]? = some (i, .int x)) (k : Y ws cells slots (pc + 1) lv (.int x :: rest)) : Y ws cells slots pc lv (rest) := by
  obtain ⟨p, e, s, m, args, below, meth, c, H0, Q, rfl, hx, hb, hml, hown, hts, hK, hH0, hI, hZ⟩ := hX
  intro H locs ls hP hD hS hl
  exact lv_iload_n hx hb hdg hi (lv_at hl j hj) (k H locs ls hP hD hS hl)
theorem y_aload_n (hX : cOK Y l R cc own nL D cA A isI) {n : Fin 4} {i : Nat} {x : Nat} (hdg : decode cc pc = .ok (.aload_n n, 1)) (hi : (n : Nat) = i) (j : Nat) (hj : lv[j]? = some (i, .ref x)) (k : Y ws cells slots (pc + 1) lv (.ref x :: rest)) : Y ws cells slots pc lv (rest) := by
  obtain ⟨p, e, s, m, args, below, meth, c, H0, Q, rfl, hx, hb, hml, hown, hts, hK, hH0, hI, hZ⟩ := hX
  intro H locs ls hP hD hS hl
  exact lv_aload_n hx hb hdg hi (lv_at hl j hj) (k H locs ls hP hD hS hl)
theorem y_istore_n (hX : cOK Y l R cc own nL D cA A isI) {n : Fin 4} {i : Nat} {x : Int32} {lv' : List (Nat × Value)} (hdg : decode cc pc = .ok (.istore_n n, 1)) (hi : (n : Nat) = i) (hn : i < nL) (hl' : (i, Value.int x) :: lv.filter (fun q => !(q.1 == i) && !(q.1 + 1 == i && q.2.category == 2)) = lv') (k : Y ws cells slots (pc + 1) lv' rest) : Y ws cells slots pc lv (.int x :: rest) := by
  obtain ⟨p, e, s, m, args, below, meth, c, H0, Q, rfl, hx, hb, hml, hown, hts, hK, hH0, hI, hZ⟩ := hX
  intro H locs ls hP hD hS hl
  exact lv_istore_n hx hb hdg hi hl hn hl' (fun ls' hl2 => k H locs ls' hP hD hS hl2)
theorem y_astore_n (hX : cOK Y l R cc own nL D cA A isI) {n : Fin 4} {i : Nat} {x : Nat} {lv' : List (Nat × Value)} (hdg : decode cc pc = .ok (.astore_n n, 1)) (hi : (n : Nat) = i) (hn : i < nL) (hl' : (i, Value.ref x) :: lv.filter (fun q => !(q.1 == i) && !(q.1 + 1 == i && q.2.category == 2)) = lv') (k : Y ws cells slots (pc + 1) lv' rest) : Y ws cells slots pc lv (.ref x :: rest) := by
  obtain ⟨p, e, s, m, args, below, meth, c, H0, Q, rfl, hx, hb, hml, hown, hts, hK, hH0, hI, hZ⟩ := hX
  intro H locs ls hP hD hS hl
  exact lv_astore_n hx hb hdg hi hl hn hl' (fun ls' hl2 => k H locs ls' hP hD hS hl2)
theorem y_iinc (hX : cOK Y l R cc own nL D cA A isI) {i j : Nat} {n : Int} {x v : Int32} {lv' : List (Nat × Value)} (hdg : decode cc pc = .ok (.iinc i n, 3)) (hj : lv[j]? = some (i, .int x)) (hv : x + Int32.ofInt n = v) (hn : i < nL) (hl' : (i, Value.int v) :: lv.filter (fun q => !(q.1 == i) && !(q.1 + 1 == i && q.2.category == 2)) = lv') (k : Y ws cells slots (pc + 3) lv' rest) : Y ws cells slots pc lv (rest) := by
  obtain ⟨p, e, s, m, args, below, meth, c, H0, Q, rfl, hx, hb, hml, hown, hts, hK, hH0, hI, hZ⟩ := hX
  intro H locs ls hP hD hS hl
  exact lv_iinc hx hb hdg hl hj hv hn hl' (fun ls' hl2 => k H locs ls' hP hD hS hl2)
theorem y_geT (hX : cOK Y l R cc own nL D cA A isI) {x y : Int32} {off : Int} {tgt : Nat} (hdg : decode cc pc = .ok (.if_icmp .ge off, 3)) (ht : (pc : Int) + off = (tgt : Int)) (hc : y ≤ x) (k : Y ws cells slots tgt lv rest) : Y ws cells slots pc lv (.int y :: .int x :: rest) := by
  obtain ⟨p, e, s, m, args, below, meth, c, H0, Q, rfl, hx, hb, hml, hown, hts, hK, hH0, hI, hZ⟩ := hX
  intro H locs ls hP hD hS hl
  exact lv_icmp_ge hx hb hdg ht (fun _ => (k H locs ls hP hD hS hl)) (fun z => absurd hc z)
theorem y_geF (hX : cOK Y l R cc own nL D cA A isI) {x y : Int32} {off : Int} {tgt : Nat} (hdg : decode cc pc = .ok (.if_icmp .ge off, 3)) (ht : (pc : Int) + off = (tgt : Int)) (hc : ¬ y ≤ x) (k : Y ws cells slots (pc + 3) lv rest) : Y ws cells slots pc lv (.int y :: .int x :: rest) := by
  obtain ⟨p, e, s, m, args, below, meth, c, H0, Q, rfl, hx, hb, hml, hown, hts, hK, hH0, hI, hZ⟩ := hX
  intro H locs ls hP hD hS hl
  exact lv_icmp_ge hx hb hdg ht (fun z => absurd z hc) (fun _ => (k H locs ls hP hD hS hl))
theorem y_goto (hX : cOK Y l R cc own nL D cA A isI) {off : Int} {tgt : Nat} (hdg : decode cc pc = .ok (.goto off, 3)) (ht : (pc : Int) + off = (tgt : Int)) (k : Y ws cells slots tgt lv rest) : Y ws cells slots pc lv (rest) := by
  obtain ⟨p, e, s, m, args, below, meth, c, H0, Q, rfl, hx, hb, hml, hown, hts, hK, hH0, hI, hZ⟩ := hX
  intro H locs ls hP hD hS hl
  exact lv_goto hx hb hdg ht (k H locs ls hP hD hS hl)
theorem y_ldc (hX : cOK Y l R cc own nL D cA A isI) {idx : Nat} {v : Int32} (hw : Cond.constant own idx v ∈ vT) (hdg : decode cc pc = .ok (.ldc idx, 2)) (k : Y ws cells slots (pc + 2) lv (.int v :: rest)) : Y ws cells slots pc lv (rest) := by
  obtain ⟨p, e, s, m, args, below, meth, c, H0, Q, rfl, hx, hb, hml, hown, hts, hK, hH0, hI, hZ⟩ := hX
  intro H locs ls hP hD hS hl
  exact lv_ldc hx hb hown (hts _ hw) hdg (k H locs ls hP hD hS hl)
theorem y_get (hX : cOK Y l R cc own nL D cA A isI) {q0 k0 ci N a : Nat} {C : String} {T : u_T} {fs : List Value} (he : ws[q0]? = some (a, .inr (ci, fs))) (hc : vCl[ci]? = some (C, T, N)) (hin : ∀ w ∈ u_ws C T N, w ∈ vT) (hk : k0 < N) {v : Value} (hv : fs[k0]? = some v) {idx : Nat} (hw : Cond.fieldLink own idx (T k0).1 (T k0).2.1 (T k0).2.2.1 ∈ vT) (hdg : decode cc pc = .ok (.getfield idx, 3)) (k : Y ws cells slots (pc + 3) lv (v :: rest)) : Y ws cells slots pc lv (.ref a :: rest) := by
  obtain ⟨p, e, s, m, args, below, meth, c, H0, Q, rfl, hx, hb, hml, hown, hts, hK, hH0, hI, hZ⟩ := hX
  intro H locs ls hP hD hS hl
  exact va_get hx hb hts hin hown hK hP q0 he hc k0 hk (hts _ hw) (fun _ h9 => h9) hv hdg (k H locs ls hP hD hS hl)
theorem y_put (hX : cOK Y l R cc own nL D cA A isI) {q0 k0 ci N a : Nat} {C : String} {T : u_T} {fs : List Value} (he : ws[q0]? = some (a, .inr (ci, fs))) (hc : vCl[ci]? = some (C, T, N)) (hin : ∀ w ∈ u_ws C T N, w ∈ vT) (hk : k0 < N) (ty0 : Nat → FieldType) (hty : ∀ k, k < N → parseFieldDescriptor (T k).2.2.1 = some (ty0 k)) (hnm : ∀ a, a < N → ∀ b, b < N → a ≠ b → (T a).2.1 ≠ (T b).2.1) {v : Value} (hfin : (T k0).2.2.2 = false) {ty : FieldType} (hd : parseFieldDescriptor (T k0).2.2.1 = some ty) (hn : narrow ty v = v) (hfit : fits ty v = true) (hlen : k0 < fs.length) (hws : ws.set q0 (a, .inr (ci, fs.set k0 v)) = ws') {idx : Nat} (hw : Cond.fieldLink own idx (T k0).1 (T k0).2.1 (T k0).2.2.1 ∈ vT) (hdg : decode cc pc = .ok (.putfield idx, 3)) (k : Y ws' cells slots (pc + 3) lv rest) : Y ws cells slots pc lv (v :: .ref a :: rest) := by
  obtain ⟨p, e, s, m, args, below, meth, c, H0, Q, rfl, hx, hb, hml, hown, hts, hK, hH0, hI, hZ⟩ := hX
  intro H locs ls hP hD hS hl
  subst hws
  exact va_put hx hb hts hin ty0 hty hnm hown hK hP hD hS q0 he hc k0 hk (hts _ hw) (fun _ h9 => h9) hfin hd hn hfit hlen hdg (fun H1 locs1 hP1 hD1 hS1 => k H1 locs1 ls hP1 hD1 hS1 hl)
theorem y_putF (hX : cOK Y l R cc own nL D cA A isI) {q0 k0 ci N a : Nat} {C : String} {T : u_T} {fs : List Value} (he : ws[q0]? = some (a, .inr (ci, fs))) (hc : vCl[ci]? = some (C, T, N)) (hin : ∀ w ∈ u_ws C T N, w ∈ vT) (hk : k0 < N) (ty0 : Nat → FieldType) (hty : ∀ k, k < N → parseFieldDescriptor (T k).2.2.1 = some (ty0 k)) (hnm : ∀ a, a < N → ∀ b, b < N → a ≠ b → (T a).2.1 ≠ (T b).2.1) {v : Value} (hfin : (T k0).2.2.2 = true) (hiI : isI = true) (hdecl : (T k0).1 = own) {ty : FieldType} (hd : parseFieldDescriptor (T k0).2.2.1 = some ty) (hn : narrow ty v = v) (hfit : fits ty v = true) (hlen : k0 < fs.length) (hws : ws.set q0 (a, .inr (ci, fs.set k0 v)) = ws') {idx : Nat} (hw : Cond.fieldLink own idx (T k0).1 (T k0).2.1 (T k0).2.2.1 ∈ vT) (hdg : decode cc pc = .ok (.putfield idx, 3)) (k : Y ws' cells slots (pc + 3) lv rest) : Y ws cells slots pc lv (v :: .ref a :: rest) := by
  obtain ⟨p, e, s, m, args, below, meth, c, H0, Q, rfl, hx, hb, hml, hown, hts, hK, hH0, hI, hZ⟩ := hX
  intro H locs ls hP hD hS hl
  subst hws
  exact va_putF hx hb hts hin ty0 hty hnm hown hK hP hD hS q0 he hc k0 hk (hts _ hw) (fun _ h9 => h9) hfin (hI hiI) hdecl hd hn hfit hlen hdg (fun H1 locs1 hP1 hD1 hS1 => k H1 locs1 ls hP1 hD1 hS1 hl)
theorem y_new (hX : cOK Y l R cc own nL D cA A isI) {C : String} {T : u_T} {N ci idx : Nat} {fs : List Value} (hin : ∀ w ∈ u_ws C T N, w ∈ vT) (ty : Nat → FieldType) (hty : ∀ k, k < N → parseFieldDescriptor (T k).2.2.1 = some (ty k)) (hcl : Cond.classLink own idx C ∈ vT) (hinst : Cond.instantiable C N ∈ vT) (hini : Cond.initialized C ∈ vT) (hc : vCl[ci]? = some (C, T, N)) (hfs : ∀ j, j < N → defaultValue (ty j) = vp_V fs j) (hcells : cells + 1 ≤ R.cells) (hslots : slots + N ≤ R.slots) (hdg : decode cc pc = .ok (.new idx, 3)) (k : ∀ q : Nat, Y (ws ++ [(q, .inr (ci, fs))]) (cells + 1) (slots + N) (pc + 3) lv (.ref q :: rest)) : Y ws cells slots pc lv (rest) := by
  obtain ⟨p, e, s, m, args, below, meth, c, H0, Q, rfl, hx, hb, hml, hown, hts, hK, hH0, hI, hZ⟩ := hX
  intro H locs ls hP hD hS hl
  exact va_new hx hb hts hin ty hty hown (hts _ hcl) (hts _ hinst) (hts _ hini) hK hP hD hS hH0 hc hfs hcells hslots hdg (fun q H1 hP1 hD1 hS1 => k q H1 locs ls hP1 hD1 hS1 hl)
theorem y_newa_int (hX : cOK Y l R cc own nL D cA A isI) {n : Int32} {N' : Nat} (harr : Cond.arrayClass .int ∈ vT) (hn : ¬ n < 0) (hN : n.toNatClampNeg = N') (hbytes : N' * componentBytes .int ≤ 536870912) (hcells : cells + 1 ≤ R.cells) (hslots : slots + N' ≤ R.slots) (hdg : decode cc pc = .ok (.newarray .int, 2)) (k : ∀ q : Nat, Y (ws ++ [(q, .inl (cA 0, N', .inl (fun _ => 0)))]) (cells + 1) (slots + N') (pc + 2) lv (.ref q :: rest)) : Y ws cells slots pc lv (.int n :: rest) := by
  obtain ⟨p, e, s, m, args, below, meth, c, H0, Q, rfl, hx, hb, hml, hown, hts, hK, hH0, hI, hZ⟩ := hX
  intro H locs ls hP hD hS hl
  refine va_newa (atype := .int) (ty := .int) (a0 := (N', .inl (fun _ => 0))) hx hb (hts _ harr) rfl hK hP hD hS hH0 (fun _ => rfl) hn hN hbytes hcells hslots hdg (fun q cB H1 hK1 hP1 hD1 hS1 => ?_)
  have h1 : s.vm.findClass ("[" ++ FieldType.toString .int) = some cB := (hK1.2 6 (cB, .int) rfl).2
  have h2 : s.vm.findClass ("[" ++ FieldType.toString .int) = some (cA 0) := (hK.2 0 (cA 0, .int) rfl).2
  obtain rfl : cA 0 = cB := Option.some.inj (h2.symm.trans h1)
  exact k q H1 locs ls hP1 hD1 hS1 hl
theorem y_newa_long (hX : cOK Y l R cc own nL D cA A isI) {n : Int32} {N' : Nat} (harr : Cond.arrayClass .long ∈ vT) (hn : ¬ n < 0) (hN : n.toNatClampNeg = N') (hbytes : N' * componentBytes .long ≤ 536870912) (hcells : cells + 1 ≤ R.cells) (hslots : slots + N' ≤ R.slots) (hdg : decode cc pc = .ok (.newarray .long, 2)) (k : ∀ q : Nat, Y (ws ++ [(q, .inl (cA 1, N', .inr (.inl (fun _ => 0))))]) (cells + 1) (slots + N') (pc + 2) lv (.ref q :: rest)) : Y ws cells slots pc lv (.int n :: rest) := by
  obtain ⟨p, e, s, m, args, below, meth, c, H0, Q, rfl, hx, hb, hml, hown, hts, hK, hH0, hI, hZ⟩ := hX
  intro H locs ls hP hD hS hl
  refine va_newa (atype := .long) (ty := .long) (a0 := (N', .inr (.inl (fun _ => 0)))) hx hb (hts _ harr) rfl hK hP hD hS hH0 (fun _ => rfl) hn hN hbytes hcells hslots hdg (fun q cB H1 hK1 hP1 hD1 hS1 => ?_)
  have h1 : s.vm.findClass ("[" ++ FieldType.toString .long) = some cB := (hK1.2 6 (cB, .long) rfl).2
  have h2 : s.vm.findClass ("[" ++ FieldType.toString .long) = some (cA 1) := (hK.2 1 (cA 1, .long) rfl).2
  obtain rfl : cA 1 = cB := Option.some.inj (h2.symm.trans h1)
  exact k q H1 locs ls hP1 hD1 hS1 hl
theorem y_newa_byte (hX : cOK Y l R cc own nL D cA A isI) {n : Int32} {N' : Nat} (harr : Cond.arrayClass .byte ∈ vT) (hn : ¬ n < 0) (hN : n.toNatClampNeg = N') (hbytes : N' * componentBytes .byte ≤ 536870912) (hcells : cells + 1 ≤ R.cells) (hslots : slots + N' ≤ R.slots) (hdg : decode cc pc = .ok (.newarray .byte, 2)) (k : ∀ q : Nat, Y (ws ++ [(q, .inl (cA 2, N', .inl (fun _ => 0)))]) (cells + 1) (slots + N') (pc + 2) lv (.ref q :: rest)) : Y ws cells slots pc lv (.int n :: rest) := by
  obtain ⟨p, e, s, m, args, below, meth, c, H0, Q, rfl, hx, hb, hml, hown, hts, hK, hH0, hI, hZ⟩ := hX
  intro H locs ls hP hD hS hl
  refine va_newa (atype := .byte) (ty := .byte) (a0 := (N', .inl (fun _ => 0))) hx hb (hts _ harr) rfl hK hP hD hS hH0 (fun _ => rfl) hn hN hbytes hcells hslots hdg (fun q cB H1 hK1 hP1 hD1 hS1 => ?_)
  have h1 : s.vm.findClass ("[" ++ FieldType.toString .byte) = some cB := (hK1.2 6 (cB, .byte) rfl).2
  have h2 : s.vm.findClass ("[" ++ FieldType.toString .byte) = some (cA 2) := (hK.2 2 (cA 2, .byte) rfl).2
  obtain rfl : cA 2 = cB := Option.some.inj (h2.symm.trans h1)
  exact k q H1 locs ls hP1 hD1 hS1 hl
theorem y_newa_char (hX : cOK Y l R cc own nL D cA A isI) {n : Int32} {N' : Nat} (harr : Cond.arrayClass .char ∈ vT) (hn : ¬ n < 0) (hN : n.toNatClampNeg = N') (hbytes : N' * componentBytes .char ≤ 536870912) (hcells : cells + 1 ≤ R.cells) (hslots : slots + N' ≤ R.slots) (hdg : decode cc pc = .ok (.newarray .char, 2)) (k : ∀ q : Nat, Y (ws ++ [(q, .inl (cA 3, N', .inl (fun _ => 0)))]) (cells + 1) (slots + N') (pc + 2) lv (.ref q :: rest)) : Y ws cells slots pc lv (.int n :: rest) := by
  obtain ⟨p, e, s, m, args, below, meth, c, H0, Q, rfl, hx, hb, hml, hown, hts, hK, hH0, hI, hZ⟩ := hX
  intro H locs ls hP hD hS hl
  refine va_newa (atype := .char) (ty := .char) (a0 := (N', .inl (fun _ => 0))) hx hb (hts _ harr) rfl hK hP hD hS hH0 (fun _ => rfl) hn hN hbytes hcells hslots hdg (fun q cB H1 hK1 hP1 hD1 hS1 => ?_)
  have h1 : s.vm.findClass ("[" ++ FieldType.toString .char) = some cB := (hK1.2 6 (cB, .char) rfl).2
  have h2 : s.vm.findClass ("[" ++ FieldType.toString .char) = some (cA 3) := (hK.2 3 (cA 3, .char) rfl).2
  obtain rfl : cA 3 = cB := Option.some.inj (h2.symm.trans h1)
  exact k q H1 locs ls hP1 hD1 hS1 hl
theorem y_newa_boolean (hX : cOK Y l R cc own nL D cA A isI) {n : Int32} {N' : Nat} (harr : Cond.arrayClass .boolean ∈ vT) (hn : ¬ n < 0) (hN : n.toNatClampNeg = N') (hbytes : N' * componentBytes .boolean ≤ 536870912) (hcells : cells + 1 ≤ R.cells) (hslots : slots + N' ≤ R.slots) (hdg : decode cc pc = .ok (.newarray .boolean, 2)) (k : ∀ q : Nat, Y (ws ++ [(q, .inl (cA 4, N', .inl (fun _ => 0)))]) (cells + 1) (slots + N') (pc + 2) lv (.ref q :: rest)) : Y ws cells slots pc lv (.int n :: rest) := by
  obtain ⟨p, e, s, m, args, below, meth, c, H0, Q, rfl, hx, hb, hml, hown, hts, hK, hH0, hI, hZ⟩ := hX
  intro H locs ls hP hD hS hl
  refine va_newa (atype := .boolean) (ty := .boolean) (a0 := (N', .inl (fun _ => 0))) hx hb (hts _ harr) rfl hK hP hD hS hH0 (fun _ => rfl) hn hN hbytes hcells hslots hdg (fun q cB H1 hK1 hP1 hD1 hS1 => ?_)
  have h1 : s.vm.findClass ("[" ++ FieldType.toString .boolean) = some cB := (hK1.2 6 (cB, .boolean) rfl).2
  have h2 : s.vm.findClass ("[" ++ FieldType.toString .boolean) = some (cA 4) := (hK.2 4 (cA 4, .boolean) rfl).2
  obtain rfl : cA 4 = cB := Option.some.inj (h2.symm.trans h1)
  exact k q H1 locs ls hP1 hD1 hS1 hl
theorem y_newq (hX : cOK Y l R cc own nL D cA A isI) {n : Int32} {N' idx : Nat} (hcl : Cond.classLink own idx "EachAddsALine$Letters" ∈ vT) (hn : ¬ n < 0) (hN : n.toNatClampNeg = N') (hbytes : N' * 4 ≤ 536870912) (hcells : cells + 1 ≤ R.cells) (hslots : slots + N' ≤ R.slots) (hdg : decode cc pc = .ok (.anewarray idx, 3)) (k : ∀ q : Nat, Y (ws ++ [(q, .inl (cA 5, N', .inr (.inr (.inr (.inr (fun _ => none))))))]) (cells + 1) (slots + N') (pc + 3) lv (.ref q :: rest)) : Y ws cells slots pc lv (.int n :: rest) := by
  obtain ⟨p, e, s, m, args, below, meth, c, H0, Q, rfl, hx, hb, hml, hown, hts, hK, hH0, hI, hZ⟩ := hX
  intro H locs ls hP hD hS hl
  refine va_newq hx hb hown (hts _ hcl) hZ.2.2.2.2.2 hK hP hD hS hH0 hn hN hbytes hcells hslots hdg (fun q cB H1 hK1 hP1 hD1 hS1 => ?_)
  obtain ⟨_, _, _, _, _, h1⟩ := (hK1.2 6 (cB, .object "EachAddsALine$Letters") rfl).2
  obtain ⟨_, _, _, _, _, h2⟩ := (hK.2 5 (cA 5, .object "EachAddsALine$Letters") rfl).2
  obtain rfl : cA 5 = cB := Option.some.inj (h2.symm.trans h1)
  exact k q H1 locs ls hP1 hD1 hS1 hl
theorem y_aast (hX : cOK Y l R cc own nL D cA A isI) {q0 qk ci a n v : Nat} {r : vw_C} {vs : List Value} {f : Nat → Option Nat} {i : Int32} (ha : ws[q0]? = some (a, .inl (cA 5, n, .inr (.inr (.inr (.inr f)))))) (hr : r.1 = "EachAddsALine$Letters") (hv : ws[qk]? = some (v, .inr (ci, vs))) (hc : vCl[ci]? = some r) (hi : vp_in i n) (hdg : decode cc pc = .ok (.aastore, 1)) (hws : ws.set q0 (a, .inl (cA 5, n, .inr (.inr (.inr (.inr (va_up f i.toNatClampNeg (some v))))))) = ws') (k : Y ws' cells slots (pc + 1) lv rest) : Y ws cells slots pc lv (.ref v :: .int i :: .ref a :: rest) := by
  obtain ⟨p, e, s, m, args, below, meth, c, H0, Q, rfl, hx, hb, hml, hown, hts, hK, hH0, hI, hZ⟩ := hX
  intro H locs ls hP hD hS hl
  subst hws
  exact va_astq hx hb hK hP hD hS q0 5 qk ci ha (by rw [hr]; rfl) hv hc hi hdg (fun H1 locs1 hP1 hD1 hS1 => k H1 locs1 ls hP1 hD1 hS1 hl)
theorem y_obj (hX : cOK Y l R cc own nL D cA A isI) {a idx : Nat} (hlink : Cond.methodLink own idx Lib.objectInit ∈ vT) (hinst : Cond.instanceMethod Lib.objectInit ∈ vT) (hcode : Cond.code Lib.objectInit ⟨#[0xb1]⟩ 1 none ∈ vT) (hf : 1 ≤ R.frames) (hr : (rest.map fun v => v.category).sum + 12 ≤ R.locals) (hdg : decode cc pc = .ok (.invokespecial idx, 3)) (k : Y ws cells slots (pc + 3) lv rest) : Y ws cells slots pc lv (.ref a :: rest) := by
  obtain ⟨p, e, s, m, args, below, meth, c, H0, Q, rfl, hx, hb, hml, hown, hts, hK, hH0, hI, hZ⟩ := hX
  intro H locs ls hP hD hS hl
  exact W.objInit hx hb hown (hts _ hlink) (hts _ hinst) (hts _ hcode) (g := F0 m pc ls (.ref a :: rest)) rfl (hl.1.trans hml.symm) rfl hdg hf (by show 2 * 0 + _ + 12 ≤ _; omega) (k H locs ls hP hD hS hl)
theorem y_show (h : ws = ws') (k : Y ws' cells slots pc lv rest) : Y ws cells slots pc lv rest := h ▸ k
theorem y_sub (hX : cOK Y l R cc own nL D cA A isI) (is : List Nat) (hn : is.Nodup) (h : is.map (fun i => ws[i]?) = ws'.map some) (k : Y ws' cells slots pc lv rest) : Y ws cells slots pc lv rest := by
  obtain ⟨p, e, s, m, args, below, meth, c, H0, Q, rfl, hx, hb, hml, hown, hts, hK, hH0, hI, hZ⟩ := hX
  intro H locs ls hP hD hS hl
  have hat : ∀ (k : Nat) (q : Nat × va_E), ws'[k]? = some q → ∃ i : Nat, is[k]? = some i ∧ ws[i]? = some q := fun k q hk => by
    have h1 : (is.map (fun i => ws[i]?))[k]? = some (some q) := by rw [h, List.getElem?_map, hk]; rfl
    rw [List.getElem?_map] at h1
    cases hi : is[k]? with
    | none => rw [hi] at h1; cases h1
    | some i => rw [hi] at h1; exact ⟨i, rfl, Option.some.inj h1⟩
  refine k H locs ls (fun k q hk => ?_) ⟨fun i j a b hi hj hab => ?_, fun k q hk => ?_⟩ hS hl
  · obtain ⟨i, _, h2⟩ := hat k q hk
    exact hP i q h2
  · obtain ⟨i1, g1, g2⟩ := hat i a hi
    obtain ⟨j1, g3, g4⟩ := hat j b hj
    have e1 : i1 = j1 := hD.1 i1 j1 a b g2 g4 hab
    subst e1
    exact (List.getElem?_inj (List.getElem?_eq_some_iff.mp g1).1 hn).mp (g1.trans g3.symm)
  · obtain ⟨i, _, h2⟩ := hat k q hk
    exact hD.2 i q h2
theorem y_callI (hX : cOK Y l R cc own nL D cA A isI) {y : MethodName} {cy : ByteArray} {maxL f n mc ms nn idx b : Nat} {As stk : List Value} {wc wr : va_W} {B : va_W → Prop} (hM : cM l D cA y cy maxL f n mc ms wc (.ref b :: As) B) (hy : vMth y cy maxL none nn) (hyn : y.name = "<init>") (hyi : Cond.instanceMethod y ∈ vT) (hw : Cond.methodLink own idx y ∈ vT) (isC isR : List Nat) (hC : isC.map (fun i => ws[i]?) = wc.map some) (hR : isR.map (fun i => ws[i]?) = wr.map some) (hnC : isC.Nodup) (hnd : va_nd isR = true) (hdis : ∀ i ∈ isR, i ∉ isC) (hn : As.length = nn) (hstk : stk = As.reverse ++ .ref b :: rest) (hroom : (rest.map fun v => v.category).sum ≤ 8) (hRm : f + 1 ≤ R.frames ∧ 8 + (maxL + 11) + n ≤ R.locals) (hcells : cells + mc ≤ R.cells) (hslots : slots + ms ≤ R.slots) (hdg : decode cc pc = .ok (.invokespecial idx, 3)) (k : ∀ w1, B w1 → Y (wr ++ w1) (cells + mc) (slots + ms) (pc + 3) lv rest) : Y ws cells slots pc lv stk := by
  obtain ⟨p, e, s, m, args, below, meth, c, H0, Q, rfl, hx, hb, hml, hown, hts, hK, hH0, hI, hZ⟩ := hX
  subst hstk
  intro H locs ls hP hD hS hl
  have hPc : va_P D vCl wc H := by
    intro k q hk
    have h1 : (isC.map (fun i => ws[i]?))[k]? = some (some q) := by rw [hC, List.getElem?_map, hk]; rfl
    rw [List.getElem?_map] at h1
    cases hi : isC[k]? with
    | none => rw [hi] at h1; cases h1
    | some i => rw [hi] at h1; exact hP i q (Option.some.inj h1)
  have hDc : va_D (fun _ => True) wc := by
    have at' : ∀ (k : Nat) (q : Nat × va_E), wc[k]? = some q → ∃ i : Nat, isC[k]? = some i ∧ ws[i]? = some q := fun k q hk => by
      have h1 : (isC.map (fun i => ws[i]?))[k]? = some (some q) := by rw [hC, List.getElem?_map, hk]; rfl
      rw [List.getElem?_map] at h1
      cases hi : isC[k]? with
      | none => rw [hi] at h1; cases h1
      | some i => rw [hi] at h1; exact ⟨i, rfl, Option.some.inj h1⟩
    refine ⟨fun i j a b hi hj hab => ?_, fun _ _ _ => trivial⟩
    obtain ⟨i1, g1, g2⟩ := at' i a hi
    obtain ⟨j1, g3, g4⟩ := at' j b hj
    have e1 : i1 = j1 := hD.1 i1 j1 a b g2 g4 hab
    subst e1
    exact (List.getElem?_inj (List.getElem?_eq_some_iff.mp g1).1 hnC).mp (g1.trans g3.symm)
  have hfree := va_free (wc := wc) hD hS hH0 isC hC
  refine va_callv (va_runI (As := As) (rest := rest) (nL := nL) (Ts := vT) (own := own) ⟨hx, hb, hml, hown, hts⟩ (hM H.size) ⟨callB_of nn hts (vGood hy.1) rfl rfl rfl (hts _ hy.2.1) (hts _ hw) hy.2.2 hRm, hyn, hts _ hyi⟩ ⟨fun a U g mk q => by
    obtain ⟨q0, q1, q2, q3, q4, q5⟩ := q
    exact ⟨q0, q1, q2, va_K.moved (u := U) (U := U.calling g mk a) (Vm.Alike.refl U.vm) q3, q4, vN_same rfl q5⟩, fun U hU hW => ⟨rfl, by rw [hU], by rw [hU]; exact hPc, va_K.moved hW.alike hK, hDc, vN_warm hW hZ⟩⟩ rfl hn hl.1 rfl (lv_room hroom) hdg ⟨hcells, hslots⟩) hS (fun q _ h => hfree q h) hfree (fun u t H1 locs1 ht hvm hw' hB hz1 hk1 hS1 => ?_)
  subst ht
  obtain ⟨w1, hB1, hP1, hD1⟩ := hB
  obtain ⟨hP2, hD2⟩ := va_join hP hD isC isR hC hR hnd hdis hk1 hfree hP1 hD1
  exact k w1 hB1 _ locs1 ls hP2 hD2 hS1 hl
theorem y_callN (hX : cOK Y l R cc own nL D cA A isI) {y : MethodName} {cy : ByteArray} {maxL f n mc ms nn idx b : Nat} {host : String} {As stk : List Value} {wc wr : va_W} {B : va_W → Prop} (hM : cM l D cA y cy maxL f n mc ms wc (.ref b :: As) B) (hy : vMth y cy maxL none nn) (hyn : y.name = "<init>") (hyi : Cond.instanceMethod y ∈ vT) (hw : ∀ s, vN s → va_Nw (.methodLinkNest own idx y host) s) (isC isR : List Nat) (hC : isC.map (fun i => ws[i]?) = wc.map some) (hR : isR.map (fun i => ws[i]?) = wr.map some) (hnC : isC.Nodup) (hnd : va_nd isR = true) (hdis : ∀ i ∈ isR, i ∉ isC) (hn : As.length = nn) (hstk : stk = As.reverse ++ .ref b :: rest) (hroom : (rest.map fun v => v.category).sum ≤ 8) (hRm : f + 1 ≤ R.frames ∧ 8 + (maxL + 11) + n ≤ R.locals) (hcells : cells + mc ≤ R.cells) (hslots : slots + ms ≤ R.slots) (hdg : decode cc pc = .ok (.invokespecial idx, 3)) (k : ∀ w1, B w1 → Y (wr ++ w1) (cells + mc) (slots + ms) (pc + 3) lv rest) : Y ws cells slots pc lv stk := by
  obtain ⟨p, e, s, m, args, below, meth, c, H0, Q, rfl, hx, hb, hml, hown, hts, hK, hH0, hI, hZ⟩ := hX
  subst hstk
  intro H locs ls hP hD hS hl
  have hPc : va_P D vCl wc H := by
    intro k q hk
    have h1 : (isC.map (fun i => ws[i]?))[k]? = some (some q) := by rw [hC, List.getElem?_map, hk]; rfl
    rw [List.getElem?_map] at h1
    cases hi : isC[k]? with
    | none => rw [hi] at h1; cases h1
    | some i => rw [hi] at h1; exact hP i q (Option.some.inj h1)
  have hDc : va_D (fun _ => True) wc := by
    have at' : ∀ (k : Nat) (q : Nat × va_E), wc[k]? = some q → ∃ i : Nat, isC[k]? = some i ∧ ws[i]? = some q := fun k q hk => by
      have h1 : (isC.map (fun i => ws[i]?))[k]? = some (some q) := by rw [hC, List.getElem?_map, hk]; rfl
      rw [List.getElem?_map] at h1
      cases hi : isC[k]? with
      | none => rw [hi] at h1; cases h1
      | some i => rw [hi] at h1; exact ⟨i, rfl, Option.some.inj h1⟩
    refine ⟨fun i j a b hi hj hab => ?_, fun _ _ _ => trivial⟩
    obtain ⟨i1, g1, g2⟩ := at' i a hi
    obtain ⟨j1, g3, g4⟩ := at' j b hj
    have e1 : i1 = j1 := hD.1 i1 j1 a b g2 g4 hab
    subst e1
    exact (List.getElem?_inj (List.getElem?_eq_some_iff.mp g1).1 hnC).mp (g1.trans g3.symm)
  have hfree := va_free (wc := wc) hD hS hH0 isC hC
  refine va_callv (va_runIN (host := host) (As := As) (rest := rest) (nL := nL) (Ts := vT) (own := own) ⟨hx, hb, hml, hown, hts⟩ (hM H.size) ⟨va_cnB nn hts (vGood hy.1) rfl rfl rfl (hw _ hZ) (hts _ hy.2.1) hy.2.2 hRm, hyn, hts _ hyi⟩ ⟨fun a U g mk q => by
    obtain ⟨q0, q1, q2, q3, q4, q5⟩ := q
    exact ⟨q0, q1, q2, va_K.moved (u := U) (U := U.calling g mk a) (Vm.Alike.refl U.vm) q3, q4, vN_same rfl q5⟩, fun U hU hW => ⟨rfl, by rw [hU], by rw [hU]; exact hPc, va_K.moved hW.alike hK, hDc, vN_warm hW hZ⟩⟩ rfl hn hl.1 rfl (lv_room hroom) hdg ⟨hcells, hslots⟩) hS (fun q _ h => hfree q h) hfree (fun u t H1 locs1 ht hvm hw' hB hz1 hk1 hS1 => ?_)
  subst ht
  obtain ⟨w1, hB1, hP1, hD1⟩ := hB
  obtain ⟨hP2, hD2⟩ := va_join hP hD isC isR hC hR hnd hdis hk1 hfree hP1 hD1
  exact k w1 hB1 _ locs1 ls hP2 hD2 hS1 hl
end CT
theorem cM_of {l : Launch} {D : va_G} {cA : Nat → ClassId} {y : MethodName} {cy : ByteArray} {maxL f n mc ms : Nat} {wc : va_W} {as : List Value} {B : va_W → Prop} (hy : plainFor y = true) (hyn : y.name = "<init>") (hlen : (lg_sl as).length ≤ maxL) (body : ∀ (sz : Nat) (Y : cP), cOK Y l ({ frames := f, cells := mc, slots := ms, locals := n } : Room) cy y.cls maxL D cA (va_A wc sz) true → (∀ pc lv w1, B w1 → decode cy pc = .ok (.return_, 1) → Y w1 mc ms pc lv []) → Y wc 0 0 0 (lv_args 0 as) []) : cM l D cA y cy maxL f n mc ms wc as B := by
  intro sz
  refine vOfW (cc := cy) (maxL := maxL) (ret := none) hy rfl ?_
  intro p e s m args below meth c s₁ B0 hml hv
  obtain ⟨rfl, hsz, hP, hK, hD, hZ⟩ := hv
  have hr := B0.returns
  have hts := atoms_spec (ws := .code y cy maxL none :: vT) B0.pre
  have hown : s.vm.findClass y.cls = some m.cls := findClass_of_methodNamed B0.named
  have hin : meth.name = "<init>" := (name_of_methodNamed B0.named B0.method).1.trans hyn
  have hlocks := B0.notSynchronized
  subst hsz
  rw [lg_entry_eq]
  refine body s.heap.size (fun ws cells slots pc lv stk => ∀ (H : Heap) (locs : List Loc) (ls : Array Slot), va_P D vCl ws H → va_D (va_A wc s.heap.size) ws → va_S (va_A wc s.heap.size) s.heap H locs → lv_has ls maxL lv → W p l e ({ frames := f, cells := mc, slots := ms, locals := n } : Room) s m as.toArray below meth c H locs cells slots (MQ below (va_Qv (fun (_ : Unit) => True) (fun _ t => ∃ w1, B w1 ∧ va_P D vCl w1 t.heap ∧ va_D (va_A wc s.heap.size) w1) (va_A wc s.heap.size)) as.toArray s mc ms (va_A wc s.heap.size)) (F0 m pc ls stk)) ⟨p, e, s, m, _, below, meth, c, s.heap, _, rfl, B0.exec, B0.bytes, hml, hown, fun w h => hts w (List.mem_cons_of_mem _ h), hK, fun q h => Or.inr h, fun _ => hin, hZ⟩ (fun pc lv w1 hB1 hdg H locs ls hP1 hD1 hS hl => ?_) s.heap [] _ hP hD.self va_S.rf (lv_entry as hlen)
  exact W.vret B0.exec B0.bytes hr (fun t ht hW => ⟨⟨(), rfl, trivial, w1, hB1, by rw [ht]; exact hP1, hD1⟩, hS.F ht⟩) hS.2.2 hdg hlocks
