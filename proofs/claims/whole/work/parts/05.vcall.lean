
def vR (f n : Nat) : Room := { frames := f, cells := 0, slots := 0, locals := n }
def vPc (D : va_G) (cA : Nat → ClassId) (sz : Nat) (sh : vSh) (ad : Nat → Nat) (st : vSt) (as : List Value) : Array Value → State → Prop := va_Pc as (fun U => U.heap.size = sz ∧ va_P D vCl (wl sh ad cA st) U.heap ∧ va_K D vCl (vTys cA) U ∧ vAd sh ad (fun _ => True))
def vMI (l : Launch) (sh : vSh) (ad : Nat → Nat) (y : MethodName) (cy : ByteArray) (maxL : Nat) (rt : FieldType) (f n : Nat) (st : vSt) (as : List Value) (r : Int32) (t1 : vSt) : Prop :=
  ∀ (D : va_G) (cA : Nat → ClassId) (sz : Nat), Met l y (.code y cy maxL (some rt) :: vT) (vR f n) (vPc D cA sz sh ad st as) (va_Qi (fun r' (_ : Unit) => r' = r) (fun _ t => va_P D vCl (wl sh ad cA t1) t.heap) (va_A (wl sh ad cA st) sz)) 0 0 (va_A (wl sh ad cA st) sz)
def vML (l : Launch) (sh : vSh) (ad : Nat → Nat) (y : MethodName) (cy : ByteArray) (maxL : Nat) (f n : Nat) (st : vSt) (as : List Value) (r : Int64) (t1 : vSt) : Prop :=
  ∀ (D : va_G) (cA : Nat → ClassId) (sz : Nat), Met l y (.code y cy maxL (some .long) :: vT) (vR f n) (vPc D cA sz sh ad st as) (va_Ql (fun r' (_ : Unit) => r' = r) (fun _ t => va_P D vCl (wl sh ad cA t1) t.heap) (va_A (wl sh ad cA st) sz)) 0 0 (va_A (wl sh ad cA st) sz)
def vMV (l : Launch) (sh : vSh) (ad : Nat → Nat) (y : MethodName) (cy : ByteArray) (maxL : Nat) (f n : Nat) (st : vSt) (as : List Value) (t1 : vSt) : Prop :=
  ∀ (D : va_G) (cA : Nat → ClassId) (sz : Nat), Met l y (.code y cy maxL none :: vT) (vR f n) (vPc D cA sz sh ad st as) (va_Qv (fun (_ : Unit) => True) (fun _ t => va_P D vCl (wl sh ad cA t1) t.heap) (va_A (wl sh ad cA st) sz)) 0 0 (va_A (wl sh ad cA st) sz)
theorem vGood {w : Cond} (h : w ∈ vT) : GoodIn vT (w :: vT) := fun v hv => (List.mem_cons.mp hv).elim (fun e => by subst e; exact ⟨h, vT_good h⟩) (fun e => ⟨e, vT_good e⟩)
theorem vBlind {D : va_G} {cA : Nat → ClassId} {sz : Nat} {sh : vSh} {ad : Nat → Nat} {st : vSt} {as : List Value} : FrameBlind (vPc D cA sz sh ad st as) := fun a U g mk q => by
  obtain ⟨q0, q1, q2, q3, q4⟩ := q
  exact ⟨q0, q1, q2, va_K.moved (u := U) (U := U.calling g mk a) (Vm.Alike.refl U.vm) q3, q4⟩
/-- a contract out of a walk, also of the library's own methods -/
theorem vOfW {l : Launch} {y : MethodName} {ws ws' : List Cond} {rm : Room} {Pc : Array Value → State → Prop} {Qc : Array Value → State → Outcome → State → Prop} {mc ms : Nat} {free : Addr → Prop} {cc : ByteArray} {maxL : Nat} {ret : Option FieldType} (hy : plainFor y = true) (hw : ws = Cond.code y cc maxL ret :: ws')
    (body : ∀ p e s m args below meth c s₁, BodyLoose p l y (headSpec ws rm) cc maxL ret e s m args below meth c s₁ → c.maxLocals = maxL → Pc args s → W p l e (headSpec ws rm).room s m args below meth c s.heap [] 0 0 (MQ below Qc args s mc ms free) (entryFrame m args maxL)) : Met l y ws rm Pc Qc mc ms free := by
  refine MetFree.of_bodySF (code := cc) (maxLocals := maxL) (ret := ret) hy ?_ ?_
  · intro args s m h hn
    obtain ⟨meth, c, h1, h2, h3, h4, h5, h6, -, -⟩ := Cond.code_spec hn (atoms_spec (ws := ws) h _ (by rw [hw]; exact List.mem_cons_self))
    exact ⟨meth, c, h1, h2, h3, h4, h5, h6⟩
  · intro p e s m args below meth c s₁ B hml hP _
    have hh0 : s₁.heap = s.heap := by rw [B.state]; rfl
    obtain ⟨t, a1, o, b1, b2, b3⟩ := body p e s m args below meth c s₁ B hml hP s₁ hh0 (Stand.of_body B)
    exact ⟨t, o, a1, b1, b2, ⟨b3.1, b3.2⟩⟩
section VC
variable {P : vP} {l : Launch} {sh : vSh} {ad : Nat → Nat} {R : Room} {cc cy : ByteArray} {own : String} {nL pc maxL f n k idx : Nat} {st t1 : vSt} {lv : List (Nat × Value)} {rest stk As : List Value} {y : MethodName}

theorem v_callVI (hX : vOK P l sh ad R cc own nL) {rt : FieldType} {r : Int32} {o ci N : Nat} {T : u_T} {fs : List Value} (hM : vMI l sh ad y cy maxL rt f n st (.ref (ad o) :: As) r t1) (hy : vMth y cy maxL (some rt) k) (hi : vMthV y) (hw : Cond.methodLink own idx y ∈ vT) (ho : o < sh.1) (hsh : ∀ cA, sh.2 o ad cA (st.1 o) (st.2 o) = .inr (ci, fs)) (hc : vCl[ci]? = some (y.cls, T, N)) (hn : As.length = k) (hstk : stk = As.reverse ++ .ref (ad o) :: rest) (hroom : (rest.map fun v => v.category).sum ≤ 8) (hR : f + 1 ≤ R.frames ∧ 8 + (maxL + 11) + n ≤ R.locals) (hdg : decode cc pc = .ok (.invokevirtual idx, 3)) (kk : P t1 (pc + 3) lv (.int r :: rest)) : P st pc lv stk := by
  obtain ⟨p, e, s, m, args, below, meth, c, D, cA, A, H0, Q, rfl, hx, hb, hml, hown, hts, hK, hA, hH0⟩ := hX
  subst hstk
  intro H locs ls hP hS hl
  have hfree := vAd_free hA (cA := cA) (st := st) hH0 hS.1
  refine va_calli (va_runV (As := As) (rest := rest) (nL := nL) (Ts := vT) (own := own) (C := y.cls) ⟨hx, hb, hml, hown, hts⟩ (hM D cA H.size) ⟨callB_of k hts (vGood hy.1) rfl rfl rfl (hts _ hy.2.1) (hts _ hw) hy.2.2 hR, hts _ hi.1, hts _ hi.2⟩ ⟨vBlind, va_recv hK hP (ci := ci) (q0 := o) hc (by rw [wl_at ho, hsh cA]), fun U hU hW => ⟨rfl, by rw [hU], by rw [hU]; exact hP, va_K.moved hW.alike hK, vAd_wk hA (fun _ _ => trivial)⟩⟩ rfl hn hl.1 rfl (lv_room hroom) hdg ⟨Nat.zero_le _, Nat.zero_le _⟩) hS (fun q _ h => hfree q h) hfree (fun r' u t H1 locs1 ht hvm hw' hB hz1 hk1 hS1 => ?_)
  subst ht
  subst hw'
  exact kk _ locs1 ls hB hS1 hl
theorem v_callSI (hX : vOK P l sh ad R cc own nL) {rt : FieldType} {r : Int32} (hM : vMI l sh ad y cy maxL rt f n st As r t1) (hy : vMth y cy maxL (some rt) k) (hi : Cond.static y ∈ vT) (hw : Cond.methodLink own idx y ∈ vT) (hn : As.length = k) (hstk : stk = As.reverse ++ rest) (hroom : (rest.map fun v => v.category).sum ≤ 8) (hR : f + 1 ≤ R.frames ∧ 8 + (maxL + 11) + n ≤ R.locals) (hdg : decode cc pc = .ok (.invokestatic idx, 3)) (kk : P t1 (pc + 3) lv (.int r :: rest)) : P st pc lv stk := by
  obtain ⟨p, e, s, m, args, below, meth, c, D, cA, A, H0, Q, rfl, hx, hb, hml, hown, hts, hK, hA, hH0⟩ := hX
  subst hstk
  intro H locs ls hP hS hl
  have hfree := vAd_free hA (cA := cA) (st := st) hH0 hS.1
  refine va_calli (va_runS (As := As) (rest := rest) (nL := nL) (Ts := vT) (own := own) ⟨hx, hb, hml, hown, hts⟩ (hM D cA H.size) ⟨callB_of k hts (vGood hy.1) rfl rfl rfl (hts _ hy.2.1) (hts _ hw) hy.2.2 hR, hts _ hi⟩ ⟨vBlind, fun U hU hW => ⟨rfl, by rw [hU], by rw [hU]; exact hP, va_K.moved hW.alike hK, vAd_wk hA (fun _ _ => trivial)⟩⟩ rfl hn hl.1 rfl (lv_room hroom) hdg ⟨Nat.zero_le _, Nat.zero_le _⟩) hS (fun q _ h => hfree q h) hfree (fun r' u t H1 locs1 ht hvm hw' hB hz1 hk1 hS1 => ?_)
  subst ht
  subst hw'
  exact kk _ locs1 ls hB hS1 hl
theorem v_callVL (hX : vOK P l sh ad R cc own nL) {r : Int64} {o ci N : Nat} {T : u_T} {fs : List Value} (hM : vML l sh ad y cy maxL f n st (.ref (ad o) :: As) r t1) (hy : vMth y cy maxL (some .long) k) (hi : vMthV y) (hw : Cond.methodLink own idx y ∈ vT) (ho : o < sh.1) (hsh : ∀ cA, sh.2 o ad cA (st.1 o) (st.2 o) = .inr (ci, fs)) (hc : vCl[ci]? = some (y.cls, T, N)) (hn : As.length = k) (hstk : stk = As.reverse ++ .ref (ad o) :: rest) (hroom : (rest.map fun v => v.category).sum ≤ 8) (hR : f + 1 ≤ R.frames ∧ 8 + (maxL + 11) + n ≤ R.locals) (hdg : decode cc pc = .ok (.invokevirtual idx, 3)) (kk : P t1 (pc + 3) lv (.long r :: rest)) : P st pc lv stk := by
  obtain ⟨p, e, s, m, args, below, meth, c, D, cA, A, H0, Q, rfl, hx, hb, hml, hown, hts, hK, hA, hH0⟩ := hX
  subst hstk
  intro H locs ls hP hS hl
  have hfree := vAd_free hA (cA := cA) (st := st) hH0 hS.1
  refine va_calll (va_runV (As := As) (rest := rest) (nL := nL) (Ts := vT) (own := own) (C := y.cls) ⟨hx, hb, hml, hown, hts⟩ (hM D cA H.size) ⟨callB_of k hts (vGood hy.1) rfl rfl rfl (hts _ hy.2.1) (hts _ hw) hy.2.2 hR, hts _ hi.1, hts _ hi.2⟩ ⟨vBlind, va_recv hK hP (ci := ci) (q0 := o) hc (by rw [wl_at ho, hsh cA]), fun U hU hW => ⟨rfl, by rw [hU], by rw [hU]; exact hP, va_K.moved hW.alike hK, vAd_wk hA (fun _ _ => trivial)⟩⟩ rfl hn hl.1 rfl (lv_room hroom) hdg ⟨Nat.zero_le _, Nat.zero_le _⟩) hS (fun q _ h => hfree q h) hfree (fun r' u t H1 locs1 ht hvm hw' hB hz1 hk1 hS1 => ?_)
  subst ht
  subst hw'
  exact kk _ locs1 ls hB hS1 hl
theorem v_callSL (hX : vOK P l sh ad R cc own nL) {r : Int64} (hM : vML l sh ad y cy maxL f n st As r t1) (hy : vMth y cy maxL (some .long) k) (hi : Cond.static y ∈ vT) (hw : Cond.methodLink own idx y ∈ vT) (hn : As.length = k) (hstk : stk = As.reverse ++ rest) (hroom : (rest.map fun v => v.category).sum ≤ 8) (hR : f + 1 ≤ R.frames ∧ 8 + (maxL + 11) + n ≤ R.locals) (hdg : decode cc pc = .ok (.invokestatic idx, 3)) (kk : P t1 (pc + 3) lv (.long r :: rest)) : P st pc lv stk := by
  obtain ⟨p, e, s, m, args, below, meth, c, D, cA, A, H0, Q, rfl, hx, hb, hml, hown, hts, hK, hA, hH0⟩ := hX
  subst hstk
  intro H locs ls hP hS hl
  have hfree := vAd_free hA (cA := cA) (st := st) hH0 hS.1
  refine va_calll (va_runS (As := As) (rest := rest) (nL := nL) (Ts := vT) (own := own) ⟨hx, hb, hml, hown, hts⟩ (hM D cA H.size) ⟨callB_of k hts (vGood hy.1) rfl rfl rfl (hts _ hy.2.1) (hts _ hw) hy.2.2 hR, hts _ hi⟩ ⟨vBlind, fun U hU hW => ⟨rfl, by rw [hU], by rw [hU]; exact hP, va_K.moved hW.alike hK, vAd_wk hA (fun _ _ => trivial)⟩⟩ rfl hn hl.1 rfl (lv_room hroom) hdg ⟨Nat.zero_le _, Nat.zero_le _⟩) hS (fun q _ h => hfree q h) hfree (fun r' u t H1 locs1 ht hvm hw' hB hz1 hk1 hS1 => ?_)
  subst ht
  subst hw'
  exact kk _ locs1 ls hB hS1 hl
theorem v_callVV (hX : vOK P l sh ad R cc own nL) {o ci N : Nat} {T : u_T} {fs : List Value} (hM : vMV l sh ad y cy maxL f n st (.ref (ad o) :: As) t1) (hy : vMth y cy maxL (none) k) (hi : vMthV y) (hw : Cond.methodLink own idx y ∈ vT) (ho : o < sh.1) (hsh : ∀ cA, sh.2 o ad cA (st.1 o) (st.2 o) = .inr (ci, fs)) (hc : vCl[ci]? = some (y.cls, T, N)) (hn : As.length = k) (hstk : stk = As.reverse ++ .ref (ad o) :: rest) (hroom : (rest.map fun v => v.category).sum ≤ 8) (hR : f + 1 ≤ R.frames ∧ 8 + (maxL + 11) + n ≤ R.locals) (hdg : decode cc pc = .ok (.invokevirtual idx, 3)) (kk : P t1 (pc + 3) lv (rest)) : P st pc lv stk := by
  obtain ⟨p, e, s, m, args, below, meth, c, D, cA, A, H0, Q, rfl, hx, hb, hml, hown, hts, hK, hA, hH0⟩ := hX
  subst hstk
  intro H locs ls hP hS hl
  have hfree := vAd_free hA (cA := cA) (st := st) hH0 hS.1
  refine va_callv (va_runV (As := As) (rest := rest) (nL := nL) (Ts := vT) (own := own) (C := y.cls) ⟨hx, hb, hml, hown, hts⟩ (hM D cA H.size) ⟨callB_of k hts (vGood hy.1) rfl rfl rfl (hts _ hy.2.1) (hts _ hw) hy.2.2 hR, hts _ hi.1, hts _ hi.2⟩ ⟨vBlind, va_recv hK hP (ci := ci) (q0 := o) hc (by rw [wl_at ho, hsh cA]), fun U hU hW => ⟨rfl, by rw [hU], by rw [hU]; exact hP, va_K.moved hW.alike hK, vAd_wk hA (fun _ _ => trivial)⟩⟩ rfl hn hl.1 rfl (lv_room hroom) hdg ⟨Nat.zero_le _, Nat.zero_le _⟩) hS (fun q _ h => hfree q h) hfree (fun u t H1 locs1 ht hvm hw' hB hz1 hk1 hS1 => ?_)
  subst ht
  exact kk _ locs1 ls hB hS1 hl
theorem v_callSV (hX : vOK P l sh ad R cc own nL) (hM : vMV l sh ad y cy maxL f n st As t1) (hy : vMth y cy maxL (none) k) (hi : Cond.static y ∈ vT) (hw : Cond.methodLink own idx y ∈ vT) (hn : As.length = k) (hstk : stk = As.reverse ++ rest) (hroom : (rest.map fun v => v.category).sum ≤ 8) (hR : f + 1 ≤ R.frames ∧ 8 + (maxL + 11) + n ≤ R.locals) (hdg : decode cc pc = .ok (.invokestatic idx, 3)) (kk : P t1 (pc + 3) lv (rest)) : P st pc lv stk := by
  obtain ⟨p, e, s, m, args, below, meth, c, D, cA, A, H0, Q, rfl, hx, hb, hml, hown, hts, hK, hA, hH0⟩ := hX
  subst hstk
  intro H locs ls hP hS hl
  have hfree := vAd_free hA (cA := cA) (st := st) hH0 hS.1
  refine va_callv (va_runS (As := As) (rest := rest) (nL := nL) (Ts := vT) (own := own) ⟨hx, hb, hml, hown, hts⟩ (hM D cA H.size) ⟨callB_of k hts (vGood hy.1) rfl rfl rfl (hts _ hy.2.1) (hts _ hw) hy.2.2 hR, hts _ hi⟩ ⟨vBlind, fun U hU hW => ⟨rfl, by rw [hU], by rw [hU]; exact hP, va_K.moved hW.alike hK, vAd_wk hA (fun _ _ => trivial)⟩⟩ rfl hn hl.1 rfl (lv_room hroom) hdg ⟨Nat.zero_le _, Nat.zero_le _⟩) hS (fun q _ h => hfree q h) hfree (fun u t H1 locs1 ht hvm hw' hB hz1 hk1 hS1 => ?_)
  subst ht
  exact kk _ locs1 ls hB hS1 hl
theorem vMI_of {st0 : vSt} {as : List Value} {rt : FieldType} {r : Int32} (hy : plainFor y = true) (hlen : (lg_sl as).length ≤ maxL) (body : ∀ P : vP, vOK P l sh ad (vR f n) cy y.cls maxL → (∀ pc lv, narrow rt (.int r) = .int r → decode cy pc = .ok (.ireturn, 1) → P t1 pc lv [.int r]) → P st0 0 (lv_args 0 as) []) : vMI l sh ad y cy maxL rt f n st0 as r t1 := by
  intro D cA sz
  refine vOfW (cc := cy) (maxL := maxL) (ret := some rt) hy rfl ?_
  intro p e s m args below meth c s₁ B hml hv
  obtain ⟨rfl, hsz, hP, hK, hD⟩ := hv
  have hr := B.returns
  have hts := atoms_spec (ws := .code y cy maxL (some rt) :: vT) B.pre
  have hown : s.vm.findClass y.cls = some m.cls := findClass_of_methodNamed B.named
  have hlocks := B.notSynchronized
  subst hsz
  rw [lg_entry_eq]
  refine body (fun st pc lv stk => ∀ (H : Heap) (locs : List Loc) (ls : Array Slot), va_P D vCl (wl sh ad cA st) H → va_S (va_A (wl sh ad cA st0) s.heap.size) s.heap H locs → lv_has ls maxL lv → W p l e (vR f n) s m as.toArray below meth c H locs 0 0 (MQ below (va_Qi (fun r' (_ : Unit) => r' = r) (fun _ t => va_P D vCl (wl sh ad cA t1) t.heap) (va_A (wl sh ad cA st0) s.heap.size)) as.toArray s 0 0 (va_A (wl sh ad cA st0) s.heap.size)) (F0 m pc ls stk)) ⟨p, e, s, m, _, below, meth, c, D, cA, va_A (wl sh ad cA st0) s.heap.size, s.heap, _, rfl, B.exec, B.bytes, hml, hown, fun w h => hts w (List.mem_cons_of_mem _ h), hK, vAd_A hD cA st0 _, fun q h => Or.inr h⟩ (fun pc lv hn hdg H locs ls hP1 hS hl => ?_) s.heap [] _ hP va_S.rf (lv_entry as hlen)
  exact W.zret B.exec B.bytes hr hn (fun t ht hW => ⟨⟨r, (), rfl, rfl, by show va_P D vCl (wl sh ad cA t1) t.heap; rw [ht]; exact hP1⟩, hS.F ht⟩) hS.2.2 hdg hlocks
theorem vML_of {st0 : vSt} {as : List Value} {r : Int64} (hy : plainFor y = true) (hlen : (lg_sl as).length ≤ maxL) (body : ∀ P : vP, vOK P l sh ad (vR f n) cy y.cls maxL → (∀ pc lv, decode cy pc = .ok (.lreturn, 1) → P t1 pc lv [.long r]) → P st0 0 (lv_args 0 as) []) : vML l sh ad y cy maxL f n st0 as r t1 := by
  intro D cA sz
  refine vOfW (cc := cy) (maxL := maxL) (ret := some .long) hy rfl ?_
  intro p e s m args below meth c s₁ B hml hv
  obtain ⟨rfl, hsz, hP, hK, hD⟩ := hv
  have hr := B.returns
  have hts := atoms_spec (ws := .code y cy maxL (some .long) :: vT) B.pre
  have hown : s.vm.findClass y.cls = some m.cls := findClass_of_methodNamed B.named
  have hlocks := B.notSynchronized
  subst hsz
  rw [lg_entry_eq]
  refine body (fun st pc lv stk => ∀ (H : Heap) (locs : List Loc) (ls : Array Slot), va_P D vCl (wl sh ad cA st) H → va_S (va_A (wl sh ad cA st0) s.heap.size) s.heap H locs → lv_has ls maxL lv → W p l e (vR f n) s m as.toArray below meth c H locs 0 0 (MQ below (va_Ql (fun r' (_ : Unit) => r' = r) (fun _ t => va_P D vCl (wl sh ad cA t1) t.heap) (va_A (wl sh ad cA st0) s.heap.size)) as.toArray s 0 0 (va_A (wl sh ad cA st0) s.heap.size)) (F0 m pc ls stk)) ⟨p, e, s, m, _, below, meth, c, D, cA, va_A (wl sh ad cA st0) s.heap.size, s.heap, _, rfl, B.exec, B.bytes, hml, hown, fun w h => hts w (List.mem_cons_of_mem _ h), hK, vAd_A hD cA st0 _, fun q h => Or.inr h⟩ (fun pc lv hdg H locs ls hP1 hS hl => ?_) s.heap [] _ hP va_S.rf (lv_entry as hlen)
  exact W.lret B.exec B.bytes hr (fun t ht hW => ⟨⟨r, (), rfl, rfl, by show va_P D vCl (wl sh ad cA t1) t.heap; rw [ht]; exact hP1⟩, hS.F ht⟩) hS.2.2 hdg hlocks
theorem vMV_of {st0 : vSt} {as : List Value} (hy : plainFor y = true) (hlen : (lg_sl as).length ≤ maxL) (body : ∀ P : vP, vOK P l sh ad (vR f n) cy y.cls maxL → (∀ pc lv, decode cy pc = .ok (.return_, 1) → P t1 pc lv []) → P st0 0 (lv_args 0 as) []) : vMV l sh ad y cy maxL f n st0 as t1 := by
  intro D cA sz
  refine vOfW (cc := cy) (maxL := maxL) (ret := none) hy rfl ?_
  intro p e s m args below meth c s₁ B hml hv
  obtain ⟨rfl, hsz, hP, hK, hD⟩ := hv
  have hr := B.returns
  have hts := atoms_spec (ws := .code y cy maxL (none) :: vT) B.pre
  have hown : s.vm.findClass y.cls = some m.cls := findClass_of_methodNamed B.named
  have hlocks := B.notSynchronized
  subst hsz
  rw [lg_entry_eq]
  refine body (fun st pc lv stk => ∀ (H : Heap) (locs : List Loc) (ls : Array Slot), va_P D vCl (wl sh ad cA st) H → va_S (va_A (wl sh ad cA st0) s.heap.size) s.heap H locs → lv_has ls maxL lv → W p l e (vR f n) s m as.toArray below meth c H locs 0 0 (MQ below (va_Qv (fun (_ : Unit) => True) (fun _ t => va_P D vCl (wl sh ad cA t1) t.heap) (va_A (wl sh ad cA st0) s.heap.size)) as.toArray s 0 0 (va_A (wl sh ad cA st0) s.heap.size)) (F0 m pc ls stk)) ⟨p, e, s, m, _, below, meth, c, D, cA, va_A (wl sh ad cA st0) s.heap.size, s.heap, _, rfl, B.exec, B.bytes, hml, hown, fun w h => hts w (List.mem_cons_of_mem _ h), hK, vAd_A hD cA st0 _, fun q h => Or.inr h⟩ (fun pc lv hdg H locs ls hP1 hS hl => ?_) s.heap [] _ hP va_S.rf (lv_entry as hlen)
  exact W.vret B.exec B.bytes hr (fun t ht hW => ⟨⟨(), rfl, trivial, by show va_P D vCl (wl sh ad cA t1) t.heap; rw [ht]; exact hP1⟩, hS.F ht⟩) hS.2.2 hdg hlocks
theorem v_max (hX : vOK P l sh ad R cc own nL) {x y : Int32} (hw : Cond.methodLink own idx Lib.Math.max.name ∈ vT) (hs : Cond.static Lib.Math.max.name ∈ vT) (hi : Cond.initialized "java/lang/Math" ∈ vT) (hc : Cond.code Lib.Math.max.name Lib.Math.max.code 2 (some .int) ∈ vT) (hR : 1 ≤ R.frames) (hR2 : (rest.map fun v => v.category).sum + 13 ≤ R.locals) (hdg : decode cc pc = .ok (.invokestatic idx, 3)) (k : P st (pc + 3) lv (.int (if x < y then y else x) :: rest)) : P st pc lv (.int y :: .int x :: rest) := by
  obtain ⟨p, e, s, m, args, below, meth, c, D, cA, A, H0, Q, rfl, hx, hb, hml, hown, hts, hK, hA, hH0⟩ := hX
  intro H locs ls hP hS hl
  exact va_mmax hx hb (hml.trans hl.1.symm) hown (hts _ hw) (hts _ hs) (hts _ hi) (hts _ hc) hR hR2 (Nat.zero_le _) (Nat.zero_le _) hdg (k H locs ls hP hS hl)
theorem v_min (hX : vOK P l sh ad R cc own nL) {x y : Int32} (hw : Cond.methodLink own idx Lib.Math.min.name ∈ vT) (hs : Cond.static Lib.Math.min.name ∈ vT) (hi : Cond.initialized "java/lang/Math" ∈ vT) (hc : Cond.code Lib.Math.min.name Lib.Math.min.code 2 (some .int) ∈ vT) (hR : 1 ≤ R.frames) (hR2 : (rest.map fun v => v.category).sum + 13 ≤ R.locals) (hdg : decode cc pc = .ok (.invokestatic idx, 3)) (k : P st (pc + 3) lv (.int (if x > y then y else x) :: rest)) : P st pc lv (.int y :: .int x :: rest) := by
  obtain ⟨p, e, s, m, args, below, meth, c, D, cA, A, H0, Q, rfl, hx, hb, hml, hown, hts, hK, hA, hH0⟩ := hX
  intro H locs ls hP hS hl
  exact va_mmin hx hb (hml.trans hl.1.symm) hown (hts _ hw) (hts _ hs) (hts _ hi) (hts _ hc) hR hR2 (Nat.zero_le _) (Nat.zero_le _) hdg (k H locs ls hP hS hl)
/-- n numbers of cell o copied into cell o2, from its first on -/
def scpy (st : vSt) (o o2 n1 n2 : Nat) (n : Int32) : Option vSt := if n < 0 ∨ n1 < n.toNatClampNeg ∨ n2 < n.toNatClampNeg then none else some (fun o' => if o' = o2 then va_cpy (st.1 o) (st.1 o2) 0 0 n.toNatClampNeg else st.1 o', st.2)
theorem v_copy (hX : vOK P l sh ad R cc own nL) {α : Type} {F : vSt → Option α} {q : α} {o o2 n1 n2 : Nat} {x : Int32} (hw : Cond.methodLink own idx arraycopyName ∈ vT) (hnat : Cond.native arraycopyName ∈ vT) (hstat : Cond.static arraycopyName ∈ vT) (hini : Cond.initialized "java/lang/System" ∈ vT) (hR : 1 ≤ R.frames) (hR2 : (rest.map fun v => v.category).sum + (nativeFrameWords "java/lang/System" "arraycopy" 5 + 11) ≤ R.locals) (ho : o < sh.1) (ho2 : o2 < sh.1) (hsh : ∀ cA f g, sh.2 o ad cA f g = .inl (cA 0, n1, .inl f)) (hsh2 : ∀ cA f g, sh.2 o2 ad cA f g = .inl (cA 0, n2, .inl f)) (hdg : decode cc pc = .ok (.invokestatic idx, 3)) (h : (scpy st o o2 n1 n2 x).bind F = some q) (k : ∀ st', scpy st o o2 n1 n2 x = some st' → F st' = some q → P st' (pc + 3) lv rest) : P st pc lv (.int x :: .int 0 :: .ref (ad o2) :: .int 0 :: .ref (ad o) :: rest) := by
  obtain ⟨st', h1, h2⟩ := bsome h
  have k := k st' h1 h2
  unfold scpy at h1
  by_cases z : x < 0 ∨ n1 < x.toNatClampNeg ∨ n2 < x.toNatClampNeg
  · rw [if_pos z] at h1; cases h1
  rw [if_neg z] at h1
  obtain rfl := Option.some.inj h1
  obtain ⟨p, e, s, m, args, below, meth, c, D, cA, A, H0, Q, rfl, hx, hb, hml, hown, hts, hK, hA, hH0⟩ := hX
  intro H locs ls hP hS hl
  refine va_copyi hx hb (hml.trans hl.1.symm) hown (hts _ hw) (hts _ hnat) (hts _ hstat) (hts _ hini) hK hP (vAd_D hA cA st) hS o o2 0 0 (by rw [wl_at ho, hsh cA]) (by rw [wl_at ho2, hsh2 cA]) rfl rfl rfl (by decide : ¬ (0 : Int32) < 0) (by decide : ¬ (0 : Int32) < 0) (fun y => z (Or.inl y)) ?_ ?_ (fun _ _ => rfl) hR hR2 hdg (fun H1 locs1 hP1 _ hS1 => ?_)
  · show (0 : Int32).toNatClampNeg + x.toNatClampNeg ≤ n1
    rw [show (0 : Int32).toNatClampNeg = 0 from rfl]; omega
  · show (0 : Int32).toNatClampNeg + x.toNatClampNeg ≤ n2
    rw [show (0 : Int32).toNatClampNeg = 0 from rfl]; omega
  · rw [show (0 : Int32).toNatClampNeg = 0 from rfl] at hP1
    have hset := wl_set (sh := sh) (ad := ad) (cA := cA) (st := st) (o := o2) (st' := (fun o' => if o' = o2 then va_cpy (st.1 o) (st.1 o2) 0 0 x.toNatClampNeg else st.1 o', st.2)) (e := .inl (cA 0, n2, .inl (va_cpy (st.1 o) (st.1 o2) 0 0 x.toNatClampNeg))) (by rw [hsh2 cA]; simp only [if_pos]) (fun o' z => ⟨by simp only [if_neg z], rfl⟩)
    rw [hset] at hP1
    exact k H1 locs1 ls hP1 hS1 hl
theorem v_nmI (hX : vOK P l sh ad R cc own nL) {α : Type} {F : Int32 → Option α} {q : α} {e : Int32} (h : (some e).bind F = some q) (k : ∀ v : Int32, F v = some q → P st pc lv (.int v :: rest)) : P st pc lv (.int e :: rest) := k e h
theorem v_nmL (hX : vOK P l sh ad R cc own nL) {α : Type} {F : Int64 → Option α} {q : α} {e : Int64} (h : (some e).bind F = some q) (k : ∀ v : Int64, F v = some q → P st pc lv (.long v :: rest)) : P st pc lv (.long e :: rest) := k e h
theorem v_iincN (hX : vOK P l sh ad R cc own nL) {α : Type} {F : Int32 → Option α} {q : α} {i j : Nat} {n : Int} {x c : Int32} (hdg : decode cc pc = .ok (.iinc i n, 3)) (hj : lv[j]? = some (i, .int x)) (hc : Int32.ofInt n = c) (hn : i < nL) (h : (some (x + c)).bind F = some q) (k : ∀ v : Int32, F v = some q → P st (pc + 3) ((i, Value.int v) :: lv.filter (fun q => !(q.1 == i) && !(q.1 + 1 == i && q.2.category == 2))) rest) : P st pc lv rest := by
  subst hc
  exact v_iinc hX hdg hj rfl hn rfl (k _ h)
theorem v_show (hX : vOK P l sh ad R cc own nL) {lv' : List (Nat × Value)} (h : lv = lv') (k : P st pc lv' rest) : P st pc lv rest := h ▸ k
theorem ifs {α : Type} {c : Prop} {_ : Decidable c} {A B q : α} (h : (if c then A else B) = q) : (c ∧ A = q) ∨ (¬ c ∧ B = q) := by
  by_cases z : c
  · rw [if_pos z] at h; exact Or.inl ⟨z, h⟩
  · rw [if_neg z] at h; exact Or.inr ⟨z, h⟩
theorem nzsome {α : Type} {c : Prop} {_ : Decidable c} {A : Option α} {q : α} (h : (if c then none else A) = some q) : ¬ c ∧ A = some q := by
  by_cases z : c
  · rw [if_pos z] at h; cases h
  · rw [if_neg z] at h; exact ⟨z, h⟩
theorem v_retI {r x : Int32} (hR : ∀ pc lv, narrow .int (.int r) = .int r → decode cc pc = .ok (.ireturn, 1) → P t1 pc lv [.int r]) (h : some (x, st) = some (r, t1)) (hdg : decode cc pc = .ok (.ireturn, 1)) : P st pc lv [.int x] := by
  cases h
  exact hR _ _ rfl hdg
theorem v_retZ0 {r : Int32} (hR : ∀ pc lv, narrow .boolean (.int r) = .int r → decode cc pc = .ok (.ireturn, 1) → P t1 pc lv [.int r]) (h : some ((0 : Int32), st) = some (r, t1)) (hdg : decode cc pc = .ok (.ireturn, 1)) : P st pc lv [.int 0] := by
  cases h
  exact hR _ _ (by decide) hdg
theorem v_retZ1 {r : Int32} (hR : ∀ pc lv, narrow .boolean (.int r) = .int r → decode cc pc = .ok (.ireturn, 1) → P t1 pc lv [.int r]) (h : some ((1 : Int32), st) = some (r, t1)) (hdg : decode cc pc = .ok (.ireturn, 1)) : P st pc lv [.int 1] := by
  cases h
  exact hR _ _ (by decide) hdg
theorem v_retZ {r x : Int32} (hR : ∀ pc lv, narrow .boolean (.int r) = .int r → decode cc pc = .ok (.ireturn, 1) → P t1 pc lv [.int r]) (h : (if x = 0 ∨ x = 1 then some (x, st) else none) = some (r, t1)) (hdg : decode cc pc = .ok (.ireturn, 1)) : P st pc lv [.int x] := by
  obtain ⟨c, h⟩ := gsome h
  cases h
  rcases c with rfl | rfl
  · exact hR _ _ (by decide) hdg
  · exact hR _ _ (by decide) hdg
theorem v_retL {r x : Int64} (hR : ∀ pc lv, decode cc pc = .ok (.lreturn, 1) → P t1 pc lv [.long r]) (h : some (x, st) = some (r, t1)) (hdg : decode cc pc = .ok (.lreturn, 1)) : P st pc lv [.long x] := by
  cases h
  exact hR _ _ hdg
theorem v_retV (hR : ∀ pc lv, decode cc pc = .ok (.return_, 1) → P t1 pc lv []) (h : some st = some t1) (hdg : decode cc pc = .ok (.return_, 1)) : P st pc lv [] := by
  cases h
  exact hR _ _ hdg
end VC

