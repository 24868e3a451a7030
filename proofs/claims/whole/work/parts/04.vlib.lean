
/-! the words that every method may use: those of the tables that keep -/
def vT : List Cond := lw_tbl.filter goodWord
theorem vmem (i : Nat) {w : Cond} (h : lw_tbl[i]? = some w) (hg : goodWord w = true) : w ∈ vT := List.mem_filter.mpr ⟨List.mem_of_getElem? h, hg⟩
theorem vm1 (i : Nat) {w : Cond} (h : tables_1_1[i]? = some w) (hg : goodWord w = true) : w ∈ vT := List.mem_filter.mpr ⟨List.mem_append_right _ (List.mem_append_left _ (List.mem_of_getElem? h)), hg⟩
theorem vm2 (i : Nat) {w : Cond} (h : tables_1_2[i]? = some w) (hg : goodWord w = true) : w ∈ vT := List.mem_filter.mpr ⟨List.mem_append_right _ (List.mem_append_right _ (List.mem_append_left _ (List.mem_of_getElem? h))), hg⟩
theorem vm3 (i : Nat) {w : Cond} (h : tables_1_3[i]? = some w) (hg : goodWord w = true) : w ∈ vT := List.mem_filter.mpr ⟨List.mem_append_right _ (List.mem_append_right _ (List.mem_append_right _ (List.mem_append_left _ (List.mem_of_getElem? h)))), hg⟩
theorem vm4 (i : Nat) {w : Cond} (h : tables_1_4[i]? = some w) (hg : goodWord w = true) : w ∈ vT := List.mem_filter.mpr ⟨List.mem_append_right _ (List.mem_append_right _ (List.mem_append_right _ (List.mem_append_right _ (List.mem_append_left _ (List.mem_of_getElem? h))))), hg⟩
theorem vm5 (i : Nat) {w : Cond} (h : tables_1_5[i]? = some w) (hg : goodWord w = true) : w ∈ vT := List.mem_filter.mpr ⟨List.mem_append_right _ (List.mem_append_right _ (List.mem_append_right _ (List.mem_append_right _ (List.mem_append_right _ (List.mem_append_left _ (List.mem_of_getElem? h)))))), hg⟩
theorem vm6 (i : Nat) {w : Cond} (h : tables_1_6[i]? = some w) (hg : goodWord w = true) : w ∈ vT := List.mem_filter.mpr ⟨List.mem_append_right _ (List.mem_append_right _ (List.mem_append_right _ (List.mem_append_right _ (List.mem_append_right _ (List.mem_append_right _ (List.mem_append_left _ (List.mem_of_getElem? h))))))), hg⟩
theorem vm7 (i : Nat) {w : Cond} (h : tables_1_7[i]? = some w) (hg : goodWord w = true) : w ∈ vT := List.mem_filter.mpr ⟨List.mem_append_right _ (List.mem_append_right _ (List.mem_append_right _ (List.mem_append_right _ (List.mem_append_right _ (List.mem_append_right _ (List.mem_append_right _ (List.mem_append_left _ (List.mem_of_getElem? h)))))))), hg⟩
theorem vm8 (i : Nat) {w : Cond} (h : tables_1_8[i]? = some w) (hg : goodWord w = true) : w ∈ vT := List.mem_filter.mpr ⟨List.mem_append_right _ (List.mem_append_right _ (List.mem_append_right _ (List.mem_append_right _ (List.mem_append_right _ (List.mem_append_right _ (List.mem_append_right _ (List.mem_append_right _ (List.mem_of_getElem? h)))))))), hg⟩
/-- what the tables say of a method that is called -/
def vMth (y : MethodName) (cy : ByteArray) (maxL : Nat) (ret : Option FieldType) (n : Nat) : Prop :=
  Cond.code y cy maxL ret ∈ vT ∧ Cond.initialized y.cls ∈ vT ∧ (y.cls ≠ "java/lang/invoke/MethodHandle" ∧ y.cls ≠ "java/lang/invoke/VarHandle" ∧ (parseMethodDescriptor y.desc).map (fun d => d.parameters.length) = some n)
def vMthV (y : MethodName) : Prop := Cond.instanceMethod y ∈ vT ∧ Cond.selects y.cls y y ∈ vT
theorem vT_good {w : Cond} (h : w ∈ vT) : (w.onTables && w.keeps) = true ∨ ∃ ty, w = .arrayClass ty := good_of_word (List.mem_filter.mp h).2
theorem vT_tbl {w : Cond} (h : w ∈ vT) : w ∈ lw_tbl := (List.mem_filter.mp h).1
theorem vT_in {ws : List Cond} (h : ws.all (fun w => decide (w ∈ lw_tbl) && goodWord w) = true) : ∀ w ∈ ws, w ∈ vT := by
  intro w hw
  have h1 := List.all_eq_true.mp h w hw
  rw [Bool.and_eq_true] at h1
  exact List.mem_filter.mpr ⟨of_decide_eq_true h1.1, h1.2⟩
/-! a world of N cells: cell o lies at ad o and holds what its two rows of numbers say -/
abbrev vSt : Type := (Nat → Nat → Int32) × (Nat → Nat → Int64)
abbrev vSh : Type := Nat × (Nat → (Nat → Nat) → (Nat → ClassId) → (Nat → Int32) → (Nat → Int64) → va_E)
def wl (sh : vSh) (ad : Nat → Nat) (cA : Nat → ClassId) (st : vSt) : va_W := (List.range sh.1).map fun o => (ad o, sh.2 o ad cA (st.1 o) (st.2 o))
def vTys (cA : Nat → ClassId) : List (ClassId × FieldType) := [(cA 0, .int), (cA 1, .long), (cA 2, .byte), (cA 3, .char), (cA 4, .boolean), (cA 5, .object "EachAddsALine$Letters")]
def vAd (sh : vSh) (ad : Nat → Nat) (A : Nat → Prop) : Prop := (∀ i j, i < sh.1 → j < sh.1 → ad i = ad j → i = j) ∧ ∀ k, k < sh.1 → A (ad k)
def s1 (st : vSt) (o k : Nat) (x : Int32) : vSt := (fun o' => if o' = o then upd (st.1 o) k x else st.1 o', st.2)
def s2 (st : vSt) (o k : Nat) (x : Int64) : vSt := (st.1, fun o' => if o' = o then vp_updL (st.2 o) k x else st.2 o')
theorem wl_at {sh : vSh} {ad : Nat → Nat} {cA : Nat → ClassId} {st : vSt} {o : Nat} (h : o < sh.1) : (wl sh ad cA st)[o]? = some (ad o, sh.2 o ad cA (st.1 o) (st.2 o)) := by
  simp only [wl, List.getElem?_map, List.getElem?_range h, Option.map_some]
theorem wl_at' {sh : vSh} {ad : Nat → Nat} {cA : Nat → ClassId} {st : vSt} {o : Nat} {q : Nat × va_E} (h : (wl sh ad cA st)[o]? = some q) : o < sh.1 ∧ q = (ad o, sh.2 o ad cA (st.1 o) (st.2 o)) := by
  by_cases hl : o < sh.1
  · rw [wl_at hl] at h; exact ⟨hl, (Option.some.inj h).symm⟩
  · have : (wl sh ad cA st).length ≤ o := by simp only [wl, List.length_map, List.length_range]; omega
    rw [List.getElem?_eq_none this] at h; cases h
theorem wl_set {sh : vSh} {ad : Nat → Nat} {cA : Nat → ClassId} {st st' : vSt} {o : Nat} {e : va_E} (he : e = sh.2 o ad cA (st'.1 o) (st'.2 o)) (h : ∀ o', o' ≠ o → st'.1 o' = st.1 o' ∧ st'.2 o' = st.2 o') : (wl sh ad cA st).set o (ad o, e) = wl sh ad cA st' := by
  apply List.ext_getElem?
  intro i
  rw [List.getElem?_set]
  by_cases hl : i < sh.1
  · by_cases hi : o = i
    · subst hi
      have hlen : o < (wl sh ad cA st).length := by simp only [wl, List.length_map, List.length_range]; exact hl
      rw [if_pos rfl, if_pos hlen, wl_at hl, he]
    · rw [if_neg hi, wl_at hl, wl_at hl, (h i (fun z => hi z.symm)).1, (h i (fun z => hi z.symm)).2]
  · have h1 : (wl sh ad cA st).length = sh.1 := by simp only [wl, List.length_map, List.length_range]
    have h2 : (wl sh ad cA st').length = sh.1 := by simp only [wl, List.length_map, List.length_range]
    rw [List.getElem?_eq_none (by rw [h2]; omega : (wl sh ad cA st').length ≤ i)]
    by_cases hi : o = i
    · rw [if_pos hi, if_neg (by rw [h1]; omega)]
    · rw [if_neg hi, List.getElem?_eq_none (by rw [h1]; omega)]
theorem wl_set1 {sh : vSh} {ad : Nat → Nat} {cA : Nat → ClassId} {st : vSt} {o k : Nat} {x : Int32} {e : va_E} (he : e = sh.2 o ad cA (upd (st.1 o) k x) (st.2 o)) : (wl sh ad cA st).set o (ad o, e) = wl sh ad cA (s1 st o k x) :=
  wl_set (by rw [he]; simp only [s1, if_pos]) (fun o' h => ⟨by simp only [s1, if_neg h], rfl⟩)
theorem wl_set2 {sh : vSh} {ad : Nat → Nat} {cA : Nat → ClassId} {st : vSt} {o k : Nat} {x : Int64} {e : va_E} (he : e = sh.2 o ad cA (st.1 o) (vp_updL (st.2 o) k x)) : (wl sh ad cA st).set o (ad o, e) = wl sh ad cA (s2 st o k x) :=
  wl_set (by rw [he]; simp only [s2, if_pos]) (fun o' h => ⟨rfl, by simp only [s2, if_neg h]⟩)
theorem vAd_D {sh : vSh} {ad : Nat → Nat} {A : Nat → Prop} (h : vAd sh ad A) (cA : Nat → ClassId) (st : vSt) : va_D A (wl sh ad cA st) := by
  refine ⟨fun i j p q hi hj e => ?_, fun k q hk => ?_⟩
  · obtain ⟨h1, rfl⟩ := wl_at' hi
    obtain ⟨h2, rfl⟩ := wl_at' hj
    exact h.1 i j h1 h2 e
  · obtain ⟨h1, rfl⟩ := wl_at' hk
    exact h.2 k h1
theorem vAd_wk {sh : vSh} {ad : Nat → Nat} {A B : Nat → Prop} (h : vAd sh ad A) (hB : ∀ q, A q → B q) : vAd sh ad B := ⟨h.1, fun k hk => hB _ (h.2 k hk)⟩
theorem vAd_A {sh : vSh} {ad : Nat → Nat} {A : Nat → Prop} (h : vAd sh ad A) (cA : Nat → ClassId) (st : vSt) (sz : Nat) : vAd sh ad (va_A (wl sh ad cA st) sz) := ⟨h.1, fun k hk => va_A.in (wl_at hk)⟩
theorem vAd_free {sh : vSh} {ad : Nat → Nat} {A : Nat → Prop} (h : vAd sh ad A) {cA : Nat → ClassId} {st : vSt} {H0 : Heap} {n : Nat} (hA : ∀ q, H0.size ≤ q → A q) (hn : H0.size ≤ n) : ∀ q, va_A (wl sh ad cA st) n q → A q := by
  rintro q (⟨k, e, hk⟩ | hq)
  · obtain ⟨h1, h2⟩ := wl_at' hk
    cases h2
    exact h.2 k h1
  · exact hA q (Nat.le_trans hn hq)
abbrev vCl : List vw_C := [(RX0, TX0, 6), (RX1, TX1, 4), (RX2, TX2, 2), (RX3, TX3, 8), (RX4, TX4, 5), (RX5, TX5, 5), (RX6, TX6, 8), (RX7, TX7, 5), (RX8, TX8, 5), (RX9, TX9, 11), (RX10, TX10, 2), (RX11, TX11, 12), (RX12, TX12, 51)]
/-! the judgement: P st pc lv stk : from there the method comes to its end -/
abbrev vP : Type := vSt → Nat → List (Nat × Value) → List Value → Prop
def vOK (P : vP) (l : Launch) (sh : vSh) (ad : Nat → Nat) (R : Room) (cc : ByteArray) (own : String) (nL : Nat) : Prop :=
  ∃ (p : Program) (e : Env) (s : State) (m : MethodId) (args : Array Value) (below : List Frame) (meth : Method) (c : Code) (D : va_G) (cA : Nat → ClassId) (A : Nat → Prop) (H0 : Heap) (Q : State → Prop),
    P = (fun st pc lv stk => ∀ (H : Heap) (locs : List Loc) (ls : Array Slot), va_P D vCl (wl sh ad cA st) H → va_S A H0 H locs → lv_has ls nL lv → W p l e R s m args below meth c H locs 0 0 Q (F0 m pc ls stk)) ∧
    p.tables.exec = Jvm.exec ∧ c.code = cc ∧ c.maxLocals = nL ∧ s.vm.findClass own = some m.cls ∧ (∀ w ∈ vT, w.before args s = true) ∧ va_K D vCl (vTys cA) s ∧ vAd sh ad A ∧ (∀ q, H0.size ≤ q → A q)
section V
variable {P : vP} {l : Launch} {sh : vSh} {ad : Nat → Nat} {R : Room} {cc : ByteArray} {own : String} {nL pc : Nat} {st : vSt} {lv : List (Nat × Value)} {rest : List Value}

theorem v_iconst (hX : vOK P l sh ad R cc own nL) {n : Int} {v : Int32} (hdg : decode cc pc = .ok (.iconst n, 1)) (hv : Int32.ofInt n = v) (k : P st (pc + 1) lv (.int v :: rest)) : P st pc lv (rest) := by
  obtain ⟨p, e, s, m, args, below, meth, c, D, cA, A, H0, Q, rfl, hx, hb, hml, hown, hts, hK, hA, hH0⟩ := hX
  intro H locs ls hP hS hl
  exact lv_iconst hx hb hdg hv (k H locs ls hP hS hl)
theorem v_lconst (hX : vOK P l sh ad R cc own nL) {n : Fin 2} {v : Int64} (hdg : decode cc pc = .ok (.lconst n, 1)) (hv : Int64.ofNat (n : Nat) = v) (k : P st (pc + 1) lv (.long v :: rest)) : P st pc lv (rest) := by
  obtain ⟨p, e, s, m, args, below, meth, c, D, cA, A, H0, Q, rfl, hx, hb, hml, hown, hts, hK, hA, hH0⟩ := hX
  intro H locs ls hP hS hl
  exact lv_lconst hx hb hdg hv (k H locs ls hP hS hl)
theorem v_bipush (hX : vOK P l sh ad R cc own nL) {n : Int} {v : Int32} (hdg : decode cc pc = .ok (.bipush n, 2)) (hv : (Int8.ofInt n).toInt32 = v) (k : P st (pc + 2) lv (.int v :: rest)) : P st pc lv (rest) := by
  obtain ⟨p, e, s, m, args, below, meth, c, D, cA, A, H0, Q, rfl, hx, hb, hml, hown, hts, hK, hA, hH0⟩ := hX
  intro H locs ls hP hS hl
  exact lv_bipush hx hb hdg hv (k H locs ls hP hS hl)
theorem v_sipush (hX : vOK P l sh ad R cc own nL) {n : Int} {v : Int32} (hdg : decode cc pc = .ok (.sipush n, 3)) (hv : (Int16.ofInt n).toInt32 = v) (k : P st (pc + 3) lv (.int v :: rest)) : P st pc lv (rest) := by
  obtain ⟨p, e, s, m, args, below, meth, c, D, cA, A, H0, Q, rfl, hx, hb, hml, hown, hts, hK, hA, hH0⟩ := hX
  intro H locs ls hP hS hl
  exact lv_sipush hx hb hdg hv (k H locs ls hP hS hl)
theorem v_iadd (hX : vOK P l sh ad R cc own nL) {x y : Int32} (hdg : decode cc pc = .ok (.iadd, 1))  (k : P st (pc + 1) lv (.int (x + y) :: rest)) : P st pc lv (.int y :: .int x :: rest) := by
  obtain ⟨p, e, s, m, args, below, meth, c, D, cA, A, H0, Q, rfl, hx, hb, hml, hown, hts, hK, hA, hH0⟩ := hX
  intro H locs ls hP hS hl
  exact lv_iadd hx hb hdg  (k H locs ls hP hS hl)
theorem v_isub (hX : vOK P l sh ad R cc own nL) {x y : Int32} (hdg : decode cc pc = .ok (.isub, 1))  (k : P st (pc + 1) lv (.int (x - y) :: rest)) : P st pc lv (.int y :: .int x :: rest) := by
  obtain ⟨p, e, s, m, args, below, meth, c, D, cA, A, H0, Q, rfl, hx, hb, hml, hown, hts, hK, hA, hH0⟩ := hX
  intro H locs ls hP hS hl
  exact lv_isub hx hb hdg  (k H locs ls hP hS hl)
theorem v_imul (hX : vOK P l sh ad R cc own nL) {x y : Int32} (hdg : decode cc pc = .ok (.imul, 1))  (k : P st (pc + 1) lv (.int (x * y) :: rest)) : P st pc lv (.int y :: .int x :: rest) := by
  obtain ⟨p, e, s, m, args, below, meth, c, D, cA, A, H0, Q, rfl, hx, hb, hml, hown, hts, hK, hA, hH0⟩ := hX
  intro H locs ls hP hS hl
  exact lv_imul hx hb hdg  (k H locs ls hP hS hl)
theorem v_iand (hX : vOK P l sh ad R cc own nL) {x y : Int32} (hdg : decode cc pc = .ok (.iand, 1))  (k : P st (pc + 1) lv (.int (x &&& y) :: rest)) : P st pc lv (.int y :: .int x :: rest) := by
  obtain ⟨p, e, s, m, args, below, meth, c, D, cA, A, H0, Q, rfl, hx, hb, hml, hown, hts, hK, hA, hH0⟩ := hX
  intro H locs ls hP hS hl
  exact lv_iand hx hb hdg  (k H locs ls hP hS hl)
theorem v_ior (hX : vOK P l sh ad R cc own nL) {x y : Int32} (hdg : decode cc pc = .ok (.ior, 1))  (k : P st (pc + 1) lv (.int (x ||| y) :: rest)) : P st pc lv (.int y :: .int x :: rest) := by
  obtain ⟨p, e, s, m, args, below, meth, c, D, cA, A, H0, Q, rfl, hx, hb, hml, hown, hts, hK, hA, hH0⟩ := hX
  intro H locs ls hP hS hl
  exact lv_ior hx hb hdg  (k H locs ls hP hS hl)
theorem v_ixor (hX : vOK P l sh ad R cc own nL) {x y : Int32} (hdg : decode cc pc = .ok (.ixor, 1))  (k : P st (pc + 1) lv (.int (x ^^^ y) :: rest)) : P st pc lv (.int y :: .int x :: rest) := by
  obtain ⟨p, e, s, m, args, below, meth, c, D, cA, A, H0, Q, rfl, hx, hb, hml, hown, hts, hK, hA, hH0⟩ := hX
  intro H locs ls hP hS hl
  exact lv_ixor hx hb hdg  (k H locs ls hP hS hl)
theorem v_ishl (hX : vOK P l sh ad R cc own nL) {x y : Int32} (hdg : decode cc pc = .ok (.ishl, 1))  (k : P st (pc + 1) lv (.int (x <<< (y &&& 31)) :: rest)) : P st pc lv (.int y :: .int x :: rest) := by
  obtain ⟨p, e, s, m, args, below, meth, c, D, cA, A, H0, Q, rfl, hx, hb, hml, hown, hts, hK, hA, hH0⟩ := hX
  intro H locs ls hP hS hl
  exact lv_ishl hx hb hdg  (k H locs ls hP hS hl)
theorem v_ishr (hX : vOK P l sh ad R cc own nL) {x y : Int32} (hdg : decode cc pc = .ok (.ishr, 1))  (k : P st (pc + 1) lv (.int (x >>> (y &&& 31)) :: rest)) : P st pc lv (.int y :: .int x :: rest) := by
  obtain ⟨p, e, s, m, args, below, meth, c, D, cA, A, H0, Q, rfl, hx, hb, hml, hown, hts, hK, hA, hH0⟩ := hX
  intro H locs ls hP hS hl
  exact lv_ishr hx hb hdg  (k H locs ls hP hS hl)
theorem v_iushr (hX : vOK P l sh ad R cc own nL) {x y : Int32} (hdg : decode cc pc = .ok (.iushr, 1))  (k : P st (pc + 1) lv (.int ((x.toUInt32 >>> (y.toUInt32 &&& Int32.toUInt32 31)).toInt32) :: rest)) : P st pc lv (.int y :: .int x :: rest) := by
  obtain ⟨p, e, s, m, args, below, meth, c, D, cA, A, H0, Q, rfl, hx, hb, hml, hown, hts, hK, hA, hH0⟩ := hX
  intro H locs ls hP hS hl
  exact lv_iushr hx hb hdg rfl (k H locs ls hP hS hl)
theorem v_idiv (hX : vOK P l sh ad R cc own nL) {x y : Int32} (hdg : decode cc pc = .ok (.idiv, 1)) (hne : ¬ y = 0) (k : P st (pc + 1) lv (.int (x / y) :: rest)) : P st pc lv (.int y :: .int x :: rest) := by
  obtain ⟨p, e, s, m, args, below, meth, c, D, cA, A, H0, Q, rfl, hx, hb, hml, hown, hts, hK, hA, hH0⟩ := hX
  intro H locs ls hP hS hl
  exact lv_idiv hx hb hdg hne (k H locs ls hP hS hl)
theorem v_irem (hX : vOK P l sh ad R cc own nL) {x y : Int32} (hdg : decode cc pc = .ok (.irem, 1)) (hne : ¬ y = 0) (k : P st (pc + 1) lv (.int (x - x / y * y) :: rest)) : P st pc lv (.int y :: .int x :: rest) := by
  obtain ⟨p, e, s, m, args, below, meth, c, D, cA, A, H0, Q, rfl, hx, hb, hml, hown, hts, hK, hA, hH0⟩ := hX
  intro H locs ls hP hS hl
  exact lv_irem hx hb hdg hne (k H locs ls hP hS hl)
theorem v_ineg (hX : vOK P l sh ad R cc own nL) {x : Int32} (hdg : decode cc pc = .ok (.ineg, 1))  (k : P st (pc + 1) lv (.int (-x) :: rest)) : P st pc lv (.int x :: rest) := by
  obtain ⟨p, e, s, m, args, below, meth, c, D, cA, A, H0, Q, rfl, hx, hb, hml, hown, hts, hK, hA, hH0⟩ := hX
  intro H locs ls hP hS hl
  exact lv_ineg hx hb hdg  (k H locs ls hP hS hl)
theorem v_i2l (hX : vOK P l sh ad R cc own nL) {x : Int32} (hdg : decode cc pc = .ok (.i2l, 1))  (k : P st (pc + 1) lv (.long x.toInt64 :: rest)) : P st pc lv (.int x :: rest) := by
  obtain ⟨p, e, s, m, args, below, meth, c, D, cA, A, H0, Q, rfl, hx, hb, hml, hown, hts, hK, hA, hH0⟩ := hX
  intro H locs ls hP hS hl
  exact lv_i2l hx hb hdg rfl (k H locs ls hP hS hl)
theorem v_i2b (hX : vOK P l sh ad R cc own nL) {x : Int32} (hdg : decode cc pc = .ok (.i2b, 1))  (k : P st (pc + 1) lv (.int x.toInt8.toInt32 :: rest)) : P st pc lv (.int x :: rest) := by
  obtain ⟨p, e, s, m, args, below, meth, c, D, cA, A, H0, Q, rfl, hx, hb, hml, hown, hts, hK, hA, hH0⟩ := hX
  intro H locs ls hP hS hl
  exact lv_i2b hx hb hdg rfl (k H locs ls hP hS hl)
theorem v_i2s (hX : vOK P l sh ad R cc own nL) {x : Int32} (hdg : decode cc pc = .ok (.i2s, 1))  (k : P st (pc + 1) lv (.int x.toInt16.toInt32 :: rest)) : P st pc lv (.int x :: rest) := by
  obtain ⟨p, e, s, m, args, below, meth, c, D, cA, A, H0, Q, rfl, hx, hb, hml, hown, hts, hK, hA, hH0⟩ := hX
  intro H locs ls hP hS hl
  exact lv_i2s hx hb hdg rfl (k H locs ls hP hS hl)
theorem v_i2c (hX : vOK P l sh ad R cc own nL) {x : Int32} (hdg : decode cc pc = .ok (.i2c, 1))  (k : P st (pc + 1) lv (.int (x.toUInt32 % 65536).toInt32 :: rest)) : P st pc lv (.int x :: rest) := by
  obtain ⟨p, e, s, m, args, below, meth, c, D, cA, A, H0, Q, rfl, hx, hb, hml, hown, hts, hK, hA, hH0⟩ := hX
  intro H locs ls hP hS hl
  exact lv_i2c hx hb hdg rfl (k H locs ls hP hS hl)
theorem v_ladd (hX : vOK P l sh ad R cc own nL) {x y : Int64} (hdg : decode cc pc = .ok (.ladd, 1))  (k : P st (pc + 1) lv (.long (x + y) :: rest)) : P st pc lv (.long y :: .long x :: rest) := by
  obtain ⟨p, e, s, m, args, below, meth, c, D, cA, A, H0, Q, rfl, hx, hb, hml, hown, hts, hK, hA, hH0⟩ := hX
  intro H locs ls hP hS hl
  exact lv_ladd hx hb hdg  (k H locs ls hP hS hl)
theorem v_lcmp (hX : vOK P l sh ad R cc own nL) {x y : Int64} (hdg : decode cc pc = .ok (.lcmp, 1))  (k : P st (pc + 1) lv (.int (lg_cmp x y) :: rest)) : P st pc lv (.long y :: .long x :: rest) := by
  obtain ⟨p, e, s, m, args, below, meth, c, D, cA, A, H0, Q, rfl, hx, hb, hml, hown, hts, hK, hA, hH0⟩ := hX
  intro H locs ls hP hS hl
  exact W.lcmp hx hb hdg  (k H locs ls hP hS hl)
theorem v_dup (hX : vOK P l sh ad R cc own nL) {va : Value} (hdg : decode cc pc = .ok (.dup, 1)) (hva : va.category = 1) (k : P st (pc + 1) lv (va :: va :: rest)) : P st pc lv (va :: rest) := by
  obtain ⟨p, e, s, m, args, below, meth, c, D, cA, A, H0, Q, rfl, hx, hb, hml, hown, hts, hK, hA, hH0⟩ := hX
  intro H locs ls hP hS hl
  exact lv_dup hx hb hdg hva (k H locs ls hP hS hl)
theorem v_pop (hX : vOK P l sh ad R cc own nL) {va : Value} (hdg : decode cc pc = .ok (.pop, 1)) (hva : va.category = 1) (k : P st (pc + 1) lv (rest)) : P st pc lv (va :: rest) := by
  obtain ⟨p, e, s, m, args, below, meth, c, D, cA, A, H0, Q, rfl, hx, hb, hml, hown, hts, hK, hA, hH0⟩ := hX
  intro H locs ls hP hS hl
  exact lv_pop hx hb hdg hva (k H locs ls hP hS hl)
theorem v_dup2 (hX : vOK P l sh ad R cc own nL) {va vb : Value} (hdg : decode cc pc = .ok (.dup2, 1)) (hva : va.category = 1) (hvb : vb.category = 1) (k : P st (pc + 1) lv (va :: vb :: va :: vb :: rest)) : P st pc lv (va :: vb :: rest) := by
  obtain ⟨p, e, s, m, args, below, meth, c, D, cA, A, H0, Q, rfl, hx, hb, hml, hown, hts, hK, hA, hH0⟩ := hX
  intro H locs ls hP hS hl
  exact lv_dup2_11 hx hb hdg hva hvb (k H locs ls hP hS hl)
theorem v_dup_x1 (hX : vOK P l sh ad R cc own nL) {va vb : Value} (hdg : decode cc pc = .ok (.dup_x1, 1)) (hva : va.category = 1) (hvb : vb.category = 1) (k : P st (pc + 1) lv (va :: vb :: va :: rest)) : P st pc lv (va :: vb :: rest) := by
  obtain ⟨p, e, s, m, args, below, meth, c, D, cA, A, H0, Q, rfl, hx, hb, hml, hown, hts, hK, hA, hH0⟩ := hX
  intro H locs ls hP hS hl
  exact lv_dup_x1 hx hb hdg hva hvb (k H locs ls hP hS hl)
theorem v_iload_n (hX : vOK P l sh ad R cc own nL) {n : Fin 4} {i : Nat} {x : Int32} (hdg : decode cc pc = .ok (.iload_n n, 1)) (hi : (n : Nat) = i) (j : Nat) (hj : lv[j]? = some (i, .int x)) (k : P st (pc + 1) lv (.int x :: rest)) : P st pc lv (rest) := by
  obtain ⟨p, e, s, m, args, below, meth, c, D, cA, A, H0, Q, rfl, hx, hb, hml, hown, hts, hK, hA, hH0⟩ := hX
  intro H locs ls hP hS hl
  exact lv_iload_n hx hb hdg hi (lv_at hl j hj) (k H locs ls hP hS hl)
theorem v_iload (hX : vOK P l sh ad R cc own nL) {i : Nat} {x : Int32} (hdg : decode cc pc = .ok (.iload i, 2)) (j : Nat) (hj : lv[j]? = some (i, .int x)) (k : P st (pc + 2) lv (.int x :: rest)) : P st pc lv (rest) := by
  obtain ⟨p, e, s, m, args, below, meth, c, D, cA, A, H0, Q, rfl, hx, hb, hml, hown, hts, hK, hA, hH0⟩ := hX
  intro H locs ls hP hS hl
  exact lv_iload hx hb hdg (lv_at hl j hj) (k H locs ls hP hS hl)
theorem v_lload_n (hX : vOK P l sh ad R cc own nL) {n : Fin 4} {i : Nat} {x : Int64} (hdg : decode cc pc = .ok (.lload_n n, 1)) (hi : (n : Nat) = i) (j : Nat) (hj : lv[j]? = some (i, .long x)) (k : P st (pc + 1) lv (.long x :: rest)) : P st pc lv (rest) := by
  obtain ⟨p, e, s, m, args, below, meth, c, D, cA, A, H0, Q, rfl, hx, hb, hml, hown, hts, hK, hA, hH0⟩ := hX
  intro H locs ls hP hS hl
  exact lv_lload_n hx hb hdg hi (lv_at hl j hj) (k H locs ls hP hS hl)
theorem v_lload (hX : vOK P l sh ad R cc own nL) {i : Nat} {x : Int64} (hdg : decode cc pc = .ok (.lload i, 2)) (j : Nat) (hj : lv[j]? = some (i, .long x)) (k : P st (pc + 2) lv (.long x :: rest)) : P st pc lv (rest) := by
  obtain ⟨p, e, s, m, args, below, meth, c, D, cA, A, H0, Q, rfl, hx, hb, hml, hown, hts, hK, hA, hH0⟩ := hX
  intro H locs ls hP hS hl
  exact lv_lload hx hb hdg (lv_at hl j hj) (k H locs ls hP hS hl)
theorem v_aload_n (hX : vOK P l sh ad R cc own nL) {n : Fin 4} {i : Nat} {x : Nat} (hdg : decode cc pc = .ok (.aload_n n, 1)) (hi : (n : Nat) = i) (j : Nat) (hj : lv[j]? = some (i, .ref x)) (k : P st (pc + 1) lv (.ref x :: rest)) : P st pc lv (rest) := by
  obtain ⟨p, e, s, m, args, below, meth, c, D, cA, A, H0, Q, rfl, hx, hb, hml, hown, hts, hK, hA, hH0⟩ := hX
  intro H locs ls hP hS hl
  exact lv_aload_n hx hb hdg hi (lv_at hl j hj) (k H locs ls hP hS hl)
theorem v_aload (hX : vOK P l sh ad R cc own nL) {i : Nat} {x : Nat} (hdg : decode cc pc = .ok (.aload i, 2)) (j : Nat) (hj : lv[j]? = some (i, .ref x)) (k : P st (pc + 2) lv (.ref x :: rest)) : P st pc lv (rest) := by
  obtain ⟨p, e, s, m, args, below, meth, c, D, cA, A, H0, Q, rfl, hx, hb, hml, hown, hts, hK, hA, hH0⟩ := hX
  intro H locs ls hP hS hl
  exact lv_aload hx hb hdg (lv_at hl j hj) (k H locs ls hP hS hl)
theorem v_istore_n (hX : vOK P l sh ad R cc own nL) {n : Fin 4} {i : Nat} {x : Int32} {lv' : List (Nat × Value)} (hdg : decode cc pc = .ok (.istore_n n, 1)) (hi : (n : Nat) = i) (hn : i < nL) (hl' : (i, Value.int x) :: lv.filter (fun q => !(q.1 == i) && !(q.1 + 1 == i && q.2.category == 2)) = lv') (k : P st (pc + 1) lv' rest) : P st pc lv (.int x :: rest) := by
  obtain ⟨p, e, s, m, args, below, meth, c, D, cA, A, H0, Q, rfl, hx, hb, hml, hown, hts, hK, hA, hH0⟩ := hX
  intro H locs ls hP hS hl
  exact lv_istore_n hx hb hdg hi hl hn hl' (fun ls' hl2 => k H locs ls' hP hS hl2)
theorem v_istore (hX : vOK P l sh ad R cc own nL) {i : Nat} {x : Int32} {lv' : List (Nat × Value)} (hdg : decode cc pc = .ok (.istore i, 2)) (hn : i < nL) (hl' : (i, Value.int x) :: lv.filter (fun q => !(q.1 == i) && !(q.1 + 1 == i && q.2.category == 2)) = lv') (k : P st (pc + 2) lv' rest) : P st pc lv (.int x :: rest) := by
  obtain ⟨p, e, s, m, args, below, meth, c, D, cA, A, H0, Q, rfl, hx, hb, hml, hown, hts, hK, hA, hH0⟩ := hX
  intro H locs ls hP hS hl
  exact lv_istore hx hb hdg hl hn hl' (fun ls' hl2 => k H locs ls' hP hS hl2)
theorem v_lstore_n (hX : vOK P l sh ad R cc own nL) {n : Fin 4} {i : Nat} {x : Int64} {lv' : List (Nat × Value)} (hdg : decode cc pc = .ok (.lstore_n n, 1)) (hi : (n : Nat) = i) (hn : i + 1 < nL) (hl' : (i, Value.long x) :: lv.filter (fun q => !(q.1 == i) && (!(q.1 == i + 1) && !(q.1 + 1 == i && q.2.category == 2))) = lv') (k : P st (pc + 1) lv' rest) : P st pc lv (.long x :: rest) := by
  obtain ⟨p, e, s, m, args, below, meth, c, D, cA, A, H0, Q, rfl, hx, hb, hml, hown, hts, hK, hA, hH0⟩ := hX
  intro H locs ls hP hS hl
  exact lv_lstore_n hx hb hdg hi hl hn hl' (fun ls' hl2 => k H locs ls' hP hS hl2)
theorem v_lstore (hX : vOK P l sh ad R cc own nL) {i : Nat} {x : Int64} {lv' : List (Nat × Value)} (hdg : decode cc pc = .ok (.lstore i, 2)) (hn : i + 1 < nL) (hl' : (i, Value.long x) :: lv.filter (fun q => !(q.1 == i) && (!(q.1 == i + 1) && !(q.1 + 1 == i && q.2.category == 2))) = lv') (k : P st (pc + 2) lv' rest) : P st pc lv (.long x :: rest) := by
  obtain ⟨p, e, s, m, args, below, meth, c, D, cA, A, H0, Q, rfl, hx, hb, hml, hown, hts, hK, hA, hH0⟩ := hX
  intro H locs ls hP hS hl
  exact lv_lstore hx hb hdg hl hn hl' (fun ls' hl2 => k H locs ls' hP hS hl2)
theorem v_astore_n (hX : vOK P l sh ad R cc own nL) {n : Fin 4} {i : Nat} {x : Nat} {lv' : List (Nat × Value)} (hdg : decode cc pc = .ok (.astore_n n, 1)) (hi : (n : Nat) = i) (hn : i < nL) (hl' : (i, Value.ref x) :: lv.filter (fun q => !(q.1 == i) && !(q.1 + 1 == i && q.2.category == 2)) = lv') (k : P st (pc + 1) lv' rest) : P st pc lv (.ref x :: rest) := by
  obtain ⟨p, e, s, m, args, below, meth, c, D, cA, A, H0, Q, rfl, hx, hb, hml, hown, hts, hK, hA, hH0⟩ := hX
  intro H locs ls hP hS hl
  exact lv_astore_n hx hb hdg hi hl hn hl' (fun ls' hl2 => k H locs ls' hP hS hl2)
theorem v_astore (hX : vOK P l sh ad R cc own nL) {i : Nat} {x : Nat} {lv' : List (Nat × Value)} (hdg : decode cc pc = .ok (.astore i, 2)) (hn : i < nL) (hl' : (i, Value.ref x) :: lv.filter (fun q => !(q.1 == i) && !(q.1 + 1 == i && q.2.category == 2)) = lv') (k : P st (pc + 2) lv' rest) : P st pc lv (.ref x :: rest) := by
  obtain ⟨p, e, s, m, args, below, meth, c, D, cA, A, H0, Q, rfl, hx, hb, hml, hown, hts, hK, hA, hH0⟩ := hX
  intro H locs ls hP hS hl
  exact lv_astore hx hb hdg hl hn hl' (fun ls' hl2 => k H locs ls' hP hS hl2)
theorem v_iinc (hX : vOK P l sh ad R cc own nL) {i j : Nat} {n : Int} {x v : Int32} {lv' : List (Nat × Value)} (hdg : decode cc pc = .ok (.iinc i n, 3)) (hj : lv[j]? = some (i, .int x)) (hv : x + Int32.ofInt n = v) (hn : i < nL) (hl' : (i, Value.int v) :: lv.filter (fun q => !(q.1 == i) && !(q.1 + 1 == i && q.2.category == 2)) = lv') (k : P st (pc + 3) lv' rest) : P st pc lv (rest) := by
  obtain ⟨p, e, s, m, args, below, meth, c, D, cA, A, H0, Q, rfl, hx, hb, hml, hown, hts, hK, hA, hH0⟩ := hX
  intro H locs ls hP hS hl
  exact lv_iinc hx hb hdg hl hj hv hn hl' (fun ls' hl2 => k H locs ls' hP hS hl2)
theorem v_if_eq (hX : vOK P l sh ad R cc own nL) {α : Type} {F1 F2 out : α} {x : Int32} {off : Int} {tgt : Nat} (hdg : decode cc pc = .ok (.ifCond .eq off, 3)) (ht : (pc : Int) + off = (tgt : Int)) (h : (if x = 0 then F1 else F2) = out) (kt : F1 = out → P st tgt lv rest) (kf : F2 = out → P st (pc + 3) lv rest) : P st pc lv (.int x :: rest) := by
  obtain ⟨p, e, s, m, args, below, meth, c, D, cA, A, H0, Q, rfl, hx, hb, hml, hown, hts, hK, hA, hH0⟩ := hX
  intro H locs ls hP hS hl
  exact lv_if_eq hx hb hdg ht (fun c => kt (by rw [if_pos c] at h; exact h) H locs ls hP hS hl) (fun c => kf (by rw [if_neg c] at h; exact h) H locs ls hP hS hl)
theorem v_if_ne (hX : vOK P l sh ad R cc own nL) {α : Type} {F1 F2 out : α} {x : Int32} {off : Int} {tgt : Nat} (hdg : decode cc pc = .ok (.ifCond .ne off, 3)) (ht : (pc : Int) + off = (tgt : Int)) (h : (if x = 0 then F1 else F2) = out) (kt : F1 = out → P st (pc + 3) lv rest) (kf : F2 = out → P st tgt lv rest) : P st pc lv (.int x :: rest) := by
  obtain ⟨p, e, s, m, args, below, meth, c, D, cA, A, H0, Q, rfl, hx, hb, hml, hown, hts, hK, hA, hH0⟩ := hX
  intro H locs ls hP hS hl
  exact lv_if_ne hx hb hdg ht (fun c => kf (by rw [if_neg c] at h; exact h) H locs ls hP hS hl) (fun c => kt (by rw [if_pos c] at h; exact h) H locs ls hP hS hl)
theorem v_if_lt (hX : vOK P l sh ad R cc own nL) {α : Type} {F1 F2 out : α} {x : Int32} {off : Int} {tgt : Nat} (hdg : decode cc pc = .ok (.ifCond .lt off, 3)) (ht : (pc : Int) + off = (tgt : Int)) (h : (if x < 0 then F1 else F2) = out) (kt : F1 = out → P st tgt lv rest) (kf : F2 = out → P st (pc + 3) lv rest) : P st pc lv (.int x :: rest) := by
  obtain ⟨p, e, s, m, args, below, meth, c, D, cA, A, H0, Q, rfl, hx, hb, hml, hown, hts, hK, hA, hH0⟩ := hX
  intro H locs ls hP hS hl
  exact lv_if_lt hx hb hdg ht (fun c => kt (by rw [if_pos c] at h; exact h) H locs ls hP hS hl) (fun c => kf (by rw [if_neg c] at h; exact h) H locs ls hP hS hl)
theorem v_if_ge (hX : vOK P l sh ad R cc own nL) {α : Type} {F1 F2 out : α} {x : Int32} {off : Int} {tgt : Nat} (hdg : decode cc pc = .ok (.ifCond .ge off, 3)) (ht : (pc : Int) + off = (tgt : Int)) (h : (if 0 ≤ x then F1 else F2) = out) (kt : F1 = out → P st tgt lv rest) (kf : F2 = out → P st (pc + 3) lv rest) : P st pc lv (.int x :: rest) := by
  obtain ⟨p, e, s, m, args, below, meth, c, D, cA, A, H0, Q, rfl, hx, hb, hml, hown, hts, hK, hA, hH0⟩ := hX
  intro H locs ls hP hS hl
  exact lv_if_ge hx hb hdg ht (fun c => kt (by rw [if_pos c] at h; exact h) H locs ls hP hS hl) (fun c => kf (by rw [if_neg c] at h; exact h) H locs ls hP hS hl)
theorem v_if_gt (hX : vOK P l sh ad R cc own nL) {α : Type} {F1 F2 out : α} {x : Int32} {off : Int} {tgt : Nat} (hdg : decode cc pc = .ok (.ifCond .gt off, 3)) (ht : (pc : Int) + off = (tgt : Int)) (h : (if 0 < x then F1 else F2) = out) (kt : F1 = out → P st tgt lv rest) (kf : F2 = out → P st (pc + 3) lv rest) : P st pc lv (.int x :: rest) := by
  obtain ⟨p, e, s, m, args, below, meth, c, D, cA, A, H0, Q, rfl, hx, hb, hml, hown, hts, hK, hA, hH0⟩ := hX
  intro H locs ls hP hS hl
  exact lv_if_gt hx hb hdg ht (fun c => kt (by rw [if_pos c] at h; exact h) H locs ls hP hS hl) (fun c => kf (by rw [if_neg c] at h; exact h) H locs ls hP hS hl)
theorem v_if_le (hX : vOK P l sh ad R cc own nL) {α : Type} {F1 F2 out : α} {x : Int32} {off : Int} {tgt : Nat} (hdg : decode cc pc = .ok (.ifCond .le off, 3)) (ht : (pc : Int) + off = (tgt : Int)) (h : (if x ≤ 0 then F1 else F2) = out) (kt : F1 = out → P st tgt lv rest) (kf : F2 = out → P st (pc + 3) lv rest) : P st pc lv (.int x :: rest) := by
  obtain ⟨p, e, s, m, args, below, meth, c, D, cA, A, H0, Q, rfl, hx, hb, hml, hown, hts, hK, hA, hH0⟩ := hX
  intro H locs ls hP hS hl
  exact lv_if_le hx hb hdg ht (fun c => kt (by rw [if_pos c] at h; exact h) H locs ls hP hS hl) (fun c => kf (by rw [if_neg c] at h; exact h) H locs ls hP hS hl)
theorem v_icmp_eq (hX : vOK P l sh ad R cc own nL) {α : Type} {F1 F2 out : α} {x y : Int32} {off : Int} {tgt : Nat} (hdg : decode cc pc = .ok (.if_icmp .eq off, 3)) (ht : (pc : Int) + off = (tgt : Int)) (h : (if x = y then F1 else F2) = out) (kt : F1 = out → P st tgt lv rest) (kf : F2 = out → P st (pc + 3) lv rest) : P st pc lv (.int y :: .int x :: rest) := by
  obtain ⟨p, e, s, m, args, below, meth, c, D, cA, A, H0, Q, rfl, hx, hb, hml, hown, hts, hK, hA, hH0⟩ := hX
  intro H locs ls hP hS hl
  exact lv_icmp_eq hx hb hdg ht (fun c => kt (by rw [if_pos c] at h; exact h) H locs ls hP hS hl) (fun c => kf (by rw [if_neg c] at h; exact h) H locs ls hP hS hl)
theorem v_icmp_ne (hX : vOK P l sh ad R cc own nL) {α : Type} {F1 F2 out : α} {x y : Int32} {off : Int} {tgt : Nat} (hdg : decode cc pc = .ok (.if_icmp .ne off, 3)) (ht : (pc : Int) + off = (tgt : Int)) (h : (if x = y then F1 else F2) = out) (kt : F1 = out → P st (pc + 3) lv rest) (kf : F2 = out → P st tgt lv rest) : P st pc lv (.int y :: .int x :: rest) := by
  obtain ⟨p, e, s, m, args, below, meth, c, D, cA, A, H0, Q, rfl, hx, hb, hml, hown, hts, hK, hA, hH0⟩ := hX
  intro H locs ls hP hS hl
  exact lv_icmp_ne hx hb hdg ht (fun c => kf (by rw [if_neg c] at h; exact h) H locs ls hP hS hl) (fun c => kt (by rw [if_pos c] at h; exact h) H locs ls hP hS hl)
theorem v_icmp_lt (hX : vOK P l sh ad R cc own nL) {α : Type} {F1 F2 out : α} {x y : Int32} {off : Int} {tgt : Nat} (hdg : decode cc pc = .ok (.if_icmp .lt off, 3)) (ht : (pc : Int) + off = (tgt : Int)) (h : (if x < y then F1 else F2) = out) (kt : F1 = out → P st tgt lv rest) (kf : F2 = out → P st (pc + 3) lv rest) : P st pc lv (.int y :: .int x :: rest) := by
  obtain ⟨p, e, s, m, args, below, meth, c, D, cA, A, H0, Q, rfl, hx, hb, hml, hown, hts, hK, hA, hH0⟩ := hX
  intro H locs ls hP hS hl
  exact lv_icmp_lt hx hb hdg ht (fun c => kt (by rw [if_pos c] at h; exact h) H locs ls hP hS hl) (fun c => kf (by rw [if_neg c] at h; exact h) H locs ls hP hS hl)
theorem v_icmp_ge (hX : vOK P l sh ad R cc own nL) {α : Type} {F1 F2 out : α} {x y : Int32} {off : Int} {tgt : Nat} (hdg : decode cc pc = .ok (.if_icmp .ge off, 3)) (ht : (pc : Int) + off = (tgt : Int)) (h : (if y ≤ x then F1 else F2) = out) (kt : F1 = out → P st tgt lv rest) (kf : F2 = out → P st (pc + 3) lv rest) : P st pc lv (.int y :: .int x :: rest) := by
  obtain ⟨p, e, s, m, args, below, meth, c, D, cA, A, H0, Q, rfl, hx, hb, hml, hown, hts, hK, hA, hH0⟩ := hX
  intro H locs ls hP hS hl
  exact lv_icmp_ge hx hb hdg ht (fun c => kt (by rw [if_pos c] at h; exact h) H locs ls hP hS hl) (fun c => kf (by rw [if_neg c] at h; exact h) H locs ls hP hS hl)
theorem v_icmp_gt (hX : vOK P l sh ad R cc own nL) {α : Type} {F1 F2 out : α} {x y : Int32} {off : Int} {tgt : Nat} (hdg : decode cc pc = .ok (.if_icmp .gt off, 3)) (ht : (pc : Int) + off = (tgt : Int)) (h : (if y < x then F1 else F2) = out) (kt : F1 = out → P st tgt lv rest) (kf : F2 = out → P st (pc + 3) lv rest) : P st pc lv (.int y :: .int x :: rest) := by
  obtain ⟨p, e, s, m, args, below, meth, c, D, cA, A, H0, Q, rfl, hx, hb, hml, hown, hts, hK, hA, hH0⟩ := hX
  intro H locs ls hP hS hl
  exact lv_icmp_gt hx hb hdg ht (fun c => kt (by rw [if_pos c] at h; exact h) H locs ls hP hS hl) (fun c => kf (by rw [if_neg c] at h; exact h) H locs ls hP hS hl)
theorem v_icmp_le (hX : vOK P l sh ad R cc own nL) {α : Type} {F1 F2 out : α} {x y : Int32} {off : Int} {tgt : Nat} (hdg : decode cc pc = .ok (.if_icmp .le off, 3)) (ht : (pc : Int) + off = (tgt : Int)) (h : (if x ≤ y then F1 else F2) = out) (kt : F1 = out → P st tgt lv rest) (kf : F2 = out → P st (pc + 3) lv rest) : P st pc lv (.int y :: .int x :: rest) := by
  obtain ⟨p, e, s, m, args, below, meth, c, D, cA, A, H0, Q, rfl, hx, hb, hml, hown, hts, hK, hA, hH0⟩ := hX
  intro H locs ls hP hS hl
  exact lv_icmp_le hx hb hdg ht (fun c => kt (by rw [if_pos c] at h; exact h) H locs ls hP hS hl) (fun c => kf (by rw [if_neg c] at h; exact h) H locs ls hP hS hl)
theorem v_goto (hX : vOK P l sh ad R cc own nL) {off : Int} {tgt : Nat} (hdg : decode cc pc = .ok (.goto off, 3)) (ht : (pc : Int) + off = (tgt : Int)) (k : P st tgt lv rest) : P st pc lv (rest) := by
  obtain ⟨p, e, s, m, args, below, meth, c, D, cA, A, H0, Q, rfl, hx, hb, hml, hown, hts, hK, hA, hH0⟩ := hX
  intro H locs ls hP hS hl
  exact lv_goto hx hb hdg ht (k H locs ls hP hS hl)
theorem v_ldc (hX : vOK P l sh ad R cc own nL) {idx : Nat} {v : Int32} (hw : Cond.constant own idx v ∈ vT) (hdg : decode cc pc = .ok (.ldc idx, 2)) (k : P st (pc + 2) lv (.int v :: rest)) : P st pc lv (rest) := by
  obtain ⟨p, e, s, m, args, below, meth, c, D, cA, A, H0, Q, rfl, hx, hb, hml, hown, hts, hK, hA, hH0⟩ := hX
  intro H locs ls hP hS hl
  exact lv_ldc hx hb hown (hts _ hw) hdg (k H locs ls hP hS hl)
theorem v_ldcw (hX : vOK P l sh ad R cc own nL) {idx : Nat} {v : Int32} (hw : Cond.constant own idx v ∈ vT) (hdg : decode cc pc = .ok (.ldc_w idx, 3)) (k : P st (pc + 3) lv (.int v :: rest)) : P st pc lv (rest) := by
  obtain ⟨p, e, s, m, args, below, meth, c, D, cA, A, H0, Q, rfl, hx, hb, hml, hown, hts, hK, hA, hH0⟩ := hX
  intro H locs ls hP hS hl
  exact lv_ldcw hx hb hown (hts _ hw) hdg (k H locs ls hP hS hl)
theorem v_ldc2 (hX : vOK P l sh ad R cc own nL) {idx : Nat} {v : Int64} (hw : Cond.constantLong own idx v ∈ vT) (hdg : decode cc pc = .ok (.ldc2_w idx, 3)) (k : P st (pc + 3) lv (.long v :: rest)) : P st pc lv (rest) := by
  obtain ⟨p, e, s, m, args, below, meth, c, D, cA, A, H0, Q, rfl, hx, hb, hml, hown, hts, hK, hA, hH0⟩ := hX
  intro H locs ls hP hS hl
  exact lv_ldc2 hx hb hown (hts _ hw) hdg (k H locs ls hP hS hl)
theorem v_sub (hX : vOK P l sh ad R cc own nL) (ks : List Nat) {lv' : List (Nat × Value)} (h : lv_pick lv ks = lv') (k : P st pc lv' rest) : P st pc lv (rest) := by
  obtain ⟨p, e, s, m, args, below, meth, c, D, cA, A, H0, Q, rfl, hx, hb, hml, hown, hts, hK, hA, hH0⟩ := hX
  intro H locs ls hP hS hl
  exact k H locs ls hP hS (lv_sub hl ks h)
theorem v_tblIn (hX : vOK P l sh ad R cc own nL) {dflt lo hi : Int} {offs : Array Int} {len : Nat} {x : Int32} {off : Int} {tgt : Nat} (hdg : decode cc pc = .ok (.tableswitch dflt lo hi offs, len)) (h1 : ¬ x.toInt < lo) (h2 : ¬ hi < x.toInt) (ho : offs[(x.toInt - lo).toNat]? = some off) (ht : (pc : Int) + off = (tgt : Int)) (k : P st tgt lv rest) : P st pc lv (.int x :: rest) := by
  obtain ⟨p, e, s, m, args, below, meth, c, D, cA, A, H0, Q, rfl, hx, hb, hml, hown, hts, hK, hA, hH0⟩ := hX
  intro H locs ls hP hS hl
  exact lv_tableIn hx hb hdg h1 h2 ho ht (k H locs ls hP hS hl)
theorem v_tblOut (hX : vOK P l sh ad R cc own nL) {dflt lo hi : Int} {offs : Array Int} {len : Nat} {x : Int32} {tgt : Nat} (hdg : decode cc pc = .ok (.tableswitch dflt lo hi offs, len)) (h : x.toInt < lo ∨ hi < x.toInt) (ht : (pc : Int) + dflt = (tgt : Int)) (k : P st tgt lv rest) : P st pc lv (.int x :: rest) := by
  obtain ⟨p, e, s, m, args, below, meth, c, D, cA, A, H0, Q, rfl, hx, hb, hml, hown, hts, hK, hA, hH0⟩ := hX
  intro H locs ls hP hS hl
  exact lv_tableOut hx hb hdg h ht (k H locs ls hP hS hl)
theorem v_lookup (hX : vOK P l sh ad R cc own nL) {dflt : Int} {ps : Array (Int × Int)} {len : Nat} {x : Int32} {off : Int} {tgt : Nat} (hdg : decode cc pc = .ok (.lookupswitch dflt ps, len)) (hp : (ps.toList.zip (ps.toList.drop 1)).all (fun (a, next) => a.1 < next.1) = true) (ho : Op.lookupswitch.offset ps.toList dflt x.toInt = off) (ht : (pc : Int) + off = (tgt : Int)) (k : P st tgt lv rest) : P st pc lv (.int x :: rest) := by
  obtain ⟨p, e, s, m, args, below, meth, c, D, cA, A, H0, Q, rfl, hx, hb, hml, hown, hts, hK, hA, hH0⟩ := hX
  intro H locs ls hP hS hl
  exact lv_lookup hx hb hdg hp ho ht (k H locs ls hP hS hl)
theorem v_getf (hX : vOK P l sh ad R cc own nL) {o k0 ci N : Nat} {C : String} {T : u_T} {fs : List Value} (ho : o < sh.1) (hsh : ∀ cA, sh.2 o ad cA (st.1 o) (st.2 o) = .inr (ci, fs)) (hc : vCl[ci]? = some (C, T, N)) (hin : ∀ w ∈ u_ws C T N, w ∈ vT) (hk : k0 < N) {v : Value} (hv : fs[k0]? = some v) {idx : Nat} (hw : Cond.fieldLink own idx (T k0).1 (T k0).2.1 (T k0).2.2.1 ∈ vT) (hdg : decode cc pc = .ok (.getfield idx, 3)) (k : P st (pc + 3) lv (v :: rest)) : P st pc lv (.ref (ad o) :: rest) := by
  obtain ⟨p, e, s, m, args, below, meth, c, D, cA, A, H0, Q, rfl, hx, hb, hml, hown, hts, hK, hA, hH0⟩ := hX
  intro H locs ls hP hS hl
  exact va_get hx hb hts hin hown hK hP o (by rw [wl_at ho, hsh cA]) hc k0 hk (hts _ hw) (fun _ h9 => h9) hv hdg (k H locs ls hP hS hl)
theorem v_putf (hX : vOK P l sh ad R cc own nL) {o k0 ci N : Nat} {C : String} {T : u_T} {fs : List Value} (ho : o < sh.1) (hsh : ∀ cA, sh.2 o ad cA (st.1 o) (st.2 o) = .inr (ci, fs)) (hc : vCl[ci]? = some (C, T, N)) (hin : ∀ w ∈ u_ws C T N, w ∈ vT) (hk : k0 < N) (ty0 : Nat → FieldType) (hty : ∀ k, k < N → parseFieldDescriptor (T k).2.2.1 = some (ty0 k)) (hnm : ∀ a, a < N → ∀ b, b < N → a ≠ b → (T a).2.1 ≠ (T b).2.1) {j : Nat} {x : Int32} {v : Value} (hfin : (T k0).2.2.2 = false) {ty : FieldType} (hd : parseFieldDescriptor (T k0).2.2.1 = some ty) (hn : narrow ty v = v) (hfit : fits ty v = true) (hlen : k0 < fs.length) (hst : ∀ cA, (Sum.inr (ci, fs.set k0 v) : va_E) = sh.2 o ad cA (upd (st.1 o) j x) (st.2 o)) {idx : Nat} (hw : Cond.fieldLink own idx (T k0).1 (T k0).2.1 (T k0).2.2.1 ∈ vT) (hdg : decode cc pc = .ok (.putfield idx, 3)) (k : P (s1 st o j x) (pc + 3) lv rest) : P st pc lv (v :: .ref (ad o) :: rest) := by
  obtain ⟨p, e, s, m, args, below, meth, c, D, cA, A, H0, Q, rfl, hx, hb, hml, hown, hts, hK, hA, hH0⟩ := hX
  intro H locs ls hP hS hl
  refine va_put hx hb hts hin ty0 hty hnm hown hK hP (vAd_D hA cA st) hS o (by rw [wl_at ho, hsh cA]) hc k0 hk (hts _ hw) (fun _ h9 => h9) hfin hd hn hfit hlen hdg (fun H1 locs1 hP1 _ hS1 => ?_)
  rw [wl_set1 (hst cA)] at hP1
  exact k H1 locs1 ls hP1 hS1 hl
/-! arrays: what is read, where it stands -/
def ld (st : vSt) (o n : Nat) (i : Int32) : Option Int32 := if i < 0 ∨ n ≤ i.toNatClampNeg then none else some (st.1 o i.toNatClampNeg)
def ldL (st : vSt) (o n : Nat) (i : Int32) : Option Int64 := if i < 0 ∨ n ≤ i.toNatClampNeg then none else some (st.2 o i.toNatClampNeg)
def sto (st : vSt) (o n : Nat) (i x : Int32) : Option vSt := if i < 0 ∨ n ≤ i.toNatClampNeg then none else some (s1 st o i.toNatClampNeg x)
def stoL (st : vSt) (o n : Nat) (i : Int32) (x : Int64) : Option vSt := if i < 0 ∨ n ≤ i.toNatClampNeg then none else some (s2 st o i.toNatClampNeg x)
theorem ld_bind {α : Type} {st : vSt} {o n : Nat} {i : Int32} {F : Int32 → Option α} {q : α} (h : (ld st o n i).bind F = some q) : vp_in i n ∧ F (st.1 o i.toNatClampNeg) = some q := by
  unfold ld at h
  by_cases c : i < 0 ∨ n ≤ i.toNatClampNeg
  · rw [if_pos c] at h; cases h
  · rw [if_neg c] at h; exact ⟨c, h⟩
theorem ldL_bind {α : Type} {st : vSt} {o n : Nat} {i : Int32} {F : Int64 → Option α} {q : α} (h : (ldL st o n i).bind F = some q) : vp_in i n ∧ F (st.2 o i.toNatClampNeg) = some q := by
  unfold ldL at h
  by_cases c : i < 0 ∨ n ≤ i.toNatClampNeg
  · rw [if_pos c] at h; cases h
  · rw [if_neg c] at h; exact ⟨c, h⟩
theorem sto_bind {α : Type} {st : vSt} {o n : Nat} {i x : Int32} {F : vSt → Option α} {q : α} (h : (sto st o n i x).bind F = some q) : vp_in i n ∧ F (s1 st o i.toNatClampNeg x) = some q := by
  unfold sto at h
  by_cases c : i < 0 ∨ n ≤ i.toNatClampNeg
  · rw [if_pos c] at h; cases h
  · rw [if_neg c] at h; exact ⟨c, h⟩
theorem stoL_bind {α : Type} {st : vSt} {o n : Nat} {i : Int32} {x : Int64} {F : vSt → Option α} {q : α} (h : (stoL st o n i x).bind F = some q) : vp_in i n ∧ F (s2 st o i.toNatClampNeg x) = some q := by
  unfold stoL at h
  by_cases c : i < 0 ∨ n ≤ i.toNatClampNeg
  · rw [if_pos c] at h; cases h
  · rw [if_neg c] at h; exact ⟨c, h⟩
theorem bsome {α β : Type} {a : Option α} {F : α → Option β} {q : β} (h : a.bind F = some q) : ∃ v, a = some v ∧ F v = some q := by
  cases a with
  | none => cases h
  | some v => exact ⟨v, rfl, h⟩
theorem gsome {α : Type} {c : Prop} {_ : Decidable c} {F : Option α} {q : α} (h : (if c then F else none) = some q) : c ∧ F = some q := by
  by_cases z : c
  · rw [if_pos z] at h; exact ⟨z, h⟩
  · rw [if_neg z] at h; cases h

theorem v_iald (hX : vOK P l sh ad R cc own nL) {α : Type} {F : Int32 → Option α} {q : α} {o n ct : Nat} {i : Int32} (ho : o < sh.1) (hsh : ∀ cA, sh.2 o ad cA (st.1 o) (st.2 o) = .inl (cA 0, n, .inl (st.1 o))) (hdg : decode cc pc = .ok (.iaload, 1)) (h : (ld st o n i).bind F = some q) (k : ∀ v : Int32, F v = some q → P st (pc + 1) lv (.int v :: rest)) : P st pc lv (.int i :: .ref (ad o) :: rest) := by
  obtain ⟨p, e, s, m, args, below, meth, c, D, cA, A, H0, Q, rfl, hx, hb, hml, hown, hts, hK, hA, hH0⟩ := hX
  intro H locs ls hP hS hl
  obtain ⟨hi, h⟩ := ld_bind h
  exact va_iald hx hb hK hP o 0 (by rw [wl_at ho, hsh cA]) rfl hi hdg (k _ h H locs ls hP hS hl)
theorem v_bald (hX : vOK P l sh ad R cc own nL) {α : Type} {F : Int32 → Option α} {q : α} {o n ct : Nat} {i : Int32} (ho : o < sh.1) (hsh : ∀ cA, sh.2 o ad cA (st.1 o) (st.2 o) = .inl (cA 2, n, .inl (st.1 o))) (hdg : decode cc pc = .ok (.baload, 1)) (h : (ld st o n i).bind F = some q) (k : ∀ v : Int32, F v = some q → P st (pc + 1) lv (.int v :: rest)) : P st pc lv (.int i :: .ref (ad o) :: rest) := by
  obtain ⟨p, e, s, m, args, below, meth, c, D, cA, A, H0, Q, rfl, hx, hb, hml, hown, hts, hK, hA, hH0⟩ := hX
  intro H locs ls hP hS hl
  obtain ⟨hi, h⟩ := ld_bind h
  exact va_bald hx hb hK hP o 2 (by rw [wl_at ho, hsh cA]) rfl hi hdg (k _ h H locs ls hP hS hl)
theorem v_zald (hX : vOK P l sh ad R cc own nL) {α : Type} {F : Int32 → Option α} {q : α} {o n ct : Nat} {i : Int32} (ho : o < sh.1) (hsh : ∀ cA, sh.2 o ad cA (st.1 o) (st.2 o) = .inl (cA 4, n, .inl (st.1 o))) (hdg : decode cc pc = .ok (.baload, 1)) (h : (ld st o n i).bind F = some q) (k : ∀ v : Int32, F v = some q → P st (pc + 1) lv (.int v :: rest)) : P st pc lv (.int i :: .ref (ad o) :: rest) := by
  obtain ⟨p, e, s, m, args, below, meth, c, D, cA, A, H0, Q, rfl, hx, hb, hml, hown, hts, hK, hA, hH0⟩ := hX
  intro H locs ls hP hS hl
  obtain ⟨hi, h⟩ := ld_bind h
  exact va_zald hx hb hK hP o 4 (by rw [wl_at ho, hsh cA]) rfl hi hdg (k _ h H locs ls hP hS hl)
theorem v_cald (hX : vOK P l sh ad R cc own nL) {α : Type} {F : Int32 → Option α} {q : α} {o n ct : Nat} {i : Int32} (ho : o < sh.1) (hsh : ∀ cA, sh.2 o ad cA (st.1 o) (st.2 o) = .inl (cA 3, n, .inl (st.1 o))) (hdg : decode cc pc = .ok (.caload, 1)) (h : (ld st o n i).bind F = some q) (k : ∀ v : Int32, F v = some q → P st (pc + 1) lv (.int v :: rest)) : P st pc lv (.int i :: .ref (ad o) :: rest) := by
  obtain ⟨p, e, s, m, args, below, meth, c, D, cA, A, H0, Q, rfl, hx, hb, hml, hown, hts, hK, hA, hH0⟩ := hX
  intro H locs ls hP hS hl
  obtain ⟨hi, h⟩ := ld_bind h
  exact va_cald hx hb hK hP o 3 (by rw [wl_at ho, hsh cA]) rfl hi hdg (k _ h H locs ls hP hS hl)
theorem v_iast (hX : vOK P l sh ad R cc own nL) {α : Type} {F : vSt → Option α} {q : α} {o n : Nat} {i x : Int32} (ho : o < sh.1) (hsh : ∀ cA f g, sh.2 o ad cA f g = .inl (cA 0, n, .inl f)) (hdg : decode cc pc = .ok (.iastore, 1)) (h : (sto st o n i x).bind F = some q) (k : F (s1 st o i.toNatClampNeg x) = some q → P (s1 st o i.toNatClampNeg x) (pc + 1) lv rest) : P st pc lv (.int x :: .int i :: .ref (ad o) :: rest) := by
  obtain ⟨p, e, s, m, args, below, meth, c, D, cA, A, H0, Q, rfl, hx, hb, hml, hown, hts, hK, hA, hH0⟩ := hX
  intro H locs ls hP hS hl
  obtain ⟨hi, h⟩ := sto_bind h
  refine va_iast hx hb hK hP (vAd_D hA cA st) hS o 0 (by rw [wl_at ho, hsh cA]) rfl hi hdg (fun H1 locs1 hP1 _ hS1 => ?_)
  rw [wl_set1 (by rw [hsh cA])] at hP1
  exact k h H1 locs1 ls hP1 hS1 hl
theorem v_bast (hX : vOK P l sh ad R cc own nL) {α : Type} {F : vSt → Option α} {q : α} {o n : Nat} {i x : Int32} (ho : o < sh.1) (hsh : ∀ cA f g, sh.2 o ad cA f g = .inl (cA 2, n, .inl f)) (hdg : decode cc pc = .ok (.bastore, 1)) (h : (sto st o n i (vp_nar .byte x)).bind F = some q) (k : F (s1 st o i.toNatClampNeg (vp_nar .byte x)) = some q → P (s1 st o i.toNatClampNeg (vp_nar .byte x)) (pc + 1) lv rest) : P st pc lv (.int x :: .int i :: .ref (ad o) :: rest) := by
  obtain ⟨p, e, s, m, args, below, meth, c, D, cA, A, H0, Q, rfl, hx, hb, hml, hown, hts, hK, hA, hH0⟩ := hX
  intro H locs ls hP hS hl
  obtain ⟨hi, h⟩ := sto_bind h
  refine va_bast hx hb hK hP (vAd_D hA cA st) hS o 2 (by rw [wl_at ho, hsh cA]) rfl hi hdg (fun H1 locs1 hP1 _ hS1 => ?_)
  rw [wl_set1 (by rw [hsh cA])] at hP1
  exact k h H1 locs1 ls hP1 hS1 hl
theorem v_zast (hX : vOK P l sh ad R cc own nL) {α : Type} {F : vSt → Option α} {q : α} {o n : Nat} {i x : Int32} (ho : o < sh.1) (hsh : ∀ cA f g, sh.2 o ad cA f g = .inl (cA 4, n, .inl f)) (hdg : decode cc pc = .ok (.bastore, 1)) (h : (sto st o n i (vp_nar .boolean x)).bind F = some q) (k : F (s1 st o i.toNatClampNeg (vp_nar .boolean x)) = some q → P (s1 st o i.toNatClampNeg (vp_nar .boolean x)) (pc + 1) lv rest) : P st pc lv (.int x :: .int i :: .ref (ad o) :: rest) := by
  obtain ⟨p, e, s, m, args, below, meth, c, D, cA, A, H0, Q, rfl, hx, hb, hml, hown, hts, hK, hA, hH0⟩ := hX
  intro H locs ls hP hS hl
  obtain ⟨hi, h⟩ := sto_bind h
  refine va_zast hx hb hK hP (vAd_D hA cA st) hS o 4 (by rw [wl_at ho, hsh cA]) rfl hi hdg (fun H1 locs1 hP1 _ hS1 => ?_)
  rw [wl_set1 (by rw [hsh cA])] at hP1
  exact k h H1 locs1 ls hP1 hS1 hl
theorem v_cast (hX : vOK P l sh ad R cc own nL) {α : Type} {F : vSt → Option α} {q : α} {o n : Nat} {i x : Int32} (ho : o < sh.1) (hsh : ∀ cA f g, sh.2 o ad cA f g = .inl (cA 3, n, .inl f)) (hdg : decode cc pc = .ok (.castore, 1)) (h : (sto st o n i (vp_nar .char x)).bind F = some q) (k : F (s1 st o i.toNatClampNeg (vp_nar .char x)) = some q → P (s1 st o i.toNatClampNeg (vp_nar .char x)) (pc + 1) lv rest) : P st pc lv (.int x :: .int i :: .ref (ad o) :: rest) := by
  obtain ⟨p, e, s, m, args, below, meth, c, D, cA, A, H0, Q, rfl, hx, hb, hml, hown, hts, hK, hA, hH0⟩ := hX
  intro H locs ls hP hS hl
  obtain ⟨hi, h⟩ := sto_bind h
  refine va_cast hx hb hK hP (vAd_D hA cA st) hS o 3 (by rw [wl_at ho, hsh cA]) rfl hi hdg (fun H1 locs1 hP1 _ hS1 => ?_)
  rw [wl_set1 (by rw [hsh cA])] at hP1
  exact k h H1 locs1 ls hP1 hS1 hl
theorem v_lald (hX : vOK P l sh ad R cc own nL) {α : Type} {F : Int64 → Option α} {q : α} {o n : Nat} {i : Int32} (ho : o < sh.1) (hsh : ∀ cA, sh.2 o ad cA (st.1 o) (st.2 o) = .inl (cA 1, n, .inr (.inl (st.2 o)))) (hdg : decode cc pc = .ok (.laload, 1)) (h : (ldL st o n i).bind F = some q) (k : ∀ v : Int64, F v = some q → P st (pc + 1) lv (.long v :: rest)) : P st pc lv (.int i :: .ref (ad o) :: rest) := by
  obtain ⟨p, e, s, m, args, below, meth, c, D, cA, A, H0, Q, rfl, hx, hb, hml, hown, hts, hK, hA, hH0⟩ := hX
  intro H locs ls hP hS hl
  obtain ⟨hi, h⟩ := ldL_bind h
  exact va_lald hx hb hK hP o 1 (by rw [wl_at ho, hsh cA]) rfl hi hdg (k _ h H locs ls hP hS hl)
theorem v_last (hX : vOK P l sh ad R cc own nL) {α : Type} {F : vSt → Option α} {q : α} {o n : Nat} {i : Int32} {x : Int64} (ho : o < sh.1) (hsh : ∀ cA f g, sh.2 o ad cA f g = .inl (cA 1, n, .inr (.inl g))) (hdg : decode cc pc = .ok (.lastore, 1)) (h : (stoL st o n i x).bind F = some q) (k : F (s2 st o i.toNatClampNeg x) = some q → P (s2 st o i.toNatClampNeg x) (pc + 1) lv rest) : P st pc lv (.long x :: .int i :: .ref (ad o) :: rest) := by
  obtain ⟨p, e, s, m, args, below, meth, c, D, cA, A, H0, Q, rfl, hx, hb, hml, hown, hts, hK, hA, hH0⟩ := hX
  intro H locs ls hP hS hl
  obtain ⟨hi, h⟩ := stoL_bind h
  refine va_last hx hb hK hP (vAd_D hA cA st) hS o 1 (by rw [wl_at ho, hsh cA]) rfl hi hdg (fun H1 locs1 hP1 _ hS1 => ?_)
  rw [wl_set2 (by rw [hsh cA])] at hP1
  exact k h H1 locs1 ls hP1 hS1 hl
theorem v_alen (hX : vOK P l sh ad R cc own nL) {o n : Nat} {ct : Nat} {ty : FieldType} {f : Nat → Int32} {v : Int32} (ho : o < sh.1) (hsh : ∀ cA, sh.2 o ad cA (st.1 o) (st.2 o) = .inl (cA ct, n, .inl f)) (hty : ∀ cA, (vTys cA)[ct]? = some (cA ct, ty)) (hv : Int32.ofNat n = v) (hdg : decode cc pc = .ok (.arraylength, 1)) (k : P st (pc + 1) lv (.int v :: rest)) : P st pc lv (.ref (ad o) :: rest) := by
  obtain ⟨p, e, s, m, args, below, meth, c, D, cA, A, H0, Q, rfl, hx, hb, hml, hown, hts, hK, hA, hH0⟩ := hX
  intro H locs ls hP hS hl
  exact va_alen hx hb hK hP o ct (by rw [wl_at ho, hsh cA]) (hty cA) hv hdg (k H locs ls hP hS hl)
theorem v_aald (hX : vOK P l sh ad R cc own nL) {o n : Nat} {f : (Nat → Nat) → Nat → Option Nat} {i : Int32} {a : Nat} (ho : o < sh.1) (hsh : ∀ cA, sh.2 o ad cA (st.1 o) (st.2 o) = .inl (cA 5, n, .inr (.inr (.inr (.inr (f ad)))))) (hi : vp_in i n) (hf : f ad i.toNatClampNeg = some a) (hdg : decode cc pc = .ok (.aaload, 1)) (k : P st (pc + 1) lv (.ref a :: rest)) : P st pc lv (.int i :: .ref (ad o) :: rest) := by
  obtain ⟨p, e, s, m, args, below, meth, c, D, cA, A, H0, Q, rfl, hx, hb, hml, hown, hts, hK, hA, hH0⟩ := hX
  intro H locs ls hP hS hl
  refine va_aldq hx hb hK hP o 5 (by rw [wl_at ho, hsh cA]) rfl hi hdg ?_
  rw [hf]
  exact k H locs ls hP hS hl
end V
