/-! the two methods that throw, and the law's catching of it -/
abbrev NSE : String := "java/util/NoSuchElementException"
abbrev exL : List Cond := exSet RX11 128 NSE 13 prog_23_method_4_code ["java/lang/RuntimeException", "java/lang/Exception"]
def exD (c : String) : MethodName := ⟨c, "<init>", "(Ljava/lang/String;)V"⟩
abbrev exB : List Cond := [.castable NSE NSE, .declares (exD "java/lang/RuntimeException"), .declares (exD "java/lang/Exception"), .declares (exD "java/lang/Throwable")]
set_option maxRecDepth 20000 in
theorem exWords1 : ∀ w ∈ exL.filter goodWord, w ∈ lw_tbl := fun w h => (goodIn_p (exL.filter goodWord) [1284, 131, 1311, 1302, 1305, 1308] rfl (by decide +kernel) w h).1
theorem exWords2 : ∀ w ∈ exL.filter (fun w => !goodWord w), w ∈ exB := by decide +kernel
theorem exWords : ∀ w ∈ exL, w ∈ vT ∨ w ∈ exB := by
  intro w hw
  by_cases g : goodWord w = true
  · exact Or.inl (List.mem_filter.mpr ⟨exWords1 w (List.mem_filter.mpr ⟨hw, g⟩), g⟩)
  · refine Or.inr (exWords2 w (List.mem_filter.mpr ⟨hw, ?_⟩))
    show (!goodWord w) = true
    cases hg : goodWord w with
    | false => rfl
    | true => exact absurd hg g
theorem exGood : ∀ w ∈ Cond.classLink RX11 124 NSE :: Cond.initialized NSE :: exL, vx_ot w = true := by
  have h : (Cond.classLink RX11 124 NSE :: Cond.initialized NSE :: exL).all vx_ot = true := by decide +kernel
  exact List.all_eq_true.mp h
theorem exLink : Cond.classLink RX11 124 NSE ∈ vT := vT_in (ws := [Cond.classLink RX11 124 NSE]) (by decide +kernel) _ (List.mem_singleton.mpr rfl)
theorem exLinkL : Cond.classLink RL 13 NSE ∈ vT := vT_in (ws := [Cond.classLink RL 13 NSE]) (by decide +kernel) _ (List.mem_singleton.mpr rfl)
theorem exIni : Cond.initialized NSE ∈ vT := vT_in (ws := [Cond.initialized NSE]) (by decide +kernel) _ (List.mem_singleton.mpr rfl)
def exS (A : Nat → Prop) (U : State) : Prop := vx_Zq Bundle.tN "UNASSIGNED_STACK" Bundle.steD A U U.heap ∧ vx_Zq Bundle.tN "SUPPRESSED_SENTINEL" Bundle.listD A U U.heap ∧ (va_Nw (.castable NSE NSE) U ∧ va_Nw (.declares (exD "java/lang/RuntimeException")) U ∧ va_Nw (.declares (exD "java/lang/Exception")) U ∧ va_Nw (.declares (exD "java/lang/Throwable")) U) ∧ (∃ a, vk_R RX11 126 "no such meeting" a U) ∧ (∃ a, vk_R RX11 143 "a meeting tells nothing else" a U) ∧ ∃ a, vk_R RX11 370 "the row has no such number" a U
theorem exS.calling {A : Nat → Prop} {U : State} {g : JFrame} {mk : MethodId} {a : Array Value} (h : exS A U) : exS A (U.calling g mk a) := by
  obtain ⟨h1, h2, h3, ⟨a1, h4⟩, ⟨a2, h5⟩, ⟨a3, h6⟩⟩ := h
  exact ⟨vx_Zq.moved (u := U) (Vm.Alike.refl U.vm) h1, vx_Zq.moved (u := U) (Vm.Alike.refl U.vm) h2, ⟨va_Nw.same rfl rfl h3.1, va_Nw.same rfl rfl h3.2.1, va_Nw.same rfl rfl h3.2.2.1, va_Nw.same rfl rfl h3.2.2.2⟩, ⟨a1, vk_R.same rfl h4⟩, ⟨a2, vk_R.same rfl h5⟩, ⟨a3, vk_R.same rfl h6⟩⟩
/-- handed on: from the state at the method's start to one at heap H -/
theorem exS.pass {A B : Nat → Prop} {s U : State} {H : Heap} (hW : s.WarmedH U.vm) (hU : U.heap = H) (hk : ∀ q : Nat, q < s.heap.size → ¬ A q → H[q]? = s.heap[q]?) (hz : s.heap.size ≤ H.size) (hAB : ∀ q, B q → A q) (h : exS A s) : exS B U := by
  obtain ⟨h1, h2, h3, ⟨a1, h4⟩, ⟨a2, h5⟩, ⟨a3, h6⟩⟩ := h
  refine ⟨?_, ?_, ⟨va_Nw.warmC hW h3.1, va_Nw.warmD hW h3.2.1, va_Nw.warmD hW h3.2.2.1, va_Nw.warmD hW h3.2.2.2⟩, ⟨a1, vk_R.warm hW h4⟩, ⟨a2, vk_R.warm hW h5⟩, ⟨a3, vk_R.warm hW h6⟩⟩
  · rw [hU]; exact (vx_Zq.narrow (vx_Zq.kept (vx_Zq.moved hW.alike h1) hk) hAB)
  · rw [hU]; exact (vx_Zq.narrow (vx_Zq.kept (vx_Zq.moved hW.alike h2) hk) hAB)
def rX (f n : Nat) : Room := { frames := f, cells := 1, slots := 6, locals := n }
def vX (l : Launch) (ad : Nat → Nat) (y : MethodName) (cy : ByteArray) (maxL f n : Nat) (σ : vSt) (as : List Value) (post : Int32 → Prop) (thr : Prop) : Prop :=
  ∀ (D : va_G) (cA : Nat → ClassId) (sz : Nat), vx_Met l y (.code y cy maxL (some .int) :: vT) (rX f n) (fun a U => vPc D cA sz shC ad σ as a U ∧ exS (va_A (wl shC ad cA σ) sz) U) (va_Qi (fun r (_ : Unit) => post r) (fun _ t => va_P D vCl (wl shC ad cA σ) t.heap) (va_A (wl shC ad cA σ) sz)) (vx_X (fun _ : Unit => thr) (fun E _ t => E = NSE ∧ va_P D vCl (wl shC ad cA σ) t.heap) (va_A (wl shC ad cA σ) sz)) 1 6 (va_A (wl shC ad cA σ) sz)
theorem wl_grow {D : va_G} {sh : vSh} {ad : Nat → Nat} {cA : Nat → ClassId} {st : vSt} {H H1 : Heap} (hP : va_P D vCl (wl sh ad cA st) H) (hk : ∀ q : Nat, q < H.size → H1[q]? = H[q]?) : va_P D vCl (wl sh ad cA st) H1 := wl_kept (F := fun _ => False) hP (fun q h _ => hk q h) (fun _ _ h => h)
section VX
variable {l : Launch} {ad : Nat → Nat}
theorem vX_of {y : MethodName} {cy : ByteArray} {maxL f n : Nat} {σ : vSt} {as : List Value} {post : Int32 → Prop} {thr : Prop} (hl : l.stackTraces = false) (hy : plainName y.cls = true) (hyc : y.cls = RX11) (hlen : (lg_sl as).length ≤ maxL) (hf : 5 < f) (hn : 100 ≤ n)
    (body : ∀ P : vP, vOK P l shC ad (rX f n) cy y.cls maxL → (∀ pc lv r, post r → decode cy pc = .ok (.ireturn, 1) → P σ pc lv [.int r]) →
      (∀ pc lv is, thr → (is = 126 ∨ is = 143) → decode cy pc = .ok (.new 124, 3) → decode cy (pc + 3) = .ok (.dup, 1) → decode cy (pc + 4) = .ok (.ldc is, 2) → decode cy (pc + 6) = .ok (.invokespecial 128, 3) → decode cy (pc + 9) = .ok (.athrow, 1) → P σ pc lv []) →
      (∀ pc lv, thr → decode cy pc = .ok (.new 124, 3) → decode cy (pc + 3) = .ok (.dup, 1) → decode cy (pc + 4) = .ok (.ldc_w 370, 3) → decode cy (pc + 7) = .ok (.invokespecial 128, 3) → decode cy (pc + 10) = .ok (.athrow, 1) → P σ pc lv []) → P σ 0 (lv_args 0 as) []) : vX l ad y cy maxL f n σ as post thr := by
  intro D cA sz
  refine vx_ofW (cc := cy) (maxL := maxL) (ret := some .int) hy rfl ?_
  intro p e s m args below meth c s₁ B hml hno hv
  obtain ⟨⟨rfl, hsz, hP, hK, hD⟩, hE⟩ := hv
  have hr := B.returns
  have hts := atoms_spec (ws := .code y cy maxL (some .int) :: vT) B.pre
  have hown : s.vm.findClass y.cls = some m.cls := findClass_of_methodNamed B.named
  have hlocks := B.notSynchronized
  subst hsz
  rw [lg_entry_eq]
  have htv : ∀ w ∈ vT, w.before as.toArray s = true := fun w h => hts w (List.mem_cons_of_mem _ h)
  have hat : ∀ w ∈ exL, w.before as.toArray s = true := fun w h => by
    rcases exWords w h with h | h
    · exact htv w h
    · obtain ⟨z1, z2, z3, z4⟩ := hE.2.2.1
      rcases List.mem_cons.mp h with rfl | h
      · exact va_Nw.use rfl z1
      rcases List.mem_cons.mp h with rfl | h
      · exact va_Nw.use rfl z2
      rcases List.mem_cons.mp h with rfl | h
      · exact va_Nw.use rfl z3
      rcases List.mem_cons.mp h with rfl | h
      · exact va_Nw.use rfl z4
      cases h
  have hx : ∀ H locs, va_P D vCl (wl shC ad cA σ) H → va_S (va_A (wl shC ad cA σ) s.heap.size) s.heap H locs → thr → ∀ t : State, s.vm.Alike t.vm → H.size ≤ t.heap.size → (∀ q : Nat, q < H.size → t.heap[q]? = H[q]?) → vx_X (fun _ : Unit => thr) (fun E _ t => E = NSE ∧ va_P D vCl (wl shC ad cA σ) t.heap) (va_A (wl shC ad cA σ) s.heap.size) NSE s t := fun H locs hP1 hS ht t _ hz hk =>
    ⟨(), ht, ⟨rfl, wl_grow hP1 hk⟩, Nat.le_trans hS.1 hz, fun q h1 h2 => (hk q (Nat.lt_of_lt_of_le h1 hS.1)).trans (hS.2.1 q h1 h2)⟩
  refine body (fun st pc lv stk => ∀ (H : Heap) (locs : List Loc) (ls : Array Slot), va_P D vCl (wl shC ad cA st) H → va_S (va_A (wl shC ad cA σ) s.heap.size) s.heap H locs → lv_has ls maxL lv → W p l e (rX f n) s m as.toArray below meth c H locs 0 0 (vx_MQ below _ _ as.toArray s 1 6 (va_A (wl shC ad cA σ) s.heap.size)) (F0 m pc ls stk)) ⟨p, e, s, m, _, below, meth, c, D, cA, va_A (wl shC ad cA σ) s.heap.size, s.heap, _, rfl, B.exec, B.bytes, hml, hown, htv, hK, vAd_A hD cA σ _, fun q h => Or.inr h⟩ (fun pc lv r hp hdg H locs ls hP1 hS hl1 => ?_) (fun pc lv is ht his d0 d3 d4 d6 d9 H locs ls hP1 hS hl1 => ?_) (fun pc lv ht d0 d3 d4 d7 d10 H locs ls hP1 hS hl1 => ?_) s.heap [] _ hP va_S.rf (lv_entry as hlen)
  · refine vx_ret (W.widen (k := 1) (n := 6) (by decide) (by decide) ?_)
    exact W.iret B.exec B.bytes hr (fun t ht hW => ⟨⟨r, (), rfl, hp, by show va_P D vCl _ t.heap; rw [ht]; exact hP1⟩, hS.F ht⟩) hS.2.2 hdg hlocks
  · have hstr : ∃ tx a, vk_R RX11 is tx a s := by
      rcases his with rfl | rfl
      · obtain ⟨a, h⟩ := hE.2.2.2.1; exact ⟨_, a, h⟩
      · obtain ⟨a, h⟩ := hE.2.2.2.2.1; exact ⟨_, a, h⟩
    obtain ⟨tx, a, hstr⟩ := hstr
    exact ex_throwS (ix := 13) (rx := prog_23_method_4_code) (x0 := by decide +kernel) (x1 := by decide +kernel) (x2 := by decide +kernel) (x5 := by decide +kernel) (own := RX11) (cls := NSE) (names := ["java/lang/RuntimeException", "java/lang/Exception"]) (A := va_A (wl shC ad cA σ) s.heap.size) B.exec B.bytes hl (by rw [← hyc]; exact hown) (by decide +kernel) (by decide +kernel) (htv _ exLink) (htv _ exIni) hstr hat exGood hE.1 hE.2.1 hS (hl1.1.trans hml.symm) d0 d3 d4 d6 d9 (fun x hx => (hno x hx).elim) (by show 2 + 3 < f; omega) (by show 0 + (13 * 3 + 43) ≤ n; omega) (Nat.le_refl 1) (Nat.le_refl 6) hlocks (hx H locs hP1 hS ht) hS.2.2 (by decide) (by decide)
  · obtain ⟨a, hstr⟩ := hE.2.2.2.2.2
    exact ex_throwSW (ix := 13) (rx := prog_23_method_4_code) (x0 := by decide +kernel) (x1 := by decide +kernel) (x2 := by decide +kernel) (x5 := by decide +kernel) (own := RX11) (cls := NSE) (names := ["java/lang/RuntimeException", "java/lang/Exception"]) (A := va_A (wl shC ad cA σ) s.heap.size) B.exec B.bytes hl (by rw [← hyc]; exact hown) (by decide +kernel) (by decide +kernel) (htv _ exLink) (htv _ exIni) hstr hat exGood hE.1 hE.2.1 hS (hl1.1.trans hml.symm) d0 d3 d4 d7 d10 (fun x hx => (hno x hx).elim) (by show 2 + 3 < f; omega) (by show 0 + (13 * 3 + 43) ≤ n; omega) (Nat.le_refl 1) (Nat.le_refl 6) hlocks (hx H locs hP1 hS ht) hS.2.2 (by decide) (by decide)
end VX
