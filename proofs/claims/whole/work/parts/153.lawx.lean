section V2
variable {P : vP} {l : Launch} {sh : vSh} {ad : Nat → Nat} {R : Room} {cc : ByteArray} {own : String} {nL pc : Nat} {st : vSt} {lv : List (Nat × Value)} {rest : List Value}
theorem v2_if_lt (hX : vOK P l sh ad R cc own nL) {x : Int32} {off : Int} {tgt : Nat} (hdg : decode cc pc = .ok (.ifCond .lt off, 3)) (ht : (pc : Int) + off = (tgt : Int)) (kt : x < 0 → P st tgt lv rest) (kf : ¬ x < 0 → P st (pc + 3) lv rest) : P st pc lv (.int x :: rest) := by
  obtain ⟨p, e, s, m, args, below, meth, c, D, cA, A, H0, Q, rfl, hx, hb, hml, hown, hts, hK, hA, hH0⟩ := hX
  intro H locs ls hP hS hl
  exact lv_if_lt hx hb hdg ht (fun z => kt z H locs ls hP hS hl) (fun z => kf z H locs ls hP hS hl)
theorem v2_if_ne (hX : vOK P l sh ad R cc own nL) {x : Int32} {off : Int} {tgt : Nat} (hdg : decode cc pc = .ok (.ifCond .ne off, 3)) (ht : (pc : Int) + off = (tgt : Int)) (kt : ¬ x = 0 → P st tgt lv rest) (kf : x = 0 → P st (pc + 3) lv rest) : P st pc lv (.int x :: rest) := by
  obtain ⟨p, e, s, m, args, below, meth, c, D, cA, A, H0, Q, rfl, hx, hb, hml, hown, hts, hK, hA, hH0⟩ := hX
  intro H locs ls hP hS hl
  exact lv_if_ne hx hb hdg ht (fun z => kt z H locs ls hP hS hl) (fun z => kf z H locs ls hP hS hl)
theorem v2_icmp_lt (hX : vOK P l sh ad R cc own nL) {x y : Int32} {off : Int} {tgt : Nat} (hdg : decode cc pc = .ok (.if_icmp .lt off, 3)) (ht : (pc : Int) + off = (tgt : Int)) (kt : x < y → P st tgt lv rest) (kf : ¬ x < y → P st (pc + 3) lv rest) : P st pc lv (.int y :: .int x :: rest) := by
  obtain ⟨p, e, s, m, args, below, meth, c, D, cA, A, H0, Q, rfl, hx, hb, hml, hown, hts, hK, hA, hH0⟩ := hX
  intro H locs ls hP hS hl
  exact lv_icmp_lt hx hb hdg ht (fun z => kt z H locs ls hP hS hl) (fun z => kf z H locs ls hP hS hl)
end V2
theorem ld_in {st : vSt} {o n : Nat} {i : Int32} (h : vp_in i n) : (ld st o n i).bind some = some (st.1 o i.toNatClampNeg) := by
  unfold ld
  rw [if_neg h]
  rfl
def postRow (σ : vSt) (v r : Int32) : Prop := ¬ v < 0 ∧ v < σ.1 3 1 ∧ r = σ.1 4 v.toNatClampNeg
def thrRow (σ : vSt) (v : Int32) : Prop := v < 0 ∨ ¬ v < σ.1 3 1
theorem x_row {l : Launch} (hl : l.stackTraces = false) (ad : Nat → Nat) {σ : vSt} {v : Int32} (hk : ¬ v < 0 → v < σ.1 3 1 → vp_in v 12) : vX l ad yX11_row cX11_row 2 6 100 σ [.ref (ad 0), .int v] (postRow σ v) (thrRow σ v) := by
  refine vX_of hl (by decide +kernel) rfl (Nat.le_of_ble_eq_true rfl) (by decide) (by decide) (fun P hX hR hT hTw => ?_)
  refine v_iload_n hX dX11_row_0 rfl 1 rfl ?_
  refine v2_if_lt (tgt := 15) hX dX11_row_1 (by decide) (fun hc => ?_) (fun hc => ?_)
  · exact hTw 15 _ (Or.inl hc) dX11_row_15 dX11_row_18 dX11_row_19 dX11_row_22 dX11_row_25
  · refine v_iload_n hX dX11_row_4 rfl 1 rfl ?_
    refine v_aload_n hX dX11_row_5 rfl 0 rfl ?_
    refine gfC_0_1 hX kf_11_19 dX11_row_6 ?_
    refine gfC_3_1 hX kf_11_270 dX11_row_9 ?_
    refine v2_icmp_lt (tgt := 26) hX dX11_row_12 (by decide) (fun hd => ?_) (fun hd => ?_)
    · refine v_aload_n hX dX11_row_26 rfl 0 rfl ?_
      refine gfC_0_1 hX kf_11_19 dX11_row_27 ?_
      refine gfC_3_0 hX kf_11_320 dX11_row_30 ?_
      refine v_iload_n hX dX11_row_33 rfl 1 rfl ?_
      refine alC_4 hX (F := some) dX11_row_34 (ld_in (hk hc hd)) (fun w hw => ?_)
      exact hR _ _ _ ⟨hc, hd, Option.some.inj hw⟩ dX11_row_35
    · exact hTw 15 _ (Or.inr hd) dX11_row_15 dX11_row_18 dX11_row_19 dX11_row_22 dX11_row_25
def postMeet (σ : vSt) (v w r : Int32) : Prop := (w = 0 ∧ r = σ.1 11 v.toNatClampNeg) ∨ (w = 1 ∧ r = σ.1 12 v.toNatClampNeg) ∨ (w = 2 ∧ r = σ.1 13 v.toNatClampNeg) ∨ (w = 3 ∧ r = σ.1 14 v.toNatClampNeg)
theorem sw4 (w : Int32) : w = 0 ∨ w = 1 ∨ w = 2 ∨ w = 3 ∨ (w.toInt < 0 ∨ 3 < w.toInt) := by
  rcases pk_ix w (n := 4) (by decide) with h | h | ⟨j, h, rfl⟩
  · exact Or.inr (Or.inr (Or.inr (Or.inr (Or.inl (Int32.lt_iff_toInt_lt.mp h)))))
  · have h1 : (nI 4).toInt ≤ w.toInt := Int32.le_iff_toInt_le.mp h
    have h2 : (nI 4).toInt = 4 := by decide
    exact Or.inr (Or.inr (Or.inr (Or.inr (Or.inr (by omega)))))
  · rcases j with _ | _ | _ | _ | j
    · exact Or.inl rfl
    · exact Or.inr (Or.inl rfl)
    · exact Or.inr (Or.inr (Or.inl rfl))
    · exact Or.inr (Or.inr (Or.inr (Or.inl rfl)))
    · omega
theorem x_meeting {l : Launch} (hl : l.stackTraces = false) (ad : Nat → Nat) {N : Nat} {σ : vSt} {v w bm : Int32} (hm : fC_Roads_hasMeeting N v σ = some (bm, σ)) (hk : ¬ bm = 0 → vp_in v 20) : vX l ad yX11_meeting cX11_meeting 3 8 200 σ [.ref (ad 0), .int v, .int w] (fun r => ¬ bm = 0 ∧ postMeet σ v w r) (bm = 0 ∨ (w.toInt < 0 ∨ 3 < w.toInt)) := by
  refine vX_of hl (by decide +kernel) rfl (Nat.le_of_ble_eq_true rfl) (by decide) (by decide) (fun P hX hR hT hTw => ?_)
  refine v_aload_n hX dX11_meeting_0 rfl 0 rfl ?_
  refine gfC_0_2 hX kf_11_26 dX11_meeting_1 ?_
  refine v_iload_n hX dX11_meeting_4 rfl 1 rfl ?_
  refine v_callVI (o := 9) hX (mC_Roads_hasMeeting hm l ad) kM_X6_hasMeeting kV_X6_hasMeeting km_11_121 (by decide) (fun _ => rfl) rfl rfl rfl (Nat.le_of_ble_eq_true rfl) (by decide) dX11_meeting_5 ?_
  refine v2_if_ne (tgt := 21) hX dX11_meeting_8 (by decide) (fun hc => ?_) (fun hc => ?_)
  · refine v_iload_n hX dX11_meeting_21 rfl 2 rfl ?_
    have hin := hk hc
    rcases sw4 w with rfl | rfl | rfl | rfl | hw
    · refine v_tblIn (tgt := 52) (off := 30) hX dX11_meeting_22 (by decide) (by decide) rfl (by decide) ?_
      refine v_aload_n hX dX11_meeting_52 rfl 0 rfl ?_
      refine gfC_0_2 hX kf_11_26 dX11_meeting_53 ?_
      refine gfC_9_1 hX kf_11_131 dX11_meeting_56 ?_
      refine v_iload_n hX dX11_meeting_59 rfl 1 rfl ?_
      refine alC_11 hX (F := some) dX11_meeting_60 (ld_in hin) (fun w hw => ?_)
      exact hR _ _ _ ⟨hc, Or.inl ⟨rfl, Option.some.inj hw⟩⟩ dX11_meeting_61
    · refine v_tblIn (tgt := 62) (off := 40) hX dX11_meeting_22 (by decide) (by decide) rfl (by decide) ?_
      refine v_aload_n hX dX11_meeting_62 rfl 0 rfl ?_
      refine gfC_0_2 hX kf_11_26 dX11_meeting_63 ?_
      refine gfC_9_2 hX kf_11_134 dX11_meeting_66 ?_
      refine v_iload_n hX dX11_meeting_69 rfl 1 rfl ?_
      refine alC_12 hX (F := some) dX11_meeting_70 (ld_in hin) (fun w hw => ?_)
      exact hR _ _ _ ⟨hc, Or.inr (Or.inl ⟨rfl, Option.some.inj hw⟩)⟩ dX11_meeting_71
    · refine v_tblIn (tgt := 72) (off := 50) hX dX11_meeting_22 (by decide) (by decide) rfl (by decide) ?_
      refine v_aload_n hX dX11_meeting_72 rfl 0 rfl ?_
      refine gfC_0_2 hX kf_11_26 dX11_meeting_73 ?_
      refine gfC_9_3 hX kf_11_137 dX11_meeting_76 ?_
      refine v_iload_n hX dX11_meeting_79 rfl 1 rfl ?_
      refine alC_13 hX (F := some) dX11_meeting_80 (ld_in hin) (fun w hw => ?_)
      exact hR _ _ _ ⟨hc, Or.inr (Or.inr (Or.inl ⟨rfl, Option.some.inj hw⟩))⟩ dX11_meeting_81
    · refine v_tblIn (tgt := 82) (off := 60) hX dX11_meeting_22 (by decide) (by decide) rfl (by decide) ?_
      refine v_aload_n hX dX11_meeting_82 rfl 0 rfl ?_
      refine gfC_0_2 hX kf_11_26 dX11_meeting_83 ?_
      refine gfC_9_4 hX kf_11_140 dX11_meeting_86 ?_
      refine v_iload_n hX dX11_meeting_89 rfl 1 rfl ?_
      refine alC_14 hX (F := some) dX11_meeting_90 (ld_in hin) (fun w hw => ?_)
      exact hR _ _ _ ⟨hc, Or.inr (Or.inr (Or.inr ⟨rfl, Option.some.inj hw⟩))⟩ dX11_meeting_91
    · refine v_tblOut (tgt := 92) hX dX11_meeting_22 hw (by decide) ?_
      exact hT 92 _ 143 (Or.inr hw) (Or.inr rfl) dX11_meeting_92 dX11_meeting_95 dX11_meeting_96 dX11_meeting_98 dX11_meeting_101
  · exact hT 11 _ 126 (Or.inl hc) (Or.inl rfl) dX11_meeting_11 dX11_meeting_14 dX11_meeting_15 dX11_meeting_17 dX11_meeting_20
/-! the law's own two: they catch -/
def oneO (cA : Nat → ClassId) (ao : Nat) (g : Nat → Int64) : va_W := [(ao, .inl (cA 1, 1, .inr (.inl g)))]
def vS (l : Launch) (ad : Nat → Nat) (ao : Nat) (y : MethodName) (cy : ByteArray) (maxL : Nat) (hh : List (Nat × Nat × Nat × Nat)) (f n : Nat) (σ : vSt) (g : Nat → Int64) (as : List Value) (Rel : Int32 → (Nat → Int64) → Prop) : Prop :=
  ∀ (D : va_G) (cA : Nat → ClassId) (sz : Nat), Met l y (.codeWith y cy maxL (some .int) hh :: vT) (rX f n) (va_Pc as (fun U => U.heap.size = sz ∧ va_P D vCl (wl shC ad cA σ) U.heap ∧ va_P D vCl (oneO cA ao g) U.heap ∧ va_K D vCl (vTys cA) U ∧ vAd shC ad (fun _ => True) ∧ (∀ i, i < shC.1 → ad i ≠ ao) ∧ exS (va_A (wl shC ad cA σ ++ oneO cA ao g) sz) U)) (va_Qi Rel (fun g' t => va_P D vCl (wl shC ad cA σ) t.heap ∧ va_P D vCl (oneO cA ao g') t.heap) (va_A (wl shC ad cA σ ++ oneO cA ao g) sz)) 1 6 (va_A (wl shC ad cA σ ++ oneO cA ao g) sz)
theorem vOfWH {l : Launch} {y : MethodName} {ws ws' : List Cond} {rm : Room} {Pc : Array Value → State → Prop} {Qc : Array Value → State → Outcome → State → Prop} {mc ms : Nat} {free : Addr → Prop} {cc : ByteArray} {maxL : Nat} {ret : Option FieldType} {hh : List (Nat × Nat × Nat × Nat)} (hy : plainName y.cls = true) (hw : ws = Cond.codeWith y cc maxL ret hh :: ws')
    (body : ∀ p e s m args below meth c s₁, BodyLoose p l y (headSpec ws rm) cc maxL ret e s m args below meth c s₁ → c.maxLocals = maxL → c.exceptionTable.toList = tableOf hh → Pc args s → W p l e (headSpec ws rm).room s m args below meth c s.heap [] 0 0 (MQ below Qc args s mc ms free) (entryFrame m args maxL)) : Met l y ws rm Pc Qc mc ms free := by
  refine MetFree.of_bodyS (code := cc) (maxLocals := maxL) (ret := ret) hy ?_ ?_
  · intro args s m h hn
    obtain ⟨m9, meth, c, hn9, h1, h2, h3, h4, -, h5, h6, -⟩ := Cond.codeWith_spec (atoms_spec (ws := ws) h _ (by rw [hw]; exact List.mem_cons_self))
    cases hn.symm.trans hn9
    exact ⟨meth, c, h1, h2, h3, h4, h5, h6⟩
  · intro p e s m args below meth c s₁ B hml hP _
    have hh0 : s₁.heap = s.heap := by rw [B.state]; rfl
    obtain ⟨t, a1, o, b1, b2, b3⟩ := body p e s m args below meth c s₁ B hml (vx_table (x := y) B (atoms_spec (ws := ws) B.pre _ (by rw [hw]; exact List.mem_cons_self))) hP s₁ hh0 (Stand.of_body B)
    exact ⟨t, o, a1, b1, b2, b3⟩
theorem sub_A {ws wt : va_W} {sz n : Nat} (hn : sz ≤ n) : ∀ q, va_A ws n q → va_A (ws ++ wt) sz q := by
  rintro q (⟨k, e, hk⟩ | h)
  · exact Or.inl ⟨k, e, by rw [List.getElem?_append_left (List.getElem?_eq_some_iff.mp hk).1]; exact hk⟩
  · exact Or.inr (Nat.le_trans hn h)
theorem one_A {ws : va_W} {cA : Nat → ClassId} {ao sz : Nat} {g : Nat → Int64} : va_A (ws ++ oneO cA ao g) sz ao := Or.inl ⟨ws.length, .inl (cA 1, 1, .inr (.inl g)), by rw [List.getElem?_append_right (Nat.le_refl _), Nat.sub_self]; rfl⟩
