theorem va_P_app {D : va_G} {a b : va_W} {H : Heap} (h1 : va_P D vCl a H) (h2 : va_P D vCl b H) : va_P D vCl (a ++ b) H := by
  intro k q hk
  by_cases c : k < a.length
  · rw [List.getElem?_append_left c] at hk; exact h1 k q hk
  · rw [List.getElem?_append_right (Nat.le_of_not_lt c)] at hk; exact h2 _ q hk
theorem va_P_l {D : va_G} {a b : va_W} {H : Heap} (h : va_P D vCl (a ++ b) H) : va_P D vCl a H := fun k q hk => h k q (by rw [List.getElem?_append_left (List.getElem?_eq_some_iff.mp hk).1]; exact hk)
theorem va_P_r {D : va_G} {a b : va_W} {H : Heap} (h : va_P D vCl (a ++ b) H) : va_P D vCl b H := fun k q hk => h (a.length + k) q (by rw [List.getElem?_append_right (Nat.le_add_right _ _), Nat.add_sub_cancel_left]; exact hk)
theorem wl_len (sh : vSh) (ad : Nat → Nat) (cA : Nat → ClassId) (st : vSt) : (wl sh ad cA st).length = sh.1 := by simp only [wl, List.length_map, List.length_range]
theorem wlo_D {A : Nat → Prop} {ad : Nat → Nat} {cA : Nat → ClassId} {st : vSt} {ao : Nat} {g : Nat → Int64} (hD : vAd shC ad (fun _ => True)) (hA : ∀ i, i < shC.1 → A (ad i)) (hao : A ao) (hne : ∀ i, i < shC.1 → ad i ≠ ao) : va_D A (wl shC ad cA st ++ oneO cA ao g) := by
  have at' : ∀ (k : Nat) (q : Nat × va_E), (wl shC ad cA st ++ oneO cA ao g)[k]? = some q → (k < shC.1 ∧ q.1 = ad k) ∨ (k = shC.1 ∧ q.1 = ao) := by
    intro k q hk
    by_cases c : k < (wl shC ad cA st).length
    · rw [List.getElem?_append_left c] at hk
      obtain ⟨h1, rfl⟩ := wl_at' hk
      exact Or.inl ⟨h1, rfl⟩
    · rw [List.getElem?_append_right (Nat.le_of_not_lt c)] at hk
      rw [wl_len] at c hk
      obtain ⟨j, hj⟩ : ∃ j, k - shC.1 = j := ⟨_, rfl⟩
      rw [hj] at hk
      cases j with
      | zero => exact Or.inr ⟨by omega, by rw [← Option.some.inj hk]⟩
      | succ j => cases hk
  refine ⟨fun i j p q hi hj e => ?_, fun k q hk => ?_⟩
  · rcases at' i p hi with ⟨h1, h2⟩ | ⟨h1, h2⟩ <;> rcases at' j q hj with ⟨h3, h4⟩ | ⟨h3, h4⟩
    · exact hD.1 i j h1 h3 (by rw [← h2, ← h4, e])
    · exact absurd (by rw [← h2, e, h4]) (hne i h1)
    · exact absurd (by rw [← h4, ← e, h2]) (hne j h3)
    · rw [h1, h3]
  · rcases at' k q hk with ⟨h1, h2⟩ | ⟨h1, h2⟩
    · rw [h2]; exact hA k h1
    · rw [h2]; exact hao
theorem oneO_kept {D : va_G} {cA : Nat → ClassId} {ao : Nat} {g : Nat → Int64} {ad : Nat → Nat} {σ : vSt} {H H1 : Heap} (hP : va_P D vCl (oneO cA ao g) H) (hk : ∀ q : Nat, q < H.size → ¬ va_A (wl shC ad cA σ) H.size q → H1[q]? = H[q]?) (hne : ∀ i, i < shC.1 → ad i ≠ ao) : va_P D vCl (oneO cA ao g) H1 := one_kept hP hk (fun z => by
  rcases z with ⟨k, e, hk⟩ | h
  · obtain ⟨h1, h2⟩ := wl_at' hk
    exact hne k h1 (congrArg Prod.fst h2).symm
  · exact absurd (va_at.lt (hP 0 _ rfl)) (Nat.not_lt.mpr h))
theorem wlo_set {ad : Nat → Nat} {cA : Nat → ClassId} {st : vSt} {ao : Nat} {g g' : Nat → Int64} : (wl shC ad cA st ++ oneO cA ao g).set 55 (ao, .inl (cA 1, 1, .inr (.inl g'))) = wl shC ad cA st ++ oneO cA ao g' := by
  rw [List.set_append_right 55 _ (by rw [wl_len]; exact Nat.le_refl _), wl_len]
  rfl
set_option maxRecDepth 4000 in
theorem s_row {l : Launch} (hlt : l.stackTraces = false) {ad : Nat → Nat} {ao : Nat} {σ : vSt} {g : Nat → Int64} {v : Int32} (hk : ¬ v < 0 → v < σ.1 3 1 → vp_in v 12) : vS l ad ao yL_row cL_row 4 [(0, 9, 12, 13)] 8 200 σ g [.ref (ad 0), .int v, .ref ao] (fun r g' => (thrRow σ v ∧ r = 1 ∧ g' = g) ∨ ∃ w, postRow σ v w ∧ r = 0 ∧ g' = vp_updL g 0 w.toInt64) := by
  intro D cA sz
  refine vOfWH (cc := cL_row) (maxL := 4) (ret := some .int) (hh := [(0, 9, 12, 13)]) (by decide +kernel) rfl ?_
  intro p e s m args below meth c s₁ B hml htab hv
  obtain ⟨rfl, hsz, hP, hP3, hK, hD, hne, hE⟩ := hv
  have hr := B.returns
  have hts := atoms_spec (ws := .codeWith yL_row cL_row 4 (some .int) [(0, 9, 12, 13)] :: vT) B.pre
  have hown : s.vm.findClass RL = some m.cls := findClass_of_methodNamed B.named
  have hlocks := B.notSynchronized
  have hx := B.exec
  have hb := B.bytes
  subst hsz
  rw [lg_entry_eq]
  have htv : ∀ w ∈ vT, w.before ([.ref (ad 0), .int v, .ref ao] : List Value).toArray s = true := fun w h => hts w (List.mem_cons_of_mem _ h)
  have hl := lv_entry ([.ref (ad 0), .int v, .ref ao]) (n := 4) (Nat.le_of_ble_eq_true rfl)
  generalize (lg_sl ([.ref (ad 0), .int v, .ref ao]) ++ List.replicate (4 - (lg_sl ([.ref (ad 0), .int v, .ref ao])).length) Slot.unset).toArray = ls at hl ⊢
  have hl : lv_has ls 4 [(0, .ref (ad 0)), (1, .int v), (2, .ref ao)] := hl
  have hS : va_S (va_A (wl shC ad cA σ ++ oneO cA ao g) s.heap.size) s.heap s.heap [] := va_S.rf
  refine lv_aload_n hx hb dL_row_0 rfl (lv_at hl 2 rfl) ?_
  refine lv_iconst (v := 0) hx hb dL_row_1 (by decide) ?_
  refine lv_aload_n hx hb dL_row_2 rfl (lv_at hl 0 rfl) ?_
  refine lv_iload_n hx hb dL_row_3 rfl (lv_at hl 1 rfl) ?_
  refine vx_calli (vx_runV (As := [.int v]) (rest := [.int 0, .ref ao]) (nL := 4) (Ts := vT) (own := RL) (C := RX11) ⟨hx, hb, hml, hown, htv⟩ (x_row hlt ad hk D cA s.heap.size) ⟨callB_of 1 htv (vGood kM_X11_row.1) rfl rfl rfl (htv _ kM_X11_row.2.1) (htv _ km_L_15) kM_X11_row.2.2 ⟨Nat.le_of_ble_eq_true rfl, Nat.le_of_ble_eq_true rfl⟩, htv _ kV_X11_row.1, htv _ kV_X11_row.2⟩ ⟨fun a U g mk q => ⟨vBlind a U g mk q.1, exS.calling q.2⟩, va_recv hK hP (ci := 11) (q0 := 0) rfl rfl, fun U hU hW => ⟨⟨rfl, by rw [hU], by rw [hU]; exact hP, va_K.moved hW.alike hK, hD⟩, exS.pass hW hU (fun _ _ _ => rfl) (Nat.le_refl _) (sub_A (Nat.le_refl _)) hE⟩⟩ rfl rfl hl.1 rfl (lv_room (Nat.le_of_ble_eq_true rfl)) dL_row_4 ⟨by decide, by decide⟩) hS (fun q _ h => sub_A (Nat.le_refl _) q h) (sub_A (Nat.le_refl _)) (fun q _ h => sub_A (Nat.le_refl _) q h) (fun E ce q9 u t H1 locs1 ht hvm hp hBX hz hkk hS1 hce hcv hcl => ?_) (fun r u t H1 locs1 ht hvm hp hB hz hkk hS1 => ?_)
  · obtain ⟨rfl, hPt⟩ := hBX
    subst ht
    have hO := oneO_kept hP3 hkk hne
    refine vx_catch hown [] ⟨0, 9, 12, 13⟩ [] (by rw [htab]; rfl) (fun z hz => nomatch hz) (by decide) (by decide) (htv _ exLinkL) (va_Nw.use rfl hE.2.2.1.1) hce hcv hcl ?_
    refine lv_astore_n (lv' := [(3, .ref q9), (0, .ref (ad 0)), (1, .int v), (2, .ref ao)]) hx hb dL_row_12 rfl hl (by decide) rfl (fun ls hl => ?_)
    refine lv_iconst (v := 1) hx hb dL_row_13 (by decide) ?_
    exact W.iret hx hb hr (fun t2 ht2 hW => ⟨⟨1, g, rfl, Or.inl ⟨hp, rfl, rfl⟩, by rw [ht2]; exact hPt, by rw [ht2]; exact hO⟩, hS1.F ht2⟩) hS1.2.2 dL_row_14 hlocks
  · subst ht
    have hO := oneO_kept hP3 hkk hne
    refine lv_i2l hx hb dL_row_7 rfl ?_
    have hAll := va_P_app hB hO
    have hDD := wlo_D (A := va_A (wl shC ad cA σ ++ oneO cA ao g) s.heap.size) (cA := cA) (st := σ) (g := g) hD (fun i hi => sub_A (Nat.le_refl _) _ (va_A.in (wl_at hi))) one_A hne
    refine va_last hx hb hK hAll hDD hS1 55 1 (a := ao) (n := 1) (f := g) (by rw [List.getElem?_append_right (by rw [wl_len]; exact Nat.le_refl _), wl_len]; rfl) rfl (i := 0) (by unfold vp_in; decide) dL_row_8 (fun H2 locs2 hP2 hD2 hS2 => ?_)
    rw [wlo_set] at hP2
    refine lv_goto (tgt := 15) hx hb dL_row_9 (by decide) ?_
    refine lv_iconst (v := 0) hx hb dL_row_15 (by decide) ?_
    exact W.iret hx hb hr (fun t2 ht2 hW => ⟨⟨0, vp_updL g 0 r.toInt64, rfl, Or.inr ⟨r, hp, rfl, rfl⟩, by rw [ht2]; exact va_P_l hP2, by rw [ht2]; exact va_P_r hP2⟩, hS2.F ht2⟩) hS2.2.2 dL_row_16 hlocks

set_option maxRecDepth 4000 in
theorem s_meeting {l : Launch} (hlt : l.stackTraces = false) {ad : Nat → Nat} {ao : Nat} {σ : vSt} {g : Nat → Int64} {v w bm : Int32} {N : Nat} (hm : fC_Roads_hasMeeting N v σ = some (bm, σ)) (hk : ¬ bm = 0 → vp_in v 20) : vS l ad ao yL_meeting cL_meeting 5 [(0, 10, 13, 13)] 10 400 σ g [.ref (ad 0), .int v, .int w, .ref ao] (fun r g' => ((bm = 0 ∨ (w.toInt < 0 ∨ 3 < w.toInt)) ∧ r = 1 ∧ g' = g) ∨ ∃ z, (¬ bm = 0 ∧ postMeet σ v w z) ∧ r = 0 ∧ g' = vp_updL g 0 z.toInt64) := by
  intro D cA sz
  refine vOfWH (cc := cL_meeting) (maxL := 5) (ret := some .int) (hh := [(0, 10, 13, 13)]) (by decide +kernel) rfl ?_
  intro p e s m args below meth c s₁ B hml htab hv
  obtain ⟨rfl, hsz, hP, hP3, hK, hD, hne, hE⟩ := hv
  have hr := B.returns
  have hts := atoms_spec (ws := .codeWith yL_meeting cL_meeting 5 (some .int) [(0, 10, 13, 13)] :: vT) B.pre
  have hown : s.vm.findClass RL = some m.cls := findClass_of_methodNamed B.named
  have hlocks := B.notSynchronized
  have hx := B.exec
  have hb := B.bytes
  subst hsz
  rw [lg_entry_eq]
  have htv : ∀ c9 ∈ vT, c9.before ([.ref (ad 0), .int v, .int w, .ref ao] : List Value).toArray s = true := fun c9 h => hts c9 (List.mem_cons_of_mem _ h)
  have hl := lv_entry ([.ref (ad 0), .int v, .int w, .ref ao]) (n := 5) (Nat.le_of_ble_eq_true rfl)
  generalize (lg_sl ([.ref (ad 0), .int v, .int w, .ref ao]) ++ List.replicate (5 - (lg_sl ([.ref (ad 0), .int v, .int w, .ref ao])).length) Slot.unset).toArray = ls at hl ⊢
  have hl : lv_has ls 5 [(0, .ref (ad 0)), (1, .int v), (2, .int w), (3, .ref ao)] := hl
  have hS : va_S (va_A (wl shC ad cA σ ++ oneO cA ao g) s.heap.size) s.heap s.heap [] := va_S.rf
  refine lv_aload_n hx hb dL_meeting_0 rfl (lv_at hl 3 rfl) ?_
  refine lv_iconst (v := 0) hx hb dL_meeting_1 (by decide) ?_
  refine lv_aload_n hx hb dL_meeting_2 rfl (lv_at hl 0 rfl) ?_
  refine lv_iload_n hx hb dL_meeting_3 rfl (lv_at hl 1 rfl) ?_
  refine lv_iload_n hx hb dL_meeting_4 rfl (lv_at hl 2 rfl) ?_
  refine vx_calli (vx_runV (As := [.int v, .int w]) (rest := [.int 0, .ref ao]) (nL := 5) (Ts := vT) (own := RL) (C := RX11) ⟨hx, hb, hml, hown, htv⟩ (x_meeting hlt ad hm hk D cA s.heap.size) ⟨callB_of 2 htv (vGood kM_X11_meeting.1) rfl rfl rfl (htv _ kM_X11_meeting.2.1) (htv _ km_L_7) kM_X11_meeting.2.2 ⟨Nat.le_of_ble_eq_true rfl, Nat.le_of_ble_eq_true rfl⟩, htv _ kV_X11_meeting.1, htv _ kV_X11_meeting.2⟩ ⟨fun a U g mk q => ⟨vBlind a U g mk q.1, exS.calling q.2⟩, va_recv hK hP (ci := 11) (q0 := 0) rfl rfl, fun U hU hW => ⟨⟨rfl, by rw [hU], by rw [hU]; exact hP, va_K.moved hW.alike hK, hD⟩, exS.pass hW hU (fun _ _ _ => rfl) (Nat.le_refl _) (sub_A (Nat.le_refl _)) hE⟩⟩ rfl rfl hl.1 rfl (lv_room (Nat.le_of_ble_eq_true rfl)) dL_meeting_5 ⟨by decide, by decide⟩) hS (fun q _ h => sub_A (Nat.le_refl _) q h) (sub_A (Nat.le_refl _)) (fun q _ h => sub_A (Nat.le_refl _) q h) (fun E ce q9 u t H1 locs1 ht hvm hp hBX hz hkk hS1 hce hcv hcl => ?_) (fun r u t H1 locs1 ht hvm hp hB hz hkk hS1 => ?_)
  · obtain ⟨rfl, hPt⟩ := hBX
    subst ht
    have hO := oneO_kept hP3 hkk hne
    refine vx_catch hown [] ⟨0, 10, 13, 13⟩ [] (by rw [htab]; rfl) (fun z hz => nomatch hz) (by decide) (by decide) (htv _ exLinkL) (va_Nw.use rfl hE.2.2.1.1) hce hcv hcl ?_
    refine lv_astore (lv' := [(4, .ref q9), (0, .ref (ad 0)), (1, .int v), (2, .int w), (3, .ref ao)]) hx hb dL_meeting_13 hl (by decide) rfl (fun ls hl => ?_)
    refine lv_iconst (v := 1) hx hb dL_meeting_15 (by decide) ?_
    exact W.iret hx hb hr (fun t2 ht2 hW => ⟨⟨1, g, rfl, Or.inl ⟨hp, rfl, rfl⟩, by rw [ht2]; exact hPt, by rw [ht2]; exact hO⟩, hS1.F ht2⟩) hS1.2.2 dL_meeting_16 hlocks
  · subst ht
    have hO := oneO_kept hP3 hkk hne
    refine lv_i2l hx hb dL_meeting_8 rfl ?_
    have hAll := va_P_app hB hO
    have hDD := wlo_D (A := va_A (wl shC ad cA σ ++ oneO cA ao g) s.heap.size) (cA := cA) (st := σ) (g := g) hD (fun i hi => sub_A (Nat.le_refl _) _ (va_A.in (wl_at hi))) one_A hne
    refine va_last hx hb hK hAll hDD hS1 55 1 (a := ao) (n := 1) (f := g) (by rw [List.getElem?_append_right (by rw [wl_len]; exact Nat.le_refl _), wl_len]; rfl) rfl (i := 0) (by unfold vp_in; decide) dL_meeting_9 (fun H2 locs2 hP2 hD2 hS2 => ?_)
    rw [wlo_set] at hP2
    refine lv_goto (tgt := 17) hx hb dL_meeting_10 (by decide) ?_
    refine lv_iconst (v := 0) hx hb dL_meeting_17 (by decide) ?_
    exact W.iret hx hb hr (fun t2 ht2 hW => ⟨⟨0, vp_updL g 0 r.toInt64, rfl, Or.inr ⟨r, hp, rfl, rfl⟩, by rw [ht2]; exact va_P_l hP2, by rw [ht2]; exact va_P_r hP2⟩, hS2.F ht2⟩) hS2.2.2 dL_meeting_18 hlocks
