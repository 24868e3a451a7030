theorem vK_of {s : State} {b : Nat} (hts : ∀ w ∈ lw_tbl, w.before #[Value.ref b] s = true) : ∃ (D : va_G) (cA : Nat → ClassId), va_K D vCl (vTys cA) s := by
  have k0 := u_known hts (fun w h => vT_tbl (kin0 w h)) (hts _ (vT_tbl (w := Cond.instantiable RX0 6) (vm2 81 (by decide +kernel) (by decide +kernel))))
  have k1 := u_known hts (fun w h => vT_tbl (kin1 w h)) (hts _ (vT_tbl (w := Cond.instantiable RX1 4) (vm1 203 (by decide +kernel) (by decide +kernel))))
  have k2 := u_known hts (fun w h => vT_tbl (kin2 w h)) (hts _ (vT_tbl (w := Cond.instantiable RX2 2) (vm1 48 (by decide +kernel) (by decide +kernel))))
  have k3 := u_known hts (fun w h => vT_tbl (kin3 w h)) (hts _ (vT_tbl (w := Cond.instantiable RX3 8) (vm2 3 (by decide +kernel) (by decide +kernel))))
  have k4 := u_known hts (fun w h => vT_tbl (kin4 w h)) (hts _ (vT_tbl (w := Cond.instantiable RX4 5) (vm1 197 (by decide +kernel) (by decide +kernel))))
  have k5 := u_known hts (fun w h => vT_tbl (kin5 w h)) (hts _ (vT_tbl (w := Cond.instantiable RX5 5) (vm1 129 (by decide +kernel) (by decide +kernel))))
  have k6 := u_known hts (fun w h => vT_tbl (kin6 w h)) (hts _ (vT_tbl (w := Cond.instantiable RX6 8) (vm1 67 (by decide +kernel) (by decide +kernel))))
  have k7 := u_known hts (fun w h => vT_tbl (kin7 w h)) (hts _ (vT_tbl (w := Cond.instantiable RX7 5) (vm1 151 (by decide +kernel) (by decide +kernel))))
  have k8 := u_known hts (fun w h => vT_tbl (kin8 w h)) (hts _ (vT_tbl (w := Cond.instantiable RX8 5) (vm1 175 (by decide +kernel) (by decide +kernel))))
  have k9 := u_known hts (fun w h => vT_tbl (kin9 w h)) (hts _ (vT_tbl (w := Cond.instantiable RX9 11) (vm2 38 (by decide +kernel) (by decide +kernel))))
  have k10 := u_known hts (fun w h => vT_tbl (kin10 w h)) (hts _ (vT_tbl (w := Cond.instantiable RX10 2) (vm1 30 (by decide +kernel) (by decide +kernel))))
  have k11 := u_known hts (fun w h => vT_tbl (kin11 w h)) (hts _ (vT_tbl (w := Cond.instantiable RX11 12) (vm1 22 (by decide +kernel) (by decide +kernel))))
  have k12 := u_known hts (fun w h => vT_tbl (kin12 w h)) (hts _ (vT_tbl (w := Cond.instantiable RX12 51) (vm6 33 (by decide +kernel) (by decide +kernel))))
  obtain ⟨c0, i0, k0⟩ := k0
  obtain ⟨c1, i1, k1⟩ := k1
  obtain ⟨c2, i2, k2⟩ := k2
  obtain ⟨c3, i3, k3⟩ := k3
  obtain ⟨c4, i4, k4⟩ := k4
  obtain ⟨c5, i5, k5⟩ := k5
  obtain ⟨c6, i6, k6⟩ := k6
  obtain ⟨c7, i7, k7⟩ := k7
  obtain ⟨c8, i8, k8⟩ := k8
  obtain ⟨c9, i9, k9⟩ := k9
  obtain ⟨c10, i10, k10⟩ := k10
  obtain ⟨c11, i11, k11⟩ := k11
  obtain ⟨c12, i12, k12⟩ := k12
  obtain ⟨a0, A0, B0⟩ := vArrOf (ty := .int) rfl (hts _ (vT_tbl (vm1 65 (by decide +kernel) (by decide +kernel))))
  obtain ⟨a1, A1, B1⟩ := vArrOf (ty := .long) rfl (hts _ (vT_tbl (vm2 36 (by decide +kernel) (by decide +kernel))))
  obtain ⟨a2, A2, B2⟩ := vArrOf (ty := .byte) rfl (hts _ (vT_tbl (vm6 22 (by decide +kernel) (by decide +kernel))))
  obtain ⟨a3, A3, B3⟩ := vArrOf (ty := .char) rfl (hts _ (vT_tbl (vm1 46 (by decide +kernel) (by decide +kernel))))
  obtain ⟨a4, A4, B4⟩ := vArrOf (ty := .boolean) rfl (hts _ (vT_tbl (vm2 1 (by decide +kernel) (by decide +kernel))))
  obtain ⟨comp, a5, kA, z1, z2, z3, z4, z5⟩ := Cond.arrayOver_spec (hts (Cond.arrayOver (.object "EachAddsALine$Letters")) (List.mem_of_getElem? (i := 326) (by decide +kernel)))
  refine ⟨(fun c => [c0, c1, c2, c3, c4, c5, c6, c7, c8, c9, c10, c11, c12].getD c 0, fun c => [i0, i1, i2, i3, i4, i5, i6, i7, i8, i9, i10, i11, i12].getD c (fun _ => 0)), fun t => [a0, a1, a2, a3, a4, a5].getD t 0, fun c q hq => ?_, fun k q hk => ?_⟩
  · rcases c with _ | _ | _ | _ | _ | _ | _ | _ | _ | _ | _ | _ | _ | c
    · cases hq; exact k0
    · cases hq; exact k1
    · cases hq; exact k2
    · cases hq; exact k3
    · cases hq; exact k4
    · cases hq; exact k5
    · cases hq; exact k6
    · cases hq; exact k7
    · cases hq; exact k8
    · cases hq; exact k9
    · cases hq; exact k10
    · cases hq; exact k11
    · cases hq; exact k12
    · cases hq
  · rcases k with _ | _ | _ | _ | _ | _ | k
    · cases hk; exact ⟨A0, B0⟩
    · cases hk; exact ⟨A1, B1⟩
    · cases hk; exact ⟨A2, B2⟩
    · cases hk; exact ⟨A3, B3⟩
    · cases hk; exact ⟨A4, B4⟩
    · cases hk; exact ⟨fun n z => ⟨fun k h => (by cases h), kA, z3, comp, z4⟩, kA, comp, z3, z4, z1, z5⟩
    · cases hk
theorem vN_of {s : State} {b : Nat} (hts : ∀ w ∈ lw_tbl, w.before #[Value.ref b] s = true) : vN s := ⟨va_Nw.of rfl (hts _ (List.mem_of_getElem? (i := 134) (by decide +kernel))), va_Nw.of rfl (hts _ (List.mem_of_getElem? (i := 152) (by decide +kernel))), va_Nw.of rfl (hts _ (List.mem_of_getElem? (i := 171) (by decide +kernel))), va_Nw.of rfl (hts _ (List.mem_of_getElem? (i := 255) (by decide +kernel))), va_Nw.of rfl (hts _ (List.mem_of_getElem? (i := 307) (by decide +kernel))), va_AO.of (hts _ (List.mem_of_getElem? (i := 326) (by decide +kernel)))⟩
theorem range_get {α : Type} (l r : List α) (n : Nat) (h : l.length = n) : (List.range n).map (fun i => (l ++ r)[i]?) = l.map some := by
  apply List.ext_getElem?
  intro i
  rw [List.getElem?_map, List.getElem?_map]
  by_cases c : i < n
  · rw [List.getElem?_range c, Option.map_some, List.getElem?_append_left (by omega)]
    have hi : i < l.length := by omega
    rw [List.getElem?_eq_getElem hi]
    rfl
  · rw [List.getElem?_eq_none (by rw [List.length_range]; omega), List.getElem?_eq_none (by omega)]
    rfl
theorem one_get {α : Type} (l : List α) (x : α) (n : Nat) (h : l.length = n) : ([n] : List Nat).map (fun i => (l ++ [x])[i]?) = ([x] : List α).map some := by
  show [(l ++ [x])[n]?] = [some x]
  rw [List.getElem?_append_right (by omega), h, Nat.sub_self]
  rfl
section YS
variable {Y : cP} {l : Launch} {R : Room} {cc : ByteArray} {own : String} {nL pc cells slots : Nat} {D : va_G} {cA : Nat → ClassId} {A : Nat → Prop} {isI : Bool} {ws ws' : va_W} {lv : List (Nat × Value)} {rest : List Value}
theorem y_istore (hX : cOK Y l R cc own nL D cA A isI) {i : Nat} {x : Int32} {lv' : List (Nat × Value)} (hdg : decode cc pc = .ok (.istore i, 2)) (hn : i < nL) (hl' : (i, Value.int x) :: lv.filter (fun q => !(q.1 == i) && !(q.1 + 1 == i && q.2.category == 2)) = lv') (k : Y ws cells slots (pc + 2) lv' rest) : Y ws cells slots pc lv (.int x :: rest) := by
  obtain ⟨p, e, s, m, args, below, meth, c, H0, Q, rfl, hx, hb, hml, hown, hts, hK, hH0, hI, hZ⟩ := hX
  intro H locs ls hP hD hS hl
  exact lv_istore hx hb hdg hl hn hl' (fun ls' hl2 => k H locs ls' hP hD hS hl2)
end YS
set_option maxRecDepth 20000 in
set_option maxHeartbeats 4000000 in
theorem whole_start_open {p : Program} {e : Env} {s : State} {m : MethodId} {below : List Frame} {meth : Method} {c : Code} (l : Launch) (hflags : l.flags = flags0) {b L N : Nat} {xs : Nat → Int32} {RR : vSt → vSt → Prop} (hk : keepsAll N RR) (hR0 : RR zC zM) (hL : L ≤ 2560) (C0 : lw_At p s m meth c b L xs) : W p l e room_1 s m #[Value.ref b] below meth c s.heap [] 0 0 (lw_Z below #[Value.ref b] s) (entryFrame m ([Value.ref b] : List Value).toArray 7) := by
  have hAt := C0
  obtain ⟨hx, hb, hr, hml, hown, hts, hXs, hbl, hlocks, hgv⟩ := C0
  have hlt : l.stackTraces = false := by unfold Launch.stackTraces; rw [hflags]; decide +kernel
  obtain ⟨D, cA, hK⟩ := vK_of hts
  have hZ := vN_of hts
  have htv : ∀ w ∈ vT, w.before #[Value.ref b] s = true := fun w h => hts w (vT_tbl h)
  rw [lg_entry_eq]
  have hl := lv_entry ([Value.ref b]) (n := 7) (Nat.le_of_ble_eq_true rfl)
  generalize (lg_sl ([Value.ref b]) ++ List.replicate (7 - (lg_sl ([Value.ref b])).length) Slot.unset).toArray = ls at hl ⊢
  have hl : lv_has ls 7 [(0, .ref b)] := hl
  obtain ⟨Y, hYe⟩ : ∃ Y : cP, Y = (fun ws cells slots pc lv stk => ∀ (H : Heap) (locs : List Loc) (ls : Array Slot), va_P D vCl ws H → va_D (fun q : Nat => s.heap.size ≤ q) ws → va_S (fun q : Nat => s.heap.size ≤ q) s.heap H locs → lv_has ls 7 lv → W p l e room_1 s m #[Value.ref b] below meth c H locs cells slots (lw_Z below #[Value.ref b] s) (F0 m pc ls stk)) := ⟨_, rfl⟩
  have hX : cOK Y l room_1 code R_law 7 D cA (fun q : Nat => s.heap.size ≤ q) false := ⟨p, e, s, m, _, below, meth, c, s.heap, _, hYe, hx, hb, hml, hown, htv, hK, fun q h => h, (fun h => nomatch h), hZ⟩
  suffices hY : Y [] 0 0 0 [(0, .ref b)] [] by
    rw [hYe] at hY
    exact hY s.heap [] ls (fun k q hk => by cases hk) ⟨fun i j p q hi => (by cases hi), fun k q hk => by cases hk⟩ va_S.rf hl
  refine y_new (C := RX11) (T := TX11) (N := 12) (ci := 11) (fs := [.null, .null, .null, .null, .null, .null, .null, .null, .null, .null, .null, .null]) hX kin11 tyX11 tyX11_ok (vm1 21 (by decide +kernel) (by decide +kernel)) (vm1 22 (by decide +kernel) (by decide +kernel)) (vm1 1 (by decide +kernel) (by decide +kernel)) rfl (by decide +kernel) (Nat.le_of_ble_eq_true rfl) (Nat.le_of_ble_eq_true rfl) dL_law_0 (fun q => ?_)
  refine y_show (ws' := [(q, .inr (11, [.null, .null, .null, .null, .null, .null, .null, .null, .null, .null, .null, .null]))]) rfl ?_
  refine y_dup hX dL_law_3 rfl ?_
  refine y_callI (nn := 0) (wc := [(q, .inr (11, [.null, .null, .null, .null, .null, .null, .null, .null, .null, .null, .null, .null]))]) (wr := []) hX (kI_X11_init l D cA q) ⟨(vm1 25 (by decide +kernel) (by decide +kernel)), (vm1 1 (by decide +kernel) (by decide +kernel)), by decide +kernel⟩ rfl (vm1 24 (by decide +kernel) (by decide +kernel)) (vm1 23 (by decide +kernel) (by decide +kernel)) [0] [] rfl rfl (by decide) (by decide) (by decide) rfl rfl (Nat.le_of_ble_eq_true rfl) ⟨Nat.le_of_ble_eq_true rfl, Nat.le_of_ble_eq_true rfl⟩ (Nat.le_of_ble_eq_true rfl) (Nat.le_of_ble_eq_true rfl) dL_law_4 ?_
  rintro _ ⟨ad, had, rfl⟩
  refine y_show (ws' := wl shC ad cA zC) (List.nil_append _) ?_
  refine y_astore_n (lv' := [(1, .ref q), (0, .ref b)]) hX dL_law_7 rfl (by decide) rfl ?_
  refine y_new (C := RX12) (T := TX12) (N := 51) (ci := 12) (fs := [.int 0, .null, .int 0, .null, .null, .null, .null, .null, .int 0, .null, .int 0, .int 0, .null, .int 0, .int 0, .int 0, .int 0, .null, .int 0, .int 0, .int 0, .int 0, .int 0, .int 0, .int 0, .int 0, .int 0, .null, .null, .null, .int 0, .null, .null, .int 0, .int 0, .int 0, .null, .int 0, .null, .null, .int 0, .int 0, .null, .null, .int 0, .null, .int 0, .null, .null, .null, .null]) hX kin12 tyX12 tyX12_ok (vm6 32 (by decide +kernel) (by decide +kernel)) (vm6 33 (by decide +kernel) (by decide +kernel)) (vm1 13 (by decide +kernel) (by decide +kernel)) rfl (by decide +kernel) (Nat.le_of_ble_eq_true rfl) (Nat.le_of_ble_eq_true rfl) dL_law_8 (fun q2 => ?_)
  refine y_dup hX dL_law_11 rfl ?_
  refine y_callI (nn := 0) (wc := [(q2, .inr (12, [.int 0, .null, .int 0, .null, .null, .null, .null, .null, .int 0, .null, .int 0, .int 0, .null, .int 0, .int 0, .int 0, .int 0, .null, .int 0, .int 0, .int 0, .int 0, .int 0, .int 0, .int 0, .int 0, .int 0, .null, .null, .null, .int 0, .null, .null, .int 0, .int 0, .int 0, .null, .int 0, .null, .null, .int 0, .int 0, .null, .null, .int 0, .null, .int 0, .null, .null, .null, .null]))]) (wr := wl shC ad cA zC) hX (kI_X12_init l D cA q2) ⟨(vm6 36 (by decide +kernel) (by decide +kernel)), (vm1 13 (by decide +kernel) (by decide +kernel)), by decide +kernel⟩ rfl (vm6 35 (by decide +kernel) (by decide +kernel)) (vm6 34 (by decide +kernel) (by decide +kernel)) [55] (List.range 55) (one_get _ _ 55 (wl_len _ _ _ _)) (range_get _ _ 55 (wl_len _ _ _ _)) (by decide) (by decide) (by decide) rfl rfl (Nat.le_of_ble_eq_true rfl) ⟨Nat.le_of_ble_eq_true rfl, Nat.le_of_ble_eq_true rfl⟩ (Nat.le_of_ble_eq_true rfl) (Nat.le_of_ble_eq_true rfl) dL_law_12 ?_
  rintro _ ⟨ad2, had2, rfl⟩
  refine y_astore_n (lv' := [(2, .ref q2), (1, .ref q), (0, .ref b)]) hX dL_law_15 rfl (by decide) rfl ?_
  refine y_iconst (v := 1) hX dL_law_16 (by decide) ?_
  refine y_newa_long (N' := 1) hX (vm2 36 (by decide +kernel) (by decide +kernel)) (by decide) (by decide) (by decide) (Nat.le_of_ble_eq_true rfl) (Nat.le_of_ble_eq_true rfl) dL_law_17 (fun ao => ?_)
  refine y_astore_n (lv' := [(3, .ref ao), (2, .ref q2), (1, .ref q), (0, .ref b)]) hX dL_law_19 rfl (by decide) rfl ?_
  refine y_iconst (v := 0) hX dL_law_20 (by decide) ?_
  refine y_istore (lv' := [(4, .int 0), (3, .ref ao), (2, .ref q2), (1, .ref q), (0, .ref b)]) hX dL_law_21 (by decide) rfl ?_
  subst hYe
  intro H locs ls hP hD hS hl
  have hP12 := va_P_l hP
  have hP1 := va_P_l hP12
  have hP2 := va_P_r hP12
  have hP3 := va_P_r hP
  have e1 : ∀ i, i < 55 → ((wl shC ad cA zC ++ wl shM ad2 cA zM) ++ [(ao, (.inl (cA 1, 1, .inr (.inl (fun _ => 0))) : va_E))])[i]? = some (ad i, ctC i ad cA (zC.1 i) (zC.2 i)) := fun i hi => by
    rw [List.getElem?_append_left (by rw [List.length_append, wl_len]; exact Nat.lt_of_lt_of_le hi (Nat.le_add_right _ _)), List.getElem?_append_left (by rw [wl_len]; exact hi), wl_at (show i < shC.1 from hi)]
  have e2 : ∀ i, i < 24 → ((wl shC ad cA zC ++ wl shM ad2 cA zM) ++ [(ao, (.inl (cA 1, 1, .inr (.inl (fun _ => 0))) : va_E))])[55 + i]? = some (ad2 i, ctM i ad2 cA (zM.1 i) (zM.2 i)) := fun i hi => by
    rw [List.getElem?_append_left (by rw [List.length_append, wl_len, wl_len]; exact Nat.add_lt_add_left hi 55), List.getElem?_append_right (by rw [wl_len]; exact Nat.le_add_right _ _), wl_len, show 55 + i - shC.1 = i from Nat.add_sub_cancel_left 55 i, wl_at (show i < shM.1 from hi)]
  have e3 : ((wl shC ad cA zC ++ wl shM ad2 cA zM) ++ [(ao, (.inl (cA 1, 1, .inr (.inl (fun _ => 0))) : va_E))])[79]? = some (ao, .inl (cA 1, 1, .inr (.inl (fun _ => 0)))) := by
    rw [List.getElem?_append_right (by rw [List.length_append, wl_len, wl_len]; exact Nat.le_refl 79), List.length_append, wl_len, wl_len]
    rfl
  have hdC : vAd shC ad (fun q : Nat => s.heap.size ≤ q) := ⟨fun i j hi hj h => hD.1 i j _ _ (e1 i hi) (e1 j hj) h, fun k hk => hD.2 k _ (e1 k hk)⟩
  have hdM : vAd shM ad2 (fun q : Nat => s.heap.size ≤ q) := ⟨fun i j hi hj h => Nat.add_left_cancel (hD.1 (55 + i) (55 + j) _ _ (e2 i hi) (e2 j hj) h), fun k hk => hD.2 (55 + k) _ (e2 k hk)⟩
  have hXl : lOK (fun σ τ g cells slots pc lv stk => ∀ (H : Heap) (locs : List Loc) (ls : Array Slot), va_P D vCl (wl shC ad cA σ) H → va_P D vCl (wl shM ad2 cA τ) H → va_P D vCl [(ao, .inl (cA 1, 1, .inr (.inl g)))] H → va_S (fun q : Nat => s.heap.size ≤ q) s.heap H locs → lv_has ls 7 lv → W p l e room_1 s m #[Value.ref b] below meth c H locs cells slots (lw_Z below #[Value.ref b] s) (F0 m pc ls stk)) l ad ad2 ao b L xs :=
    ⟨p, e, s, m, below, meth, c, D, cA, rfl, hAt, hK, hdC, hdM, hD.2 79 _ e3, fun i hi j hj h => absurd (hD.1 i (55 + j) _ _ (e1 i hi) (e2 j hj) h) (by have : i < 55 := hi; omega), fun i hi h => absurd (hD.1 i 79 _ _ (e1 i hi) e3 h) (by have : i < 55 := hi; omega), fun i hi h => absurd (hD.1 (55 + i) 79 _ _ (e2 i hi) e3 h) (by have : i < 24 := hi; omega), hflags⟩
  have hl2 : lv_has ls 7 [(0, .ref b), (1, .ref (ad 0)), (2, .ref (ad2 0)), (3, .ref ao), (4, .int (nI 0))] := by
    rw [had, had2]
    exact lv_sub hl [4, 3, 2, 1, 0] rfl
  exact law_loop hXl hlt hL hk (L + 5) 0 zC zM (fun _ => 0) _ _ (by omega) (by omega) hR0 (by decide) (by decide) H locs ls hP1 hP2 hP3 hS hl2
