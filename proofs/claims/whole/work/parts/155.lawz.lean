theorem exS_of {p : Program} {s : State} {m : MethodId} {meth : Method} {c : Code} {b L : Nat} {xs : Nat → Int32} {D : va_G} {tys : List (ClassId × FieldType)} (hAt : lw_At p s m meth c b L xs) (hK : va_K D vCl tys s) : exS (fun q : Nat => s.heap.size ≤ q) s := by
  obtain ⟨hx, hb, hr, hml, hown, hts, hXs, hbl, hlocks, hgv⟩ := hAt
  have hs := flat_of_before _ hgv
  have hcur : s.vm.findClass RX11 = some (D.1 11) := (hK.1 11 (RX11, TX11, 12) rfl).2.1
  have hstr : ∀ (k : Nat) (tx : String), (Cond.stringRef RX11 k tx).before #[Value.ref b] s = true → ∃ a, vk_R RX11 k tx a s := fun k tx h => by
    obtain ⟨_, _, _, a, _, _, _, _, _, h2⟩ := Cond.stringRef_spec hcur h
    exact ⟨a, vk_R.of h h2⟩
  refine ⟨vx_Zqof (hts _ (List.mem_of_getElem? (i := 1287) (by decide +kernel))) (hts _ (List.mem_of_getElem? (i := 118) (by decide +kernel))) (hs _ (by decide +kernel)) (fun a ha => Nat.not_le.mpr ha), vx_Zqof (hts _ (List.mem_of_getElem? (i := 1289) (by decide +kernel))) (hts _ (List.mem_of_getElem? (i := 118) (by decide +kernel))) (hs _ (by decide +kernel)) (fun a ha => Nat.not_le.mpr ha), ⟨va_Nw.of rfl (hts _ (List.mem_of_getElem? (i := 1262) (by decide +kernel))), va_Nw.of rfl (hts _ (List.mem_of_getElem? (i := 1264) (by decide +kernel))), va_Nw.of rfl (hts _ (List.mem_of_getElem? (i := 1266) (by decide +kernel))), va_Nw.of rfl (hts _ (List.mem_of_getElem? (i := 1268) (by decide +kernel)))⟩, hstr _ _ (hts _ (List.mem_of_getElem? (i := 1299) (by decide +kernel))), hstr _ _ (hts _ (List.mem_of_getElem? (i := 1326) (by decide +kernel))), hstr _ _ (hts _ (List.mem_of_getElem? (i := 1334) (by decide +kernel)))⟩
theorem goodS {y : MethodName} {cw : Cond} {idx : Nat} (h1 : Cond.methodLink R_law idx y ∈ vT) (h2 : Cond.static y ∈ vT) (h3 : Cond.initialized y.cls ∈ vT) (h4 : cw ∈ vT) : GoodIn vT (va_wsS R_law idx y (cw :: vT)) := by
  intro w hw
  have : w ∈ vT := by
    rcases List.mem_append.mp hw with h | h
    · rcases List.mem_cons.mp h with rfl | h
      · exact h1
      rcases List.mem_cons.mp h with rfl | h
      · exact h2
      rcases List.mem_cons.mp h with rfl | h
      · exact h3
      cases h
    · rcases List.mem_cons.mp h with rfl | h
      · exact h4
      · exact h
  exact ⟨this, vT_good this⟩
section LX
variable {P : lP} {l : Launch} {adC adM : Nat → Nat} {ao b L : Nat} {xs : Nat → Int32} {σ τ : vSt} {g : Nat → Int64} {cells slots pc : Nat} {lv : List (Nat × Value)} {rest : List Value}
theorem l_callS (hX : lOK P l adC adM ao b L xs) {y : MethodName} {cy : ByteArray} {maxL f n kn idx : Nat} {hh : List (Nat × Nat × Nat × Nat)} {As stk : List Value} {Rel : Int32 → (Nat → Int64) → Prop} (hM : vS l adC ao y cy maxL hh f n σ g As Rel) (hcw : Cond.codeWith y cy maxL (some .int) hh ∈ vT) (hst : Cond.static y ∈ vT) (hini : Cond.initialized y.cls ∈ vT) (hw : Cond.methodLink R_law idx y ∈ vT) (hd : y.cls ≠ "java/lang/invoke/MethodHandle" ∧ y.cls ≠ "java/lang/invoke/VarHandle" ∧ (parseMethodDescriptor y.desc).map (fun d => d.parameters.length) = some kn) (hn : As.length = kn) (hstk : stk = As.reverse ++ rest) (hroom : (rest.map fun v => v.category).sum ≤ 8) (hR : f + 1 ≤ room_1.frames ∧ 8 + (maxL + 11) + n ≤ room_1.locals) (hc1 : cells + 1 ≤ 601024) (hs1 : slots + 6 ≤ 7293034) (hdg : decode code pc = .ok (.invokestatic idx, 3)) (kk : ∀ r g', Rel r g' → P σ τ g' (cells + 1) (slots + 6) (pc + 3) lv (.int r :: rest)) : P σ τ g cells slots pc lv stk := by
  subst hstk
  obtain ⟨p, e, s, m, below, meth, c, D, cA, rfl, hAt, hK, hdC, hdM, hao, hCM, hCo, hMo, hfl⟩ := hX
  have hE := exS_of hAt hK
  obtain ⟨hx, hb, hr, hml, hown, hts, hXs, hbl, hlocks, hgv⟩ := hAt
  intro H locs ls hP1 hP2 hP3 hS hl
  have htv : ∀ w ∈ vT, w.before #[Value.ref b] s = true := fun w h => hts w (vT_tbl h)
  have hfree : ∀ q, va_A (wl shC adC cA σ ++ oneO cA ao g) H.size q → s.heap.size ≤ q := by
    rintro q (⟨k, e, hk⟩ | h)
    · by_cases c : k < (wl shC adC cA σ).length
      · rw [List.getElem?_append_left c] at hk
        obtain ⟨h1, h2⟩ := wl_at' hk
        have h3 : q = adC k := congrArg Prod.fst h2
        rw [h3]; exact hdC.2 k h1
      · rw [List.getElem?_append_right (Nat.le_of_not_lt c)] at hk
        obtain ⟨j, hj⟩ : ∃ j, k - (wl shC adC cA σ).length = j := ⟨_, rfl⟩
        rw [hj] at hk
        cases j with
        | zero => have h3 : ao = q := congrArg Prod.fst (Option.some.inj hk)
                  rw [← h3]; exact hao
        | succ j => cases hk
    · exact Nat.le_trans hS.1 h
  refine va_calli (vx_runSW (As := As) (rest := rest) (nL := 7) (Ts := vT) (own := R_law) ⟨hx, hb, hml, hown, htv⟩ (hM D cA H.size) (vx_cwSW kn htv (goodS hw hst hini hcw) rfl rfl rfl hd hR) ⟨fun a U g mk q => by
    obtain ⟨q0, q1, q2, q3, q4, q5, q6, q7⟩ := q
    exact ⟨q0, q1, q2, q3, va_K.moved (u := U) (U := U.calling g mk a) (Vm.Alike.refl U.vm) q4, q5, q6, exS.calling q7⟩, fun U hU hW => ⟨rfl, by rw [hU], by rw [hU]; exact hP1, by rw [hU]; exact hP3, va_K.moved hW.alike hK, vAd_wk hdC (fun _ _ => trivial), hCo, exS.pass hW hU hS.2.1 hS.1 hfree hE⟩⟩ rfl hn hl.1 rfl (lv_room hroom) hdg ⟨hc1, hs1⟩) hS (fun q _ h => hfree q h) hfree (fun r u t H1 locs1 ht hvm hw' hB hz1 hk1 hS1 => ?_)
  subst ht
  refine kk r u hw' _ locs1 ls hB.1 (wl_kept hP2 hk1 (fun j hj z => ?_)) hB.2 hS1 hl
  rcases z with ⟨k, e, hk⟩ | h
  · by_cases c : k < (wl shC adC cA σ).length
    · rw [List.getElem?_append_left c] at hk
      obtain ⟨h1, h2⟩ := wl_at' hk
      exact hCM k h1 j hj (congrArg Prod.fst h2).symm
    · rw [List.getElem?_append_right (Nat.le_of_not_lt c)] at hk
      obtain ⟨i, hi⟩ : ∃ i, k - (wl shC adC cA σ).length = i := ⟨_, rfl⟩
      rw [hi] at hk
      cases i with
      | zero => exact hMo j hj (congrArg Prod.fst (Option.some.inj hk)).symm
      | succ i => cases hk
  · exact absurd (va_at.lt (hP2 j _ (wl_at hj))) (Nat.not_lt.mpr h)
end LX
