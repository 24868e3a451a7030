theorem kcwM : Cond.codeWith yL_meeting cL_meeting 5 (some .int) [(0, 10, 13, 13)] ∈ vT := vm5 191 (by decide +kernel) (by decide +kernel)
theorem kcwR : Cond.codeWith yL_row cL_row 4 (some .int) [(0, 9, 12, 13)] ∈ vT := vm6 26 (by decide +kernel) (by decide +kernel)
theorem kstM : Cond.static yL_meeting ∈ vT := vm5 190 (by decide +kernel) (by decide +kernel)
theorem kstR : Cond.static yL_row ∈ vT := vm6 25 (by decide +kernel) (by decide +kernel)
theorem kinL : Cond.initialized yL_row.cls ∈ vT := vm1 0 (by decide +kernel) (by decide +kernel)
set_option maxRecDepth 4000 in
theorem cs_5 {P : lP} {l : Launch} {adC adM : Nat → Nat} {ao b L : Nat} {xs : Nat → Int32} {σ τ τ1 τ2 : vSt} {g : Nat → Int64} {cells slots N : Nat} {i bM tM : Int32} (hX : lOK P l adC adM ao b L xs) (hlt : l.stackTraces = false) (h1 : vp_in (i + 1) L) (h2 : vp_in (i + 2) L) (h3 : vp_in (i + 3) L) (h4 : vp_in (i + 4) L) (hc1 : cells + 1 ≤ 601024) (hs1 : slots + 6 ≤ 7293034) {bC : Int32} (hmC : fC_Roads_hasMeeting N (xs (i + 1).toNatClampNeg) σ = some (bC, σ)) (hk : ¬ bC = 0 → vp_in (xs (i + 1).toNatClampNeg) 20) (hM : fM_EachAddsALineModel_meeting N (xs (i + 1).toNatClampNeg) (xs (i + 2).toNatClampNeg) τ = some (bM, τ1)) (hT : fM_EachAddsALineModel_thrown N τ1 = some (tM, τ2)) (hrel : (∀ (r : Int32) (g2 : Nat → Int64), (((bC = 0 ∨ ((xs (i + 2).toNatClampNeg).toInt < 0 ∨ 3 < (xs (i + 2).toNatClampNeg).toInt)) ∧ r = 1 ∧ g2 = g) ∨ ∃ z, (¬ bC = 0 ∧ postMeet σ (xs (i + 1).toNatClampNeg) (xs (i + 2).toNatClampNeg) z) ∧ r = 0 ∧ g2 = vp_updL g 0 z.toInt64) → tM = r) ∧ ∀ (r : Int32) (g2 : Nat → Int64), (((bC = 0 ∨ ((xs (i + 2).toNatClampNeg).toInt < 0 ∨ 3 < (xs (i + 2).toNatClampNeg).toInt)) ∧ r = 1 ∧ g2 = g) ∨ ∃ z, (¬ bC = 0 ∧ postMeet σ (xs (i + 1).toNatClampNeg) (xs (i + 2).toNatClampNeg) z) ∧ r = 0 ∧ g2 = vp_updL g 0 z.toInt64) → r = 0 → g2 0 = bM.toInt64) (kk : ∀ g2, P σ τ2 g2 (cells + 1) (slots + 6) 2297 [(0, .ref b), (1, .ref (adC 0)), (2, .ref (adM 0)), (3, .ref ao), (4, .int i)] []) : P σ τ g cells slots 361 [(0, .ref b), (1, .ref (adC 0)), (2, .ref (adM 0)), (3, .ref ao), (4, .int i)] [] := by
  refine l_aload_n hX dL_law_361 rfl 1 rfl ?_
  refine l_aload_n hX dL_law_362 rfl 0 rfl ?_
  refine l_iload hX dL_law_363 4 rfl ?_
  refine l_iconst (v := 1) hX dL_law_365 (by decide) ?_
  refine l_iadd hX dL_law_366 ?_
  refine l_sld hX h1 dL_law_367 ?_
  refine l_aload_n hX dL_law_368 rfl 0 rfl ?_
  refine l_iload hX dL_law_369 4 rfl ?_
  refine l_iconst (v := 2) hX dL_law_371 (by decide) ?_
  refine l_iadd hX dL_law_372 ?_
  refine l_sld hX h2 dL_law_373 ?_
  refine l_aload_n hX dL_law_374 rfl 3 rfl ?_
  refine l_callS (kn := 4) hX (s_meeting hlt hmC hk) kcwM kstM kinL km_L_45 (by decide +kernel) rfl rfl (Nat.le_of_ble_eq_true rfl) ⟨Nat.le_of_ble_eq_true rfl, Nat.le_of_ble_eq_true rfl⟩ hc1 hs1 dL_law_375 (fun r g2 hr => ?_)
  refine l_istore (lv' := (5, .int r) :: [(0, .ref b), (1, .ref (adC 0)), (2, .ref (adM 0)), (3, .ref ao), (4, .int i)]) hX dL_law_378 (by decide) rfl ?_
  refine l_aload_n hX dL_law_380 rfl 3 rfl ?_
  refine l_aload_n hX dL_law_381 rfl 1 rfl ?_
  refine l_iload hX dL_law_382 5 rfl ?_
  refine l_iconst (v := 1) hX dL_law_384 (by decide) ?_
  refine l_iadd hX dL_law_385 ?_
  refine l_sld hX h1 dL_law_386 ?_
  refine l_aload_n hX dL_law_387 rfl 1 rfl ?_
  refine l_iload hX dL_law_388 5 rfl ?_
  refine l_iconst (v := 2) hX dL_law_390 (by decide) ?_
  refine l_iadd hX dL_law_391 ?_
  refine l_sld hX h2 dL_law_392 ?_
  refine l_callIM hX (mM_EachAddsALineModel_meeting hM l adM) kM_X12_meeting kV_X12_meeting rfl km_L_50 rfl rfl (Nat.le_of_ble_eq_true rfl) ⟨Nat.le_of_ble_eq_true rfl, Nat.le_of_ble_eq_true rfl⟩ hc1 hs1 dL_law_393 ?_
  refine l_istore (lv' := (6, .int bM) :: (5, .int r) :: [(0, .ref b), (1, .ref (adC 0)), (2, .ref (adM 0)), (3, .ref ao), (4, .int i)]) hX dL_law_396 (by decide) rfl ?_
  refine l_aload_n hX dL_law_398 rfl 4 rfl ?_
  refine l_callIM hX (mM_EachAddsALineModel_thrown hT l adM) kM_X12_thrown kV_X12_thrown rfl km_L_51 rfl rfl (Nat.le_of_ble_eq_true rfl) ⟨Nat.le_of_ble_eq_true rfl, Nat.le_of_ble_eq_true rfl⟩ hc1 hs1 dL_law_399 ?_
  refine l_iload hX dL_law_402 1 rfl ?_
  refine l_eqT (tgt := 409) hX dL_law_404 (by decide) (hrel.1 r g2 hr) ?_
  refine l_iload hX dL_law_409 1 rfl ?_
  refine l_ifne (tgt := 426) hX dL_law_411 (by decide) (fun hz => ?_) (fun hz => ?_)
  · refine l_goto (tgt := 2297) hX dL_law_426 (by decide) ?_
    exact l_sub hX [2, 3, 4, 5, 6] (by rfl) (kk g2)
  · refine l_aload_n hX dL_law_414 rfl 5 rfl ?_
    refine l_iconst (v := 0) hX dL_law_415 (by decide) ?_
    refine l_old hX dL_law_416 ?_
    refine l_iload hX dL_law_417 0 rfl ?_
    refine l_i2l hX dL_law_419 ?_
    refine l_lcmp hX dL_law_420 ?_
    refine l_ifeqT (tgt := 426) hX dL_law_421 (by decide) (by rw [hrel.2 r g2 hr hz, lg_cmp_refl]) ?_
    refine l_goto (tgt := 2297) hX dL_law_426 (by decide) ?_
    exact l_sub hX [2, 3, 4, 5, 6] (by rfl) (kk g2)
set_option maxRecDepth 4000 in
theorem cs_51 {P : lP} {l : Launch} {adC adM : Nat → Nat} {ao b L : Nat} {xs : Nat → Int32} {σ τ τ1 τ2 : vSt} {g : Nat → Int64} {cells slots N : Nat} {i bM tM : Int32} (hX : lOK P l adC adM ao b L xs) (hlt : l.stackTraces = false) (h1 : vp_in (i + 1) L) (h2 : vp_in (i + 2) L) (h3 : vp_in (i + 3) L) (h4 : vp_in (i + 4) L) (hc1 : cells + 1 ≤ 601024) (hs1 : slots + 6 ≤ 7293034) (hk : ¬ (xs (i + 1).toNatClampNeg) < 0 → (xs (i + 1).toNatClampNeg) < σ.1 3 1 → vp_in (xs (i + 1).toNatClampNeg) 12) (hM : fM_EachAddsALineModel_row N (xs (i + 1).toNatClampNeg) τ = some (bM, τ1)) (hT : fM_EachAddsALineModel_thrown N τ1 = some (tM, τ2)) (hrel : (∀ (r : Int32) (g2 : Nat → Int64), ((thrRow σ (xs (i + 1).toNatClampNeg) ∧ r = 1 ∧ g2 = g) ∨ ∃ z, postRow σ (xs (i + 1).toNatClampNeg) z ∧ r = 0 ∧ g2 = vp_updL g 0 z.toInt64) → tM = r) ∧ ∀ (r : Int32) (g2 : Nat → Int64), ((thrRow σ (xs (i + 1).toNatClampNeg) ∧ r = 1 ∧ g2 = g) ∨ ∃ z, postRow σ (xs (i + 1).toNatClampNeg) z ∧ r = 0 ∧ g2 = vp_updL g 0 z.toInt64) → r = 0 → g2 0 = bM.toInt64) (kk : ∀ g2, P σ τ2 g2 (cells + 1) (slots + 6) 2297 [(0, .ref b), (1, .ref (adC 0)), (2, .ref (adM 0)), (3, .ref ao), (4, .int i)] []) : P σ τ g cells slots 2241 [(0, .ref b), (1, .ref (adC 0)), (2, .ref (adM 0)), (3, .ref ao), (4, .int i)] [] := by
  refine l_aload_n hX dL_law_2241 rfl 1 rfl ?_
  refine l_aload_n hX dL_law_2242 rfl 0 rfl ?_
  refine l_iload hX dL_law_2243 4 rfl ?_
  refine l_iconst (v := 1) hX dL_law_2245 (by decide) ?_
  refine l_iadd hX dL_law_2246 ?_
  refine l_sld hX h1 dL_law_2247 ?_
  refine l_aload_n hX dL_law_2248 rfl 3 rfl ?_
  refine l_callS (kn := 3) hX (s_row hlt hk) kcwR kstR kinL km_L_239 (by decide +kernel) rfl rfl (Nat.le_of_ble_eq_true rfl) ⟨Nat.le_of_ble_eq_true rfl, Nat.le_of_ble_eq_true rfl⟩ hc1 hs1 dL_law_2249 (fun r g2 hr => ?_)
  refine l_istore (lv' := (5, .int r) :: [(0, .ref b), (1, .ref (adC 0)), (2, .ref (adM 0)), (3, .ref ao), (4, .int i)]) hX dL_law_2252 (by decide) rfl ?_
  refine l_aload_n hX dL_law_2254 rfl 3 rfl ?_
  refine l_aload_n hX dL_law_2255 rfl 1 rfl ?_
  refine l_iload hX dL_law_2256 5 rfl ?_
  refine l_iconst (v := 1) hX dL_law_2258 (by decide) ?_
  refine l_iadd hX dL_law_2259 ?_
  refine l_sld hX h1 dL_law_2260 ?_
  refine l_callIM hX (mM_EachAddsALineModel_row hM l adM) kM_X12_row kV_X12_row rfl km_L_242 rfl rfl (Nat.le_of_ble_eq_true rfl) ⟨Nat.le_of_ble_eq_true rfl, Nat.le_of_ble_eq_true rfl⟩ hc1 hs1 dL_law_2261 ?_
  refine l_istore (lv' := (6, .int bM) :: (5, .int r) :: [(0, .ref b), (1, .ref (adC 0)), (2, .ref (adM 0)), (3, .ref ao), (4, .int i)]) hX dL_law_2264 (by decide) rfl ?_
  refine l_aload_n hX dL_law_2266 rfl 4 rfl ?_
  refine l_callIM hX (mM_EachAddsALineModel_thrown hT l adM) kM_X12_thrown kV_X12_thrown rfl km_L_51 rfl rfl (Nat.le_of_ble_eq_true rfl) ⟨Nat.le_of_ble_eq_true rfl, Nat.le_of_ble_eq_true rfl⟩ hc1 hs1 dL_law_2267 ?_
  refine l_iload hX dL_law_2270 1 rfl ?_
  refine l_eqT (tgt := 2277) hX dL_law_2272 (by decide) (hrel.1 r g2 hr) ?_
  refine l_iload hX dL_law_2277 1 rfl ?_
  refine l_ifne (tgt := 2294) hX dL_law_2279 (by decide) (fun hz => ?_) (fun hz => ?_)
  · refine l_goto (tgt := 2297) hX dL_law_2294 (by decide) ?_
    exact l_sub hX [2, 3, 4, 5, 6] (by rfl) (kk g2)
  · refine l_aload_n hX dL_law_2282 rfl 5 rfl ?_
    refine l_iconst (v := 0) hX dL_law_2283 (by decide) ?_
    refine l_old hX dL_law_2284 ?_
    refine l_iload hX dL_law_2285 0 rfl ?_
    refine l_i2l hX dL_law_2287 ?_
    refine l_lcmp hX dL_law_2288 ?_
    refine l_ifeqT (tgt := 2294) hX dL_law_2289 (by decide) (by rw [hrel.2 r g2 hr hz, lg_cmp_refl]) ?_
    refine l_goto (tgt := 2297) hX dL_law_2294 (by decide) ?_
    exact l_sub hX [2, 3, 4, 5, 6] (by rfl) (kk g2)
def keeps0 (N : Nat) (RR : vSt → vSt → Prop) (f h : Nat → vSt → Option (Int32 × vSt)) : Prop := ∀ σ τ, RR σ τ → ∃ r σ' τ', f N  σ = some (r, σ') ∧ h N  τ = some (r, τ') ∧ RR σ' τ'
def keeps0L (N : Nat) (RR : vSt → vSt → Prop) (f h : Nat → vSt → Option (Int64 × vSt)) : Prop := ∀ σ τ, RR σ τ → ∃ r σ' τ', f N  σ = some (r, σ') ∧ h N  τ = some (r, τ') ∧ RR σ' τ'
def keeps1 (N : Nat) (RR : vSt → vSt → Prop) (f h : Nat → Int32 → vSt → Option (Int32 × vSt)) : Prop := ∀ σ τ, RR σ τ → ∀ a0 : Int32, ∃ r σ' τ', f N a0 σ = some (r, σ') ∧ h N a0 τ = some (r, τ') ∧ RR σ' τ'
def keeps1L (N : Nat) (RR : vSt → vSt → Prop) (f h : Nat → Int32 → vSt → Option (Int64 × vSt)) : Prop := ∀ σ τ, RR σ τ → ∀ a0 : Int32, ∃ r σ' τ', f N a0 σ = some (r, σ') ∧ h N a0 τ = some (r, τ') ∧ RR σ' τ'
def keeps2 (N : Nat) (RR : vSt → vSt → Prop) (f h : Nat → Int32 → Int32 → vSt → Option (Int32 × vSt)) : Prop := ∀ σ τ, RR σ τ → ∀ a0 a1 : Int32, ∃ r σ' τ', f N a0 a1 σ = some (r, σ') ∧ h N a0 a1 τ = some (r, τ') ∧ RR σ' τ'
def keeps2L (N : Nat) (RR : vSt → vSt → Prop) (f h : Nat → Int32 → Int32 → vSt → Option (Int64 × vSt)) : Prop := ∀ σ τ, RR σ τ → ∀ a0 a1 : Int32, ∃ r σ' τ', f N a0 a1 σ = some (r, σ') ∧ h N a0 a1 τ = some (r, τ') ∧ RR σ' τ'
def keeps3 (N : Nat) (RR : vSt → vSt → Prop) (f h : Nat → Int32 → Int32 → Int32 → vSt → Option (Int32 × vSt)) : Prop := ∀ σ τ, RR σ τ → ∀ a0 a1 a2 : Int32, ∃ r σ' τ', f N a0 a1 a2 σ = some (r, σ') ∧ h N a0 a1 a2 τ = some (r, τ') ∧ RR σ' τ'
def keeps3L (N : Nat) (RR : vSt → vSt → Prop) (f h : Nat → Int32 → Int32 → Int32 → vSt → Option (Int64 × vSt)) : Prop := ∀ σ τ, RR σ τ → ∀ a0 a1 a2 : Int32, ∃ r σ' τ', f N a0 a1 a2 σ = some (r, σ') ∧ h N a0 a1 a2 τ = some (r, τ') ∧ RR σ' τ'
def keeps4 (N : Nat) (RR : vSt → vSt → Prop) (f h : Nat → Int32 → Int32 → Int32 → Int32 → vSt → Option (Int32 × vSt)) : Prop := ∀ σ τ, RR σ τ → ∀ a0 a1 a2 a3 : Int32, ∃ r σ' τ', f N a0 a1 a2 a3 σ = some (r, σ') ∧ h N a0 a1 a2 a3 τ = some (r, τ') ∧ RR σ' τ'
def keeps4L (N : Nat) (RR : vSt → vSt → Prop) (f h : Nat → Int32 → Int32 → Int32 → Int32 → vSt → Option (Int64 × vSt)) : Prop := ∀ σ τ, RR σ τ → ∀ a0 a1 a2 a3 : Int32, ∃ r σ' τ', f N a0 a1 a2 a3 σ = some (r, σ') ∧ h N a0 a1 a2 a3 τ = some (r, τ') ∧ RR σ' τ'
/-- what a relation of the two states must give, call by call -/
def keepsMeeting (N : Nat) (RR : vSt → vSt → Prop) : Prop := ∀ σ τ, RR σ τ → ∀ v w : Int32, ∃ bC bM tM τ1 τ2, fC_Roads_hasMeeting N v σ = some (bC, σ) ∧ (¬ bC = 0 → vp_in v 20) ∧ fM_EachAddsALineModel_meeting N v w τ = some (bM, τ1) ∧ fM_EachAddsALineModel_thrown N τ1 = some (tM, τ2) ∧ RR σ τ2 ∧ ((bC = 0 ∨ (w.toInt < 0 ∨ 3 < w.toInt)) → tM = 1) ∧ ∀ z, ¬ bC = 0 → postMeet σ v w z → tM = 0 ∧ z = bM
def keepsRow (N : Nat) (RR : vSt → vSt → Prop) : Prop := ∀ σ τ, RR σ τ → ∀ v : Int32, ∃ bM tM τ1 τ2, (¬ v < 0 → v < σ.1 3 1 → vp_in v 12) ∧ fM_EachAddsALineModel_row N v τ = some (bM, τ1) ∧ fM_EachAddsALineModel_thrown N τ1 = some (tM, τ2) ∧ RR σ τ2 ∧ (thrRow σ v → tM = 1) ∧ ∀ z, postRow σ v z → tM = 0 ∧ z = bM
def keepsAll (N : Nat) (RR : vSt → vSt → Prop) : Prop := keepsMeeting N RR ∧ keepsRow N RR ∧ keeps1 N RR fC_EachAddsALine_sign fM_EachAddsALineModel_sign ∧ keeps1 N RR fC_EachAddsALine_end fM_EachAddsALineModel_end ∧ keeps0 N RR fC_EachAddsALine_roads fM_EachAddsALineModel_roads ∧ keeps0 N RR fC_EachAddsALine_rule fM_EachAddsALineModel_rule ∧ keeps1 N RR fC_EachAddsALine_reads fM_EachAddsALineModel_reads ∧ keeps2 N RR fC_EachAddsALine_slow fM_EachAddsALineModel_slow ∧ keeps3 N RR fC_EachAddsALine_move fM_EachAddsALineModel_move ∧ keeps4 N RR fC_EachAddsALine_sheet fM_EachAddsALineModel_sheet ∧ keeps4 N RR fC_EachAddsALine_write fM_EachAddsALineModel_write ∧ keeps2 N RR fC_EachAddsALine_hand fM_EachAddsALineModel_hand ∧ keeps1 N RR fC_EachAddsALine_undo fM_EachAddsALineModel_undo ∧ keeps1 N RR fC_EachAddsALine_lines fM_EachAddsALineModel_lines ∧ keeps2 N RR fC_EachAddsALine_of fM_EachAddsALineModel_of ∧ keeps1 N RR fC_EachAddsALine_can fM_EachAddsALineModel_can ∧ keeps2 N RR fC_EachAddsALine_goes fM_EachAddsALineModel_goes ∧ keeps1 N RR fC_EachAddsALine_read fM_EachAddsALineModel_read ∧ keeps3 N RR fC_EachAddsALine_soonest fM_EachAddsALineModel_soonest ∧ keeps3 N RR fC_EachAddsALine_latest fM_EachAddsALineModel_latest ∧ keeps3 N RR fC_EachAddsALine_hands fM_EachAddsALineModel_hands ∧ keeps3 N RR fC_EachAddsALine_cheapest fM_EachAddsALineModel_cheapest ∧ keeps4 N RR fC_EachAddsALine_without fM_EachAddsALineModel_without ∧ keeps3L N RR fC_EachAddsALine_ways fM_EachAddsALineModel_ways ∧ keeps3 N RR fC_EachAddsALine_needs fM_EachAddsALineModel_needs ∧ keeps3 N RR fC_EachAddsALine_idle fM_EachAddsALineModel_idle ∧ keeps3 N RR fC_EachAddsALine_longest fM_EachAddsALineModel_longest ∧ keeps1 N RR fC_EachAddsALine_pairs fM_EachAddsALineModel_pairs ∧ keeps4 N RR fC_EachAddsALine_bargain fM_EachAddsALineModel_bargain ∧ keeps3 N RR fC_EachAddsALine_apart fM_EachAddsALineModel_apart ∧ keeps2 N RR fC_EachAddsALine_far fM_EachAddsALineModel_far ∧ keeps3 N RR fC_EachAddsALine_worst fM_EachAddsALineModel_worst ∧ keeps2 N RR fC_EachAddsALine_way fM_EachAddsALineModel_way ∧ keeps0 N RR fC_EachAddsALine_tale fM_EachAddsALineModel_tale ∧ keeps1 N RR fC_EachAddsALine_check fM_EachAddsALineModel_check ∧ keeps1 N RR fC_EachAddsALine_copy fM_EachAddsALineModel_copy ∧ keeps3L N RR fC_EachAddsALine_fits fM_EachAddsALineModel_fits ∧ keeps3 N RR fC_EachAddsALine_sure fM_EachAddsALineModel_sure ∧ keeps2 N RR fC_EachAddsALine_writers fM_EachAddsALineModel_writers ∧ keeps3L N RR fC_EachAddsALine_missing fM_EachAddsALineModel_missing ∧ keeps3 N RR fC_EachAddsALine_lies fM_EachAddsALineModel_lies ∧ keeps0 N RR fC_EachAddsALine_lay fM_EachAddsALineModel_lay ∧ keeps3 N RR fC_EachAddsALine_copies fM_EachAddsALineModel_copies ∧ keeps2 N RR fC_EachAddsALine_when fM_EachAddsALineModel_when ∧ keeps3 N RR fC_EachAddsALine_answer fM_EachAddsALineModel_answer ∧ keeps2 N RR fC_EachAddsALine_ask fM_EachAddsALineModel_ask ∧ keeps3 N RR fC_EachAddsALine_gossip fM_EachAddsALineModel_gossip ∧ keeps2 N RR fC_EachAddsALine_postman fM_EachAddsALineModel_postman ∧ keeps2 N RR fC_EachAddsALine_heralds fM_EachAddsALineModel_heralds ∧ keeps1 N RR fC_EachAddsALine_keep fM_EachAddsALineModel_keep ∧ keeps1 N RR fC_EachAddsALine_again fM_EachAddsALineModel_again ∧ keeps1 N RR fC_EachAddsALine_count fM_EachAddsALineModel_count
set_option maxRecDepth 8000 in
set_option maxHeartbeats 4000000 in
theorem law_loop {P : lP} {l : Launch} {adC adM : Nat → Nat} {ao b L N : Nat} {xs : Nat → Int32} {RR : vSt → vSt → Prop} (hX : lOK P l adC adM ao b L xs) (hlt : l.stackTraces = false) (hL : L ≤ 2560) (hk : keepsAll N RR) :
    ∀ (n i : Nat) (σ τ : vSt) (g : Nat → Int64) (cells slots : Nat), L + 5 ≤ i + n → i ≤ L → RR σ τ → cells ≤ 100 + i → slots ≤ 9000 + 6 * i → P σ τ g cells slots 23 [(0, .ref b), (1, .ref (adC 0)), (2, .ref (adM 0)), (3, .ref ao), (4, .int (nI i))] [] := by
  intro n
  induction n with
  | zero => intro i σ τ g cells slots h1 h2; exact absurd h1 (by omega)
  | succ n ih =>
    intro i σ τ g cells slots h1 h2 hR hc hs
    refine l_iload hX dL_law_23 4 rfl ?_
    refine l_aload_n hX dL_law_25 rfl 0 rfl ?_
    refine l_slen hX dL_law_26 ?_
    refine l_iconst (v := 5) hX dL_law_27 (by decide) ?_
    refine l_isub hX dL_law_28 ?_
    have e5 : (nI L - 5).toInt = (L : Int) - 5 := pk_sub_toInt (a := L) (b := 5) (by omega) (by omega)
    have ei : (nI i).toInt = (i : Int) := nI_toInt (by omega)
    refine l_gt (tgt := 2303) hX dL_law_29 (by decide) (fun hc5 => ?_) (fun hc5 => ?_)
    · refine l_iconst (v := 1) hX dL_law_2303 (by decide) ?_
      exact l_ret hX dL_law_2304 (by omega) (by omega)
    have hi5 : i + 5 ≤ L := by
      rw [Int32.lt_iff_toInt_lt, e5, ei] at hc5
      omega
    have v0 : vp_in (nI i) L := vp_in_nI (by omega) (by omega)
    have v1 : vp_in (nI i + 1) L := by rw [show nI i + 1 = nI (i + 1) from nI_add i 1]; exact vp_in_nI (by omega) (by omega)
    have v2 : vp_in (nI i + 2) L := by rw [show nI i + 2 = nI (i + 2) from nI_add i 2]; exact vp_in_nI (by omega) (by omega)
    have v3 : vp_in (nI i + 3) L := by rw [show nI i + 3 = nI (i + 3) from nI_add i 3]; exact vp_in_nI (by omega) (by omega)
    have v4 : vp_in (nI i + 4) L := by rw [show nI i + 4 = nI (i + 4) from nI_add i 4]; exact vp_in_nI (by omega) (by omega)
    have hend : ∀ (σ τ : vSt) (g : Nat → Int64) (cells slots : Nat), RR σ τ → cells ≤ 100 + i + 1 → slots ≤ 9000 + 6 * i + 6 → P σ τ g cells slots 2297 [(0, .ref b), (1, .ref (adC 0)), (2, .ref (adM 0)), (3, .ref ao), (4, .int (nI i))] [] := fun σ τ g cells slots hR hc hs => by
      refine l_iinc (j := 4) (v := nI (i + 5)) (lv' := [(4, .int (nI (i + 5))), (0, .ref b), (1, .ref (adC 0)), (2, .ref (adM 0)), (3, .ref ao)]) hX dL_law_2297 rfl (by rw [← nI_add i 5]; rfl) (by decide) rfl ?_
      refine l_goto (tgt := 23) hX dL_law_2300 (by decide) ?_
      exact l_sub hX [1, 2, 3, 4, 0] (by rfl) (ih (i + 5) σ τ g cells slots (by omega) (by omega) hR (by omega) (by omega))
    refine l_aload_n hX dL_law_32 rfl 0 rfl ?_
    refine l_iload hX dL_law_33 4 rfl ?_
    refine l_sld hX v0 dL_law_35 ?_
    refine l_bipush (v := 63) hX dL_law_36 (by decide) ?_
    refine l_iand hX dL_law_38 ?_
    obtain ⟨j, hj, ej⟩ := pk_andE (xs (nI i).toNatClampNeg) (m := 63) 6 (by decide)
    rw [ej]
    have hj2 : j = 0 ∨ j = 1 ∨ j = 2 ∨ j = 3 ∨ j = 4 ∨ j = 5 ∨ j = 6 ∨ j = 7 ∨ j = 8 ∨ j = 9 ∨ j = 10 ∨ j = 11 ∨ j = 12 ∨ j = 13 ∨ j = 14 ∨ j = 15 ∨ j = 16 ∨ j = 17 ∨ j = 18 ∨ j = 19 ∨ j = 20 ∨ j = 21 ∨ j = 22 ∨ j = 23 ∨ j = 24 ∨ j = 25 ∨ j = 26 ∨ j = 27 ∨ j = 28 ∨ j = 29 ∨ j = 30 ∨ j = 31 ∨ j = 32 ∨ j = 33 ∨ j = 34 ∨ j = 35 ∨ j = 36 ∨ j = 37 ∨ j = 38 ∨ j = 39 ∨ j = 40 ∨ j = 41 ∨ j = 42 ∨ j = 43 ∨ j = 44 ∨ j = 45 ∨ j = 46 ∨ j = 47 ∨ j = 48 ∨ j = 49 ∨ j = 50 ∨ j = 51 ∨ 52 ≤ j := by omega
    rcases hj2 with rfl | rfl | rfl | rfl | rfl | rfl | rfl | rfl | rfl | rfl | rfl | rfl | rfl | rfl | rfl | rfl | rfl | rfl | rfl | rfl | rfl | rfl | rfl | rfl | rfl | rfl | rfl | rfl | rfl | rfl | rfl | rfl | rfl | rfl | rfl | rfl | rfl | rfl | rfl | rfl | rfl | rfl | rfl | rfl | rfl | rfl | rfl | rfl | rfl | rfl | rfl | rfl | hj2
    · refine l_tblIn (tgt := 260) (off := 221) hX dL_law_39 (by decide) (by decide) (by rfl) (by decide) ?_
      obtain ⟨r, σ', τ', q1, q2, q3⟩ := hk.2.2.1 σ τ hR (xs (nI i + 1).toNatClampNeg)
      exact cs_0 hX v1 v2 v3 v4 (by omega) (by omega) q1 q2 (hend σ' τ' g _ _ q3 (by omega) (by omega))
    · refine l_tblIn (tgt := 285) (off := 246) hX dL_law_39 (by decide) (by decide) (by rfl) (by decide) ?_
      obtain ⟨r, σ', τ', q1, q2, q3⟩ := hk.2.2.2.1 σ τ hR (xs (nI i + 1).toNatClampNeg)
      exact cs_1 hX v1 v2 v3 v4 (by omega) (by omega) q1 q2 (hend σ' τ' g _ _ q3 (by omega) (by omega))
    · refine l_tblIn (tgt := 310) (off := 271) hX dL_law_39 (by decide) (by decide) (by rfl) (by decide) ?_
      obtain ⟨r, σ', τ', q1, q2, q3⟩ := hk.2.2.2.2.1 σ τ hR
      exact cs_2 hX v1 v2 v3 v4 (by omega) (by omega) q1 q2 (hend σ' τ' g _ _ q3 (by omega) (by omega))
    · refine l_tblIn (tgt := 323) (off := 284) hX dL_law_39 (by decide) (by decide) (by rfl) (by decide) ?_
      obtain ⟨r, σ', τ', q1, q2, q3⟩ := hk.2.2.2.2.2.1 σ τ hR
      exact cs_3 hX v1 v2 v3 v4 (by omega) (by omega) q1 q2 (hend σ' τ' g _ _ q3 (by omega) (by omega))
    · refine l_tblIn (tgt := 336) (off := 297) hX dL_law_39 (by decide) (by decide) (by rfl) (by decide) ?_
      obtain ⟨r, σ', τ', q1, q2, q3⟩ := hk.2.2.2.2.2.2.1 σ τ hR (xs (nI i + 1).toNatClampNeg)
      exact cs_4 hX v1 v2 v3 v4 (by omega) (by omega) q1 q2 (hend σ' τ' g _ _ q3 (by omega) (by omega))
    · refine l_tblIn (tgt := 361) (off := 322) hX dL_law_39 (by decide) (by decide) (by rfl) (by decide) ?_
      obtain ⟨bC, bM, tM, τ1, τ2, q1, q2, q3, q4, q5, q6, q7⟩ := hk.1 σ τ hR (xs (nI i + 1).toNatClampNeg) (xs (nI i + 2).toNatClampNeg)
      refine cs_5 hX hlt v1 v2 v3 v4 (by omega) (by omega) q1 q2 q3 q4 ⟨fun r g2 h => ?_, fun r g2 h hz => ?_⟩ (fun g2 => hend σ τ2 g2 _ _ q5 (by omega) (by omega))
      · rcases h with ⟨h1, rfl, _⟩ | ⟨z, ⟨h1, h2⟩, rfl, _⟩
        · exact q6 h1
        · exact (q7 z h1 h2).1
      · rcases h with ⟨h1, h2, _⟩ | ⟨z, ⟨h1, h2⟩, _, rfl⟩
        · rw [h2] at hz; exact absurd hz (by decide)
        · rw [← (q7 z h1 h2).2]; exact if_pos rfl
    · refine l_tblIn (tgt := 429) (off := 390) hX dL_law_39 (by decide) (by decide) (by rfl) (by decide) ?_
      obtain ⟨r, σ', τ', q1, q2, q3⟩ := hk.2.2.2.2.2.2.2.1 σ τ hR (xs (nI i + 1).toNatClampNeg) (xs (nI i + 2).toNatClampNeg)
      exact cs_6 hX v1 v2 v3 v4 (by omega) (by omega) q1 q2 (hend σ' τ' g _ _ q3 (by omega) (by omega))
    · refine l_tblIn (tgt := 466) (off := 427) hX dL_law_39 (by decide) (by decide) (by rfl) (by decide) ?_
      obtain ⟨r, σ', τ', q1, q2, q3⟩ := hk.2.2.2.2.2.2.2.2.1 σ τ hR (xs (nI i + 1).toNatClampNeg) (xs (nI i + 2).toNatClampNeg) (xs (nI i + 3).toNatClampNeg)
      exact cs_7 hX v1 v2 v3 v4 (by omega) (by omega) q1 q2 (hend σ' τ' g _ _ q3 (by omega) (by omega))
    · refine l_tblIn (tgt := 515) (off := 476) hX dL_law_39 (by decide) (by decide) (by rfl) (by decide) ?_
      obtain ⟨r, σ', τ', q1, q2, q3⟩ := hk.2.2.2.2.2.2.2.2.2.1 σ τ hR (xs (nI i + 1).toNatClampNeg) (xs (nI i + 2).toNatClampNeg) (xs (nI i + 3).toNatClampNeg) (xs (nI i + 4).toNatClampNeg)
      exact cs_8 hX v1 v2 v3 v4 (by omega) (by omega) q1 q2 (hend σ' τ' g _ _ q3 (by omega) (by omega))
    · refine l_tblIn (tgt := 576) (off := 537) hX dL_law_39 (by decide) (by decide) (by rfl) (by decide) ?_
      obtain ⟨r, σ', τ', q1, q2, q3⟩ := hk.2.2.2.2.2.2.2.2.2.2.1 σ τ hR (xs (nI i + 1).toNatClampNeg) (xs (nI i + 2).toNatClampNeg) (xs (nI i + 3).toNatClampNeg) (xs (nI i + 4).toNatClampNeg)
      exact cs_9 hX v1 v2 v3 v4 (by omega) (by omega) q1 q2 (hend σ' τ' g _ _ q3 (by omega) (by omega))
    · refine l_tblIn (tgt := 637) (off := 598) hX dL_law_39 (by decide) (by decide) (by rfl) (by decide) ?_
      obtain ⟨r, σ', τ', q1, q2, q3⟩ := hk.2.2.2.2.2.2.2.2.2.2.2.1 σ τ hR (xs (nI i + 1).toNatClampNeg) (xs (nI i + 2).toNatClampNeg)
      exact cs_10 hX v1 v2 v3 v4 (by omega) (by omega) q1 q2 (hend σ' τ' g _ _ q3 (by omega) (by omega))
    · refine l_tblIn (tgt := 674) (off := 635) hX dL_law_39 (by decide) (by decide) (by rfl) (by decide) ?_
      obtain ⟨r, σ', τ', q1, q2, q3⟩ := hk.2.2.2.2.2.2.2.2.2.2.2.2.1 σ τ hR (xs (nI i + 1).toNatClampNeg)
      exact cs_11 hX v1 v2 v3 v4 (by omega) (by omega) q1 q2 (hend σ' τ' g _ _ q3 (by omega) (by omega))
    · refine l_tblIn (tgt := 699) (off := 660) hX dL_law_39 (by decide) (by decide) (by rfl) (by decide) ?_
      obtain ⟨r, σ', τ', q1, q2, q3⟩ := hk.2.2.2.2.2.2.2.2.2.2.2.2.2.1 σ τ hR (xs (nI i + 1).toNatClampNeg)
      exact cs_12 hX v1 v2 v3 v4 (by omega) (by omega) q1 q2 (hend σ' τ' g _ _ q3 (by omega) (by omega))
    · refine l_tblIn (tgt := 724) (off := 685) hX dL_law_39 (by decide) (by decide) (by rfl) (by decide) ?_
      obtain ⟨r, σ', τ', q1, q2, q3⟩ := hk.2.2.2.2.2.2.2.2.2.2.2.2.2.2.1 σ τ hR (xs (nI i + 1).toNatClampNeg) (xs (nI i + 2).toNatClampNeg)
      exact cs_13 hX v1 v2 v3 v4 (by omega) (by omega) q1 q2 (hend σ' τ' g _ _ q3 (by omega) (by omega))
    · refine l_tblIn (tgt := 761) (off := 722) hX dL_law_39 (by decide) (by decide) (by rfl) (by decide) ?_
      obtain ⟨r, σ', τ', q1, q2, q3⟩ := hk.2.2.2.2.2.2.2.2.2.2.2.2.2.2.2.1 σ τ hR (xs (nI i + 1).toNatClampNeg)
      exact cs_14 hX v1 v2 v3 v4 (by omega) (by omega) q1 q2 (hend σ' τ' g _ _ q3 (by omega) (by omega))
    · refine l_tblIn (tgt := 786) (off := 747) hX dL_law_39 (by decide) (by decide) (by rfl) (by decide) ?_
      obtain ⟨r, σ', τ', q1, q2, q3⟩ := hk.2.2.2.2.2.2.2.2.2.2.2.2.2.2.2.2.1 σ τ hR (xs (nI i + 1).toNatClampNeg) (xs (nI i + 2).toNatClampNeg)
      exact cs_15 hX v1 v2 v3 v4 (by omega) (by omega) q1 q2 (hend σ' τ' g _ _ q3 (by omega) (by omega))
    · refine l_tblIn (tgt := 823) (off := 784) hX dL_law_39 (by decide) (by decide) (by rfl) (by decide) ?_
      obtain ⟨r, σ', τ', q1, q2, q3⟩ := hk.2.2.2.2.2.2.2.2.2.2.2.2.2.2.2.2.2.1 σ τ hR (xs (nI i + 1).toNatClampNeg)
      exact cs_16 hX v1 v2 v3 v4 (by omega) (by omega) q1 q2 (hend σ' τ' g _ _ q3 (by omega) (by omega))
    · refine l_tblIn (tgt := 848) (off := 809) hX dL_law_39 (by decide) (by decide) (by rfl) (by decide) ?_
      obtain ⟨r, σ', τ', q1, q2, q3⟩ := hk.2.2.2.2.2.2.2.2.2.2.2.2.2.2.2.2.2.2.1 σ τ hR (xs (nI i + 1).toNatClampNeg) (xs (nI i + 2).toNatClampNeg) (xs (nI i + 3).toNatClampNeg)
      exact cs_17 hX v1 v2 v3 v4 (by omega) (by omega) q1 q2 (hend σ' τ' g _ _ q3 (by omega) (by omega))
    · refine l_tblIn (tgt := 897) (off := 858) hX dL_law_39 (by decide) (by decide) (by rfl) (by decide) ?_
      obtain ⟨r, σ', τ', q1, q2, q3⟩ := hk.2.2.2.2.2.2.2.2.2.2.2.2.2.2.2.2.2.2.2.1 σ τ hR (xs (nI i + 1).toNatClampNeg) (xs (nI i + 2).toNatClampNeg) (xs (nI i + 3).toNatClampNeg)
      exact cs_18 hX v1 v2 v3 v4 (by omega) (by omega) q1 q2 (hend σ' τ' g _ _ q3 (by omega) (by omega))
    · refine l_tblIn (tgt := 946) (off := 907) hX dL_law_39 (by decide) (by decide) (by rfl) (by decide) ?_
      obtain ⟨r, σ', τ', q1, q2, q3⟩ := hk.2.2.2.2.2.2.2.2.2.2.2.2.2.2.2.2.2.2.2.2.1 σ τ hR (xs (nI i + 1).toNatClampNeg) (xs (nI i + 2).toNatClampNeg) (xs (nI i + 3).toNatClampNeg)
      exact cs_19 hX v1 v2 v3 v4 (by omega) (by omega) q1 q2 (hend σ' τ' g _ _ q3 (by omega) (by omega))
    · refine l_tblIn (tgt := 995) (off := 956) hX dL_law_39 (by decide) (by decide) (by rfl) (by decide) ?_
      obtain ⟨r, σ', τ', q1, q2, q3⟩ := hk.2.2.2.2.2.2.2.2.2.2.2.2.2.2.2.2.2.2.2.2.2.1 σ τ hR (xs (nI i + 1).toNatClampNeg) (xs (nI i + 2).toNatClampNeg) (xs (nI i + 3).toNatClampNeg)
      exact cs_20 hX v1 v2 v3 v4 (by omega) (by omega) q1 q2 (hend σ' τ' g _ _ q3 (by omega) (by omega))
    · refine l_tblIn (tgt := 1044) (off := 1005) hX dL_law_39 (by decide) (by decide) (by rfl) (by decide) ?_
      obtain ⟨r, σ', τ', q1, q2, q3⟩ := hk.2.2.2.2.2.2.2.2.2.2.2.2.2.2.2.2.2.2.2.2.2.2.1 σ τ hR (xs (nI i + 1).toNatClampNeg) (xs (nI i + 2).toNatClampNeg) (xs (nI i + 3).toNatClampNeg) (xs (nI i + 4).toNatClampNeg)
      exact cs_21 hX v1 v2 v3 v4 (by omega) (by omega) q1 q2 (hend σ' τ' g _ _ q3 (by omega) (by omega))
    · refine l_tblIn (tgt := 1105) (off := 1066) hX dL_law_39 (by decide) (by decide) (by rfl) (by decide) ?_
      obtain ⟨r, σ', τ', q1, q2, q3⟩ := hk.2.2.2.2.2.2.2.2.2.2.2.2.2.2.2.2.2.2.2.2.2.2.2.1 σ τ hR (xs (nI i + 1).toNatClampNeg) (xs (nI i + 2).toNatClampNeg) (xs (nI i + 3).toNatClampNeg)
      exact cs_22 hX v1 v2 v3 v4 (by omega) (by omega) q1 q2 (hend σ' τ' g _ _ q3 (by omega) (by omega))
    · refine l_tblIn (tgt := 1155) (off := 1116) hX dL_law_39 (by decide) (by decide) (by rfl) (by decide) ?_
      obtain ⟨r, σ', τ', q1, q2, q3⟩ := hk.2.2.2.2.2.2.2.2.2.2.2.2.2.2.2.2.2.2.2.2.2.2.2.2.1 σ τ hR (xs (nI i + 1).toNatClampNeg) (xs (nI i + 2).toNatClampNeg) (xs (nI i + 3).toNatClampNeg)
      exact cs_23 hX v1 v2 v3 v4 (by omega) (by omega) q1 q2 (hend σ' τ' g _ _ q3 (by omega) (by omega))
    · refine l_tblIn (tgt := 1204) (off := 1165) hX dL_law_39 (by decide) (by decide) (by rfl) (by decide) ?_
      obtain ⟨r, σ', τ', q1, q2, q3⟩ := hk.2.2.2.2.2.2.2.2.2.2.2.2.2.2.2.2.2.2.2.2.2.2.2.2.2.1 σ τ hR (xs (nI i + 1).toNatClampNeg) (xs (nI i + 2).toNatClampNeg) (xs (nI i + 3).toNatClampNeg)
      exact cs_24 hX v1 v2 v3 v4 (by omega) (by omega) q1 q2 (hend σ' τ' g _ _ q3 (by omega) (by omega))
    · refine l_tblIn (tgt := 1253) (off := 1214) hX dL_law_39 (by decide) (by decide) (by rfl) (by decide) ?_
      obtain ⟨r, σ', τ', q1, q2, q3⟩ := hk.2.2.2.2.2.2.2.2.2.2.2.2.2.2.2.2.2.2.2.2.2.2.2.2.2.2.1 σ τ hR (xs (nI i + 1).toNatClampNeg) (xs (nI i + 2).toNatClampNeg) (xs (nI i + 3).toNatClampNeg)
      exact cs_25 hX v1 v2 v3 v4 (by omega) (by omega) q1 q2 (hend σ' τ' g _ _ q3 (by omega) (by omega))
    · refine l_tblIn (tgt := 1302) (off := 1263) hX dL_law_39 (by decide) (by decide) (by rfl) (by decide) ?_
      obtain ⟨r, σ', τ', q1, q2, q3⟩ := hk.2.2.2.2.2.2.2.2.2.2.2.2.2.2.2.2.2.2.2.2.2.2.2.2.2.2.2.1 σ τ hR (xs (nI i + 1).toNatClampNeg)
      exact cs_26 hX v1 v2 v3 v4 (by omega) (by omega) q1 q2 (hend σ' τ' g _ _ q3 (by omega) (by omega))
    · refine l_tblIn (tgt := 1327) (off := 1288) hX dL_law_39 (by decide) (by decide) (by rfl) (by decide) ?_
      obtain ⟨r, σ', τ', q1, q2, q3⟩ := hk.2.2.2.2.2.2.2.2.2.2.2.2.2.2.2.2.2.2.2.2.2.2.2.2.2.2.2.2.1 σ τ hR (xs (nI i + 1).toNatClampNeg) (xs (nI i + 2).toNatClampNeg) (xs (nI i + 3).toNatClampNeg) (xs (nI i + 4).toNatClampNeg)
      exact cs_27 hX v1 v2 v3 v4 (by omega) (by omega) q1 q2 (hend σ' τ' g _ _ q3 (by omega) (by omega))
    · refine l_tblIn (tgt := 1388) (off := 1349) hX dL_law_39 (by decide) (by decide) (by rfl) (by decide) ?_
      obtain ⟨r, σ', τ', q1, q2, q3⟩ := hk.2.2.2.2.2.2.2.2.2.2.2.2.2.2.2.2.2.2.2.2.2.2.2.2.2.2.2.2.2.1 σ τ hR (xs (nI i + 1).toNatClampNeg) (xs (nI i + 2).toNatClampNeg) (xs (nI i + 3).toNatClampNeg)
      exact cs_28 hX v1 v2 v3 v4 (by omega) (by omega) q1 q2 (hend σ' τ' g _ _ q3 (by omega) (by omega))
    · refine l_tblIn (tgt := 1437) (off := 1398) hX dL_law_39 (by decide) (by decide) (by rfl) (by decide) ?_
      obtain ⟨r, σ', τ', q1, q2, q3⟩ := hk.2.2.2.2.2.2.2.2.2.2.2.2.2.2.2.2.2.2.2.2.2.2.2.2.2.2.2.2.2.2.1 σ τ hR (xs (nI i + 1).toNatClampNeg) (xs (nI i + 2).toNatClampNeg)
      exact cs_29 hX v1 v2 v3 v4 (by omega) (by omega) q1 q2 (hend σ' τ' g _ _ q3 (by omega) (by omega))
    · refine l_tblIn (tgt := 1474) (off := 1435) hX dL_law_39 (by decide) (by decide) (by rfl) (by decide) ?_
      obtain ⟨r, σ', τ', q1, q2, q3⟩ := hk.2.2.2.2.2.2.2.2.2.2.2.2.2.2.2.2.2.2.2.2.2.2.2.2.2.2.2.2.2.2.2.1 σ τ hR (xs (nI i + 1).toNatClampNeg) (xs (nI i + 2).toNatClampNeg) (xs (nI i + 3).toNatClampNeg)
      exact cs_30 hX v1 v2 v3 v4 (by omega) (by omega) q1 q2 (hend σ' τ' g _ _ q3 (by omega) (by omega))
    · refine l_tblIn (tgt := 1523) (off := 1484) hX dL_law_39 (by decide) (by decide) (by rfl) (by decide) ?_
      obtain ⟨r, σ', τ', q1, q2, q3⟩ := hk.2.2.2.2.2.2.2.2.2.2.2.2.2.2.2.2.2.2.2.2.2.2.2.2.2.2.2.2.2.2.2.2.1 σ τ hR (xs (nI i + 1).toNatClampNeg) (xs (nI i + 2).toNatClampNeg)
      exact cs_31 hX v1 v2 v3 v4 (by omega) (by omega) q1 q2 (hend σ' τ' g _ _ q3 (by omega) (by omega))
    · refine l_tblIn (tgt := 1560) (off := 1521) hX dL_law_39 (by decide) (by decide) (by rfl) (by decide) ?_
      obtain ⟨r, σ', τ', q1, q2, q3⟩ := hk.2.2.2.2.2.2.2.2.2.2.2.2.2.2.2.2.2.2.2.2.2.2.2.2.2.2.2.2.2.2.2.2.2.1 σ τ hR
      exact cs_32 hX v1 v2 v3 v4 (by omega) (by omega) q1 q2 (hend σ' τ' g _ _ q3 (by omega) (by omega))
    · refine l_tblIn (tgt := 1573) (off := 1534) hX dL_law_39 (by decide) (by decide) (by rfl) (by decide) ?_
      obtain ⟨r, σ', τ', q1, q2, q3⟩ := hk.2.2.2.2.2.2.2.2.2.2.2.2.2.2.2.2.2.2.2.2.2.2.2.2.2.2.2.2.2.2.2.2.2.2.1 σ τ hR (xs (nI i + 1).toNatClampNeg)
      exact cs_33 hX v1 v2 v3 v4 (by omega) (by omega) q1 q2 (hend σ' τ' g _ _ q3 (by omega) (by omega))
    · refine l_tblIn (tgt := 1598) (off := 1559) hX dL_law_39 (by decide) (by decide) (by rfl) (by decide) ?_
      obtain ⟨r, σ', τ', q1, q2, q3⟩ := hk.2.2.2.2.2.2.2.2.2.2.2.2.2.2.2.2.2.2.2.2.2.2.2.2.2.2.2.2.2.2.2.2.2.2.2.1 σ τ hR (xs (nI i + 1).toNatClampNeg)
      exact cs_34 hX v1 v2 v3 v4 (by omega) (by omega) q1 q2 (hend σ' τ' g _ _ q3 (by omega) (by omega))
    · refine l_tblIn (tgt := 1623) (off := 1584) hX dL_law_39 (by decide) (by decide) (by rfl) (by decide) ?_
      obtain ⟨r, σ', τ', q1, q2, q3⟩ := hk.2.2.2.2.2.2.2.2.2.2.2.2.2.2.2.2.2.2.2.2.2.2.2.2.2.2.2.2.2.2.2.2.2.2.2.2.1 σ τ hR (xs (nI i + 1).toNatClampNeg) (xs (nI i + 2).toNatClampNeg) (xs (nI i + 3).toNatClampNeg)
      exact cs_35 hX v1 v2 v3 v4 (by omega) (by omega) q1 q2 (hend σ' τ' g _ _ q3 (by omega) (by omega))
    · refine l_tblIn (tgt := 1673) (off := 1634) hX dL_law_39 (by decide) (by decide) (by rfl) (by decide) ?_
      obtain ⟨r, σ', τ', q1, q2, q3⟩ := hk.2.2.2.2.2.2.2.2.2.2.2.2.2.2.2.2.2.2.2.2.2.2.2.2.2.2.2.2.2.2.2.2.2.2.2.2.2.1 σ τ hR (xs (nI i + 1).toNatClampNeg) (xs (nI i + 2).toNatClampNeg) (xs (nI i + 3).toNatClampNeg)
      exact cs_36 hX v1 v2 v3 v4 (by omega) (by omega) q1 q2 (hend σ' τ' g _ _ q3 (by omega) (by omega))
    · refine l_tblIn (tgt := 1722) (off := 1683) hX dL_law_39 (by decide) (by decide) (by rfl) (by decide) ?_
      obtain ⟨r, σ', τ', q1, q2, q3⟩ := hk.2.2.2.2.2.2.2.2.2.2.2.2.2.2.2.2.2.2.2.2.2.2.2.2.2.2.2.2.2.2.2.2.2.2.2.2.2.2.1 σ τ hR (xs (nI i + 1).toNatClampNeg) (xs (nI i + 2).toNatClampNeg)
      exact cs_37 hX v1 v2 v3 v4 (by omega) (by omega) q1 q2 (hend σ' τ' g _ _ q3 (by omega) (by omega))
    · refine l_tblIn (tgt := 1759) (off := 1720) hX dL_law_39 (by decide) (by decide) (by rfl) (by decide) ?_
      obtain ⟨r, σ', τ', q1, q2, q3⟩ := hk.2.2.2.2.2.2.2.2.2.2.2.2.2.2.2.2.2.2.2.2.2.2.2.2.2.2.2.2.2.2.2.2.2.2.2.2.2.2.2.1 σ τ hR (xs (nI i + 1).toNatClampNeg) (xs (nI i + 2).toNatClampNeg) (xs (nI i + 3).toNatClampNeg)
      exact cs_38 hX v1 v2 v3 v4 (by omega) (by omega) q1 q2 (hend σ' τ' g _ _ q3 (by omega) (by omega))
    · refine l_tblIn (tgt := 1809) (off := 1770) hX dL_law_39 (by decide) (by decide) (by rfl) (by decide) ?_
      obtain ⟨r, σ', τ', q1, q2, q3⟩ := hk.2.2.2.2.2.2.2.2.2.2.2.2.2.2.2.2.2.2.2.2.2.2.2.2.2.2.2.2.2.2.2.2.2.2.2.2.2.2.2.2.1 σ τ hR (xs (nI i + 1).toNatClampNeg) (xs (nI i + 2).toNatClampNeg) (xs (nI i + 3).toNatClampNeg)
      exact cs_39 hX v1 v2 v3 v4 (by omega) (by omega) q1 q2 (hend σ' τ' g _ _ q3 (by omega) (by omega))
    · refine l_tblIn (tgt := 1858) (off := 1819) hX dL_law_39 (by decide) (by decide) (by rfl) (by decide) ?_
      obtain ⟨r, σ', τ', q1, q2, q3⟩ := hk.2.2.2.2.2.2.2.2.2.2.2.2.2.2.2.2.2.2.2.2.2.2.2.2.2.2.2.2.2.2.2.2.2.2.2.2.2.2.2.2.2.1 σ τ hR
      exact cs_40 hX v1 v2 v3 v4 (by omega) (by omega) q1 q2 (hend σ' τ' g _ _ q3 (by omega) (by omega))
    · refine l_tblIn (tgt := 1871) (off := 1832) hX dL_law_39 (by decide) (by decide) (by rfl) (by decide) ?_
      obtain ⟨r, σ', τ', q1, q2, q3⟩ := hk.2.2.2.2.2.2.2.2.2.2.2.2.2.2.2.2.2.2.2.2.2.2.2.2.2.2.2.2.2.2.2.2.2.2.2.2.2.2.2.2.2.2.1 σ τ hR (xs (nI i + 1).toNatClampNeg) (xs (nI i + 2).toNatClampNeg) (xs (nI i + 3).toNatClampNeg)
      exact cs_41 hX v1 v2 v3 v4 (by omega) (by omega) q1 q2 (hend σ' τ' g _ _ q3 (by omega) (by omega))
    · refine l_tblIn (tgt := 1920) (off := 1881) hX dL_law_39 (by decide) (by decide) (by rfl) (by decide) ?_
      obtain ⟨r, σ', τ', q1, q2, q3⟩ := hk.2.2.2.2.2.2.2.2.2.2.2.2.2.2.2.2.2.2.2.2.2.2.2.2.2.2.2.2.2.2.2.2.2.2.2.2.2.2.2.2.2.2.2.1 σ τ hR (xs (nI i + 1).toNatClampNeg) (xs (nI i + 2).toNatClampNeg)
      exact cs_42 hX v1 v2 v3 v4 (by omega) (by omega) q1 q2 (hend σ' τ' g _ _ q3 (by omega) (by omega))
    · refine l_tblIn (tgt := 1957) (off := 1918) hX dL_law_39 (by decide) (by decide) (by rfl) (by decide) ?_
      obtain ⟨r, σ', τ', q1, q2, q3⟩ := hk.2.2.2.2.2.2.2.2.2.2.2.2.2.2.2.2.2.2.2.2.2.2.2.2.2.2.2.2.2.2.2.2.2.2.2.2.2.2.2.2.2.2.2.2.1 σ τ hR (xs (nI i + 1).toNatClampNeg) (xs (nI i + 2).toNatClampNeg) (xs (nI i + 3).toNatClampNeg)
      exact cs_43 hX v1 v2 v3 v4 (by omega) (by omega) q1 q2 (hend σ' τ' g _ _ q3 (by omega) (by omega))
    · refine l_tblIn (tgt := 2006) (off := 1967) hX dL_law_39 (by decide) (by decide) (by rfl) (by decide) ?_
      obtain ⟨r, σ', τ', q1, q2, q3⟩ := hk.2.2.2.2.2.2.2.2.2.2.2.2.2.2.2.2.2.2.2.2.2.2.2.2.2.2.2.2.2.2.2.2.2.2.2.2.2.2.2.2.2.2.2.2.2.1 σ τ hR (xs (nI i + 1).toNatClampNeg) (xs (nI i + 2).toNatClampNeg)
      exact cs_44 hX v1 v2 v3 v4 (by omega) (by omega) q1 q2 (hend σ' τ' g _ _ q3 (by omega) (by omega))
    · refine l_tblIn (tgt := 2043) (off := 2004) hX dL_law_39 (by decide) (by decide) (by rfl) (by decide) ?_
      obtain ⟨r, σ', τ', q1, q2, q3⟩ := hk.2.2.2.2.2.2.2.2.2.2.2.2.2.2.2.2.2.2.2.2.2.2.2.2.2.2.2.2.2.2.2.2.2.2.2.2.2.2.2.2.2.2.2.2.2.2.1 σ τ hR (xs (nI i + 1).toNatClampNeg) (xs (nI i + 2).toNatClampNeg) (xs (nI i + 3).toNatClampNeg)
      exact cs_45 hX v1 v2 v3 v4 (by omega) (by omega) q1 q2 (hend σ' τ' g _ _ q3 (by omega) (by omega))
    · refine l_tblIn (tgt := 2092) (off := 2053) hX dL_law_39 (by decide) (by decide) (by rfl) (by decide) ?_
      obtain ⟨r, σ', τ', q1, q2, q3⟩ := hk.2.2.2.2.2.2.2.2.2.2.2.2.2.2.2.2.2.2.2.2.2.2.2.2.2.2.2.2.2.2.2.2.2.2.2.2.2.2.2.2.2.2.2.2.2.2.2.1 σ τ hR (xs (nI i + 1).toNatClampNeg) (xs (nI i + 2).toNatClampNeg)
      exact cs_46 hX v1 v2 v3 v4 (by omega) (by omega) q1 q2 (hend σ' τ' g _ _ q3 (by omega) (by omega))
    · refine l_tblIn (tgt := 2129) (off := 2090) hX dL_law_39 (by decide) (by decide) (by rfl) (by decide) ?_
      obtain ⟨r, σ', τ', q1, q2, q3⟩ := hk.2.2.2.2.2.2.2.2.2.2.2.2.2.2.2.2.2.2.2.2.2.2.2.2.2.2.2.2.2.2.2.2.2.2.2.2.2.2.2.2.2.2.2.2.2.2.2.2.1 σ τ hR (xs (nI i + 1).toNatClampNeg) (xs (nI i + 2).toNatClampNeg)
      exact cs_47 hX v1 v2 v3 v4 (by omega) (by omega) q1 q2 (hend σ' τ' g _ _ q3 (by omega) (by omega))
    · refine l_tblIn (tgt := 2166) (off := 2127) hX dL_law_39 (by decide) (by decide) (by rfl) (by decide) ?_
      obtain ⟨r, σ', τ', q1, q2, q3⟩ := hk.2.2.2.2.2.2.2.2.2.2.2.2.2.2.2.2.2.2.2.2.2.2.2.2.2.2.2.2.2.2.2.2.2.2.2.2.2.2.2.2.2.2.2.2.2.2.2.2.2.1 σ τ hR (xs (nI i + 1).toNatClampNeg)
      exact cs_48 hX v1 v2 v3 v4 (by omega) (by omega) q1 q2 (hend σ' τ' g _ _ q3 (by omega) (by omega))
    · refine l_tblIn (tgt := 2191) (off := 2152) hX dL_law_39 (by decide) (by decide) (by rfl) (by decide) ?_
      obtain ⟨r, σ', τ', q1, q2, q3⟩ := hk.2.2.2.2.2.2.2.2.2.2.2.2.2.2.2.2.2.2.2.2.2.2.2.2.2.2.2.2.2.2.2.2.2.2.2.2.2.2.2.2.2.2.2.2.2.2.2.2.2.2.1 σ τ hR (xs (nI i + 1).toNatClampNeg)
      exact cs_49 hX v1 v2 v3 v4 (by omega) (by omega) q1 q2 (hend σ' τ' g _ _ q3 (by omega) (by omega))
    · refine l_tblIn (tgt := 2216) (off := 2177) hX dL_law_39 (by decide) (by decide) (by rfl) (by decide) ?_
      obtain ⟨r, σ', τ', q1, q2, q3⟩ := hk.2.2.2.2.2.2.2.2.2.2.2.2.2.2.2.2.2.2.2.2.2.2.2.2.2.2.2.2.2.2.2.2.2.2.2.2.2.2.2.2.2.2.2.2.2.2.2.2.2.2.2 σ τ hR (xs (nI i + 1).toNatClampNeg)
      exact cs_50 hX v1 v2 v3 v4 (by omega) (by omega) q1 q2 (hend σ' τ' g _ _ q3 (by omega) (by omega))
    · refine l_tblIn (tgt := 2241) (off := 2202) hX dL_law_39 (by decide) (by decide) (by rfl) (by decide) ?_
      obtain ⟨bM, tM, τ1, τ2, q2, q3, q4, q5, q6, q7⟩ := hk.2.1 σ τ hR (xs (nI i + 1).toNatClampNeg)
      refine cs_51 hX hlt v1 v2 v3 v4 (by omega) (by omega) q2 q3 q4 ⟨fun r g2 h => ?_, fun r g2 h hz => ?_⟩ (fun g2 => hend σ τ2 g2 _ _ q5 (by omega) (by omega))
      · rcases h with ⟨h1, rfl, _⟩ | ⟨z, h1, rfl, _⟩
        · exact q6 h1
        · exact (q7 z h1).1
      · rcases h with ⟨h1, h2, _⟩ | ⟨z, h1, _, rfl⟩
        · rw [h2] at hz; exact absurd hz (by decide)
        · rw [← (q7 z h1).2]; exact if_pos rfl
    · refine l_tblOut (tgt := 2297) hX dL_law_39 (Or.inr (by rw [nI_toInt (by omega)]; omega)) (by decide) ?_
      exact hend σ τ g _ _ hR (by omega) (by omega)
