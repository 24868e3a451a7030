-- M_EachAddsALineModel_isLess
noncomputable def gM_EachAddsALineModel_isLess_16 (N : Nat)   (s : vSt) : Option (Int32 × vSt) :=
  some (1, s)
set_option maxRecDepth 4000 in
theorem wM_EachAddsALineModel_isLess_16 {P : vP} {l : Launch} {ad : Nat → Nat} {N : Nat} {r : Int32} {t1 : vSt} (hX : vOK P l shM ad (vR 0 0) cX12_isLess RX12 5) (hR : (∀ pc lv, narrow .boolean (.int r) = .int r → decode cX12_isLess pc = .ok (.ireturn, 1) → P t1 pc lv [.int r]))   {s : vSt} (h : gM_EachAddsALineModel_isLess_16 N s = some (r, t1)) : P s 16 [] [] := by
  unfold gM_EachAddsALineModel_isLess_16 at h
  refine v_iconst (v := 1) hX dX12_isLess_16 (by decide) ?_
  refine v_goto (tgt := 21) hX dX12_isLess_17 (by decide) ?_
  exact v_retZ1 hR h dX12_isLess_21
noncomputable def gM_EachAddsALineModel_isLess_20 (N : Nat)   (s : vSt) : Option (Int32 × vSt) :=
  some (0, s)
set_option maxRecDepth 4000 in
theorem wM_EachAddsALineModel_isLess_20 {P : vP} {l : Launch} {ad : Nat → Nat} {N : Nat} {r : Int32} {t1 : vSt} (hX : vOK P l shM ad (vR 0 0) cX12_isLess RX12 5) (hR : (∀ pc lv, narrow .boolean (.int r) = .int r → decode cX12_isLess pc = .ok (.ireturn, 1) → P t1 pc lv [.int r]))   {s : vSt} (h : gM_EachAddsALineModel_isLess_20 N s = some (r, t1)) : P s 20 [] [] := by
  unfold gM_EachAddsALineModel_isLess_20 at h
  refine v_iconst (v := 0) hX dX12_isLess_20 (by decide) ?_
  exact v_retZ0 hR h dX12_isLess_21
noncomputable def gM_EachAddsALineModel_isLess_0 (N : Nat)  (a1 : Int32) (a2 : Int32) (a3 : Int32) (a4 : Int32) (s : vSt) : Option (Int32 × vSt) :=
  if a1 < a3 then
    gM_EachAddsALineModel_isLess_16 N s
  else
    if a1 = a3 then
      if a4 ≤ a2 then
        gM_EachAddsALineModel_isLess_20 N s
      else
        gM_EachAddsALineModel_isLess_16 N s
    else
      gM_EachAddsALineModel_isLess_20 N s
set_option maxRecDepth 4000 in
theorem wM_EachAddsALineModel_isLess_0 {P : vP} {l : Launch} {ad : Nat → Nat} {N : Nat} {r : Int32} {t1 : vSt} (hX : vOK P l shM ad (vR 0 0) cX12_isLess RX12 5) (hR : (∀ pc lv, narrow .boolean (.int r) = .int r → decode cX12_isLess pc = .ok (.ireturn, 1) → P t1 pc lv [.int r]))  {a1 : Int32} {a2 : Int32} {a3 : Int32} {a4 : Int32} {s : vSt} (h : gM_EachAddsALineModel_isLess_0 N a1 a2 a3 a4 s = some (r, t1)) : P s 0 [(0, .ref (ad 0)), (1, .int a1), (2, .int a2), (3, .int a3), (4, .int a4)] [] := by
  unfold gM_EachAddsALineModel_isLess_0 at h
  refine v_iload_n hX dX12_isLess_0 rfl 1 rfl ?_
  refine v_iload_n hX dX12_isLess_1 rfl 3 rfl ?_
  refine v_icmp_lt (tgt := 16) hX dX12_isLess_2 (by decide) h (fun h => ?_) (fun h => ?_)
  · exact v_sub hX [] (by rfl) (wM_EachAddsALineModel_isLess_16 hX hR  h)
  · refine v_iload_n hX dX12_isLess_5 rfl 1 rfl ?_
    refine v_iload_n hX dX12_isLess_6 rfl 3 rfl ?_
    refine v_icmp_ne (tgt := 20) hX dX12_isLess_7 (by decide) h (fun h => ?_) (fun h => ?_)
    · refine v_iload_n hX dX12_isLess_10 rfl 2 rfl ?_
      refine v_iload hX dX12_isLess_11 4 rfl ?_
      refine v_icmp_ge (tgt := 20) hX dX12_isLess_13 (by decide) h (fun h => ?_) (fun h => ?_)
      · exact v_sub hX [] (by rfl) (wM_EachAddsALineModel_isLess_20 hX hR  h)
      · exact v_sub hX [] (by rfl) (wM_EachAddsALineModel_isLess_16 hX hR  h)
    · exact v_sub hX [] (by rfl) (wM_EachAddsALineModel_isLess_20 hX hR  h)
noncomputable def fM_EachAddsALineModel_isLess (N : Nat) (a1 : Int32) (a2 : Int32) (a3 : Int32) (a4 : Int32) (s : vSt) : Option (Int32 × vSt) := gM_EachAddsALineModel_isLess_0 N a1 a2 a3 a4 s
theorem mM_EachAddsALineModel_isLess {N : Nat} {a1 : Int32} {a2 : Int32} {a3 : Int32} {a4 : Int32} {s : vSt} {r : Int32} {t1 : vSt} (h : fM_EachAddsALineModel_isLess N a1 a2 a3 a4 s = some (r, t1)) (l : Launch) (ad : Nat → Nat) : vMI l shM ad yX12_isLess cX12_isLess 5 .boolean 0 0 s [.ref (ad 0), .int a1, .int a2, .int a3, .int a4] r t1 :=
  vMI_of (by decide +kernel) (Nat.le_of_ble_eq_true rfl) (fun P hX hR => wM_EachAddsALineModel_isLess_0 hX hR h)
-- M_EachAddsALineModel_findOrder
noncomputable def gM_EachAddsALineModel_findOrder_72 (N : Nat) (r12 : Int32 → vSt → Option (vSt)) (a1 : Int32) (a2 : Int32) (s : vSt) : Option (vSt) :=
  (sto s 11 40 a2 a1).bind fun z1 =>
  (some (a1 + 1 : Int32)).bind fun v2 =>
  r12 v2 z1
set_option maxRecDepth 4000 in
theorem wM_EachAddsALineModel_findOrder_72 {P : vP} {l : Launch} {ad : Nat → Nat} {N : Nat} {r12 : Int32 → vSt → Option (vSt)} {t1 : vSt} (hX : vOK P l shM ad (vR 0 0) cX12_findOrder RX12 3) (hR : (∀ pc lv, decode cX12_findOrder pc = .ok (.return_, 1) → P t1 pc lv [])) (H12 : ∀ (a1 : Int32) (s : vSt), r12 a1 s = some t1 → P s 12 [(0, .ref (ad 0)), (1, .int a1)] []) {a1 : Int32} {a2 : Int32} {s : vSt} (h : gM_EachAddsALineModel_findOrder_72 N r12 a1 a2 s = some t1) : P s 72 [(0, .ref (ad 0)), (1, .int a1), (2, .int a2)] [] := by
  unfold gM_EachAddsALineModel_findOrder_72 at h
  refine v_aload_n hX dX12_findOrder_72 rfl 0 rfl ?_
  refine gfM_0_29 hX kf_12_41 dX12_findOrder_73 ?_
  refine v_iload_n hX dX12_findOrder_76 rfl 2 rfl ?_
  refine v_iload_n hX dX12_findOrder_77 rfl 1 rfl ?_
  refine asM_11 hX dX12_findOrder_78 h (fun z1 h => ?_)
  refine v_iincN hX dX12_findOrder_79 (j := 1) rfl (c := 1) (by decide) (by decide) h (fun v2 h => ?_)
  refine v_show (lv' := [(1, .int v2), (0, .ref (ad 0)), (2, .int a2)]) hX rfl ?_
  refine v_goto (tgt := 12) hX dX12_findOrder_82 (by decide) ?_
  exact v_sub hX [1, 0] (by rfl) (H12 _ _ h)
noncomputable def gM_EachAddsALineModel_findOrder_22 (N : Nat) (r12 : Int32 → vSt → Option (vSt)) : Nat → Int32 → Int32 → vSt → Option (vSt)
  | 0, _, _, _ => none
  | n + 1, a1, a2, s =>
    if a2 ≤ 0 then
      gM_EachAddsALineModel_findOrder_72 N r12 a1 a2 s
    else
      (ld s 11 40 (a2 - 1)).bind fun v1 =>
      (ld s 4 20 (v1 / 2)).bind fun v2 =>
      (ld s 4 20 (a1 / 2)).bind fun v3 =>
      if v2 ≤ v3 then
        gM_EachAddsALineModel_findOrder_72 N r12 a1 a2 s
      else
        (ld s 11 40 (a2 - 1)).bind fun v4 =>
        (sto s 11 40 a2 v4).bind fun z5 =>
        (some (a2 + (-1) : Int32)).bind fun v6 =>
        gM_EachAddsALineModel_findOrder_22 N r12 n a1 v6 z5
set_option maxRecDepth 4000 in
theorem wM_EachAddsALineModel_findOrder_22 {P : vP} {l : Launch} {ad : Nat → Nat} {N : Nat} {r12 : Int32 → vSt → Option (vSt)} {t1 : vSt} (hX : vOK P l shM ad (vR 0 0) cX12_findOrder RX12 3) (hR : (∀ pc lv, decode cX12_findOrder pc = .ok (.return_, 1) → P t1 pc lv [])) (H12 : ∀ (a1 : Int32) (s : vSt), r12 a1 s = some t1 → P s 12 [(0, .ref (ad 0)), (1, .int a1)] []) : ∀ (n : Nat) (a1 : Int32) (a2 : Int32) (s : vSt), gM_EachAddsALineModel_findOrder_22 N r12 n a1 a2 s = some t1 → P s 22 [(0, .ref (ad 0)), (1, .int a1), (2, .int a2)] [] := by
  intro n
  induction n with
  | zero => intro a1 a2 s h; cases h
  | succ n ih =>
    intro a1 a2 s h
    unfold gM_EachAddsALineModel_findOrder_22 at h
    refine v_iload_n hX dX12_findOrder_22 rfl 2 rfl ?_
    refine v_if_le (tgt := 72) hX dX12_findOrder_23 (by decide) h (fun h => ?_) (fun h => ?_)
    · exact v_sub hX [0, 1, 2] (by rfl) (wM_EachAddsALineModel_findOrder_72 hX hR H12 h)
    · refine v_aload_n hX dX12_findOrder_26 rfl 0 rfl ?_
      refine gfM_0_5 hX kf_12_19 dX12_findOrder_27 ?_
      refine v_aload_n hX dX12_findOrder_30 rfl 0 rfl ?_
      refine gfM_0_29 hX kf_12_41 dX12_findOrder_31 ?_
      refine v_iload_n hX dX12_findOrder_34 rfl 2 rfl ?_
      refine v_iconst (v := 1) hX dX12_findOrder_35 (by decide) ?_
      refine v_isub hX dX12_findOrder_36 ?_
      refine alM_11 hX dX12_findOrder_37 h (fun v1 h => ?_)
      refine v_iconst (v := 2) hX dX12_findOrder_38 (by decide) ?_
      refine v_idiv hX dX12_findOrder_39 (by decide) ?_
      refine alM_4 hX dX12_findOrder_40 h (fun v2 h => ?_)
      refine v_aload_n hX dX12_findOrder_41 rfl 0 rfl ?_
      refine gfM_0_5 hX kf_12_19 dX12_findOrder_42 ?_
      refine v_iload_n hX dX12_findOrder_45 rfl 1 rfl ?_
      refine v_iconst (v := 2) hX dX12_findOrder_46 (by decide) ?_
      refine v_idiv hX dX12_findOrder_47 (by decide) ?_
      refine alM_4 hX dX12_findOrder_48 h (fun v3 h => ?_)
      refine v_icmp_le (tgt := 72) hX dX12_findOrder_49 (by decide) h (fun h => ?_) (fun h => ?_)
      · exact v_sub hX [0, 1, 2] (by rfl) (wM_EachAddsALineModel_findOrder_72 hX hR H12 h)
      · refine v_aload_n hX dX12_findOrder_52 rfl 0 rfl ?_
        refine gfM_0_29 hX kf_12_41 dX12_findOrder_53 ?_
        refine v_iload_n hX dX12_findOrder_56 rfl 2 rfl ?_
        refine v_aload_n hX dX12_findOrder_57 rfl 0 rfl ?_
        refine gfM_0_29 hX kf_12_41 dX12_findOrder_58 ?_
        refine v_iload_n hX dX12_findOrder_61 rfl 2 rfl ?_
        refine v_iconst (v := 1) hX dX12_findOrder_62 (by decide) ?_
        refine v_isub hX dX12_findOrder_63 ?_
        refine alM_11 hX dX12_findOrder_64 h (fun v4 h => ?_)
        refine asM_11 hX dX12_findOrder_65 h (fun z5 h => ?_)
        refine v_iincN hX dX12_findOrder_66 (j := 2) rfl (c := (-1)) (by decide) (by decide) h (fun v6 h => ?_)
        refine v_show (lv' := [(2, .int v6), (0, .ref (ad 0)), (1, .int a1)]) hX rfl ?_
        refine v_goto (tgt := 22) hX dX12_findOrder_69 (by decide) ?_
        exact v_sub hX [1, 2, 0] (by rfl) (ih _ _ _ h)
noncomputable def gM_EachAddsALineModel_findOrder_12 (N : Nat)  : Nat → Int32 → vSt → Option (vSt)
  | 0, _, _ => none
  | n + 1, a1, s =>
    if (s.1 0 30) ≤ a1 then
      some s
    else
      gM_EachAddsALineModel_findOrder_22 N (gM_EachAddsALineModel_findOrder_12 N n) N a1 a1 s
set_option maxRecDepth 4000 in
theorem wM_EachAddsALineModel_findOrder_12 {P : vP} {l : Launch} {ad : Nat → Nat} {N : Nat} {t1 : vSt} (hX : vOK P l shM ad (vR 0 0) cX12_findOrder RX12 3) (hR : (∀ pc lv, decode cX12_findOrder pc = .ok (.return_, 1) → P t1 pc lv []))  : ∀ (n : Nat) (a1 : Int32) (s : vSt), gM_EachAddsALineModel_findOrder_12 N n a1 s = some t1 → P s 12 [(0, .ref (ad 0)), (1, .int a1)] [] := by
  intro n
  induction n with
  | zero => intro a1 s h; cases h
  | succ n ih =>
    intro a1 s h
    unfold gM_EachAddsALineModel_findOrder_12 at h
    refine v_iload_n hX dX12_findOrder_12 rfl 1 rfl ?_
    refine v_aload_n hX dX12_findOrder_13 rfl 0 rfl ?_
    refine gfM_0_30 hX kf_12_262 dX12_findOrder_14 ?_
    refine v_icmp_ge (tgt := 85) hX dX12_findOrder_17 (by decide) h (fun h => ?_) (fun h => ?_)
    · exact v_retV hR h dX12_findOrder_85
    · refine v_iload_n hX dX12_findOrder_20 rfl 1 rfl ?_
      refine v_istore_n (lv' := [(2, .int a1), (0, .ref (ad 0)), (1, .int a1)]) hX dX12_findOrder_21 rfl (by decide) rfl ?_
      exact v_sub hX [1, 2, 0] (by rfl) (wM_EachAddsALineModel_findOrder_22 hX hR ih N _ _ _ h)
noncomputable def gM_EachAddsALineModel_findOrder_0 (N : Nat)   (s : vSt) : Option (vSt) :=
  (some (s1 s 0 30 ((2 : Int32) * (s.1 0 2)))).bind fun z1 =>
  gM_EachAddsALineModel_findOrder_12 N N 0 z1
set_option maxRecDepth 4000 in
theorem wM_EachAddsALineModel_findOrder_0 {P : vP} {l : Launch} {ad : Nat → Nat} {N : Nat} {t1 : vSt} (hX : vOK P l shM ad (vR 0 0) cX12_findOrder RX12 3) (hR : (∀ pc lv, decode cX12_findOrder pc = .ok (.return_, 1) → P t1 pc lv []))   {s : vSt} (h : gM_EachAddsALineModel_findOrder_0 N s = some t1) : P s 0 [(0, .ref (ad 0))] [] := by
  unfold gM_EachAddsALineModel_findOrder_0 at h
  refine v_aload_n hX dX12_findOrder_0 rfl 0 rfl ?_
  refine v_iconst (v := 2) hX dX12_findOrder_1 (by decide) ?_
  refine v_aload_n hX dX12_findOrder_2 rfl 0 rfl ?_
  refine gfM_0_2 hX kf_12_109 dX12_findOrder_3 ?_
  refine v_imul hX dX12_findOrder_6 ?_
  refine pfM_0_30 hX kf_12_262 dX12_findOrder_7 h (fun z1 h => ?_)
  refine v_iconst (v := 0) hX dX12_findOrder_10 (by decide) ?_
  refine v_istore_n (lv' := [(1, .int 0), (0, .ref (ad 0))]) hX dX12_findOrder_11 rfl (by decide) rfl ?_
  exact v_sub hX [1, 0] (by rfl) (wM_EachAddsALineModel_findOrder_12 hX hR  N _ _ h)
noncomputable def fM_EachAddsALineModel_findOrder (N : Nat)  (s : vSt) : Option (vSt) := gM_EachAddsALineModel_findOrder_0 N s
theorem mM_EachAddsALineModel_findOrder {N : Nat}  {s : vSt} {t1 : vSt} (h : fM_EachAddsALineModel_findOrder N s = some t1) (l : Launch) (ad : Nat → Nat) : vMV l shM ad yX12_findOrder cX12_findOrder 3 0 0 s [.ref (ad 0)] t1 :=
  vMV_of (by decide +kernel) (Nat.le_of_ble_eq_true rfl) (fun P hX hR => wM_EachAddsALineModel_findOrder_0 hX hR h)
-- M_EachAddsALineModel_findBest
noncomputable def gM_EachAddsALineModel_findBest_276 (N : Nat) (r11 : Int32 → Int32 → Int32 → vSt → Option (vSt)) (a1 : Int32) (a2 : Int32) (a3 : Int32) (s : vSt) : Option (vSt) :=
  (some (a3 + (-1) : Int32)).bind fun v1 =>
  r11 a1 a2 v1 s
set_option maxRecDepth 4000 in
theorem wM_EachAddsALineModel_findBest_276 {P : vP} {l : Launch} {ad : Nat → Nat} {N : Nat} {r11 : Int32 → Int32 → Int32 → vSt → Option (vSt)} {t1 : vSt} (hX : vOK P l shM ad (vR 2 43) cX12_findBest RX12 8) (hR : (∀ pc lv, decode cX12_findBest pc = .ok (.return_, 1) → P t1 pc lv [])) (H11 : ∀ (a1 : Int32) (a2 : Int32) (a3 : Int32) (s : vSt), r11 a1 a2 a3 s = some t1 → P s 11 [(0, .ref (ad 0)), (1, .int a1), (2, .int a2), (3, .int a3)] []) {a1 : Int32} {a2 : Int32} {a3 : Int32} {s : vSt} (h : gM_EachAddsALineModel_findBest_276 N r11 a1 a2 a3 s = some t1) : P s 276 [(0, .ref (ad 0)), (1, .int a1), (2, .int a2), (3, .int a3)] [] := by
  unfold gM_EachAddsALineModel_findBest_276 at h
  refine v_iincN hX dX12_findBest_276 (j := 3) rfl (c := (-1)) (by decide) (by decide) h (fun v1 h => ?_)
  refine v_show (lv' := [(3, .int v1), (0, .ref (ad 0)), (1, .int a1), (2, .int a2)]) hX rfl ?_
  refine v_goto (tgt := 11) hX dX12_findBest_279 (by decide) ?_
  exact v_sub hX [1, 2, 3, 0] (by rfl) (H11 _ _ _ _ h)
noncomputable def gM_EachAddsALineModel_findBest_270 (N : Nat) (r158 : Int32 → Int32 → Int32 → Int32 → Int32 → vSt → Option (vSt)) (a1 : Int32) (a2 : Int32) (a3 : Int32) (a4 : Int32) (a6 : Int32) (s : vSt) : Option (vSt) :=
  (some (a6 + 1 : Int32)).bind fun v1 =>
  r158 a1 a2 a3 a4 v1 s
set_option maxRecDepth 4000 in
theorem wM_EachAddsALineModel_findBest_270 {P : vP} {l : Launch} {ad : Nat → Nat} {N : Nat} {r158 : Int32 → Int32 → Int32 → Int32 → Int32 → vSt → Option (vSt)} {t1 : vSt} (hX : vOK P l shM ad (vR 2 43) cX12_findBest RX12 8) (hR : (∀ pc lv, decode cX12_findBest pc = .ok (.return_, 1) → P t1 pc lv [])) (H158 : ∀ (a1 : Int32) (a2 : Int32) (a3 : Int32) (a4 : Int32) (a6 : Int32) (s : vSt), r158 a1 a2 a3 a4 a6 s = some t1 → P s 158 [(0, .ref (ad 0)), (1, .int a1), (2, .int a2), (3, .int a3), (4, .int a4), (6, .int a6)] []) {a1 : Int32} {a2 : Int32} {a3 : Int32} {a4 : Int32} {a6 : Int32} {s : vSt} (h : gM_EachAddsALineModel_findBest_270 N r158 a1 a2 a3 a4 a6 s = some t1) : P s 270 [(0, .ref (ad 0)), (1, .int a1), (2, .int a2), (3, .int a3), (4, .int a4), (6, .int a6)] [] := by
  unfold gM_EachAddsALineModel_findBest_270 at h
  refine v_iincN hX dX12_findBest_270 (j := 5) rfl (c := 1) (by decide) (by decide) h (fun v1 h => ?_)
  refine v_show (lv' := [(6, .int v1), (0, .ref (ad 0)), (1, .int a1), (2, .int a2), (3, .int a3), (4, .int a4)]) hX rfl ?_
  refine v_goto (tgt := 158) hX dX12_findBest_273 (by decide) ?_
  exact v_sub hX [1, 2, 3, 4, 5, 0] (by rfl) (H158 _ _ _ _ _ _ h)
noncomputable def gM_EachAddsALineModel_findBest_158 (N : Nat) (r11 : Int32 → Int32 → Int32 → vSt → Option (vSt)) : Nat → Int32 → Int32 → Int32 → Int32 → Int32 → vSt → Option (vSt)
  | 0, _, _, _, _, _, _ => none
  | n + 1, a1, a2, a3, a4, a6, s =>
    if (s.1 0 30) ≤ a6 then
      gM_EachAddsALineModel_findBest_276 N r11 a1 a2 a3 s
    else
      (fM_EachAddsALineModel_follows N a6 a4 s).bind fun p1 =>
      if p1.1 = 0 then
        gM_EachAddsALineModel_findBest_270 N (gM_EachAddsALineModel_findBest_158 N r11 n) a1 a2 a3 a4 a6 p1.2
      else
        (ld p1.2 12 40 a6).bind fun v2 =>
        if v2 < 1000000 then
          (ld p1.2 12 40 a6).bind fun v3 =>
          (fM_EachAddsALineModel_worth N a4 a2 p1.2).bind fun p4 =>
          (some (v3 + p4.1 : Int32)).bind fun v5 =>
          (ld p4.2 13 40 a6).bind fun v6 =>
          (ld p4.2 12 40 a4).bind fun v7 =>
          (ld p4.2 13 40 a4).bind fun v8 =>
          (fM_EachAddsALineModel_isLess N v5 (v6 + 1) v7 v8 p4.2).bind fun p9 =>
          if p9.1 = 0 then
            gM_EachAddsALineModel_findBest_270 N (gM_EachAddsALineModel_findBest_158 N r11 n) a1 a2 a3 a4 a6 p9.2
          else
            (sto p9.2 12 40 a4 v5).bind fun z10 =>
            (ld z10 13 40 a6).bind fun v11 =>
            (sto z10 13 40 a4 (v11 + 1)).bind fun z12 =>
            gM_EachAddsALineModel_findBest_270 N (gM_EachAddsALineModel_findBest_158 N r11 n) a1 a2 a3 a4 a6 z12
        else
          gM_EachAddsALineModel_findBest_270 N (gM_EachAddsALineModel_findBest_158 N r11 n) a1 a2 a3 a4 a6 p1.2
set_option maxRecDepth 4000 in
theorem wM_EachAddsALineModel_findBest_158 {P : vP} {l : Launch} {ad : Nat → Nat} {N : Nat} {r11 : Int32 → Int32 → Int32 → vSt → Option (vSt)} {t1 : vSt} (hX : vOK P l shM ad (vR 2 43) cX12_findBest RX12 8) (hR : (∀ pc lv, decode cX12_findBest pc = .ok (.return_, 1) → P t1 pc lv [])) (H11 : ∀ (a1 : Int32) (a2 : Int32) (a3 : Int32) (s : vSt), r11 a1 a2 a3 s = some t1 → P s 11 [(0, .ref (ad 0)), (1, .int a1), (2, .int a2), (3, .int a3)] []) : ∀ (n : Nat) (a1 : Int32) (a2 : Int32) (a3 : Int32) (a4 : Int32) (a6 : Int32) (s : vSt), gM_EachAddsALineModel_findBest_158 N r11 n a1 a2 a3 a4 a6 s = some t1 → P s 158 [(0, .ref (ad 0)), (1, .int a1), (2, .int a2), (3, .int a3), (4, .int a4), (6, .int a6)] [] := by
  intro n
  induction n with
  | zero => intro a1 a2 a3 a4 a6 s h; cases h
  | succ n ih =>
    intro a1 a2 a3 a4 a6 s h
    unfold gM_EachAddsALineModel_findBest_158 at h
    refine v_iload hX dX12_findBest_158 5 rfl ?_
    refine v_aload_n hX dX12_findBest_160 rfl 0 rfl ?_
    refine gfM_0_30 hX kf_12_262 dX12_findBest_161 ?_
    refine v_icmp_ge (tgt := 276) hX dX12_findBest_164 (by decide) h (fun h => ?_) (fun h => ?_)
    · exact v_sub hX [0, 1, 2, 3] (by rfl) (wM_EachAddsALineModel_findBest_276 hX hR H11 h)
    · refine v_aload_n hX dX12_findBest_167 rfl 0 rfl ?_
      refine v_iload hX dX12_findBest_168 5 rfl ?_
      refine v_iload hX dX12_findBest_170 4 rfl ?_
      obtain ⟨p1, hp1, h⟩ := bsome h
      refine v_callVI (o := 0) hX (mM_EachAddsALineModel_follows hp1 l ad) kM_X12_follows kV_X12_follows km_12_280 (by decide) (fun _ => rfl) rfl rfl rfl (Nat.le_of_ble_eq_true rfl) (by decide) dX12_findBest_172 ?_
      refine v_if_eq (tgt := 270) hX dX12_findBest_175 (by decide) h (fun h => ?_) (fun h => ?_)
      · exact v_sub hX [0, 1, 2, 3, 4, 5] (by rfl) (wM_EachAddsALineModel_findBest_270 hX hR ih h)
      · refine v_aload_n hX dX12_findBest_178 rfl 0 rfl ?_
        refine gfM_0_31 hX kf_12_44 dX12_findBest_179 ?_
        refine v_iload hX dX12_findBest_182 5 rfl ?_
        refine alM_12 hX dX12_findBest_184 h (fun v2 h => ?_)
        refine v_ldc hX kc_12_50 dX12_findBest_185 ?_
        refine v_icmp_lt (tgt := 193) hX dX12_findBest_187 (by decide) h (fun h => ?_) (fun h => ?_)
        · refine v_aload_n hX dX12_findBest_193 rfl 0 rfl ?_
          refine gfM_0_31 hX kf_12_44 dX12_findBest_194 ?_
          refine v_iload hX dX12_findBest_197 5 rfl ?_
          refine alM_12 hX dX12_findBest_199 h (fun v3 h => ?_)
          refine v_aload_n hX dX12_findBest_200 rfl 0 rfl ?_
          refine v_iload hX dX12_findBest_201 4 rfl ?_
          refine v_iload_n hX dX12_findBest_203 rfl 2 rfl ?_
          obtain ⟨p4, hp4, h⟩ := bsome h
          refine v_callVI (o := 0) hX (mM_EachAddsALineModel_worth hp4 l ad) kM_X12_worth kV_X12_worth km_12_274 (by decide) (fun _ => rfl) rfl rfl rfl (Nat.le_of_ble_eq_true rfl) (by decide) dX12_findBest_204 ?_
          refine v_iadd hX dX12_findBest_207 ?_
          refine v_nmI hX h (fun v5 h => ?_)
          refine v_istore (lv' := [(7, .int v5), (0, .ref (ad 0)), (1, .int a1), (2, .int a2), (3, .int a3), (4, .int a4), (6, .int a6)]) hX dX12_findBest_208 (by decide) rfl ?_
          refine v_aload_n hX dX12_findBest_210 rfl 1 rfl ?_
          refine v_iload hX dX12_findBest_211 0 rfl ?_
          refine v_aload_n hX dX12_findBest_213 rfl 1 rfl ?_
          refine gfM_0_32 hX kf_12_47 dX12_findBest_214 ?_
          refine v_iload hX dX12_findBest_217 6 rfl ?_
          refine alM_13 hX dX12_findBest_219 h (fun v6 h => ?_)
          refine v_iconst (v := 1) hX dX12_findBest_220 (by decide) ?_
          refine v_iadd hX dX12_findBest_221 ?_
          refine v_aload_n hX dX12_findBest_222 rfl 1 rfl ?_
          refine gfM_0_31 hX kf_12_44 dX12_findBest_223 ?_
          refine v_iload hX dX12_findBest_226 5 rfl ?_
          refine alM_12 hX dX12_findBest_228 h (fun v7 h => ?_)
          refine v_aload_n hX dX12_findBest_229 rfl 1 rfl ?_
          refine gfM_0_32 hX kf_12_47 dX12_findBest_230 ?_
          refine v_iload hX dX12_findBest_233 5 rfl ?_
          refine alM_13 hX dX12_findBest_235 h (fun v8 h => ?_)
          obtain ⟨p9, hp9, h⟩ := bsome h
          refine v_callVI (o := 0) hX (mM_EachAddsALineModel_isLess hp9 l ad) kM_X12_isLess kV_X12_isLess km_12_283 (by decide) (fun _ => rfl) rfl rfl rfl (Nat.le_of_ble_eq_true rfl) (by decide) dX12_findBest_236 ?_
          refine v_if_ne (tgt := 245) hX dX12_findBest_239 (by decide) h (fun h => ?_) (fun h => ?_)
          · refine v_goto (tgt := 270) hX dX12_findBest_242 (by decide) ?_
            exact v_sub hX [1, 2, 3, 4, 5, 6] (by rfl) (wM_EachAddsALineModel_findBest_270 hX hR ih h)
          · refine v_aload_n hX dX12_findBest_245 rfl 1 rfl ?_
            refine gfM_0_31 hX kf_12_44 dX12_findBest_246 ?_
            refine v_iload hX dX12_findBest_249 5 rfl ?_
            refine v_iload hX dX12_findBest_251 0 rfl ?_
            refine asM_12 hX dX12_findBest_253 h (fun z10 h => ?_)
            refine v_aload_n hX dX12_findBest_254 rfl 1 rfl ?_
            refine gfM_0_32 hX kf_12_47 dX12_findBest_255 ?_
            refine v_iload hX dX12_findBest_258 5 rfl ?_
            refine v_aload_n hX dX12_findBest_260 rfl 1 rfl ?_
            refine gfM_0_32 hX kf_12_47 dX12_findBest_261 ?_
            refine v_iload hX dX12_findBest_264 6 rfl ?_
            refine alM_13 hX dX12_findBest_266 h (fun v11 h => ?_)
            refine v_iconst (v := 1) hX dX12_findBest_267 (by decide) ?_
            refine v_iadd hX dX12_findBest_268 ?_
            refine asM_13 hX dX12_findBest_269 h (fun z12 h => ?_)
            exact v_sub hX [1, 2, 3, 4, 5, 6] (by rfl) (wM_EachAddsALineModel_findBest_270 hX hR ih h)
        · refine v_goto (tgt := 270) hX dX12_findBest_190 (by decide) ?_
          exact v_sub hX [0, 1, 2, 3, 4, 5] (by rfl) (wM_EachAddsALineModel_findBest_270 hX hR ih h)
noncomputable def gM_EachAddsALineModel_findBest_124 (N : Nat) (r11 : Int32 → Int32 → Int32 → vSt → Option (vSt)) (a1 : Int32) (a2 : Int32) (a3 : Int32) (a4 : Int32) (k1 : Int32) (k2 : Int32) (s : vSt) : Option (vSt) :=
  (sto s 13 40 k1 k2).bind fun z1 =>
  (fM_EachAddsALineModel_getter N a4 z1).bind fun p2 =>
  (fM_EachAddsALineModel_has N (z1.1 0 33) p2.1 p2.2).bind fun p3 =>
  if p3.1 = 0 then
    if (a4 / 2) = (p3.2.1 0 35) then
      gM_EachAddsALineModel_findBest_276 N r11 a1 a2 a3 p3.2
    else
      gM_EachAddsALineModel_findBest_158 N r11 N a1 a2 a3 a4 0 p3.2
  else
    gM_EachAddsALineModel_findBest_276 N r11 a1 a2 a3 p3.2
set_option maxRecDepth 4000 in
theorem wM_EachAddsALineModel_findBest_124 {P : vP} {l : Launch} {ad : Nat → Nat} {N : Nat} {r11 : Int32 → Int32 → Int32 → vSt → Option (vSt)} {t1 : vSt} (hX : vOK P l shM ad (vR 2 43) cX12_findBest RX12 8) (hR : (∀ pc lv, decode cX12_findBest pc = .ok (.return_, 1) → P t1 pc lv [])) (H11 : ∀ (a1 : Int32) (a2 : Int32) (a3 : Int32) (s : vSt), r11 a1 a2 a3 s = some t1 → P s 11 [(0, .ref (ad 0)), (1, .int a1), (2, .int a2), (3, .int a3)] []) {a1 : Int32} {a2 : Int32} {a3 : Int32} {a4 : Int32} {k1 : Int32} {k2 : Int32} {s : vSt} (h : gM_EachAddsALineModel_findBest_124 N r11 a1 a2 a3 a4 k1 k2 s = some t1) : P s 124 [(0, .ref (ad 0)), (1, .int a1), (2, .int a2), (3, .int a3), (4, .int a4)] [.int k2, .int k1, .ref (ad 13)] := by
  unfold gM_EachAddsALineModel_findBest_124 at h
  refine asM_13 hX dX12_findBest_124 h (fun z1 h => ?_)
  refine v_aload_n hX dX12_findBest_125 rfl 0 rfl ?_
  refine gfM_0_33 hX kf_12_277 dX12_findBest_126 ?_
  refine v_aload_n hX dX12_findBest_129 rfl 0 rfl ?_
  refine v_iload hX dX12_findBest_130 4 rfl ?_
  obtain ⟨p2, hp2, h⟩ := bsome h
  refine v_callVI (o := 0) hX (mM_EachAddsALineModel_getter hp2 l ad) kM_X12_getter kV_X12_getter km_12_268 (by decide) (fun _ => rfl) rfl rfl rfl (Nat.le_of_ble_eq_true rfl) (by decide) dX12_findBest_132 ?_
  obtain ⟨p3, hp3, h⟩ := bsome h
  refine v_callSI hX (mM_EachAddsALineModel_has hp3 l ad) kM_X12_has kS_X12_has km_12_259 rfl rfl (Nat.le_of_ble_eq_true rfl) (by decide) dX12_findBest_135 ?_
  refine v_if_ne (tgt := 276) hX dX12_findBest_138 (by decide) h (fun h => ?_) (fun h => ?_)
  · refine v_iload hX dX12_findBest_141 4 rfl ?_
    refine v_iconst (v := 2) hX dX12_findBest_143 (by decide) ?_
    refine v_idiv hX dX12_findBest_144 (by decide) ?_
    refine v_aload_n hX dX12_findBest_145 rfl 0 rfl ?_
    refine gfM_0_35 hX kf_12_55 dX12_findBest_146 ?_
    refine v_icmp_ne (tgt := 155) hX dX12_findBest_149 (by decide) h (fun h => ?_) (fun h => ?_)
    · refine v_goto (tgt := 276) hX dX12_findBest_152 (by decide) ?_
      exact v_sub hX [0, 1, 2, 3] (by rfl) (wM_EachAddsALineModel_findBest_276 hX hR H11 h)
    · refine v_iconst (v := 0) hX dX12_findBest_155 (by decide) ?_
      refine v_istore (lv' := [(6, .int 0), (0, .ref (ad 0)), (1, .int a1), (2, .int a2), (3, .int a3), (4, .int a4)]) hX dX12_findBest_156 (by decide) rfl ?_
      exact v_sub hX [1, 2, 3, 4, 5, 0] (by rfl) (wM_EachAddsALineModel_findBest_158 hX hR H11 N _ _ _ _ _ _ h)
  · exact v_sub hX [0, 1, 2, 3] (by rfl) (wM_EachAddsALineModel_findBest_276 hX hR H11 h)
noncomputable def gM_EachAddsALineModel_findBest_106 (N : Nat) (r11 : Int32 → Int32 → Int32 → vSt → Option (vSt)) (a1 : Int32) (a2 : Int32) (a3 : Int32) (a4 : Int32) (a5 : Int32) (k1 : Int32) (k2 : Int32) (s : vSt) : Option (vSt) :=
  (sto s 12 40 k1 k2).bind fun z1 =>
  if a5 = 0 then
    gM_EachAddsALineModel_findBest_124 N r11 a1 a2 a3 a4 a4 1000000 z1
  else
    gM_EachAddsALineModel_findBest_124 N r11 a1 a2 a3 a4 a4 1 z1
set_option maxRecDepth 4000 in
theorem wM_EachAddsALineModel_findBest_106 {P : vP} {l : Launch} {ad : Nat → Nat} {N : Nat} {r11 : Int32 → Int32 → Int32 → vSt → Option (vSt)} {t1 : vSt} (hX : vOK P l shM ad (vR 2 43) cX12_findBest RX12 8) (hR : (∀ pc lv, decode cX12_findBest pc = .ok (.return_, 1) → P t1 pc lv [])) (H11 : ∀ (a1 : Int32) (a2 : Int32) (a3 : Int32) (s : vSt), r11 a1 a2 a3 s = some t1 → P s 11 [(0, .ref (ad 0)), (1, .int a1), (2, .int a2), (3, .int a3)] []) {a1 : Int32} {a2 : Int32} {a3 : Int32} {a4 : Int32} {a5 : Int32} {k1 : Int32} {k2 : Int32} {s : vSt} (h : gM_EachAddsALineModel_findBest_106 N r11 a1 a2 a3 a4 a5 k1 k2 s = some t1) : P s 106 [(0, .ref (ad 0)), (1, .int a1), (2, .int a2), (3, .int a3), (4, .int a4), (5, .int a5)] [.int k2, .int k1, .ref (ad 12)] := by
  unfold gM_EachAddsALineModel_findBest_106 at h
  refine asM_12 hX dX12_findBest_106 h (fun z1 h => ?_)
  refine v_aload_n hX dX12_findBest_107 rfl 0 rfl ?_
  refine gfM_0_32 hX kf_12_47 dX12_findBest_108 ?_
  refine v_iload hX dX12_findBest_111 4 rfl ?_
  refine v_iload hX dX12_findBest_113 5 rfl ?_
  refine v_if_eq (tgt := 122) hX dX12_findBest_115 (by decide) h (fun h => ?_) (fun h => ?_)
  · refine v_ldc hX kc_12_50 dX12_findBest_122 ?_
    exact v_sub hX [0, 1, 2, 3, 4] (by rfl) (wM_EachAddsALineModel_findBest_124 hX hR H11 h)
  · refine v_iconst (v := 1) hX dX12_findBest_118 (by decide) ?_
    refine v_goto (tgt := 124) hX dX12_findBest_119 (by decide) ?_
    exact v_sub hX [0, 1, 2, 3, 4] (by rfl) (wM_EachAddsALineModel_findBest_124 hX hR H11 h)
noncomputable def gM_EachAddsALineModel_findBest_65 (N : Nat) (r11 : Int32 → Int32 → Int32 → vSt → Option (vSt)) (a1 : Int32) (a2 : Int32) (a3 : Int32) (a4 : Int32) (k0 : Int32) (s : vSt) : Option (vSt) :=
  if k0 = 0 then
    gM_EachAddsALineModel_findBest_106 N r11 a1 a2 a3 a4 k0 a4 1000000 s
  else
    if a2 = 0 then
      (ld s 4 20 (a4 / 2)).bind fun v1 =>
      gM_EachAddsALineModel_findBest_106 N r11 a1 a2 a3 a4 k0 a4 v1 s
    else
      (fM_EachAddsALineModel_worth N a4 a2 s).bind fun p2 =>
      gM_EachAddsALineModel_findBest_106 N r11 a1 a2 a3 a4 k0 a4 p2.1 p2.2
set_option maxRecDepth 4000 in
theorem wM_EachAddsALineModel_findBest_65 {P : vP} {l : Launch} {ad : Nat → Nat} {N : Nat} {r11 : Int32 → Int32 → Int32 → vSt → Option (vSt)} {t1 : vSt} (hX : vOK P l shM ad (vR 2 43) cX12_findBest RX12 8) (hR : (∀ pc lv, decode cX12_findBest pc = .ok (.return_, 1) → P t1 pc lv [])) (H11 : ∀ (a1 : Int32) (a2 : Int32) (a3 : Int32) (s : vSt), r11 a1 a2 a3 s = some t1 → P s 11 [(0, .ref (ad 0)), (1, .int a1), (2, .int a2), (3, .int a3)] []) {a1 : Int32} {a2 : Int32} {a3 : Int32} {a4 : Int32} {k0 : Int32} {s : vSt} (h : gM_EachAddsALineModel_findBest_65 N r11 a1 a2 a3 a4 k0 s = some t1) : P s 65 [(0, .ref (ad 0)), (1, .int a1), (2, .int a2), (3, .int a3), (4, .int a4)] [.int k0] := by
  unfold gM_EachAddsALineModel_findBest_65 at h
  refine v_istore (lv' := [(5, .int k0), (0, .ref (ad 0)), (1, .int a1), (2, .int a2), (3, .int a3), (4, .int a4)]) hX dX12_findBest_65 (by decide) rfl ?_
  refine v_aload_n hX dX12_findBest_67 rfl 1 rfl ?_
  refine gfM_0_31 hX kf_12_44 dX12_findBest_68 ?_
  refine v_iload hX dX12_findBest_71 5 rfl ?_
  refine v_iload hX dX12_findBest_73 0 rfl ?_
  refine v_if_eq (tgt := 104) hX dX12_findBest_75 (by decide) h (fun h => ?_) (fun h => ?_)
  · refine v_ldc hX kc_12_50 dX12_findBest_104 ?_
    exact v_sub hX [1, 2, 3, 4, 5, 0] (by rfl) (wM_EachAddsALineModel_findBest_106 hX hR H11 h)
  · refine v_iload_n hX dX12_findBest_78 rfl 3 rfl ?_
    refine v_if_ne (tgt := 94) hX dX12_findBest_79 (by decide) h (fun h => ?_) (fun h => ?_)
    · refine v_aload_n hX dX12_findBest_82 rfl 1 rfl ?_
      refine gfM_0_5 hX kf_12_19 dX12_findBest_83 ?_
      refine v_iload hX dX12_findBest_86 5 rfl ?_
      refine v_iconst (v := 2) hX dX12_findBest_88 (by decide) ?_
      refine v_idiv hX dX12_findBest_89 (by decide) ?_
      refine alM_4 hX dX12_findBest_90 h (fun v1 h => ?_)
      refine v_goto (tgt := 106) hX dX12_findBest_91 (by decide) ?_
      exact v_sub hX [1, 2, 3, 4, 5, 0] (by rfl) (wM_EachAddsALineModel_findBest_106 hX hR H11 h)
    · refine v_aload_n hX dX12_findBest_94 rfl 1 rfl ?_
      refine v_iload hX dX12_findBest_95 5 rfl ?_
      refine v_iload_n hX dX12_findBest_97 rfl 3 rfl ?_
      obtain ⟨p2, hp2, h⟩ := bsome h
      refine v_callVI (o := 0) hX (mM_EachAddsALineModel_worth hp2 l ad) kM_X12_worth kV_X12_worth km_12_274 (by decide) (fun _ => rfl) rfl rfl rfl (Nat.le_of_ble_eq_true rfl) (by decide) dX12_findBest_98 ?_
      refine v_goto (tgt := 106) hX dX12_findBest_101 (by decide) ?_
      exact v_sub hX [1, 2, 3, 4, 5, 0] (by rfl) (wM_EachAddsALineModel_findBest_106 hX hR H11 h)
noncomputable def gM_EachAddsALineModel_findBest_64 (N : Nat) (r11 : Int32 → Int32 → Int32 → vSt → Option (vSt)) (a1 : Int32) (a2 : Int32) (a3 : Int32) (a4 : Int32) (s : vSt) : Option (vSt) :=
  gM_EachAddsALineModel_findBest_65 N r11 a1 a2 a3 a4 0 s
set_option maxRecDepth 4000 in
theorem wM_EachAddsALineModel_findBest_64 {P : vP} {l : Launch} {ad : Nat → Nat} {N : Nat} {r11 : Int32 → Int32 → Int32 → vSt → Option (vSt)} {t1 : vSt} (hX : vOK P l shM ad (vR 2 43) cX12_findBest RX12 8) (hR : (∀ pc lv, decode cX12_findBest pc = .ok (.return_, 1) → P t1 pc lv [])) (H11 : ∀ (a1 : Int32) (a2 : Int32) (a3 : Int32) (s : vSt), r11 a1 a2 a3 s = some t1 → P s 11 [(0, .ref (ad 0)), (1, .int a1), (2, .int a2), (3, .int a3)] []) {a1 : Int32} {a2 : Int32} {a3 : Int32} {a4 : Int32} {s : vSt} (h : gM_EachAddsALineModel_findBest_64 N r11 a1 a2 a3 a4 s = some t1) : P s 64 [(0, .ref (ad 0)), (1, .int a1), (2, .int a2), (3, .int a3), (4, .int a4)] [] := by
  unfold gM_EachAddsALineModel_findBest_64 at h
  refine v_iconst (v := 0) hX dX12_findBest_64 (by decide) ?_
  exact v_sub hX [0, 1, 2, 3, 4] (by rfl) (wM_EachAddsALineModel_findBest_65 hX hR H11 h)
noncomputable def gM_EachAddsALineModel_findBest_11 (N : Nat)  : Nat → Int32 → Int32 → Int32 → vSt → Option (vSt)
  | 0, _, _, _, _ => none
  | n + 1, a1, a2, a3, s =>
    if a3 < 0 then
      some s
    else
      (ld s 11 40 a3).bind fun v1 =>
      (fM_EachAddsALineModel_getter N v1 s).bind fun p2 =>
      if p2.1 = a1 then
        (ld p2.2 4 20 (v1 / 2)).bind fun v3 =>
        if (p2.2.1 0 34) < v3 then
          gM_EachAddsALineModel_findBest_64 N (gM_EachAddsALineModel_findBest_11 N n) a1 a2 a3 v1 p2.2
        else
          if (v1 / 2) = (p2.2.1 0 35) then
            gM_EachAddsALineModel_findBest_64 N (gM_EachAddsALineModel_findBest_11 N n) a1 a2 a3 v1 p2.2
          else
            gM_EachAddsALineModel_findBest_65 N (gM_EachAddsALineModel_findBest_11 N n) a1 a2 a3 v1 1 p2.2
      else
        gM_EachAddsALineModel_findBest_64 N (gM_EachAddsALineModel_findBest_11 N n) a1 a2 a3 v1 p2.2
set_option maxRecDepth 4000 in
theorem wM_EachAddsALineModel_findBest_11 {P : vP} {l : Launch} {ad : Nat → Nat} {N : Nat} {t1 : vSt} (hX : vOK P l shM ad (vR 2 43) cX12_findBest RX12 8) (hR : (∀ pc lv, decode cX12_findBest pc = .ok (.return_, 1) → P t1 pc lv []))  : ∀ (n : Nat) (a1 : Int32) (a2 : Int32) (a3 : Int32) (s : vSt), gM_EachAddsALineModel_findBest_11 N n a1 a2 a3 s = some t1 → P s 11 [(0, .ref (ad 0)), (1, .int a1), (2, .int a2), (3, .int a3)] [] := by
  intro n
  induction n with
  | zero => intro a1 a2 a3 s h; cases h
  | succ n ih =>
    intro a1 a2 a3 s h
    unfold gM_EachAddsALineModel_findBest_11 at h
    refine v_iload_n hX dX12_findBest_11 rfl 3 rfl ?_
    refine v_if_lt (tgt := 282) hX dX12_findBest_12 (by decide) h (fun h => ?_) (fun h => ?_)
    · exact v_retV hR h dX12_findBest_282
    · refine v_aload_n hX dX12_findBest_15 rfl 0 rfl ?_
      refine gfM_0_29 hX kf_12_41 dX12_findBest_16 ?_
      refine v_iload_n hX dX12_findBest_19 rfl 3 rfl ?_
      refine alM_11 hX dX12_findBest_20 h (fun v1 h => ?_)
      refine v_istore (lv' := [(4, .int v1), (0, .ref (ad 0)), (1, .int a1), (2, .int a2), (3, .int a3)]) hX dX12_findBest_21 (by decide) rfl ?_
      refine v_aload_n hX dX12_findBest_23 rfl 1 rfl ?_
      refine v_iload hX dX12_findBest_24 0 rfl ?_
      obtain ⟨p2, hp2, h⟩ := bsome h
      refine v_callVI (o := 0) hX (mM_EachAddsALineModel_getter hp2 l ad) kM_X12_getter kV_X12_getter km_12_268 (by decide) (fun _ => rfl) rfl rfl rfl (Nat.le_of_ble_eq_true rfl) (by decide) dX12_findBest_26 ?_
      refine v_iload_n hX dX12_findBest_29 rfl 2 rfl ?_
      refine v_icmp_ne (tgt := 64) hX dX12_findBest_30 (by decide) h (fun h => ?_) (fun h => ?_)
      · refine v_aload_n hX dX12_findBest_33 rfl 1 rfl ?_
        refine gfM_0_5 hX kf_12_19 dX12_findBest_34 ?_
        refine v_iload hX dX12_findBest_37 0 rfl ?_
        refine v_iconst (v := 2) hX dX12_findBest_39 (by decide) ?_
        refine v_idiv hX dX12_findBest_40 (by decide) ?_
        refine alM_4 hX dX12_findBest_41 h (fun v3 h => ?_)
        refine v_aload_n hX dX12_findBest_42 rfl 1 rfl ?_
        refine gfM_0_34 hX kf_12_51 dX12_findBest_43 ?_
        refine v_icmp_gt (tgt := 64) hX dX12_findBest_46 (by decide) h (fun h => ?_) (fun h => ?_)
        · exact v_sub hX [1, 2, 3, 4, 0] (by rfl) (wM_EachAddsALineModel_findBest_64 hX hR ih h)
        · refine v_iload hX dX12_findBest_49 0 rfl ?_
          refine v_iconst (v := 2) hX dX12_findBest_51 (by decide) ?_
          refine v_idiv hX dX12_findBest_52 (by decide) ?_
          refine v_aload_n hX dX12_findBest_53 rfl 1 rfl ?_
          refine gfM_0_35 hX kf_12_55 dX12_findBest_54 ?_
          refine v_icmp_eq (tgt := 64) hX dX12_findBest_57 (by decide) h (fun h => ?_) (fun h => ?_)
          · exact v_sub hX [1, 2, 3, 4, 0] (by rfl) (wM_EachAddsALineModel_findBest_64 hX hR ih h)
          · refine v_iconst (v := 1) hX dX12_findBest_60 (by decide) ?_
            refine v_goto (tgt := 65) hX dX12_findBest_61 (by decide) ?_
            exact v_sub hX [1, 2, 3, 4, 0] (by rfl) (wM_EachAddsALineModel_findBest_65 hX hR ih h)
      · exact v_sub hX [1, 2, 3, 4, 0] (by rfl) (wM_EachAddsALineModel_findBest_64 hX hR ih h)
noncomputable def gM_EachAddsALineModel_findBest_0 (N : Nat)  (a1 : Int32) (a2 : Int32) (s : vSt) : Option (vSt) :=
  (fM_EachAddsALineModel_findOrder N s).bind fun z1 =>
  (some ((z1.1 0 30) - 1 : Int32)).bind fun v2 =>
  gM_EachAddsALineModel_findBest_11 N N a1 a2 v2 z1
set_option maxRecDepth 4000 in
theorem wM_EachAddsALineModel_findBest_0 {P : vP} {l : Launch} {ad : Nat → Nat} {N : Nat} {t1 : vSt} (hX : vOK P l shM ad (vR 2 43) cX12_findBest RX12 8) (hR : (∀ pc lv, decode cX12_findBest pc = .ok (.return_, 1) → P t1 pc lv []))  {a1 : Int32} {a2 : Int32} {s : vSt} (h : gM_EachAddsALineModel_findBest_0 N a1 a2 s = some t1) : P s 0 [(0, .ref (ad 0)), (1, .int a1), (2, .int a2)] [] := by
  unfold gM_EachAddsALineModel_findBest_0 at h
  refine v_aload_n hX dX12_findBest_0 rfl 0 rfl ?_
  obtain ⟨z1, hz1, h⟩ := bsome h
  refine v_callVV (o := 0) hX (mM_EachAddsALineModel_findOrder hz1 l ad) kM_X12_findOrder kV_X12_findOrder km_12_271 (by decide) (fun _ => rfl) rfl rfl rfl (Nat.le_of_ble_eq_true rfl) (by decide) dX12_findBest_1 ?_
  refine v_aload_n hX dX12_findBest_4 rfl 0 rfl ?_
  refine gfM_0_30 hX kf_12_262 dX12_findBest_5 ?_
  refine v_iconst (v := 1) hX dX12_findBest_8 (by decide) ?_
  refine v_isub hX dX12_findBest_9 ?_
  refine v_nmI hX h (fun v2 h => ?_)
  refine v_istore_n (lv' := [(3, .int v2), (0, .ref (ad 0)), (1, .int a1), (2, .int a2)]) hX dX12_findBest_10 rfl (by decide) rfl ?_
  exact v_sub hX [1, 2, 3, 0] (by rfl) (wM_EachAddsALineModel_findBest_11 hX hR  N _ _ _ _ h)
noncomputable def fM_EachAddsALineModel_findBest (N : Nat) (a1 : Int32) (a2 : Int32) (s : vSt) : Option (vSt) := gM_EachAddsALineModel_findBest_0 N a1 a2 s
theorem mM_EachAddsALineModel_findBest {N : Nat} {a1 : Int32} {a2 : Int32} {s : vSt} {t1 : vSt} (h : fM_EachAddsALineModel_findBest N a1 a2 s = some t1) (l : Launch) (ad : Nat → Nat) : vMV l shM ad yX12_findBest cX12_findBest 8 2 43 s [.ref (ad 0), .int a1, .int a2] t1 :=
  vMV_of (by decide +kernel) (Nat.le_of_ble_eq_true rfl) (fun P hX hR => wM_EachAddsALineModel_findBest_0 hX hR h)
-- M_EachAddsALineModel_tellBest
noncomputable def gM_EachAddsALineModel_tellBest_90 (N : Nat) (r13 : Int32 → Int32 → Int32 → Int32 → Int32 → vSt → Option (Int32 × vSt)) (a1 : Int32) (a3 : Int32) (a4 : Int32) (a5 : Int32) (a6 : Int32) (s : vSt) : Option (Int32 × vSt) :=
  (some (a6 + 1 : Int32)).bind fun v1 =>
  r13 a1 a3 a4 a5 v1 s
set_option maxRecDepth 4000 in
theorem wM_EachAddsALineModel_tellBest_90 {P : vP} {l : Launch} {ad : Nat → Nat} {N : Nat} {r13 : Int32 → Int32 → Int32 → Int32 → Int32 → vSt → Option (Int32 × vSt)} {r : Int32} {t1 : vSt} (hX : vOK P l shM ad (vR 3 70) cX12_tellBest RX12 13) (hR : (∀ pc lv, narrow .int (.int r) = .int r → decode cX12_tellBest pc = .ok (.ireturn, 1) → P t1 pc lv [.int r])) (H13 : ∀ (a1 : Int32) (a3 : Int32) (a4 : Int32) (a5 : Int32) (a6 : Int32) (s : vSt), r13 a1 a3 a4 a5 a6 s = some (r, t1) → P s 13 [(0, .ref (ad 0)), (1, .int a1), (3, .int a3), (4, .int a4), (5, .int a5), (6, .int a6)] []) {a1 : Int32} {a3 : Int32} {a4 : Int32} {a5 : Int32} {a6 : Int32} {s : vSt} (h : gM_EachAddsALineModel_tellBest_90 N r13 a1 a3 a4 a5 a6 s = some (r, t1)) : P s 90 [(0, .ref (ad 0)), (1, .int a1), (3, .int a3), (4, .int a4), (5, .int a5), (6, .int a6)] [] := by
  unfold gM_EachAddsALineModel_tellBest_90 at h
  refine v_iincN hX dX12_tellBest_90 (j := 5) rfl (c := 1) (by decide) (by decide) h (fun v1 h => ?_)
  refine v_show (lv' := [(6, .int v1), (0, .ref (ad 0)), (1, .int a1), (3, .int a3), (4, .int a4), (5, .int a5)]) hX rfl ?_
  refine v_goto (tgt := 13) hX dX12_tellBest_93 (by decide) ?_
  exact v_sub hX [1, 2, 3, 4, 5, 0] (by rfl) (H13 _ _ _ _ _ _ h)
noncomputable def gM_EachAddsALineModel_tellBest_86 (N : Nat) (r13 : Int32 → Int32 → Int32 → Int32 → Int32 → vSt → Option (Int32 × vSt)) (a1 : Int32) (a3 : Int32) (a4 : Int32) (a6 : Int32) (s : vSt) : Option (Int32 × vSt) :=
  gM_EachAddsALineModel_tellBest_90 N r13 a1 a3 a4 a6 a6 s
set_option maxRecDepth 4000 in
theorem wM_EachAddsALineModel_tellBest_86 {P : vP} {l : Launch} {ad : Nat → Nat} {N : Nat} {r13 : Int32 → Int32 → Int32 → Int32 → Int32 → vSt → Option (Int32 × vSt)} {r : Int32} {t1 : vSt} (hX : vOK P l shM ad (vR 3 70) cX12_tellBest RX12 13) (hR : (∀ pc lv, narrow .int (.int r) = .int r → decode cX12_tellBest pc = .ok (.ireturn, 1) → P t1 pc lv [.int r])) (H13 : ∀ (a1 : Int32) (a3 : Int32) (a4 : Int32) (a5 : Int32) (a6 : Int32) (s : vSt), r13 a1 a3 a4 a5 a6 s = some (r, t1) → P s 13 [(0, .ref (ad 0)), (1, .int a1), (3, .int a3), (4, .int a4), (5, .int a5), (6, .int a6)] []) {a1 : Int32} {a3 : Int32} {a4 : Int32} {a6 : Int32} {s : vSt} (h : gM_EachAddsALineModel_tellBest_86 N r13 a1 a3 a4 a6 s = some (r, t1)) : P s 86 [(0, .ref (ad 0)), (1, .int a1), (3, .int a3), (4, .int a4), (6, .int a6)] [] := by
  unfold gM_EachAddsALineModel_tellBest_86 at h
  refine v_iload hX dX12_tellBest_86 4 rfl ?_
  refine v_istore (lv' := [(5, .int a6), (0, .ref (ad 0)), (1, .int a1), (3, .int a3), (4, .int a4), (6, .int a6)]) hX dX12_tellBest_88 (by decide) rfl ?_
  exact v_sub hX [1, 2, 3, 4, 0, 5] (by rfl) (wM_EachAddsALineModel_tellBest_90 hX hR H13 h)
noncomputable def gM_EachAddsALineModel_tellBest_239 (N : Nat) (r151 : Int32 → Int32 → Int32 → Int32 → Int32 → Int32 → Int32 → Int32 → Int32 → Int32 → vSt → Option (Int32 × vSt)) (a1 : Int32) (a3 : Int32) (a4 : Int32) (a6 : Int32) (a7 : Int32) (a8 : Int32) (a9 : Int32) (a10 : Int32) (a11 : Int32) (a12 : Int32) (s : vSt) : Option (Int32 × vSt) :=
  (some (a12 + 1 : Int32)).bind fun v1 =>
  r151 a1 a3 a4 a6 a7 a8 a9 a10 a11 v1 s
set_option maxRecDepth 4000 in
theorem wM_EachAddsALineModel_tellBest_239 {P : vP} {l : Launch} {ad : Nat → Nat} {N : Nat} {r151 : Int32 → Int32 → Int32 → Int32 → Int32 → Int32 → Int32 → Int32 → Int32 → Int32 → vSt → Option (Int32 × vSt)} {r : Int32} {t1 : vSt} (hX : vOK P l shM ad (vR 3 70) cX12_tellBest RX12 13) (hR : (∀ pc lv, narrow .int (.int r) = .int r → decode cX12_tellBest pc = .ok (.ireturn, 1) → P t1 pc lv [.int r])) (H151 : ∀ (a1 : Int32) (a3 : Int32) (a4 : Int32) (a6 : Int32) (a7 : Int32) (a8 : Int32) (a9 : Int32) (a10 : Int32) (a11 : Int32) (a12 : Int32) (s : vSt), r151 a1 a3 a4 a6 a7 a8 a9 a10 a11 a12 s = some (r, t1) → P s 151 [(0, .ref (ad 0)), (1, .int a1), (3, .int a3), (4, .int a4), (6, .int a6), (7, .int a7), (8, .int a8), (9, .int a9), (10, .int a10), (11, .int a11), (12, .int a12)] []) {a1 : Int32} {a3 : Int32} {a4 : Int32} {a6 : Int32} {a7 : Int32} {a8 : Int32} {a9 : Int32} {a10 : Int32} {a11 : Int32} {a12 : Int32} {s : vSt} (h : gM_EachAddsALineModel_tellBest_239 N r151 a1 a3 a4 a6 a7 a8 a9 a10 a11 a12 s = some (r, t1)) : P s 239 [(0, .ref (ad 0)), (1, .int a1), (3, .int a3), (4, .int a4), (6, .int a6), (7, .int a7), (8, .int a8), (9, .int a9), (10, .int a10), (11, .int a11), (12, .int a12)] [] := by
  unfold gM_EachAddsALineModel_tellBest_239 at h
  refine v_iincN hX dX12_tellBest_239 (j := 10) rfl (c := 1) (by decide) (by decide) h (fun v1 h => ?_)
  refine v_show (lv' := [(12, .int v1), (0, .ref (ad 0)), (1, .int a1), (3, .int a3), (4, .int a4), (6, .int a6), (7, .int a7), (8, .int a8), (9, .int a9), (10, .int a10), (11, .int a11)]) hX rfl ?_
  refine v_goto (tgt := 151) hX dX12_tellBest_242 (by decide) ?_
  exact v_sub hX [1, 2, 3, 4, 5, 6, 7, 8, 9, 10, 0] (by rfl) (H151 _ _ _ _ _ _ _ _ _ _ _ h)
noncomputable def gM_EachAddsALineModel_tellBest_235 (N : Nat) (r151 : Int32 → Int32 → Int32 → Int32 → Int32 → Int32 → Int32 → Int32 → Int32 → Int32 → vSt → Option (Int32 × vSt)) (a1 : Int32) (a3 : Int32) (a4 : Int32) (a6 : Int32) (a7 : Int32) (a8 : Int32) (a9 : Int32) (a10 : Int32) (a12 : Int32) (s : vSt) : Option (Int32 × vSt) :=
  gM_EachAddsALineModel_tellBest_239 N r151 a1 a3 a4 a6 a7 a8 a9 a10 a12 a12 s
set_option maxRecDepth 4000 in
theorem wM_EachAddsALineModel_tellBest_235 {P : vP} {l : Launch} {ad : Nat → Nat} {N : Nat} {r151 : Int32 → Int32 → Int32 → Int32 → Int32 → Int32 → Int32 → Int32 → Int32 → Int32 → vSt → Option (Int32 × vSt)} {r : Int32} {t1 : vSt} (hX : vOK P l shM ad (vR 3 70) cX12_tellBest RX12 13) (hR : (∀ pc lv, narrow .int (.int r) = .int r → decode cX12_tellBest pc = .ok (.ireturn, 1) → P t1 pc lv [.int r])) (H151 : ∀ (a1 : Int32) (a3 : Int32) (a4 : Int32) (a6 : Int32) (a7 : Int32) (a8 : Int32) (a9 : Int32) (a10 : Int32) (a11 : Int32) (a12 : Int32) (s : vSt), r151 a1 a3 a4 a6 a7 a8 a9 a10 a11 a12 s = some (r, t1) → P s 151 [(0, .ref (ad 0)), (1, .int a1), (3, .int a3), (4, .int a4), (6, .int a6), (7, .int a7), (8, .int a8), (9, .int a9), (10, .int a10), (11, .int a11), (12, .int a12)] []) {a1 : Int32} {a3 : Int32} {a4 : Int32} {a6 : Int32} {a7 : Int32} {a8 : Int32} {a9 : Int32} {a10 : Int32} {a12 : Int32} {s : vSt} (h : gM_EachAddsALineModel_tellBest_235 N r151 a1 a3 a4 a6 a7 a8 a9 a10 a12 s = some (r, t1)) : P s 235 [(0, .ref (ad 0)), (1, .int a1), (3, .int a3), (4, .int a4), (6, .int a6), (7, .int a7), (8, .int a8), (9, .int a9), (10, .int a10), (12, .int a12)] [] := by
  unfold gM_EachAddsALineModel_tellBest_235 at h
  refine v_iload hX dX12_tellBest_235 9 rfl ?_
  refine v_istore (lv' := [(11, .int a12), (0, .ref (ad 0)), (1, .int a1), (3, .int a3), (4, .int a4), (6, .int a6), (7, .int a7), (8, .int a8), (9, .int a9), (10, .int a10), (12, .int a12)]) hX dX12_tellBest_237 (by decide) rfl ?_
  exact v_sub hX [1, 2, 3, 4, 5, 6, 7, 8, 9, 0, 10] (by rfl) (wM_EachAddsALineModel_tellBest_239 hX hR H151 h)
noncomputable def gM_EachAddsALineModel_tellBest_191 (N : Nat) (r151 : Int32 → Int32 → Int32 → Int32 → Int32 → Int32 → Int32 → Int32 → Int32 → Int32 → vSt → Option (Int32 × vSt)) (a1 : Int32) (a3 : Int32) (a4 : Int32) (a6 : Int32) (a7 : Int32) (a8 : Int32) (a9 : Int32) (a10 : Int32) (a11 : Int32) (a12 : Int32) (s : vSt) : Option (Int32 × vSt) :=
  (ld s 12 40 a12).bind fun v1 =>
  if v1 = a8 then
    (ld s 13 40 a12).bind fun v2 =>
    if v2 = (a7 - a10) then
      if a11 = (-1) then
        gM_EachAddsALineModel_tellBest_235 N r151 a1 a3 a4 a6 a7 a8 a9 a10 a12 s
      else
        if (a11 / 2) ≤ (a12 / 2) then
          gM_EachAddsALineModel_tellBest_239 N r151 a1 a3 a4 a6 a7 a8 a9 a10 a11 a12 s
        else
          gM_EachAddsALineModel_tellBest_235 N r151 a1 a3 a4 a6 a7 a8 a9 a10 a12 s
    else
      gM_EachAddsALineModel_tellBest_239 N r151 a1 a3 a4 a6 a7 a8 a9 a10 a11 a12 s
  else
    gM_EachAddsALineModel_tellBest_239 N r151 a1 a3 a4 a6 a7 a8 a9 a10 a11 a12 s
set_option maxRecDepth 4000 in
theorem wM_EachAddsALineModel_tellBest_191 {P : vP} {l : Launch} {ad : Nat → Nat} {N : Nat} {r151 : Int32 → Int32 → Int32 → Int32 → Int32 → Int32 → Int32 → Int32 → Int32 → Int32 → vSt → Option (Int32 × vSt)} {r : Int32} {t1 : vSt} (hX : vOK P l shM ad (vR 3 70) cX12_tellBest RX12 13) (hR : (∀ pc lv, narrow .int (.int r) = .int r → decode cX12_tellBest pc = .ok (.ireturn, 1) → P t1 pc lv [.int r])) (H151 : ∀ (a1 : Int32) (a3 : Int32) (a4 : Int32) (a6 : Int32) (a7 : Int32) (a8 : Int32) (a9 : Int32) (a10 : Int32) (a11 : Int32) (a12 : Int32) (s : vSt), r151 a1 a3 a4 a6 a7 a8 a9 a10 a11 a12 s = some (r, t1) → P s 151 [(0, .ref (ad 0)), (1, .int a1), (3, .int a3), (4, .int a4), (6, .int a6), (7, .int a7), (8, .int a8), (9, .int a9), (10, .int a10), (11, .int a11), (12, .int a12)] []) {a1 : Int32} {a3 : Int32} {a4 : Int32} {a6 : Int32} {a7 : Int32} {a8 : Int32} {a9 : Int32} {a10 : Int32} {a11 : Int32} {a12 : Int32} {s : vSt} (h : gM_EachAddsALineModel_tellBest_191 N r151 a1 a3 a4 a6 a7 a8 a9 a10 a11 a12 s = some (r, t1)) : P s 191 [(0, .ref (ad 0)), (1, .int a1), (3, .int a3), (4, .int a4), (6, .int a6), (7, .int a7), (8, .int a8), (9, .int a9), (10, .int a10), (11, .int a11), (12, .int a12)] [] := by
  unfold gM_EachAddsALineModel_tellBest_191 at h
  refine v_aload_n hX dX12_tellBest_191 rfl 0 rfl ?_
  refine gfM_0_31 hX kf_12_44 dX12_tellBest_192 ?_
  refine v_iload hX dX12_tellBest_195 10 rfl ?_
  refine alM_12 hX dX12_tellBest_197 h (fun v1 h => ?_)
  refine v_iload hX dX12_tellBest_198 6 rfl ?_
  refine v_icmp_ne (tgt := 239) hX dX12_tellBest_200 (by decide) h (fun h => ?_) (fun h => ?_)
  · refine v_aload_n hX dX12_tellBest_203 rfl 0 rfl ?_
    refine gfM_0_32 hX kf_12_47 dX12_tellBest_204 ?_
    refine v_iload hX dX12_tellBest_207 10 rfl ?_
    refine alM_13 hX dX12_tellBest_209 h (fun v2 h => ?_)
    refine v_iload hX dX12_tellBest_210 5 rfl ?_
    refine v_iload hX dX12_tellBest_212 8 rfl ?_
    refine v_isub hX dX12_tellBest_214 ?_
    refine v_icmp_ne (tgt := 239) hX dX12_tellBest_215 (by decide) h (fun h => ?_) (fun h => ?_)
    · refine v_iload hX dX12_tellBest_218 9 rfl ?_
      refine v_iconst (v := (-1)) hX dX12_tellBest_220 (by decide) ?_
      refine v_icmp_eq (tgt := 235) hX dX12_tellBest_221 (by decide) h (fun h => ?_) (fun h => ?_)
      · exact v_sub hX [0, 1, 2, 3, 4, 5, 6, 7, 8, 10] (by rfl) (wM_EachAddsALineModel_tellBest_235 hX hR H151 h)
      · refine v_iload hX dX12_tellBest_224 10 rfl ?_
        refine v_iconst (v := 2) hX dX12_tellBest_226 (by decide) ?_
        refine v_idiv hX dX12_tellBest_227 (by decide) ?_
        refine v_iload hX dX12_tellBest_228 9 rfl ?_
        refine v_iconst (v := 2) hX dX12_tellBest_230 (by decide) ?_
        refine v_idiv hX dX12_tellBest_231 (by decide) ?_
        refine v_icmp_ge (tgt := 239) hX dX12_tellBest_232 (by decide) h (fun h => ?_) (fun h => ?_)
        · exact v_sub hX [0, 1, 2, 3, 4, 5, 6, 7, 8, 9, 10] (by rfl) (wM_EachAddsALineModel_tellBest_239 hX hR H151 h)
        · exact v_sub hX [0, 1, 2, 3, 4, 5, 6, 7, 8, 10] (by rfl) (wM_EachAddsALineModel_tellBest_235 hX hR H151 h)
    · exact v_sub hX [0, 1, 2, 3, 4, 5, 6, 7, 8, 9, 10] (by rfl) (wM_EachAddsALineModel_tellBest_239 hX hR H151 h)
  · exact v_sub hX [0, 1, 2, 3, 4, 5, 6, 7, 8, 9, 10] (by rfl) (wM_EachAddsALineModel_tellBest_239 hX hR H151 h)
noncomputable def gM_EachAddsALineModel_tellBest_262 (N : Nat) (r138 : Int32 → Int32 → Int32 → Int32 → Int32 → Int32 → Int32 → Int32 → vSt → Option (Int32 × vSt)) (a1 : Int32) (a3 : Int32) (a4 : Int32) (a6 : Int32) (a7 : Int32) (a8 : Int32) (a10 : Int32) (a11 : Int32) (s : vSt) : Option (Int32 × vSt) :=
  (fM_EachAddsALineModel_worth N a11 a4 s).bind fun p1 =>
  (some (a8 - p1.1 : Int32)).bind fun v2 =>
  (some (a10 + 1 : Int32)).bind fun v3 =>
  r138 a1 a3 a4 a6 a7 v2 a11 v3 p1.2
set_option maxRecDepth 4000 in
theorem wM_EachAddsALineModel_tellBest_262 {P : vP} {l : Launch} {ad : Nat → Nat} {N : Nat} {r138 : Int32 → Int32 → Int32 → Int32 → Int32 → Int32 → Int32 → Int32 → vSt → Option (Int32 × vSt)} {r : Int32} {t1 : vSt} (hX : vOK P l shM ad (vR 3 70) cX12_tellBest RX12 13) (hR : (∀ pc lv, narrow .int (.int r) = .int r → decode cX12_tellBest pc = .ok (.ireturn, 1) → P t1 pc lv [.int r])) (H138 : ∀ (a1 : Int32) (a3 : Int32) (a4 : Int32) (a6 : Int32) (a7 : Int32) (a8 : Int32) (a9 : Int32) (a10 : Int32) (s : vSt), r138 a1 a3 a4 a6 a7 a8 a9 a10 s = some (r, t1) → P s 138 [(0, .ref (ad 0)), (1, .int a1), (3, .int a3), (4, .int a4), (6, .int a6), (7, .int a7), (8, .int a8), (9, .int a9), (10, .int a10)] []) {a1 : Int32} {a3 : Int32} {a4 : Int32} {a6 : Int32} {a7 : Int32} {a8 : Int32} {a10 : Int32} {a11 : Int32} {s : vSt} (h : gM_EachAddsALineModel_tellBest_262 N r138 a1 a3 a4 a6 a7 a8 a10 a11 s = some (r, t1)) : P s 262 [(0, .ref (ad 0)), (1, .int a1), (3, .int a3), (4, .int a4), (6, .int a6), (7, .int a7), (8, .int a8), (10, .int a10), (11, .int a11)] [] := by
  unfold gM_EachAddsALineModel_tellBest_262 at h
  refine v_iload hX dX12_tellBest_262 6 rfl ?_
  refine v_aload_n hX dX12_tellBest_264 rfl 0 rfl ?_
  refine v_iload hX dX12_tellBest_265 8 rfl ?_
  refine v_iload hX dX12_tellBest_267 3 rfl ?_
  obtain ⟨p1, hp1, h⟩ := bsome h
  refine v_callVI (o := 0) hX (mM_EachAddsALineModel_worth hp1 l ad) kM_X12_worth kV_X12_worth km_12_274 (by decide) (fun _ => rfl) rfl rfl rfl (Nat.le_of_ble_eq_true rfl) (by decide) dX12_tellBest_269 ?_
  refine v_isub hX dX12_tellBest_272 ?_
  refine v_nmI hX h (fun v2 h => ?_)
  refine v_istore (lv' := [(8, .int v2), (0, .ref (ad 0)), (1, .int a1), (3, .int a3), (4, .int a4), (6, .int a6), (7, .int a7), (10, .int a10), (11, .int a11)]) hX dX12_tellBest_273 (by decide) rfl ?_
  refine v_iload hX dX12_tellBest_275 8 rfl ?_
  refine v_istore (lv' := [(9, .int a11), (8, .int v2), (0, .ref (ad 0)), (1, .int a1), (3, .int a3), (4, .int a4), (6, .int a6), (7, .int a7), (10, .int a10), (11, .int a11)]) hX dX12_tellBest_277 (by decide) rfl ?_
  refine v_iincN hX dX12_tellBest_279 (j := 8) rfl (c := 1) (by decide) (by decide) h (fun v3 h => ?_)
  refine v_show (lv' := [(10, .int v3), (9, .int a11), (8, .int v2), (0, .ref (ad 0)), (1, .int a1), (3, .int a3), (4, .int a4), (6, .int a6), (7, .int a7), (11, .int a11)]) hX rfl ?_
  refine v_goto (tgt := 138) hX dX12_tellBest_282 (by decide) ?_
  exact v_sub hX [3, 4, 5, 6, 7, 8, 2, 1, 0] (by rfl) (H138 _ _ _ _ _ _ _ _ _ h)
noncomputable def gM_EachAddsALineModel_tellBest_151 (N : Nat) (r138 : Int32 → Int32 → Int32 → Int32 → Int32 → Int32 → Int32 → Int32 → vSt → Option (Int32 × vSt)) : Nat → Int32 → Int32 → Int32 → Int32 → Int32 → Int32 → Int32 → Int32 → Int32 → Int32 → vSt → Option (Int32 × vSt)
  | 0, _, _, _, _, _, _, _, _, _, _, _ => none
  | n + 1, a1, a3, a4, a6, a7, a8, a9, a10, a11, a12, s =>
    if (s.1 0 30) ≤ a12 then
      if 12 ≤ (s.1 0 10) then
        gM_EachAddsALineModel_tellBest_262 N r138 a1 a3 a4 a6 a7 a8 a10 a11 s
      else
        (fM_EachAddsALineModel_tell N (a11 / 2) s).bind fun z1 =>
        gM_EachAddsALineModel_tellBest_262 N r138 a1 a3 a4 a6 a7 a8 a10 a11 z1
    else
      if a9 = (-1) then
        (fM_EachAddsALineModel_begins N a12 a1 a3 s).bind fun p2 =>
        if p2.1 = 0 then
          gM_EachAddsALineModel_tellBest_239 N (gM_EachAddsALineModel_tellBest_151 N r138 n) a1 a3 a4 a6 a7 a8 a9 a10 a11 a12 p2.2
        else
          gM_EachAddsALineModel_tellBest_191 N (gM_EachAddsALineModel_tellBest_151 N r138 n) a1 a3 a4 a6 a7 a8 a9 a10 a11 a12 p2.2
      else
        (fM_EachAddsALineModel_follows N a12 a9 s).bind fun p3 =>
        if p3.1 = 0 then
          gM_EachAddsALineModel_tellBest_239 N (gM_EachAddsALineModel_tellBest_151 N r138 n) a1 a3 a4 a6 a7 a8 a9 a10 a11 a12 p3.2
        else
          gM_EachAddsALineModel_tellBest_191 N (gM_EachAddsALineModel_tellBest_151 N r138 n) a1 a3 a4 a6 a7 a8 a9 a10 a11 a12 p3.2
set_option maxRecDepth 4000 in
theorem wM_EachAddsALineModel_tellBest_151 {P : vP} {l : Launch} {ad : Nat → Nat} {N : Nat} {r138 : Int32 → Int32 → Int32 → Int32 → Int32 → Int32 → Int32 → Int32 → vSt → Option (Int32 × vSt)} {r : Int32} {t1 : vSt} (hX : vOK P l shM ad (vR 3 70) cX12_tellBest RX12 13) (hR : (∀ pc lv, narrow .int (.int r) = .int r → decode cX12_tellBest pc = .ok (.ireturn, 1) → P t1 pc lv [.int r])) (H138 : ∀ (a1 : Int32) (a3 : Int32) (a4 : Int32) (a6 : Int32) (a7 : Int32) (a8 : Int32) (a9 : Int32) (a10 : Int32) (s : vSt), r138 a1 a3 a4 a6 a7 a8 a9 a10 s = some (r, t1) → P s 138 [(0, .ref (ad 0)), (1, .int a1), (3, .int a3), (4, .int a4), (6, .int a6), (7, .int a7), (8, .int a8), (9, .int a9), (10, .int a10)] []) : ∀ (n : Nat) (a1 : Int32) (a3 : Int32) (a4 : Int32) (a6 : Int32) (a7 : Int32) (a8 : Int32) (a9 : Int32) (a10 : Int32) (a11 : Int32) (a12 : Int32) (s : vSt), gM_EachAddsALineModel_tellBest_151 N r138 n a1 a3 a4 a6 a7 a8 a9 a10 a11 a12 s = some (r, t1) → P s 151 [(0, .ref (ad 0)), (1, .int a1), (3, .int a3), (4, .int a4), (6, .int a6), (7, .int a7), (8, .int a8), (9, .int a9), (10, .int a10), (11, .int a11), (12, .int a12)] [] := by
  intro n
  induction n with
  | zero => intro a1 a3 a4 a6 a7 a8 a9 a10 a11 a12 s h; cases h
  | succ n ih =>
    intro a1 a3 a4 a6 a7 a8 a9 a10 a11 a12 s h
    unfold gM_EachAddsALineModel_tellBest_151 at h
    refine v_iload hX dX12_tellBest_151 10 rfl ?_
    refine v_aload_n hX dX12_tellBest_153 rfl 0 rfl ?_
    refine gfM_0_30 hX kf_12_262 dX12_tellBest_154 ?_
    refine v_icmp_ge (tgt := 245) hX dX12_tellBest_157 (by decide) h (fun h => ?_) (fun h => ?_)
    · refine v_aload_n hX dX12_tellBest_245 rfl 0 rfl ?_
      refine gfM_0_10 hX kf_12_99 dX12_tellBest_246 ?_
      refine v_bipush (v := 12) hX dX12_tellBest_249 (by decide) ?_
      refine v_icmp_ge (tgt := 262) hX dX12_tellBest_251 (by decide) h (fun h => ?_) (fun h => ?_)
      · exact v_sub hX [0, 1, 2, 3, 4, 5, 6, 8, 9] (by rfl) (wM_EachAddsALineModel_tellBest_262 hX hR H138 h)
      · refine v_aload_n hX dX12_tellBest_254 rfl 0 rfl ?_
        refine v_iload hX dX12_tellBest_255 9 rfl ?_
        refine v_iconst (v := 2) hX dX12_tellBest_257 (by decide) ?_
        refine v_idiv hX dX12_tellBest_258 (by decide) ?_
        obtain ⟨z1, hz1, h⟩ := bsome h
        refine v_callVV (o := 0) hX (mM_EachAddsALineModel_tell hz1 l ad) kM_X12_tell kV_X12_tell km_12_250 (by decide) (fun _ => rfl) rfl rfl rfl (Nat.le_of_ble_eq_true rfl) (by decide) dX12_tellBest_259 ?_
        exact v_sub hX [0, 1, 2, 3, 4, 5, 6, 8, 9] (by rfl) (wM_EachAddsALineModel_tellBest_262 hX hR H138 h)
    · refine v_iload hX dX12_tellBest_160 7 rfl ?_
      refine v_iconst (v := (-1)) hX dX12_tellBest_162 (by decide) ?_
      refine v_icmp_ne (tgt := 180) hX dX12_tellBest_163 (by decide) h (fun h => ?_) (fun h => ?_)
      · refine v_aload_n hX dX12_tellBest_166 rfl 0 rfl ?_
        refine v_iload hX dX12_tellBest_167 10 rfl ?_
        refine v_iload_n hX dX12_tellBest_169 rfl 1 rfl ?_
        refine v_iload_n hX dX12_tellBest_170 rfl 2 rfl ?_
        obtain ⟨p2, hp2, h⟩ := bsome h
        refine v_callVI (o := 0) hX (mM_EachAddsALineModel_begins hp2 l ad) kM_X12_begins kV_X12_begins km_12_291 (by decide) (fun _ => rfl) rfl rfl rfl (Nat.le_of_ble_eq_true rfl) (by decide) dX12_tellBest_171 ?_
        refine v_if_eq (tgt := 239) hX dX12_tellBest_174 (by decide) h (fun h => ?_) (fun h => ?_)
        · exact v_sub hX [0, 1, 2, 3, 4, 5, 6, 7, 8, 9, 10] (by rfl) (wM_EachAddsALineModel_tellBest_239 hX hR ih h)
        · refine v_goto (tgt := 191) hX dX12_tellBest_177 (by decide) ?_
          exact v_sub hX [0, 1, 2, 3, 4, 5, 6, 7, 8, 9, 10] (by rfl) (wM_EachAddsALineModel_tellBest_191 hX hR ih h)
      · refine v_aload_n hX dX12_tellBest_180 rfl 0 rfl ?_
        refine v_iload hX dX12_tellBest_181 10 rfl ?_
        refine v_iload hX dX12_tellBest_183 7 rfl ?_
        obtain ⟨p3, hp3, h⟩ := bsome h
        refine v_callVI (o := 0) hX (mM_EachAddsALineModel_follows hp3 l ad) kM_X12_follows kV_X12_follows km_12_280 (by decide) (fun _ => rfl) rfl rfl rfl (Nat.le_of_ble_eq_true rfl) (by decide) dX12_tellBest_185 ?_
        refine v_if_eq (tgt := 239) hX dX12_tellBest_188 (by decide) h (fun h => ?_) (fun h => ?_)
        · exact v_sub hX [0, 1, 2, 3, 4, 5, 6, 7, 8, 9, 10] (by rfl) (wM_EachAddsALineModel_tellBest_239 hX hR ih h)
        · exact v_sub hX [0, 1, 2, 3, 4, 5, 6, 7, 8, 9, 10] (by rfl) (wM_EachAddsALineModel_tellBest_191 hX hR ih h)
noncomputable def gM_EachAddsALineModel_tellBest_138 (N : Nat)  : Nat → Int32 → Int32 → Int32 → Int32 → Int32 → Int32 → Int32 → Int32 → vSt → Option (Int32 × vSt)
  | 0, _, _, _, _, _, _, _, _, _ => none
  | n + 1, a1, a3, a4, a6, a7, a8, a9, a10, s =>
    if a7 ≤ a10 then
      some (a6, s)
    else
      (some ((-1) : Int32)).bind fun v1 =>
      gM_EachAddsALineModel_tellBest_151 N (gM_EachAddsALineModel_tellBest_138 N n) N a1 a3 a4 a6 a7 a8 a9 a10 v1 0 s
set_option maxRecDepth 4000 in
theorem wM_EachAddsALineModel_tellBest_138 {P : vP} {l : Launch} {ad : Nat → Nat} {N : Nat} {r : Int32} {t1 : vSt} (hX : vOK P l shM ad (vR 3 70) cX12_tellBest RX12 13) (hR : (∀ pc lv, narrow .int (.int r) = .int r → decode cX12_tellBest pc = .ok (.ireturn, 1) → P t1 pc lv [.int r]))  : ∀ (n : Nat) (a1 : Int32) (a3 : Int32) (a4 : Int32) (a6 : Int32) (a7 : Int32) (a8 : Int32) (a9 : Int32) (a10 : Int32) (s : vSt), gM_EachAddsALineModel_tellBest_138 N n a1 a3 a4 a6 a7 a8 a9 a10 s = some (r, t1) → P s 138 [(0, .ref (ad 0)), (1, .int a1), (3, .int a3), (4, .int a4), (6, .int a6), (7, .int a7), (8, .int a8), (9, .int a9), (10, .int a10)] [] := by
  intro n
  induction n with
  | zero => intro a1 a3 a4 a6 a7 a8 a9 a10 s h; cases h
  | succ n ih =>
    intro a1 a3 a4 a6 a7 a8 a9 a10 s h
    unfold gM_EachAddsALineModel_tellBest_138 at h
    refine v_iload hX dX12_tellBest_138 8 rfl ?_
    refine v_iload hX dX12_tellBest_140 5 rfl ?_
    refine v_icmp_ge (tgt := 285) hX dX12_tellBest_142 (by decide) h (fun h => ?_) (fun h => ?_)
    · refine v_iload hX dX12_tellBest_285 4 rfl ?_
      exact v_retI hR h dX12_tellBest_287
    · refine v_iconst (v := (-1)) hX dX12_tellBest_145 (by decide) ?_
      refine v_nmI hX h (fun v1 h => ?_)
      refine v_istore (lv' := [(11, .int v1), (0, .ref (ad 0)), (1, .int a1), (3, .int a3), (4, .int a4), (6, .int a6), (7, .int a7), (8, .int a8), (9, .int a9), (10, .int a10)]) hX dX12_tellBest_146 (by decide) rfl ?_
      refine v_iconst (v := 0) hX dX12_tellBest_148 (by decide) ?_
      refine v_istore (lv' := [(12, .int 0), (11, .int v1), (0, .ref (ad 0)), (1, .int a1), (3, .int a3), (4, .int a4), (6, .int a6), (7, .int a7), (8, .int a8), (9, .int a9), (10, .int a10)]) hX dX12_tellBest_149 (by decide) rfl ?_
      exact v_sub hX [2, 3, 4, 5, 6, 7, 8, 9, 10, 1, 0] (by rfl) (wM_EachAddsALineModel_tellBest_151 hX hR ih N _ _ _ _ _ _ _ _ _ _ _ h)
noncomputable def gM_EachAddsALineModel_tellBest_13 (N : Nat)  : Nat → Int32 → Int32 → Int32 → Int32 → Int32 → vSt → Option (Int32 × vSt)
  | 0, _, _, _, _, _, _ => none
  | n + 1, a1, a3, a4, a5, a6, s =>
    if (s.1 0 30) ≤ a6 then
      if a5 = (-1) then
        some ((-2), s)
      else
        (ld s 12 40 a5).bind fun v1 =>
        (ld s 13 40 a5).bind fun v2 =>
        (some ((-1) : Int32)).bind fun v3 =>
        (some (s1 s 0 10 0)).bind fun z4 =>
        gM_EachAddsALineModel_tellBest_138 N N a1 a3 a4 v1 v2 v1 v3 0 z4
    else
      (fM_EachAddsALineModel_begins N a6 a1 a3 s).bind fun p5 =>
      if p5.1 = 0 then
        gM_EachAddsALineModel_tellBest_90 N (gM_EachAddsALineModel_tellBest_13 N n) a1 a3 a4 a5 a6 p5.2
      else
        (ld p5.2 12 40 a6).bind fun v6 =>
        if 1000000 ≤ v6 then
          gM_EachAddsALineModel_tellBest_90 N (gM_EachAddsALineModel_tellBest_13 N n) a1 a3 a4 a5 a6 p5.2
        else
          if a5 = (-1) then
            gM_EachAddsALineModel_tellBest_86 N (gM_EachAddsALineModel_tellBest_13 N n) a1 a3 a4 a6 p5.2
          else
            (ld p5.2 12 40 a6).bind fun v7 =>
            (ld p5.2 13 40 a6).bind fun v8 =>
            (ld p5.2 12 40 a5).bind fun v9 =>
            (ld p5.2 13 40 a5).bind fun v10 =>
            (fM_EachAddsALineModel_isLess N v7 v8 v9 v10 p5.2).bind fun p11 =>
            if p11.1 = 0 then
              gM_EachAddsALineModel_tellBest_90 N (gM_EachAddsALineModel_tellBest_13 N n) a1 a3 a4 a5 a6 p11.2
            else
              gM_EachAddsALineModel_tellBest_86 N (gM_EachAddsALineModel_tellBest_13 N n) a1 a3 a4 a6 p11.2
set_option maxRecDepth 4000 in
theorem wM_EachAddsALineModel_tellBest_13 {P : vP} {l : Launch} {ad : Nat → Nat} {N : Nat} {r : Int32} {t1 : vSt} (hX : vOK P l shM ad (vR 3 70) cX12_tellBest RX12 13) (hR : (∀ pc lv, narrow .int (.int r) = .int r → decode cX12_tellBest pc = .ok (.ireturn, 1) → P t1 pc lv [.int r]))  : ∀ (n : Nat) (a1 : Int32) (a3 : Int32) (a4 : Int32) (a5 : Int32) (a6 : Int32) (s : vSt), gM_EachAddsALineModel_tellBest_13 N n a1 a3 a4 a5 a6 s = some (r, t1) → P s 13 [(0, .ref (ad 0)), (1, .int a1), (3, .int a3), (4, .int a4), (5, .int a5), (6, .int a6)] [] := by
  intro n
  induction n with
  | zero => intro a1 a3 a4 a5 a6 s h; cases h
  | succ n ih =>
    intro a1 a3 a4 a5 a6 s h
    unfold gM_EachAddsALineModel_tellBest_13 at h
    refine v_iload hX dX12_tellBest_13 5 rfl ?_
    refine v_aload_n hX dX12_tellBest_15 rfl 0 rfl ?_
    refine gfM_0_30 hX kf_12_262 dX12_tellBest_16 ?_
    refine v_icmp_ge (tgt := 96) hX dX12_tellBest_19 (by decide) h (fun h => ?_) (fun h => ?_)
    · refine v_iload hX dX12_tellBest_96 4 rfl ?_
      refine v_iconst (v := (-1)) hX dX12_tellBest_98 (by decide) ?_
      refine v_icmp_ne (tgt := 105) hX dX12_tellBest_99 (by decide) h (fun h => ?_) (fun h => ?_)
      · refine v_bipush (v := (-2)) hX dX12_tellBest_102 (by decide) ?_
        exact v_retI hR h dX12_tellBest_104
      · refine v_aload_n hX dX12_tellBest_105 rfl 0 rfl ?_
        refine gfM_0_31 hX kf_12_44 dX12_tellBest_106 ?_
        refine v_iload hX dX12_tellBest_109 4 rfl ?_
        refine alM_12 hX dX12_tellBest_111 h (fun v1 h => ?_)
        refine v_istore (lv' := [(6, .int v1), (0, .ref (ad 0)), (1, .int a1), (3, .int a3), (4, .int a4), (5, .int a5)]) hX dX12_tellBest_112 (by decide) rfl ?_
        refine v_aload_n hX dX12_tellBest_114 rfl 1 rfl ?_
        refine gfM_0_32 hX kf_12_47 dX12_tellBest_115 ?_
        refine v_iload hX dX12_tellBest_118 5 rfl ?_
        refine alM_13 hX dX12_tellBest_120 h (fun v2 h => ?_)
        refine v_istore (lv' := [(7, .int v2), (6, .int v1), (0, .ref (ad 0)), (1, .int a1), (3, .int a3), (4, .int a4), (5, .int a5)]) hX dX12_tellBest_121 (by decide) rfl ?_
        refine v_iload hX dX12_tellBest_123 1 rfl ?_
        refine v_istore (lv' := [(8, .int v1), (7, .int v2), (6, .int v1), (0, .ref (ad 0)), (1, .int a1), (3, .int a3), (4, .int a4), (5, .int a5)]) hX dX12_tellBest_125 (by decide) rfl ?_
        refine v_iconst (v := (-1)) hX dX12_tellBest_127 (by decide) ?_
        refine v_nmI hX h (fun v3 h => ?_)
        refine v_istore (lv' := [(9, .int v3), (8, .int v1), (7, .int v2), (6, .int v1), (0, .ref (ad 0)), (1, .int a1), (3, .int a3), (4, .int a4), (5, .int a5)]) hX dX12_tellBest_128 (by decide) rfl ?_
        refine v_aload_n hX dX12_tellBest_130 rfl 4 rfl ?_
        refine v_iconst (v := 0) hX dX12_tellBest_131 (by decide) ?_
        refine pfM_0_10 hX kf_12_99 dX12_tellBest_132 h (fun z4 h => ?_)
        refine v_iconst (v := 0) hX dX12_tellBest_135 (by decide) ?_
        refine v_istore (lv' := [(10, .int 0), (9, .int v3), (8, .int v1), (7, .int v2), (6, .int v1), (0, .ref (ad 0)), (1, .int a1), (3, .int a3), (4, .int a4), (5, .int a5)]) hX dX12_tellBest_136 (by decide) rfl ?_
        exact v_sub hX [5, 6, 7, 8, 4, 3, 2, 1, 0] (by rfl) (wM_EachAddsALineModel_tellBest_138 hX hR  N _ _ _ _ _ _ _ _ _ h)
    · refine v_aload_n hX dX12_tellBest_22 rfl 0 rfl ?_
      refine v_iload hX dX12_tellBest_23 5 rfl ?_
      refine v_iload_n hX dX12_tellBest_25 rfl 1 rfl ?_
      refine v_iload_n hX dX12_tellBest_26 rfl 2 rfl ?_
      obtain ⟨p5, hp5, h⟩ := bsome h
      refine v_callVI (o := 0) hX (mM_EachAddsALineModel_begins hp5 l ad) kM_X12_begins kV_X12_begins km_12_291 (by decide) (fun _ => rfl) rfl rfl rfl (Nat.le_of_ble_eq_true rfl) (by decide) dX12_tellBest_27 ?_
      refine v_if_eq (tgt := 90) hX dX12_tellBest_30 (by decide) h (fun h => ?_) (fun h => ?_)
      · exact v_sub hX [0, 1, 2, 3, 4, 5] (by rfl) (wM_EachAddsALineModel_tellBest_90 hX hR ih h)
      · refine v_aload_n hX dX12_tellBest_33 rfl 0 rfl ?_
        refine gfM_0_31 hX kf_12_44 dX12_tellBest_34 ?_
        refine v_iload hX dX12_tellBest_37 5 rfl ?_
        refine alM_12 hX dX12_tellBest_39 h (fun v6 h => ?_)
        refine v_ldc hX kc_12_50 dX12_tellBest_40 ?_
        refine v_icmp_ge (tgt := 90) hX dX12_tellBest_42 (by decide) h (fun h => ?_) (fun h => ?_)
        · exact v_sub hX [0, 1, 2, 3, 4, 5] (by rfl) (wM_EachAddsALineModel_tellBest_90 hX hR ih h)
        · refine v_iload hX dX12_tellBest_45 4 rfl ?_
          refine v_iconst (v := (-1)) hX dX12_tellBest_47 (by decide) ?_
          refine v_icmp_eq (tgt := 86) hX dX12_tellBest_48 (by decide) h (fun h => ?_) (fun h => ?_)
          · exact v_sub hX [0, 1, 2, 3, 5] (by rfl) (wM_EachAddsALineModel_tellBest_86 hX hR ih h)
          · refine v_aload_n hX dX12_tellBest_51 rfl 0 rfl ?_
            refine v_aload_n hX dX12_tellBest_52 rfl 0 rfl ?_
            refine gfM_0_31 hX kf_12_44 dX12_tellBest_53 ?_
            refine v_iload hX dX12_tellBest_56 5 rfl ?_
            refine alM_12 hX dX12_tellBest_58 h (fun v7 h => ?_)
            refine v_aload_n hX dX12_tellBest_59 rfl 0 rfl ?_
            refine gfM_0_32 hX kf_12_47 dX12_tellBest_60 ?_
            refine v_iload hX dX12_tellBest_63 5 rfl ?_
            refine alM_13 hX dX12_tellBest_65 h (fun v8 h => ?_)
            refine v_aload_n hX dX12_tellBest_66 rfl 0 rfl ?_
            refine gfM_0_31 hX kf_12_44 dX12_tellBest_67 ?_
            refine v_iload hX dX12_tellBest_70 4 rfl ?_
            refine alM_12 hX dX12_tellBest_72 h (fun v9 h => ?_)
            refine v_aload_n hX dX12_tellBest_73 rfl 0 rfl ?_
            refine gfM_0_32 hX kf_12_47 dX12_tellBest_74 ?_
            refine v_iload hX dX12_tellBest_77 4 rfl ?_
            refine alM_13 hX dX12_tellBest_79 h (fun v10 h => ?_)
            obtain ⟨p11, hp11, h⟩ := bsome h
            refine v_callVI (o := 0) hX (mM_EachAddsALineModel_isLess hp11 l ad) kM_X12_isLess kV_X12_isLess km_12_283 (by decide) (fun _ => rfl) rfl rfl rfl (Nat.le_of_ble_eq_true rfl) (by decide) dX12_tellBest_80 ?_
            refine v_if_eq (tgt := 90) hX dX12_tellBest_83 (by decide) h (fun h => ?_) (fun h => ?_)
            · exact v_sub hX [0, 1, 2, 3, 4, 5] (by rfl) (wM_EachAddsALineModel_tellBest_90 hX hR ih h)
            · exact v_sub hX [0, 1, 2, 3, 5] (by rfl) (wM_EachAddsALineModel_tellBest_86 hX hR ih h)
noncomputable def gM_EachAddsALineModel_tellBest_0 (N : Nat)  (a1 : Int32) (a2 : Int32) (a3 : Int32) (a4 : Int32) (s : vSt) : Option (Int32 × vSt) :=
  (fM_EachAddsALineModel_findBest N a2 a4 s).bind fun z1 =>
  (some ((-1) : Int32)).bind fun v2 =>
  gM_EachAddsALineModel_tellBest_13 N N a1 a3 a4 v2 0 z1
set_option maxRecDepth 4000 in
theorem wM_EachAddsALineModel_tellBest_0 {P : vP} {l : Launch} {ad : Nat → Nat} {N : Nat} {r : Int32} {t1 : vSt} (hX : vOK P l shM ad (vR 3 70) cX12_tellBest RX12 13) (hR : (∀ pc lv, narrow .int (.int r) = .int r → decode cX12_tellBest pc = .ok (.ireturn, 1) → P t1 pc lv [.int r]))  {a1 : Int32} {a2 : Int32} {a3 : Int32} {a4 : Int32} {s : vSt} (h : gM_EachAddsALineModel_tellBest_0 N a1 a2 a3 a4 s = some (r, t1)) : P s 0 [(0, .ref (ad 0)), (1, .int a1), (2, .int a2), (3, .int a3), (4, .int a4)] [] := by
  unfold gM_EachAddsALineModel_tellBest_0 at h
  refine v_aload_n hX dX12_tellBest_0 rfl 0 rfl ?_
  refine v_iload_n hX dX12_tellBest_1 rfl 2 rfl ?_
  refine v_iload hX dX12_tellBest_2 4 rfl ?_
  obtain ⟨z1, hz1, h⟩ := bsome h
  refine v_callVV (o := 0) hX (mM_EachAddsALineModel_findBest hz1 l ad) kM_X12_findBest kV_X12_findBest km_12_287 (by decide) (fun _ => rfl) rfl rfl rfl (Nat.le_of_ble_eq_true rfl) (by decide) dX12_tellBest_4 ?_
  refine v_iconst (v := (-1)) hX dX12_tellBest_7 (by decide) ?_
  refine v_nmI hX h (fun v2 h => ?_)
  refine v_istore (lv' := [(5, .int v2), (0, .ref (ad 0)), (1, .int a1), (2, .int a2), (3, .int a3), (4, .int a4)]) hX dX12_tellBest_8 (by decide) rfl ?_
  refine v_iconst (v := 0) hX dX12_tellBest_10 (by decide) ?_
  refine v_istore (lv' := [(6, .int 0), (5, .int v2), (0, .ref (ad 0)), (1, .int a1), (2, .int a2), (3, .int a3), (4, .int a4)]) hX dX12_tellBest_11 (by decide) rfl ?_
  exact v_sub hX [2, 3, 5, 6, 1, 0] (by rfl) (wM_EachAddsALineModel_tellBest_13 hX hR  N _ _ _ _ _ _ h)
noncomputable def fM_EachAddsALineModel_tellBest (N : Nat) (a1 : Int32) (a2 : Int32) (a3 : Int32) (a4 : Int32) (s : vSt) : Option (Int32 × vSt) := gM_EachAddsALineModel_tellBest_0 N a1 a2 a3 a4 s
theorem mM_EachAddsALineModel_tellBest {N : Nat} {a1 : Int32} {a2 : Int32} {a3 : Int32} {a4 : Int32} {s : vSt} {r : Int32} {t1 : vSt} (h : fM_EachAddsALineModel_tellBest N a1 a2 a3 a4 s = some (r, t1)) (l : Launch) (ad : Nat → Nat) : vMI l shM ad yX12_tellBest cX12_tellBest 13 .int 3 70 s [.ref (ad 0), .int a1, .int a2, .int a3, .int a4] r t1 :=
  vMI_of (by decide +kernel) (Nat.le_of_ble_eq_true rfl) (fun P hX hR => wM_EachAddsALineModel_tellBest_0 hX hR h)
-- M_EachAddsALineModel_soonest
noncomputable def gM_EachAddsALineModel_soonest_0 (N : Nat)  (a1 : Int32) (a2 : Int32) (a3 : Int32) (s : vSt) : Option (Int32 × vSt) :=
  (some (s1 s 0 11 0)).bind fun z1 =>
  (fM_EachAddsALineModel_isTrip N a1 a2 a3 z1).bind fun p2 =>
  if p2.1 = 0 then
    some ((-1), p2.2)
  else
    (some (s1 p2.2 0 33 0)).bind fun z3 =>
    (fM_EachAddsALineModel_tellBest N a1 a2 a3 0 z3).bind fun p4 =>
    some (p4.1, p4.2)
set_option maxRecDepth 4000 in
theorem wM_EachAddsALineModel_soonest_0 {P : vP} {l : Launch} {ad : Nat → Nat} {N : Nat} {r : Int32} {t1 : vSt} (hX : vOK P l shM ad (vR 4 102) cX12_soonest RX12 4) (hR : (∀ pc lv, narrow .int (.int r) = .int r → decode cX12_soonest pc = .ok (.ireturn, 1) → P t1 pc lv [.int r]))  {a1 : Int32} {a2 : Int32} {a3 : Int32} {s : vSt} (h : gM_EachAddsALineModel_soonest_0 N a1 a2 a3 s = some (r, t1)) : P s 0 [(0, .ref (ad 0)), (1, .int a1), (2, .int a2), (3, .int a3)] [] := by
  unfold gM_EachAddsALineModel_soonest_0 at h
  refine v_aload_n hX dX12_soonest_0 rfl 0 rfl ?_
  refine v_iconst (v := 0) hX dX12_soonest_1 (by decide) ?_
  refine pfM_0_11 hX kf_12_96 dX12_soonest_2 h (fun z1 h => ?_)
  refine v_aload_n hX dX12_soonest_5 rfl 0 rfl ?_
  refine v_iload_n hX dX12_soonest_6 rfl 1 rfl ?_
  refine v_iload_n hX dX12_soonest_7 rfl 2 rfl ?_
  refine v_iload_n hX dX12_soonest_8 rfl 3 rfl ?_
  obtain ⟨p2, hp2, h⟩ := bsome h
  refine v_callVI (o := 0) hX (mM_EachAddsALineModel_isTrip hp2 l ad) kM_X12_isTrip kV_X12_isTrip km_12_294 (by decide) (fun _ => rfl) rfl rfl rfl (Nat.le_of_ble_eq_true rfl) (by decide) dX12_soonest_9 ?_
  refine v_if_ne (tgt := 17) hX dX12_soonest_12 (by decide) h (fun h => ?_) (fun h => ?_)
  · refine v_iconst (v := (-1)) hX dX12_soonest_15 (by decide) ?_
    exact v_retI hR h dX12_soonest_16
  · refine v_aload_n hX dX12_soonest_17 rfl 0 rfl ?_
    refine v_iconst (v := 0) hX dX12_soonest_18 (by decide) ?_
    refine pfM_0_33 hX kf_12_277 dX12_soonest_19 h (fun z3 h => ?_)
    refine v_aload_n hX dX12_soonest_22 rfl 0 rfl ?_
    refine v_iload_n hX dX12_soonest_23 rfl 1 rfl ?_
    refine v_iload_n hX dX12_soonest_24 rfl 2 rfl ?_
    refine v_iload_n hX dX12_soonest_25 rfl 3 rfl ?_
    refine v_iconst (v := 0) hX dX12_soonest_26 (by decide) ?_
    obtain ⟨p4, hp4, h⟩ := bsome h
    refine v_callVI (o := 0) hX (mM_EachAddsALineModel_tellBest hp4 l ad) kM_X12_tellBest kV_X12_tellBest km_12_297 (by decide) (fun _ => rfl) rfl rfl rfl (Nat.le_of_ble_eq_true rfl) (by decide) dX12_soonest_27 ?_
    exact v_retI hR h dX12_soonest_30
noncomputable def fM_EachAddsALineModel_soonest (N : Nat) (a1 : Int32) (a2 : Int32) (a3 : Int32) (s : vSt) : Option (Int32 × vSt) := gM_EachAddsALineModel_soonest_0 N a1 a2 a3 s
theorem mM_EachAddsALineModel_soonest {N : Nat} {a1 : Int32} {a2 : Int32} {a3 : Int32} {s : vSt} {r : Int32} {t1 : vSt} (h : fM_EachAddsALineModel_soonest N a1 a2 a3 s = some (r, t1)) (l : Launch) (ad : Nat → Nat) : vMI l shM ad yX12_soonest cX12_soonest 4 .int 4 102 s [.ref (ad 0), .int a1, .int a2, .int a3] r t1 :=
  vMI_of (by decide +kernel) (Nat.le_of_ble_eq_true rfl) (fun P hX hR => wM_EachAddsALineModel_soonest_0 hX hR h)
-- M_EachAddsALineModel_soonestBy
noncomputable def gM_EachAddsALineModel_soonestBy_47 (N : Nat) (r13 : Int32 → Int32 → Int32 → Int32 → vSt → Option (Int32 × vSt)) (a1 : Int32) (a3 : Int32) (a4 : Int32) (a5 : Int32) (s : vSt) : Option (Int32 × vSt) :=
  (some (a5 + 1 : Int32)).bind fun v1 =>
  r13 a1 a3 a4 v1 s
set_option maxRecDepth 4000 in
theorem wM_EachAddsALineModel_soonestBy_47 {P : vP} {l : Launch} {ad : Nat → Nat} {N : Nat} {r13 : Int32 → Int32 → Int32 → Int32 → vSt → Option (Int32 × vSt)} {r : Int32} {t1 : vSt} (hX : vOK P l shM ad (vR 3 70) cX12_soonestBy RX12 6) (hR : (∀ pc lv, narrow .int (.int r) = .int r → decode cX12_soonestBy pc = .ok (.ireturn, 1) → P t1 pc lv [.int r])) (H13 : ∀ (a1 : Int32) (a3 : Int32) (a4 : Int32) (a5 : Int32) (s : vSt), r13 a1 a3 a4 a5 s = some (r, t1) → P s 13 [(0, .ref (ad 0)), (1, .int a1), (3, .int a3), (4, .int a4), (5, .int a5)] []) {a1 : Int32} {a3 : Int32} {a4 : Int32} {a5 : Int32} {s : vSt} (h : gM_EachAddsALineModel_soonestBy_47 N r13 a1 a3 a4 a5 s = some (r, t1)) : P s 47 [(0, .ref (ad 0)), (1, .int a1), (3, .int a3), (4, .int a4), (5, .int a5)] [] := by
  unfold gM_EachAddsALineModel_soonestBy_47 at h
  refine v_iincN hX dX12_soonestBy_47 (j := 4) rfl (c := 1) (by decide) (by decide) h (fun v1 h => ?_)
  refine v_show (lv' := [(5, .int v1), (0, .ref (ad 0)), (1, .int a1), (3, .int a3), (4, .int a4)]) hX rfl ?_
  refine v_goto (tgt := 13) hX dX12_soonestBy_50 (by decide) ?_
  exact v_sub hX [1, 2, 3, 4, 0] (by rfl) (H13 _ _ _ _ _ h)
noncomputable def gM_EachAddsALineModel_soonestBy_13 (N : Nat)  : Nat → Int32 → Int32 → Int32 → Int32 → vSt → Option (Int32 × vSt)
  | 0, _, _, _, _, _ => none
  | n + 1, a1, a3, a4, a5, s =>
    if (s.1 0 30) ≤ a5 then
      some (a4, s)
    else
      (fM_EachAddsALineModel_begins N a5 a1 a3 s).bind fun p1 =>
      if p1.1 = 0 then
        gM_EachAddsALineModel_soonestBy_47 N (gM_EachAddsALineModel_soonestBy_13 N n) a1 a3 a4 a5 p1.2
      else
        (ld p1.2 12 40 a5).bind fun v2 =>
        (some (if a4 > v2 then v2 else a4 : Int32)).bind fun v3 =>
        gM_EachAddsALineModel_soonestBy_47 N (gM_EachAddsALineModel_soonestBy_13 N n) a1 a3 v3 a5 p1.2
set_option maxRecDepth 4000 in
theorem wM_EachAddsALineModel_soonestBy_13 {P : vP} {l : Launch} {ad : Nat → Nat} {N : Nat} {r : Int32} {t1 : vSt} (hX : vOK P l shM ad (vR 3 70) cX12_soonestBy RX12 6) (hR : (∀ pc lv, narrow .int (.int r) = .int r → decode cX12_soonestBy pc = .ok (.ireturn, 1) → P t1 pc lv [.int r]))  : ∀ (n : Nat) (a1 : Int32) (a3 : Int32) (a4 : Int32) (a5 : Int32) (s : vSt), gM_EachAddsALineModel_soonestBy_13 N n a1 a3 a4 a5 s = some (r, t1) → P s 13 [(0, .ref (ad 0)), (1, .int a1), (3, .int a3), (4, .int a4), (5, .int a5)] [] := by
  intro n
  induction n with
  | zero => intro a1 a3 a4 a5 s h; cases h
  | succ n ih =>
    intro a1 a3 a4 a5 s h
    unfold gM_EachAddsALineModel_soonestBy_13 at h
    refine v_iload hX dX12_soonestBy_13 4 rfl ?_
    refine v_aload_n hX dX12_soonestBy_15 rfl 0 rfl ?_
    refine gfM_0_30 hX kf_12_262 dX12_soonestBy_16 ?_
    refine v_icmp_ge (tgt := 53) hX dX12_soonestBy_19 (by decide) h (fun h => ?_) (fun h => ?_)
    · refine v_iload hX dX12_soonestBy_53 3 rfl ?_
      exact v_retI hR h dX12_soonestBy_55
    · refine v_aload_n hX dX12_soonestBy_22 rfl 0 rfl ?_
      refine v_iload hX dX12_soonestBy_23 4 rfl ?_
      refine v_iload_n hX dX12_soonestBy_25 rfl 1 rfl ?_
      refine v_iload_n hX dX12_soonestBy_26 rfl 2 rfl ?_
      obtain ⟨p1, hp1, h⟩ := bsome h
      refine v_callVI (o := 0) hX (mM_EachAddsALineModel_begins hp1 l ad) kM_X12_begins kV_X12_begins km_12_291 (by decide) (fun _ => rfl) rfl rfl rfl (Nat.le_of_ble_eq_true rfl) (by decide) dX12_soonestBy_27 ?_
      refine v_if_eq (tgt := 47) hX dX12_soonestBy_30 (by decide) h (fun h => ?_) (fun h => ?_)
      · exact v_sub hX [0, 1, 2, 3, 4] (by rfl) (wM_EachAddsALineModel_soonestBy_47 hX hR ih h)
      · refine v_iload hX dX12_soonestBy_33 3 rfl ?_
        refine v_aload_n hX dX12_soonestBy_35 rfl 0 rfl ?_
        refine gfM_0_31 hX kf_12_44 dX12_soonestBy_36 ?_
        refine v_iload hX dX12_soonestBy_39 4 rfl ?_
        refine alM_12 hX dX12_soonestBy_41 h (fun v2 h => ?_)
        refine v_min hX km_12_207 kS_J9_min_7cf53 kI_Math kC_min (Nat.le_of_ble_eq_true rfl) (Nat.le_of_ble_eq_true rfl) dX12_soonestBy_42 ?_
        refine v_nmI hX h (fun v3 h => ?_)
        refine v_istore (lv' := [(4, .int v3), (0, .ref (ad 0)), (1, .int a1), (3, .int a3), (5, .int a5)]) hX dX12_soonestBy_45 (by decide) rfl ?_
        exact v_sub hX [1, 2, 3, 0, 4] (by rfl) (wM_EachAddsALineModel_soonestBy_47 hX hR ih h)
noncomputable def gM_EachAddsALineModel_soonestBy_0 (N : Nat)  (a1 : Int32) (a2 : Int32) (a3 : Int32) (s : vSt) : Option (Int32 × vSt) :=
  (fM_EachAddsALineModel_findBest N a2 0 s).bind fun z1 =>
  gM_EachAddsALineModel_soonestBy_13 N N a1 a3 1000000 0 z1
set_option maxRecDepth 4000 in
theorem wM_EachAddsALineModel_soonestBy_0 {P : vP} {l : Launch} {ad : Nat → Nat} {N : Nat} {r : Int32} {t1 : vSt} (hX : vOK P l shM ad (vR 3 70) cX12_soonestBy RX12 6) (hR : (∀ pc lv, narrow .int (.int r) = .int r → decode cX12_soonestBy pc = .ok (.ireturn, 1) → P t1 pc lv [.int r]))  {a1 : Int32} {a2 : Int32} {a3 : Int32} {s : vSt} (h : gM_EachAddsALineModel_soonestBy_0 N a1 a2 a3 s = some (r, t1)) : P s 0 [(0, .ref (ad 0)), (1, .int a1), (2, .int a2), (3, .int a3)] [] := by
  unfold gM_EachAddsALineModel_soonestBy_0 at h
  refine v_aload_n hX dX12_soonestBy_0 rfl 0 rfl ?_
  refine v_iload_n hX dX12_soonestBy_1 rfl 2 rfl ?_
  refine v_iconst (v := 0) hX dX12_soonestBy_2 (by decide) ?_
  obtain ⟨z1, hz1, h⟩ := bsome h
  refine v_callVV (o := 0) hX (mM_EachAddsALineModel_findBest hz1 l ad) kM_X12_findBest kV_X12_findBest km_12_287 (by decide) (fun _ => rfl) rfl rfl rfl (Nat.le_of_ble_eq_true rfl) (by decide) dX12_soonestBy_3 ?_
  refine v_ldc hX kc_12_50 dX12_soonestBy_6 ?_
  refine v_istore (lv' := [(4, .int 1000000), (0, .ref (ad 0)), (1, .int a1), (2, .int a2), (3, .int a3)]) hX dX12_soonestBy_8 (by decide) rfl ?_
  refine v_iconst (v := 0) hX dX12_soonestBy_10 (by decide) ?_
  refine v_istore (lv' := [(5, .int 0), (4, .int 1000000), (0, .ref (ad 0)), (1, .int a1), (2, .int a2), (3, .int a3)]) hX dX12_soonestBy_11 (by decide) rfl ?_
  exact v_sub hX [2, 3, 5, 1, 0] (by rfl) (wM_EachAddsALineModel_soonestBy_13 hX hR  N _ _ _ _ _ h)
noncomputable def fM_EachAddsALineModel_soonestBy (N : Nat) (a1 : Int32) (a2 : Int32) (a3 : Int32) (s : vSt) : Option (Int32 × vSt) := gM_EachAddsALineModel_soonestBy_0 N a1 a2 a3 s
theorem mM_EachAddsALineModel_soonestBy {N : Nat} {a1 : Int32} {a2 : Int32} {a3 : Int32} {s : vSt} {r : Int32} {t1 : vSt} (h : fM_EachAddsALineModel_soonestBy N a1 a2 a3 s = some (r, t1)) (l : Launch) (ad : Nat → Nat) : vMI l shM ad yX12_soonestBy cX12_soonestBy 6 .int 3 70 s [.ref (ad 0), .int a1, .int a2, .int a3] r t1 :=
  vMI_of (by decide +kernel) (Nat.le_of_ble_eq_true rfl) (fun P hX hR => wM_EachAddsALineModel_soonestBy_0 hX hR h)
-- M_EachAddsALineModel_latest
noncomputable def gM_EachAddsALineModel_latest_26 (N : Nat)  : Nat → Int32 → Int32 → Int32 → Int32 → vSt → Option (Int32 × vSt)
  | 0, _, _, _, _, _ => none
  | n + 1, a1, a2, a3, a4, s =>
    if a4 < 0 then
      some ((-2), s)
    else
      (fM_EachAddsALineModel_soonestBy N a1 a2 a4 s).bind fun p1 =>
      if a3 < p1.1 then
        (some (a4 + (-1) : Int32)).bind fun v2 =>
        gM_EachAddsALineModel_latest_26 N n a1 a2 a3 v2 p1.2
      else
        some (a4, p1.2)
set_option maxRecDepth 4000 in
theorem wM_EachAddsALineModel_latest_26 {P : vP} {l : Launch} {ad : Nat → Nat} {N : Nat} {r : Int32} {t1 : vSt} (hX : vOK P l shM ad (vR 4 95) cX12_latest RX12 5) (hR : (∀ pc lv, narrow .int (.int r) = .int r → decode cX12_latest pc = .ok (.ireturn, 1) → P t1 pc lv [.int r]))  : ∀ (n : Nat) (a1 : Int32) (a2 : Int32) (a3 : Int32) (a4 : Int32) (s : vSt), gM_EachAddsALineModel_latest_26 N n a1 a2 a3 a4 s = some (r, t1) → P s 26 [(0, .ref (ad 0)), (1, .int a1), (2, .int a2), (3, .int a3), (4, .int a4)] [] := by
  intro n
  induction n with
  | zero => intro a1 a2 a3 a4 s h; cases h
  | succ n ih =>
    intro a1 a2 a3 a4 s h
    unfold gM_EachAddsALineModel_latest_26 at h
    refine v_iload hX dX12_latest_26 4 rfl ?_
    refine v_if_lt (tgt := 52) hX dX12_latest_28 (by decide) h (fun h => ?_) (fun h => ?_)
    · refine v_bipush (v := (-2)) hX dX12_latest_52 (by decide) ?_
      exact v_retI hR h dX12_latest_54
    · refine v_aload_n hX dX12_latest_31 rfl 0 rfl ?_
      refine v_iload_n hX dX12_latest_32 rfl 1 rfl ?_
      refine v_iload_n hX dX12_latest_33 rfl 2 rfl ?_
      refine v_iload hX dX12_latest_34 4 rfl ?_
      obtain ⟨p1, hp1, h⟩ := bsome h
      refine v_callVI (o := 0) hX (mM_EachAddsALineModel_soonestBy hp1 l ad) kM_X12_soonestBy kV_X12_soonestBy km_12_301 (by decide) (fun _ => rfl) rfl rfl rfl (Nat.le_of_ble_eq_true rfl) (by decide) dX12_latest_36 ?_
      refine v_iload_n hX dX12_latest_39 rfl 3 rfl ?_
      refine v_icmp_gt (tgt := 46) hX dX12_latest_40 (by decide) h (fun h => ?_) (fun h => ?_)
      · refine v_iincN hX dX12_latest_46 (j := 4) rfl (c := (-1)) (by decide) (by decide) h (fun v2 h => ?_)
        refine v_show (lv' := [(4, .int v2), (0, .ref (ad 0)), (1, .int a1), (2, .int a2), (3, .int a3)]) hX rfl ?_
        refine v_goto (tgt := 26) hX dX12_latest_49 (by decide) ?_
        exact v_sub hX [1, 2, 3, 4, 0] (by rfl) (ih _ _ _ _ _ h)
      · refine v_iload hX dX12_latest_43 4 rfl ?_
        exact v_retI hR h dX12_latest_45
noncomputable def gM_EachAddsALineModel_latest_0 (N : Nat)  (a1 : Int32) (a2 : Int32) (a3 : Int32) (s : vSt) : Option (Int32 × vSt) :=
  (some (s1 s 0 11 0)).bind fun z1 =>
  (fM_EachAddsALineModel_isTrip N a1 a2 a3 z1).bind fun p2 =>
  if p2.1 = 0 then
    some ((-1), p2.2)
  else
    (some (s1 p2.2 0 33 0)).bind fun z3 =>
    gM_EachAddsALineModel_latest_26 N N a1 a2 a3 99 z3
set_option maxRecDepth 4000 in
theorem wM_EachAddsALineModel_latest_0 {P : vP} {l : Launch} {ad : Nat → Nat} {N : Nat} {r : Int32} {t1 : vSt} (hX : vOK P l shM ad (vR 4 95) cX12_latest RX12 5) (hR : (∀ pc lv, narrow .int (.int r) = .int r → decode cX12_latest pc = .ok (.ireturn, 1) → P t1 pc lv [.int r]))  {a1 : Int32} {a2 : Int32} {a3 : Int32} {s : vSt} (h : gM_EachAddsALineModel_latest_0 N a1 a2 a3 s = some (r, t1)) : P s 0 [(0, .ref (ad 0)), (1, .int a1), (2, .int a2), (3, .int a3)] [] := by
  unfold gM_EachAddsALineModel_latest_0 at h
  refine v_aload_n hX dX12_latest_0 rfl 0 rfl ?_
  refine v_iconst (v := 0) hX dX12_latest_1 (by decide) ?_
  refine pfM_0_11 hX kf_12_96 dX12_latest_2 h (fun z1 h => ?_)
  refine v_aload_n hX dX12_latest_5 rfl 0 rfl ?_
  refine v_iload_n hX dX12_latest_6 rfl 1 rfl ?_
  refine v_iload_n hX dX12_latest_7 rfl 2 rfl ?_
  refine v_iload_n hX dX12_latest_8 rfl 3 rfl ?_
  obtain ⟨p2, hp2, h⟩ := bsome h
  refine v_callVI (o := 0) hX (mM_EachAddsALineModel_isTrip hp2 l ad) kM_X12_isTrip kV_X12_isTrip km_12_294 (by decide) (fun _ => rfl) rfl rfl rfl (Nat.le_of_ble_eq_true rfl) (by decide) dX12_latest_9 ?_
  refine v_if_ne (tgt := 17) hX dX12_latest_12 (by decide) h (fun h => ?_) (fun h => ?_)
  · refine v_iconst (v := (-1)) hX dX12_latest_15 (by decide) ?_
    exact v_retI hR h dX12_latest_16
  · refine v_aload_n hX dX12_latest_17 rfl 0 rfl ?_
    refine v_iconst (v := 0) hX dX12_latest_18 (by decide) ?_
    refine pfM_0_33 hX kf_12_277 dX12_latest_19 h (fun z3 h => ?_)
    refine v_bipush (v := 99) hX dX12_latest_22 (by decide) ?_
    refine v_istore (lv' := [(4, .int 99), (0, .ref (ad 0)), (1, .int a1), (2, .int a2), (3, .int a3)]) hX dX12_latest_24 (by decide) rfl ?_
    exact v_sub hX [1, 2, 3, 4, 0] (by rfl) (wM_EachAddsALineModel_latest_26 hX hR  N _ _ _ _ _ h)
noncomputable def fM_EachAddsALineModel_latest (N : Nat) (a1 : Int32) (a2 : Int32) (a3 : Int32) (s : vSt) : Option (Int32 × vSt) := gM_EachAddsALineModel_latest_0 N a1 a2 a3 s
theorem mM_EachAddsALineModel_latest {N : Nat} {a1 : Int32} {a2 : Int32} {a3 : Int32} {s : vSt} {r : Int32} {t1 : vSt} (h : fM_EachAddsALineModel_latest N a1 a2 a3 s = some (r, t1)) (l : Launch) (ad : Nat → Nat) : vMI l shM ad yX12_latest cX12_latest 5 .int 4 95 s [.ref (ad 0), .int a1, .int a2, .int a3] r t1 :=
  vMI_of (by decide +kernel) (Nat.le_of_ble_eq_true rfl) (fun P hX hR => wM_EachAddsALineModel_latest_0 hX hR h)
-- M_EachAddsALineModel_hands
noncomputable def gM_EachAddsALineModel_hands_0 (N : Nat)  (a1 : Int32) (a2 : Int32) (a3 : Int32) (s : vSt) : Option (Int32 × vSt) :=
  (some (s1 s 0 11 0)).bind fun z1 =>
  (fM_EachAddsALineModel_isTrip N a1 a2 a3 z1).bind fun p2 =>
  if p2.1 = 0 then
    some ((-1), p2.2)
  else
    (some (s1 p2.2 0 33 0)).bind fun z3 =>
    (fM_EachAddsALineModel_tellBest N a1 a2 a3 1 z3).bind fun p4 =>
    some (p4.1, p4.2)
set_option maxRecDepth 4000 in
theorem wM_EachAddsALineModel_hands_0 {P : vP} {l : Launch} {ad : Nat → Nat} {N : Nat} {r : Int32} {t1 : vSt} (hX : vOK P l shM ad (vR 4 102) cX12_hands RX12 4) (hR : (∀ pc lv, narrow .int (.int r) = .int r → decode cX12_hands pc = .ok (.ireturn, 1) → P t1 pc lv [.int r]))  {a1 : Int32} {a2 : Int32} {a3 : Int32} {s : vSt} (h : gM_EachAddsALineModel_hands_0 N a1 a2 a3 s = some (r, t1)) : P s 0 [(0, .ref (ad 0)), (1, .int a1), (2, .int a2), (3, .int a3)] [] := by
  unfold gM_EachAddsALineModel_hands_0 at h
  refine v_aload_n hX dX12_hands_0 rfl 0 rfl ?_
  refine v_iconst (v := 0) hX dX12_hands_1 (by decide) ?_
  refine pfM_0_11 hX kf_12_96 dX12_hands_2 h (fun z1 h => ?_)
  refine v_aload_n hX dX12_hands_5 rfl 0 rfl ?_
  refine v_iload_n hX dX12_hands_6 rfl 1 rfl ?_
  refine v_iload_n hX dX12_hands_7 rfl 2 rfl ?_
  refine v_iload_n hX dX12_hands_8 rfl 3 rfl ?_
  obtain ⟨p2, hp2, h⟩ := bsome h
  refine v_callVI (o := 0) hX (mM_EachAddsALineModel_isTrip hp2 l ad) kM_X12_isTrip kV_X12_isTrip km_12_294 (by decide) (fun _ => rfl) rfl rfl rfl (Nat.le_of_ble_eq_true rfl) (by decide) dX12_hands_9 ?_
  refine v_if_ne (tgt := 17) hX dX12_hands_12 (by decide) h (fun h => ?_) (fun h => ?_)
  · refine v_iconst (v := (-1)) hX dX12_hands_15 (by decide) ?_
    exact v_retI hR h dX12_hands_16
  · refine v_aload_n hX dX12_hands_17 rfl 0 rfl ?_
    refine v_iconst (v := 0) hX dX12_hands_18 (by decide) ?_
    refine pfM_0_33 hX kf_12_277 dX12_hands_19 h (fun z3 h => ?_)
    refine v_aload_n hX dX12_hands_22 rfl 0 rfl ?_
    refine v_iload_n hX dX12_hands_23 rfl 1 rfl ?_
    refine v_iload_n hX dX12_hands_24 rfl 2 rfl ?_
    refine v_iload_n hX dX12_hands_25 rfl 3 rfl ?_
    refine v_iconst (v := 1) hX dX12_hands_26 (by decide) ?_
    obtain ⟨p4, hp4, h⟩ := bsome h
    refine v_callVI (o := 0) hX (mM_EachAddsALineModel_tellBest hp4 l ad) kM_X12_tellBest kV_X12_tellBest km_12_297 (by decide) (fun _ => rfl) rfl rfl rfl (Nat.le_of_ble_eq_true rfl) (by decide) dX12_hands_27 ?_
    exact v_retI hR h dX12_hands_30
noncomputable def fM_EachAddsALineModel_hands (N : Nat) (a1 : Int32) (a2 : Int32) (a3 : Int32) (s : vSt) : Option (Int32 × vSt) := gM_EachAddsALineModel_hands_0 N a1 a2 a3 s
theorem mM_EachAddsALineModel_hands {N : Nat} {a1 : Int32} {a2 : Int32} {a3 : Int32} {s : vSt} {r : Int32} {t1 : vSt} (h : fM_EachAddsALineModel_hands N a1 a2 a3 s = some (r, t1)) (l : Launch) (ad : Nat → Nat) : vMI l shM ad yX12_hands cX12_hands 4 .int 4 102 s [.ref (ad 0), .int a1, .int a2, .int a3] r t1 :=
  vMI_of (by decide +kernel) (Nat.le_of_ble_eq_true rfl) (fun P hX hR => wM_EachAddsALineModel_hands_0 hX hR h)
-- M_EachAddsALineModel_cheapest
noncomputable def gM_EachAddsALineModel_cheapest_0 (N : Nat)  (a1 : Int32) (a2 : Int32) (a3 : Int32) (s : vSt) : Option (Int32 × vSt) :=
  (some (s1 s 0 11 0)).bind fun z1 =>
  (fM_EachAddsALineModel_isTrip N a1 a2 a3 z1).bind fun p2 =>
  if p2.1 = 0 then
    some ((-1), p2.2)
  else
    (some (s1 p2.2 0 33 0)).bind fun z3 =>
    (fM_EachAddsALineModel_tellBest N a1 a2 a3 2 z3).bind fun p4 =>
    some (p4.1, p4.2)
set_option maxRecDepth 4000 in
theorem wM_EachAddsALineModel_cheapest_0 {P : vP} {l : Launch} {ad : Nat → Nat} {N : Nat} {r : Int32} {t1 : vSt} (hX : vOK P l shM ad (vR 4 102) cX12_cheapest RX12 4) (hR : (∀ pc lv, narrow .int (.int r) = .int r → decode cX12_cheapest pc = .ok (.ireturn, 1) → P t1 pc lv [.int r]))  {a1 : Int32} {a2 : Int32} {a3 : Int32} {s : vSt} (h : gM_EachAddsALineModel_cheapest_0 N a1 a2 a3 s = some (r, t1)) : P s 0 [(0, .ref (ad 0)), (1, .int a1), (2, .int a2), (3, .int a3)] [] := by
  unfold gM_EachAddsALineModel_cheapest_0 at h
  refine v_aload_n hX dX12_cheapest_0 rfl 0 rfl ?_
  refine v_iconst (v := 0) hX dX12_cheapest_1 (by decide) ?_
  refine pfM_0_11 hX kf_12_96 dX12_cheapest_2 h (fun z1 h => ?_)
  refine v_aload_n hX dX12_cheapest_5 rfl 0 rfl ?_
  refine v_iload_n hX dX12_cheapest_6 rfl 1 rfl ?_
  refine v_iload_n hX dX12_cheapest_7 rfl 2 rfl ?_
  refine v_iload_n hX dX12_cheapest_8 rfl 3 rfl ?_
  obtain ⟨p2, hp2, h⟩ := bsome h
  refine v_callVI (o := 0) hX (mM_EachAddsALineModel_isTrip hp2 l ad) kM_X12_isTrip kV_X12_isTrip km_12_294 (by decide) (fun _ => rfl) rfl rfl rfl (Nat.le_of_ble_eq_true rfl) (by decide) dX12_cheapest_9 ?_
  refine v_if_ne (tgt := 17) hX dX12_cheapest_12 (by decide) h (fun h => ?_) (fun h => ?_)
  · refine v_iconst (v := (-1)) hX dX12_cheapest_15 (by decide) ?_
    exact v_retI hR h dX12_cheapest_16
  · refine v_aload_n hX dX12_cheapest_17 rfl 0 rfl ?_
    refine v_iconst (v := 0) hX dX12_cheapest_18 (by decide) ?_
    refine pfM_0_33 hX kf_12_277 dX12_cheapest_19 h (fun z3 h => ?_)
    refine v_aload_n hX dX12_cheapest_22 rfl 0 rfl ?_
    refine v_iload_n hX dX12_cheapest_23 rfl 1 rfl ?_
    refine v_iload_n hX dX12_cheapest_24 rfl 2 rfl ?_
    refine v_iload_n hX dX12_cheapest_25 rfl 3 rfl ?_
    refine v_iconst (v := 2) hX dX12_cheapest_26 (by decide) ?_
    obtain ⟨p4, hp4, h⟩ := bsome h
    refine v_callVI (o := 0) hX (mM_EachAddsALineModel_tellBest hp4 l ad) kM_X12_tellBest kV_X12_tellBest km_12_297 (by decide) (fun _ => rfl) rfl rfl rfl (Nat.le_of_ble_eq_true rfl) (by decide) dX12_cheapest_27 ?_
    exact v_retI hR h dX12_cheapest_30
noncomputable def fM_EachAddsALineModel_cheapest (N : Nat) (a1 : Int32) (a2 : Int32) (a3 : Int32) (s : vSt) : Option (Int32 × vSt) := gM_EachAddsALineModel_cheapest_0 N a1 a2 a3 s
theorem mM_EachAddsALineModel_cheapest {N : Nat} {a1 : Int32} {a2 : Int32} {a3 : Int32} {s : vSt} {r : Int32} {t1 : vSt} (h : fM_EachAddsALineModel_cheapest N a1 a2 a3 s = some (r, t1)) (l : Launch) (ad : Nat → Nat) : vMI l shM ad yX12_cheapest cX12_cheapest 4 .int 4 102 s [.ref (ad 0), .int a1, .int a2, .int a3] r t1 :=
  vMI_of (by decide +kernel) (Nat.le_of_ble_eq_true rfl) (fun P hX hR => wM_EachAddsALineModel_cheapest_0 hX hR h)
-- M_EachAddsALineModel_without
noncomputable def gM_EachAddsALineModel_without_0 (N : Nat)  (a1 : Int32) (a2 : Int32) (a3 : Int32) (a4 : Int32) (s : vSt) : Option (Int32 × vSt) :=
  (some (s1 s 0 11 0)).bind fun z1 =>
  (fM_EachAddsALineModel_isTrip N a1 a2 a3 z1).bind fun p2 =>
  if p2.1 = 0 then
    some ((-1), p2.2)
  else
    (fM_EachAddsALineModel_in N a4 0 (((1 : Int32) <<< ((p2.2.1 0 0) &&& 31)) - 1) p2.2).bind fun p3 =>
    if p3.1 = 0 then
      some ((-1), p3.2)
    else
      (some (s1 p3.2 0 33 a4)).bind fun z4 =>
      (fM_EachAddsALineModel_tellBest N a1 a2 a3 0 z4).bind fun p5 =>
      (some (s1 p5.2 0 33 0)).bind fun z6 =>
      some (p5.1, z6)
set_option maxRecDepth 4000 in
theorem wM_EachAddsALineModel_without_0 {P : vP} {l : Launch} {ad : Nat → Nat} {N : Nat} {r : Int32} {t1 : vSt} (hX : vOK P l shM ad (vR 4 102) cX12_without RX12 6) (hR : (∀ pc lv, narrow .int (.int r) = .int r → decode cX12_without pc = .ok (.ireturn, 1) → P t1 pc lv [.int r]))  {a1 : Int32} {a2 : Int32} {a3 : Int32} {a4 : Int32} {s : vSt} (h : gM_EachAddsALineModel_without_0 N a1 a2 a3 a4 s = some (r, t1)) : P s 0 [(0, .ref (ad 0)), (1, .int a1), (2, .int a2), (3, .int a3), (4, .int a4)] [] := by
  unfold gM_EachAddsALineModel_without_0 at h
  refine v_aload_n hX dX12_without_0 rfl 0 rfl ?_
  refine v_iconst (v := 0) hX dX12_without_1 (by decide) ?_
  refine pfM_0_11 hX kf_12_96 dX12_without_2 h (fun z1 h => ?_)
  refine v_aload_n hX dX12_without_5 rfl 0 rfl ?_
  refine v_iload_n hX dX12_without_6 rfl 1 rfl ?_
  refine v_iload_n hX dX12_without_7 rfl 2 rfl ?_
  refine v_iload_n hX dX12_without_8 rfl 3 rfl ?_
  obtain ⟨p2, hp2, h⟩ := bsome h
  refine v_callVI (o := 0) hX (mM_EachAddsALineModel_isTrip hp2 l ad) kM_X12_isTrip kV_X12_isTrip km_12_294 (by decide) (fun _ => rfl) rfl rfl rfl (Nat.le_of_ble_eq_true rfl) (by decide) dX12_without_9 ?_
  refine v_if_eq (tgt := 32) hX dX12_without_12 (by decide) h (fun h => ?_) (fun h => ?_)
  · refine v_iconst (v := (-1)) hX dX12_without_32 (by decide) ?_
    exact v_retI hR h dX12_without_33
  · refine v_iload hX dX12_without_15 4 rfl ?_
    refine v_iconst (v := 0) hX dX12_without_17 (by decide) ?_
    refine v_iconst (v := 1) hX dX12_without_18 (by decide) ?_
    refine v_aload_n hX dX12_without_19 rfl 0 rfl ?_
    refine gfM_0_0 hX kf_12_102 dX12_without_20 ?_
    refine v_ishl hX dX12_without_23 ?_
    refine v_iconst (v := 1) hX dX12_without_24 (by decide) ?_
    refine v_isub hX dX12_without_25 ?_
    obtain ⟨p3, hp3, h⟩ := bsome h
    refine v_callSI hX (mM_EachAddsALineModel_in hp3 l ad) kM_X12_in kS_X12_in km_12_105 rfl rfl (Nat.le_of_ble_eq_true rfl) (by decide) dX12_without_26 ?_
    refine v_if_ne (tgt := 34) hX dX12_without_29 (by decide) h (fun h => ?_) (fun h => ?_)
    · refine v_iconst (v := (-1)) hX dX12_without_32 (by decide) ?_
      exact v_retI hR h dX12_without_33
    · refine v_aload_n hX dX12_without_34 rfl 0 rfl ?_
      refine v_iload hX dX12_without_35 4 rfl ?_
      refine pfM_0_33 hX kf_12_277 dX12_without_37 h (fun z4 h => ?_)
      refine v_aload_n hX dX12_without_40 rfl 0 rfl ?_
      refine v_iload_n hX dX12_without_41 rfl 1 rfl ?_
      refine v_iload_n hX dX12_without_42 rfl 2 rfl ?_
      refine v_iload_n hX dX12_without_43 rfl 3 rfl ?_
      refine v_iconst (v := 0) hX dX12_without_44 (by decide) ?_
      obtain ⟨p5, hp5, h⟩ := bsome h
      refine v_callVI (o := 0) hX (mM_EachAddsALineModel_tellBest hp5 l ad) kM_X12_tellBest kV_X12_tellBest km_12_297 (by decide) (fun _ => rfl) rfl rfl rfl (Nat.le_of_ble_eq_true rfl) (by decide) dX12_without_45 ?_
      refine v_istore (lv' := [(5, .int p5.1), (0, .ref (ad 0)), (1, .int a1), (2, .int a2), (3, .int a3), (4, .int a4)]) hX dX12_without_48 (by decide) rfl ?_
      refine v_aload_n hX dX12_without_50 rfl 1 rfl ?_
      refine v_iconst (v := 0) hX dX12_without_51 (by decide) ?_
      refine pfM_0_33 hX kf_12_277 dX12_without_52 h (fun z6 h => ?_)
      refine v_iload hX dX12_without_55 0 rfl ?_
      exact v_retI hR h dX12_without_57
noncomputable def fM_EachAddsALineModel_without (N : Nat) (a1 : Int32) (a2 : Int32) (a3 : Int32) (a4 : Int32) (s : vSt) : Option (Int32 × vSt) := gM_EachAddsALineModel_without_0 N a1 a2 a3 a4 s
theorem mM_EachAddsALineModel_without {N : Nat} {a1 : Int32} {a2 : Int32} {a3 : Int32} {a4 : Int32} {s : vSt} {r : Int32} {t1 : vSt} (h : fM_EachAddsALineModel_without N a1 a2 a3 a4 s = some (r, t1)) (l : Launch) (ad : Nat → Nat) : vMI l shM ad yX12_without cX12_without 6 .int 4 102 s [.ref (ad 0), .int a1, .int a2, .int a3, .int a4] r t1 :=
  vMI_of (by decide +kernel) (Nat.le_of_ble_eq_true rfl) (fun P hX hR => wM_EachAddsALineModel_without_0 hX hR h)
-- M_EachAddsALineModel_isFree
noncomputable def gM_EachAddsALineModel_isFree_26 (N : Nat)   (s : vSt) : Option (Int32 × vSt) :=
  some (0, s)
set_option maxRecDepth 4000 in
theorem wM_EachAddsALineModel_isFree_26 {P : vP} {l : Launch} {ad : Nat → Nat} {N : Nat} {r : Int32} {t1 : vSt} (hX : vOK P l shM ad (vR 1 21) cX12_isFree RX12 2) (hR : (∀ pc lv, narrow .boolean (.int r) = .int r → decode cX12_isFree pc = .ok (.ireturn, 1) → P t1 pc lv [.int r]))   {s : vSt} (h : gM_EachAddsALineModel_isFree_26 N s = some (r, t1)) : P s 26 [] [] := by
  unfold gM_EachAddsALineModel_isFree_26 at h
  refine v_iconst (v := 0) hX dX12_isFree_26 (by decide) ?_
  exact v_retZ0 hR h dX12_isFree_27
noncomputable def gM_EachAddsALineModel_isFree_0 (N : Nat)  (a1 : Int32) (s : vSt) : Option (Int32 × vSt) :=
  if (a1 / 2) = (s.1 0 35) then
    gM_EachAddsALineModel_isFree_26 N s
  else
    (fM_EachAddsALineModel_getter N a1 s).bind fun p1 =>
    if p1.1 = (p1.2.1 0 37) then
      gM_EachAddsALineModel_isFree_26 N p1.2
    else
      some (1, p1.2)
set_option maxRecDepth 4000 in
theorem wM_EachAddsALineModel_isFree_0 {P : vP} {l : Launch} {ad : Nat → Nat} {N : Nat} {r : Int32} {t1 : vSt} (hX : vOK P l shM ad (vR 1 21) cX12_isFree RX12 2) (hR : (∀ pc lv, narrow .boolean (.int r) = .int r → decode cX12_isFree pc = .ok (.ireturn, 1) → P t1 pc lv [.int r]))  {a1 : Int32} {s : vSt} (h : gM_EachAddsALineModel_isFree_0 N a1 s = some (r, t1)) : P s 0 [(0, .ref (ad 0)), (1, .int a1)] [] := by
  unfold gM_EachAddsALineModel_isFree_0 at h
  refine v_iload_n hX dX12_isFree_0 rfl 1 rfl ?_
  refine v_iconst (v := 2) hX dX12_isFree_1 (by decide) ?_
  refine v_idiv hX dX12_isFree_2 (by decide) ?_
  refine v_aload_n hX dX12_isFree_3 rfl 0 rfl ?_
  refine gfM_0_35 hX kf_12_55 dX12_isFree_4 ?_
  refine v_icmp_eq (tgt := 26) hX dX12_isFree_7 (by decide) h (fun h => ?_) (fun h => ?_)
  · exact v_sub hX [] (by rfl) (wM_EachAddsALineModel_isFree_26 hX hR  h)
  · refine v_aload_n hX dX12_isFree_10 rfl 0 rfl ?_
    refine v_iload_n hX dX12_isFree_11 rfl 1 rfl ?_
    obtain ⟨p1, hp1, h⟩ := bsome h
    refine v_callVI (o := 0) hX (mM_EachAddsALineModel_getter hp1 l ad) kM_X12_getter kV_X12_getter km_12_268 (by decide) (fun _ => rfl) rfl rfl rfl (Nat.le_of_ble_eq_true rfl) (by decide) dX12_isFree_12 ?_
    refine v_aload_n hX dX12_isFree_15 rfl 0 rfl ?_
    refine gfM_0_37 hX kf_12_62 dX12_isFree_16 ?_
    refine v_icmp_eq (tgt := 26) hX dX12_isFree_19 (by decide) h (fun h => ?_) (fun h => ?_)
    · exact v_sub hX [] (by rfl) (wM_EachAddsALineModel_isFree_26 hX hR  h)
    · refine v_iconst (v := 1) hX dX12_isFree_22 (by decide) ?_
      refine v_goto (tgt := 27) hX dX12_isFree_23 (by decide) ?_
      exact v_retZ1 hR h dX12_isFree_27
noncomputable def fM_EachAddsALineModel_isFree (N : Nat) (a1 : Int32) (s : vSt) : Option (Int32 × vSt) := gM_EachAddsALineModel_isFree_0 N a1 s
theorem mM_EachAddsALineModel_isFree {N : Nat} {a1 : Int32} {s : vSt} {r : Int32} {t1 : vSt} (h : fM_EachAddsALineModel_isFree N a1 s = some (r, t1)) (l : Launch) (ad : Nat → Nat) : vMI l shM ad yX12_isFree cX12_isFree 2 .boolean 1 21 s [.ref (ad 0), .int a1] r t1 :=
  vMI_of (by decide +kernel) (Nat.le_of_ble_eq_true rfl) (fun P hX hR => wM_EachAddsALineModel_isFree_0 hX hR h)
-- M_EachAddsALineModel_countWays
noncomputable def gM_EachAddsALineModel_countWays_109 (N : Nat) (r63 : Int32 → Int32 → Int32 → Int64 → Int32 → Int32 → Int32 → vSt → Option (Int64 × vSt)) (a1 : Int32) (a2 : Int32) (a3 : Int32) (a4 : Int64) (a6 : Int32) (a7 : Int32) (a8 : Int32) (s : vSt) : Option (Int64 × vSt) :=
  (some (a8 + 1 : Int32)).bind fun v1 =>
  r63 a1 a2 a3 a4 a6 a7 v1 s
set_option maxRecDepth 4000 in
theorem wM_EachAddsALineModel_countWays_109 {P : vP} {l : Launch} {ad : Nat → Nat} {N : Nat} {r63 : Int32 → Int32 → Int32 → Int64 → Int32 → Int32 → Int32 → vSt → Option (Int64 × vSt)} {r : Int64} {t1 : vSt} (hX : vOK P l shM ad (vR 2 44) cX12_countWays RX12 9) (hR : (∀ pc lv, decode cX12_countWays pc = .ok (.lreturn, 1) → P t1 pc lv [.long r])) (H63 : ∀ (a1 : Int32) (a2 : Int32) (a3 : Int32) (a4 : Int64) (a6 : Int32) (a7 : Int32) (a8 : Int32) (s : vSt), r63 a1 a2 a3 a4 a6 a7 a8 s = some (r, t1) → P s 63 [(0, .ref (ad 0)), (1, .int a1), (2, .int a2), (3, .int a3), (4, .long a4), (6, .int a6), (7, .int a7), (8, .int a8)] []) {a1 : Int32} {a2 : Int32} {a3 : Int32} {a4 : Int64} {a6 : Int32} {a7 : Int32} {a8 : Int32} {s : vSt} (h : gM_EachAddsALineModel_countWays_109 N r63 a1 a2 a3 a4 a6 a7 a8 s = some (r, t1)) : P s 109 [(0, .ref (ad 0)), (1, .int a1), (2, .int a2), (3, .int a3), (4, .long a4), (6, .int a6), (7, .int a7), (8, .int a8)] [] := by
  unfold gM_EachAddsALineModel_countWays_109 at h
  refine v_iincN hX dX12_countWays_109 (j := 7) rfl (c := 1) (by decide) (by decide) h (fun v1 h => ?_)
  refine v_show (lv' := [(8, .int v1), (0, .ref (ad 0)), (1, .int a1), (2, .int a2), (3, .int a3), (4, .long a4), (6, .int a6), (7, .int a7)]) hX rfl ?_
  refine v_goto (tgt := 63) hX dX12_countWays_112 (by decide) ?_
  exact v_sub hX [1, 2, 3, 4, 5, 6, 7, 0] (by rfl) (H63 _ _ _ _ _ _ _ _ h)
noncomputable def gM_EachAddsALineModel_countWays_138 (N : Nat) (r10 : Int32 → Int32 → Int32 → Int64 → Int32 → vSt → Option (Int64 × vSt)) (a1 : Int32) (a2 : Int32) (a3 : Int32) (a6 : Int32) (k0 : Int64) (k1 : Int64) (s : vSt) : Option (Int64 × vSt) :=
  (some (k0 + k1 : Int64)).bind fun v1 =>
  (some (a6 + 1 : Int32)).bind fun v2 =>
  r10 a1 a2 a3 v1 v2 s
set_option maxRecDepth 4000 in
theorem wM_EachAddsALineModel_countWays_138 {P : vP} {l : Launch} {ad : Nat → Nat} {N : Nat} {r10 : Int32 → Int32 → Int32 → Int64 → Int32 → vSt → Option (Int64 × vSt)} {r : Int64} {t1 : vSt} (hX : vOK P l shM ad (vR 2 44) cX12_countWays RX12 9) (hR : (∀ pc lv, decode cX12_countWays pc = .ok (.lreturn, 1) → P t1 pc lv [.long r])) (H10 : ∀ (a1 : Int32) (a2 : Int32) (a3 : Int32) (a4 : Int64) (a6 : Int32) (s : vSt), r10 a1 a2 a3 a4 a6 s = some (r, t1) → P s 10 [(0, .ref (ad 0)), (1, .int a1), (2, .int a2), (3, .int a3), (4, .long a4), (6, .int a6)] []) {a1 : Int32} {a2 : Int32} {a3 : Int32} {a6 : Int32} {k0 : Int64} {k1 : Int64} {s : vSt} (h : gM_EachAddsALineModel_countWays_138 N r10 a1 a2 a3 a6 k0 k1 s = some (r, t1)) : P s 138 [(0, .ref (ad 0)), (1, .int a1), (2, .int a2), (3, .int a3), (6, .int a6)] [.long k1, .long k0] := by
  unfold gM_EachAddsALineModel_countWays_138 at h
  refine v_ladd hX dX12_countWays_138 ?_
  refine v_nmL hX h (fun v1 h => ?_)
  refine v_lstore (lv' := [(4, .long v1), (0, .ref (ad 0)), (1, .int a1), (2, .int a2), (3, .int a3), (6, .int a6)]) hX dX12_countWays_139 (by decide) rfl ?_
  refine v_iincN hX dX12_countWays_141 (j := 5) rfl (c := 1) (by decide) (by decide) h (fun v2 h => ?_)
  refine v_show (lv' := [(6, .int v2), (4, .long v1), (0, .ref (ad 0)), (1, .int a1), (2, .int a2), (3, .int a3)]) hX rfl ?_
  refine v_goto (tgt := 10) hX dX12_countWays_144 (by decide) ?_
  exact v_sub hX [2, 3, 4, 5, 1, 0] (by rfl) (H10 _ _ _ _ _ _ h)
noncomputable def gM_EachAddsALineModel_countWays_115 (N : Nat) (r10 : Int32 → Int32 → Int32 → Int64 → Int32 → vSt → Option (Int64 × vSt)) (a1 : Int32) (a2 : Int32) (a3 : Int32) (a4 : Int64) (a6 : Int32) (a7 : Int32) (s : vSt) : Option (Int64 × vSt) :=
  (fM_EachAddsALineModel_getter N a7 s).bind fun p1 =>
  if p1.1 = a2 then
    (ldL p1.2 14 40 a7).bind fun v2 =>
    gM_EachAddsALineModel_countWays_138 N r10 a1 a2 a3 a6 a4 v2 p1.2
  else
    gM_EachAddsALineModel_countWays_138 N r10 a1 a2 a3 a6 a4 0 p1.2
set_option maxRecDepth 4000 in
theorem wM_EachAddsALineModel_countWays_115 {P : vP} {l : Launch} {ad : Nat → Nat} {N : Nat} {r10 : Int32 → Int32 → Int32 → Int64 → Int32 → vSt → Option (Int64 × vSt)} {r : Int64} {t1 : vSt} (hX : vOK P l shM ad (vR 2 44) cX12_countWays RX12 9) (hR : (∀ pc lv, decode cX12_countWays pc = .ok (.lreturn, 1) → P t1 pc lv [.long r])) (H10 : ∀ (a1 : Int32) (a2 : Int32) (a3 : Int32) (a4 : Int64) (a6 : Int32) (s : vSt), r10 a1 a2 a3 a4 a6 s = some (r, t1) → P s 10 [(0, .ref (ad 0)), (1, .int a1), (2, .int a2), (3, .int a3), (4, .long a4), (6, .int a6)] []) {a1 : Int32} {a2 : Int32} {a3 : Int32} {a4 : Int64} {a6 : Int32} {a7 : Int32} {s : vSt} (h : gM_EachAddsALineModel_countWays_115 N r10 a1 a2 a3 a4 a6 a7 s = some (r, t1)) : P s 115 [(0, .ref (ad 0)), (1, .int a1), (2, .int a2), (3, .int a3), (4, .long a4), (6, .int a6), (7, .int a7)] [] := by
  unfold gM_EachAddsALineModel_countWays_115 at h
  refine v_lload hX dX12_countWays_115 4 rfl ?_
  refine v_aload_n hX dX12_countWays_117 rfl 0 rfl ?_
  refine v_iload hX dX12_countWays_118 6 rfl ?_
  obtain ⟨p1, hp1, h⟩ := bsome h
  refine v_callVI (o := 0) hX (mM_EachAddsALineModel_getter hp1 l ad) kM_X12_getter kV_X12_getter km_12_268 (by decide) (fun _ => rfl) rfl rfl rfl (Nat.le_of_ble_eq_true rfl) (by decide) dX12_countWays_120 ?_
  refine v_iload_n hX dX12_countWays_123 rfl 2 rfl ?_
  refine v_icmp_ne (tgt := 137) hX dX12_countWays_124 (by decide) h (fun h => ?_) (fun h => ?_)
  · refine v_aload_n hX dX12_countWays_127 rfl 0 rfl ?_
    refine gfM_0_36 hX kf_12_58 dX12_countWays_128 ?_
    refine v_iload hX dX12_countWays_131 6 rfl ?_
    refine alM_14 hX dX12_countWays_133 h (fun v2 h => ?_)
    refine v_goto (tgt := 138) hX dX12_countWays_134 (by decide) ?_
    exact v_sub hX [0, 1, 2, 3, 5] (by rfl) (wM_EachAddsALineModel_countWays_138 hX hR H10 h)
  · refine v_lconst (v := 0) hX dX12_countWays_137 (by decide) ?_
    exact v_sub hX [0, 1, 2, 3, 5] (by rfl) (wM_EachAddsALineModel_countWays_138 hX hR H10 h)
noncomputable def gM_EachAddsALineModel_countWays_63 (N : Nat) (r10 : Int32 → Int32 → Int32 → Int64 → Int32 → vSt → Option (Int64 × vSt)) : Nat → Int32 → Int32 → Int32 → Int64 → Int32 → Int32 → Int32 → vSt → Option (Int64 × vSt)
  | 0, _, _, _, _, _, _, _, _ => none
  | n + 1, a1, a2, a3, a4, a6, a7, a8, s =>
    if (s.1 0 30) ≤ a8 then
      gM_EachAddsALineModel_countWays_115 N r10 a1 a2 a3 a4 a6 a7 s
    else
      (fM_EachAddsALineModel_isFree N a7 s).bind fun p1 =>
      if p1.1 = 0 then
        gM_EachAddsALineModel_countWays_115 N r10 a1 a2 a3 a4 a6 a7 p1.2
      else
        (fM_EachAddsALineModel_follows N a7 a8 p1.2).bind fun p2 =>
        if p2.1 = 0 then
          gM_EachAddsALineModel_countWays_109 N (gM_EachAddsALineModel_countWays_63 N r10 n) a1 a2 a3 a4 a6 a7 a8 p2.2
        else
          (ldL p2.2 14 40 a7).bind fun v3 =>
          (ldL p2.2 14 40 a8).bind fun v4 =>
          (stoL p2.2 14 40 a7 (v3 + v4)).bind fun z5 =>
          gM_EachAddsALineModel_countWays_109 N (gM_EachAddsALineModel_countWays_63 N r10 n) a1 a2 a3 a4 a6 a7 a8 z5
set_option maxRecDepth 4000 in
theorem wM_EachAddsALineModel_countWays_63 {P : vP} {l : Launch} {ad : Nat → Nat} {N : Nat} {r10 : Int32 → Int32 → Int32 → Int64 → Int32 → vSt → Option (Int64 × vSt)} {r : Int64} {t1 : vSt} (hX : vOK P l shM ad (vR 2 44) cX12_countWays RX12 9) (hR : (∀ pc lv, decode cX12_countWays pc = .ok (.lreturn, 1) → P t1 pc lv [.long r])) (H10 : ∀ (a1 : Int32) (a2 : Int32) (a3 : Int32) (a4 : Int64) (a6 : Int32) (s : vSt), r10 a1 a2 a3 a4 a6 s = some (r, t1) → P s 10 [(0, .ref (ad 0)), (1, .int a1), (2, .int a2), (3, .int a3), (4, .long a4), (6, .int a6)] []) : ∀ (n : Nat) (a1 : Int32) (a2 : Int32) (a3 : Int32) (a4 : Int64) (a6 : Int32) (a7 : Int32) (a8 : Int32) (s : vSt), gM_EachAddsALineModel_countWays_63 N r10 n a1 a2 a3 a4 a6 a7 a8 s = some (r, t1) → P s 63 [(0, .ref (ad 0)), (1, .int a1), (2, .int a2), (3, .int a3), (4, .long a4), (6, .int a6), (7, .int a7), (8, .int a8)] [] := by
  intro n
  induction n with
  | zero => intro a1 a2 a3 a4 a6 a7 a8 s h; cases h
  | succ n ih =>
    intro a1 a2 a3 a4 a6 a7 a8 s h
    unfold gM_EachAddsALineModel_countWays_63 at h
    refine v_iload hX dX12_countWays_63 7 rfl ?_
    refine v_aload_n hX dX12_countWays_65 rfl 0 rfl ?_
    refine gfM_0_30 hX kf_12_262 dX12_countWays_66 ?_
    refine v_icmp_ge (tgt := 115) hX dX12_countWays_69 (by decide) h (fun h => ?_) (fun h => ?_)
    · exact v_sub hX [0, 1, 2, 3, 4, 5, 6] (by rfl) (wM_EachAddsALineModel_countWays_115 hX hR H10 h)
    · refine v_aload_n hX dX12_countWays_72 rfl 0 rfl ?_
      refine v_iload hX dX12_countWays_73 6 rfl ?_
      obtain ⟨p1, hp1, h⟩ := bsome h
      refine v_callVI (o := 0) hX (mM_EachAddsALineModel_isFree hp1 l ad) kM_X12_isFree kV_X12_isFree km_12_305 (by decide) (fun _ => rfl) rfl rfl rfl (Nat.le_of_ble_eq_true rfl) (by decide) dX12_countWays_75 ?_
      refine v_if_eq (tgt := 115) hX dX12_countWays_78 (by decide) h (fun h => ?_) (fun h => ?_)
      · exact v_sub hX [0, 1, 2, 3, 4, 5, 6] (by rfl) (wM_EachAddsALineModel_countWays_115 hX hR H10 h)
      · refine v_aload_n hX dX12_countWays_81 rfl 0 rfl ?_
        refine v_iload hX dX12_countWays_82 6 rfl ?_
        refine v_iload hX dX12_countWays_84 7 rfl ?_
        obtain ⟨p2, hp2, h⟩ := bsome h
        refine v_callVI (o := 0) hX (mM_EachAddsALineModel_follows hp2 l ad) kM_X12_follows kV_X12_follows km_12_280 (by decide) (fun _ => rfl) rfl rfl rfl (Nat.le_of_ble_eq_true rfl) (by decide) dX12_countWays_86 ?_
        refine v_if_eq (tgt := 109) hX dX12_countWays_89 (by decide) h (fun h => ?_) (fun h => ?_)
        · exact v_sub hX [0, 1, 2, 3, 4, 5, 6, 7] (by rfl) (wM_EachAddsALineModel_countWays_109 hX hR ih h)
        · refine v_aload_n hX dX12_countWays_92 rfl 0 rfl ?_
          refine gfM_0_36 hX kf_12_58 dX12_countWays_93 ?_
          refine v_iload hX dX12_countWays_96 6 rfl ?_
          refine v_dup2 hX dX12_countWays_98 rfl rfl ?_
          refine alM_14 hX dX12_countWays_99 h (fun v3 h => ?_)
          refine v_aload_n hX dX12_countWays_100 rfl 0 rfl ?_
          refine gfM_0_36 hX kf_12_58 dX12_countWays_101 ?_
          refine v_iload hX dX12_countWays_104 7 rfl ?_
          refine alM_14 hX dX12_countWays_106 h (fun v4 h => ?_)
          refine v_ladd hX dX12_countWays_107 ?_
          refine asM_14 hX dX12_countWays_108 h (fun z5 h => ?_)
          exact v_sub hX [0, 1, 2, 3, 4, 5, 6, 7] (by rfl) (wM_EachAddsALineModel_countWays_109 hX hR ih h)
noncomputable def gM_EachAddsALineModel_countWays_59 (N : Nat) (r10 : Int32 → Int32 → Int32 → Int64 → Int32 → vSt → Option (Int64 × vSt)) (a1 : Int32) (a2 : Int32) (a3 : Int32) (a4 : Int64) (a6 : Int32) (a7 : Int32) (k1 : Int32) (k2 : Int64) (s : vSt) : Option (Int64 × vSt) :=
  (stoL s 14 40 k1 k2).bind fun z1 =>
  gM_EachAddsALineModel_countWays_63 N r10 N a1 a2 a3 a4 a6 a7 0 z1
set_option maxRecDepth 4000 in
theorem wM_EachAddsALineModel_countWays_59 {P : vP} {l : Launch} {ad : Nat → Nat} {N : Nat} {r10 : Int32 → Int32 → Int32 → Int64 → Int32 → vSt → Option (Int64 × vSt)} {r : Int64} {t1 : vSt} (hX : vOK P l shM ad (vR 2 44) cX12_countWays RX12 9) (hR : (∀ pc lv, decode cX12_countWays pc = .ok (.lreturn, 1) → P t1 pc lv [.long r])) (H10 : ∀ (a1 : Int32) (a2 : Int32) (a3 : Int32) (a4 : Int64) (a6 : Int32) (s : vSt), r10 a1 a2 a3 a4 a6 s = some (r, t1) → P s 10 [(0, .ref (ad 0)), (1, .int a1), (2, .int a2), (3, .int a3), (4, .long a4), (6, .int a6)] []) {a1 : Int32} {a2 : Int32} {a3 : Int32} {a4 : Int64} {a6 : Int32} {a7 : Int32} {k1 : Int32} {k2 : Int64} {s : vSt} (h : gM_EachAddsALineModel_countWays_59 N r10 a1 a2 a3 a4 a6 a7 k1 k2 s = some (r, t1)) : P s 59 [(0, .ref (ad 0)), (1, .int a1), (2, .int a2), (3, .int a3), (4, .long a4), (6, .int a6), (7, .int a7)] [.long k2, .int k1, .ref (ad 14)] := by
  unfold gM_EachAddsALineModel_countWays_59 at h
  refine asM_14 hX dX12_countWays_59 h (fun z1 h => ?_)
  refine v_iconst (v := 0) hX dX12_countWays_60 (by decide) ?_
  refine v_istore (lv' := [(8, .int 0), (0, .ref (ad 0)), (1, .int a1), (2, .int a2), (3, .int a3), (4, .long a4), (6, .int a6), (7, .int a7)]) hX dX12_countWays_61 (by decide) rfl ?_
  exact v_sub hX [1, 2, 3, 4, 5, 6, 7, 0] (by rfl) (wM_EachAddsALineModel_countWays_63 hX hR H10 N _ _ _ _ _ _ _ _ h)
noncomputable def gM_EachAddsALineModel_countWays_58 (N : Nat) (r10 : Int32 → Int32 → Int32 → Int64 → Int32 → vSt → Option (Int64 × vSt)) (a1 : Int32) (a2 : Int32) (a3 : Int32) (a4 : Int64) (a6 : Int32) (a7 : Int32) (k1 : Int32) (s : vSt) : Option (Int64 × vSt) :=
  gM_EachAddsALineModel_countWays_59 N r10 a1 a2 a3 a4 a6 a7 k1 0 s
set_option maxRecDepth 4000 in
theorem wM_EachAddsALineModel_countWays_58 {P : vP} {l : Launch} {ad : Nat → Nat} {N : Nat} {r10 : Int32 → Int32 → Int32 → Int64 → Int32 → vSt → Option (Int64 × vSt)} {r : Int64} {t1 : vSt} (hX : vOK P l shM ad (vR 2 44) cX12_countWays RX12 9) (hR : (∀ pc lv, decode cX12_countWays pc = .ok (.lreturn, 1) → P t1 pc lv [.long r])) (H10 : ∀ (a1 : Int32) (a2 : Int32) (a3 : Int32) (a4 : Int64) (a6 : Int32) (s : vSt), r10 a1 a2 a3 a4 a6 s = some (r, t1) → P s 10 [(0, .ref (ad 0)), (1, .int a1), (2, .int a2), (3, .int a3), (4, .long a4), (6, .int a6)] []) {a1 : Int32} {a2 : Int32} {a3 : Int32} {a4 : Int64} {a6 : Int32} {a7 : Int32} {k1 : Int32} {s : vSt} (h : gM_EachAddsALineModel_countWays_58 N r10 a1 a2 a3 a4 a6 a7 k1 s = some (r, t1)) : P s 58 [(0, .ref (ad 0)), (1, .int a1), (2, .int a2), (3, .int a3), (4, .long a4), (6, .int a6), (7, .int a7)] [.int k1, .ref (ad 14)] := by
  unfold gM_EachAddsALineModel_countWays_58 at h
  refine v_lconst (v := 0) hX dX12_countWays_58 (by decide) ?_
  exact v_sub hX [0, 1, 2, 3, 4, 5, 6] (by rfl) (wM_EachAddsALineModel_countWays_59 hX hR H10 h)
noncomputable def gM_EachAddsALineModel_countWays_10 (N : Nat)  : Nat → Int32 → Int32 → Int32 → Int64 → Int32 → vSt → Option (Int64 × vSt)
  | 0, _, _, _, _, _, _ => none
  | n + 1, a1, a2, a3, a4, a6, s =>
    if (s.1 0 30) ≤ a6 then
      some (a4, s)
    else
      (ld s 11 40 a6).bind fun v1 =>
      (fM_EachAddsALineModel_begins N v1 a1 a3 s).bind fun p2 =>
      if p2.1 = 0 then
        gM_EachAddsALineModel_countWays_58 N (gM_EachAddsALineModel_countWays_10 N n) a1 a2 a3 a4 a6 v1 v1 p2.2
      else
        (fM_EachAddsALineModel_isFree N v1 p2.2).bind fun p3 =>
        if p3.1 = 0 then
          gM_EachAddsALineModel_countWays_58 N (gM_EachAddsALineModel_countWays_10 N n) a1 a2 a3 a4 a6 v1 v1 p3.2
        else
          gM_EachAddsALineModel_countWays_59 N (gM_EachAddsALineModel_countWays_10 N n) a1 a2 a3 a4 a6 v1 v1 1 p3.2
set_option maxRecDepth 4000 in
theorem wM_EachAddsALineModel_countWays_10 {P : vP} {l : Launch} {ad : Nat → Nat} {N : Nat} {r : Int64} {t1 : vSt} (hX : vOK P l shM ad (vR 2 44) cX12_countWays RX12 9) (hR : (∀ pc lv, decode cX12_countWays pc = .ok (.lreturn, 1) → P t1 pc lv [.long r]))  : ∀ (n : Nat) (a1 : Int32) (a2 : Int32) (a3 : Int32) (a4 : Int64) (a6 : Int32) (s : vSt), gM_EachAddsALineModel_countWays_10 N n a1 a2 a3 a4 a6 s = some (r, t1) → P s 10 [(0, .ref (ad 0)), (1, .int a1), (2, .int a2), (3, .int a3), (4, .long a4), (6, .int a6)] [] := by
  intro n
  induction n with
  | zero => intro a1 a2 a3 a4 a6 s h; cases h
  | succ n ih =>
    intro a1 a2 a3 a4 a6 s h
    unfold gM_EachAddsALineModel_countWays_10 at h
    refine v_iload hX dX12_countWays_10 5 rfl ?_
    refine v_aload_n hX dX12_countWays_12 rfl 0 rfl ?_
    refine gfM_0_30 hX kf_12_262 dX12_countWays_13 ?_
    refine v_icmp_ge (tgt := 147) hX dX12_countWays_16 (by decide) h (fun h => ?_) (fun h => ?_)
    · refine v_lload hX dX12_countWays_147 4 rfl ?_
      exact v_retL hR h dX12_countWays_149
    · refine v_aload_n hX dX12_countWays_19 rfl 0 rfl ?_
      refine gfM_0_29 hX kf_12_41 dX12_countWays_20 ?_
      refine v_iload hX dX12_countWays_23 5 rfl ?_
      refine alM_11 hX dX12_countWays_25 h (fun v1 h => ?_)
      refine v_istore (lv' := [(7, .int v1), (0, .ref (ad 0)), (1, .int a1), (2, .int a2), (3, .int a3), (4, .long a4), (6, .int a6)]) hX dX12_countWays_26 (by decide) rfl ?_
      refine v_aload_n hX dX12_countWays_28 rfl 1 rfl ?_
      refine gfM_0_36 hX kf_12_58 dX12_countWays_29 ?_
      refine v_iload hX dX12_countWays_32 0 rfl ?_
      refine v_aload_n hX dX12_countWays_34 rfl 1 rfl ?_
      refine v_iload hX dX12_countWays_35 0 rfl ?_
      refine v_iload_n hX dX12_countWays_37 rfl 2 rfl ?_
      refine v_iload_n hX dX12_countWays_38 rfl 4 rfl ?_
      obtain ⟨p2, hp2, h⟩ := bsome h
      refine v_callVI (o := 0) hX (mM_EachAddsALineModel_begins hp2 l ad) kM_X12_begins kV_X12_begins km_12_291 (by decide) (fun _ => rfl) rfl rfl rfl (Nat.le_of_ble_eq_true rfl) (by decide) dX12_countWays_39 ?_
      refine v_if_eq (tgt := 58) hX dX12_countWays_42 (by decide) h (fun h => ?_) (fun h => ?_)
      · exact v_sub hX [1, 2, 3, 4, 5, 6, 0] (by rfl) (wM_EachAddsALineModel_countWays_58 hX hR ih h)
      · refine v_aload_n hX dX12_countWays_45 rfl 1 rfl ?_
        refine v_iload hX dX12_countWays_46 0 rfl ?_
        obtain ⟨p3, hp3, h⟩ := bsome h
        refine v_callVI (o := 0) hX (mM_EachAddsALineModel_isFree hp3 l ad) kM_X12_isFree kV_X12_isFree km_12_305 (by decide) (fun _ => rfl) rfl rfl rfl (Nat.le_of_ble_eq_true rfl) (by decide) dX12_countWays_48 ?_
        refine v_if_eq (tgt := 58) hX dX12_countWays_51 (by decide) h (fun h => ?_) (fun h => ?_)
        · exact v_sub hX [1, 2, 3, 4, 5, 6, 0] (by rfl) (wM_EachAddsALineModel_countWays_58 hX hR ih h)
        · refine v_lconst (v := 1) hX dX12_countWays_54 (by decide) ?_
          refine v_goto (tgt := 59) hX dX12_countWays_55 (by decide) ?_
          exact v_sub hX [1, 2, 3, 4, 5, 6, 0] (by rfl) (wM_EachAddsALineModel_countWays_59 hX hR ih h)
noncomputable def gM_EachAddsALineModel_countWays_0 (N : Nat)  (a1 : Int32) (a2 : Int32) (a3 : Int32) (s : vSt) : Option (Int64 × vSt) :=
  (fM_EachAddsALineModel_findOrder N s).bind fun z1 =>
  gM_EachAddsALineModel_countWays_10 N N a1 a2 a3 0 0 z1
set_option maxRecDepth 4000 in
theorem wM_EachAddsALineModel_countWays_0 {P : vP} {l : Launch} {ad : Nat → Nat} {N : Nat} {r : Int64} {t1 : vSt} (hX : vOK P l shM ad (vR 2 44) cX12_countWays RX12 9) (hR : (∀ pc lv, decode cX12_countWays pc = .ok (.lreturn, 1) → P t1 pc lv [.long r]))  {a1 : Int32} {a2 : Int32} {a3 : Int32} {s : vSt} (h : gM_EachAddsALineModel_countWays_0 N a1 a2 a3 s = some (r, t1)) : P s 0 [(0, .ref (ad 0)), (1, .int a1), (2, .int a2), (3, .int a3)] [] := by
  unfold gM_EachAddsALineModel_countWays_0 at h
  refine v_aload_n hX dX12_countWays_0 rfl 0 rfl ?_
  obtain ⟨z1, hz1, h⟩ := bsome h
  refine v_callVV (o := 0) hX (mM_EachAddsALineModel_findOrder hz1 l ad) kM_X12_findOrder kV_X12_findOrder km_12_271 (by decide) (fun _ => rfl) rfl rfl rfl (Nat.le_of_ble_eq_true rfl) (by decide) dX12_countWays_1 ?_
  refine v_lconst (v := 0) hX dX12_countWays_4 (by decide) ?_
  refine v_lstore (lv' := [(4, .long 0), (0, .ref (ad 0)), (1, .int a1), (2, .int a2), (3, .int a3)]) hX dX12_countWays_5 (by decide) rfl ?_
  refine v_iconst (v := 0) hX dX12_countWays_7 (by decide) ?_
  refine v_istore (lv' := [(6, .int 0), (4, .long 0), (0, .ref (ad 0)), (1, .int a1), (2, .int a2), (3, .int a3)]) hX dX12_countWays_8 (by decide) rfl ?_
  exact v_sub hX [2, 3, 4, 5, 1, 0] (by rfl) (wM_EachAddsALineModel_countWays_10 hX hR  N _ _ _ _ _ _ h)
noncomputable def fM_EachAddsALineModel_countWays (N : Nat) (a1 : Int32) (a2 : Int32) (a3 : Int32) (s : vSt) : Option (Int64 × vSt) := gM_EachAddsALineModel_countWays_0 N a1 a2 a3 s
theorem mM_EachAddsALineModel_countWays {N : Nat} {a1 : Int32} {a2 : Int32} {a3 : Int32} {s : vSt} {r : Int64} {t1 : vSt} (h : fM_EachAddsALineModel_countWays N a1 a2 a3 s = some (r, t1)) (l : Launch) (ad : Nat → Nat) : vML l shM ad yX12_countWays cX12_countWays 9 2 44 s [.ref (ad 0), .int a1, .int a2, .int a3] r t1 :=
  vML_of (by decide +kernel) (Nat.le_of_ble_eq_true rfl) (fun P hX hR => wM_EachAddsALineModel_countWays_0 hX hR h)
-- M_EachAddsALineModel_ways
noncomputable def gM_EachAddsALineModel_ways_0 (N : Nat)  (a1 : Int32) (a2 : Int32) (a3 : Int32) (s : vSt) : Option (Int64 × vSt) :=
  (some (s1 s 0 11 0)).bind fun z1 =>
  (fM_EachAddsALineModel_isTrip N a1 a2 a3 z1).bind fun p2 =>
  if p2.1 = 0 then
    some ((-1), p2.2)
  else
    (fM_EachAddsALineModel_countWays N a1 a2 a3 p2.2).bind fun p3 =>
    some (p3.1, p3.2)
set_option maxRecDepth 4000 in
theorem wM_EachAddsALineModel_ways_0 {P : vP} {l : Launch} {ad : Nat → Nat} {N : Nat} {r : Int64} {t1 : vSt} (hX : vOK P l shM ad (vR 3 72) cX12_ways RX12 4) (hR : (∀ pc lv, decode cX12_ways pc = .ok (.lreturn, 1) → P t1 pc lv [.long r]))  {a1 : Int32} {a2 : Int32} {a3 : Int32} {s : vSt} (h : gM_EachAddsALineModel_ways_0 N a1 a2 a3 s = some (r, t1)) : P s 0 [(0, .ref (ad 0)), (1, .int a1), (2, .int a2), (3, .int a3)] [] := by
  unfold gM_EachAddsALineModel_ways_0 at h
  refine v_aload_n hX dX12_ways_0 rfl 0 rfl ?_
  refine v_iconst (v := 0) hX dX12_ways_1 (by decide) ?_
  refine pfM_0_11 hX kf_12_96 dX12_ways_2 h (fun z1 h => ?_)
  refine v_aload_n hX dX12_ways_5 rfl 0 rfl ?_
  refine v_iload_n hX dX12_ways_6 rfl 1 rfl ?_
  refine v_iload_n hX dX12_ways_7 rfl 2 rfl ?_
  refine v_iload_n hX dX12_ways_8 rfl 3 rfl ?_
  obtain ⟨p2, hp2, h⟩ := bsome h
  refine v_callVI (o := 0) hX (mM_EachAddsALineModel_isTrip hp2 l ad) kM_X12_isTrip kV_X12_isTrip km_12_294 (by decide) (fun _ => rfl) rfl rfl rfl (Nat.le_of_ble_eq_true rfl) (by decide) dX12_ways_9 ?_
  refine v_if_eq (tgt := 25) hX dX12_ways_12 (by decide) h (fun h => ?_) (fun h => ?_)
  · refine v_ldc2 hX kc_12_312 dX12_ways_25 ?_
    exact v_retL hR h dX12_ways_28
  · refine v_aload_n hX dX12_ways_15 rfl 0 rfl ?_
    refine v_iload_n hX dX12_ways_16 rfl 1 rfl ?_
    refine v_iload_n hX dX12_ways_17 rfl 2 rfl ?_
    refine v_iload_n hX dX12_ways_18 rfl 3 rfl ?_
    obtain ⟨p3, hp3, h⟩ := bsome h
    refine v_callVL (o := 0) hX (mM_EachAddsALineModel_countWays hp3 l ad) kM_X12_countWays kV_X12_countWays km_12_308 (by decide) (fun _ => rfl) rfl rfl rfl (Nat.le_of_ble_eq_true rfl) (by decide) dX12_ways_19 ?_
    refine v_goto (tgt := 28) hX dX12_ways_22 (by decide) ?_
    exact v_retL hR h dX12_ways_28
noncomputable def fM_EachAddsALineModel_ways (N : Nat) (a1 : Int32) (a2 : Int32) (a3 : Int32) (s : vSt) : Option (Int64 × vSt) := gM_EachAddsALineModel_ways_0 N a1 a2 a3 s
theorem mM_EachAddsALineModel_ways {N : Nat} {a1 : Int32} {a2 : Int32} {a3 : Int32} {s : vSt} {r : Int64} {t1 : vSt} (h : fM_EachAddsALineModel_ways N a1 a2 a3 s = some (r, t1)) (l : Launch) (ad : Nat → Nat) : vML l shM ad yX12_ways cX12_ways 4 3 72 s [.ref (ad 0), .int a1, .int a2, .int a3] r t1 :=
  vML_of (by decide +kernel) (Nat.le_of_ble_eq_true rfl) (fun P hX hR => wM_EachAddsALineModel_ways_0 hX hR h)
-- M_EachAddsALineModel_needs
noncomputable def gM_EachAddsALineModel_needs_74 (N : Nat) (r37 : Int32 → Int32 → Int32 → Int32 → Int32 → vSt → Option (Int32 × vSt)) (a1 : Int32) (a2 : Int32) (a3 : Int32) (a5 : Int32) (k0 : Int32) (k1 : Int32) (s : vSt) : Option (Int32 × vSt) :=
  (some (k0 ||| k1 : Int32)).bind fun v1 =>
  (some (a5 + 1 : Int32)).bind fun v2 =>
  r37 a1 a2 a3 v1 v2 s
set_option maxRecDepth 4000 in
theorem wM_EachAddsALineModel_needs_74 {P : vP} {l : Launch} {ad : Nat → Nat} {N : Nat} {r37 : Int32 → Int32 → Int32 → Int32 → Int32 → vSt → Option (Int32 × vSt)} {r : Int32} {t1 : vSt} (hX : vOK P l shM ad (vR 3 72) cX12_needs RX12 6) (hR : (∀ pc lv, narrow .int (.int r) = .int r → decode cX12_needs pc = .ok (.ireturn, 1) → P t1 pc lv [.int r])) (H37 : ∀ (a1 : Int32) (a2 : Int32) (a3 : Int32) (a4 : Int32) (a5 : Int32) (s : vSt), r37 a1 a2 a3 a4 a5 s = some (r, t1) → P s 37 [(0, .ref (ad 0)), (1, .int a1), (2, .int a2), (3, .int a3), (4, .int a4), (5, .int a5)] []) {a1 : Int32} {a2 : Int32} {a3 : Int32} {a5 : Int32} {k0 : Int32} {k1 : Int32} {s : vSt} (h : gM_EachAddsALineModel_needs_74 N r37 a1 a2 a3 a5 k0 k1 s = some (r, t1)) : P s 74 [(0, .ref (ad 0)), (1, .int a1), (2, .int a2), (3, .int a3), (5, .int a5)] [.int k1, .int k0] := by
  unfold gM_EachAddsALineModel_needs_74 at h
  refine v_ior hX dX12_needs_74 ?_
  refine v_nmI hX h (fun v1 h => ?_)
  refine v_istore (lv' := [(4, .int v1), (0, .ref (ad 0)), (1, .int a1), (2, .int a2), (3, .int a3), (5, .int a5)]) hX dX12_needs_75 (by decide) rfl ?_
  refine v_iincN hX dX12_needs_77 (j := 5) rfl (c := 1) (by decide) (by decide) h (fun v2 h => ?_)
  refine v_show (lv' := [(5, .int v2), (4, .int v1), (0, .ref (ad 0)), (1, .int a1), (2, .int a2), (3, .int a3)]) hX rfl ?_
  refine v_goto (tgt := 37) hX dX12_needs_80 (by decide) ?_
  exact v_sub hX [2, 3, 4, 5, 1, 0] (by rfl) (H37 _ _ _ _ _ _ h)
noncomputable def gM_EachAddsALineModel_needs_37 (N : Nat)  : Nat → Int32 → Int32 → Int32 → Int32 → Int32 → vSt → Option (Int32 × vSt)
  | 0, _, _, _, _, _, _ => none
  | n + 1, a1, a2, a3, a4, a5, s =>
    if (s.1 0 2) ≤ a5 then
      (some (s1 s 0 35 (-1))).bind fun z1 =>
      some (a4, z1)
    else
      (some (s1 s 0 35 a5)).bind fun z2 =>
      (fM_EachAddsALineModel_countWays N a1 a2 a3 z2).bind fun p3 =>
      if (lg_cmp p3.1 0) = 0 then
        gM_EachAddsALineModel_needs_74 N (gM_EachAddsALineModel_needs_37 N n) a1 a2 a3 a5 a4 ((1 : Int32) <<< (a5 &&& 31)) p3.2
      else
        gM_EachAddsALineModel_needs_74 N (gM_EachAddsALineModel_needs_37 N n) a1 a2 a3 a5 a4 0 p3.2
set_option maxRecDepth 4000 in
theorem wM_EachAddsALineModel_needs_37 {P : vP} {l : Launch} {ad : Nat → Nat} {N : Nat} {r : Int32} {t1 : vSt} (hX : vOK P l shM ad (vR 3 72) cX12_needs RX12 6) (hR : (∀ pc lv, narrow .int (.int r) = .int r → decode cX12_needs pc = .ok (.ireturn, 1) → P t1 pc lv [.int r]))  : ∀ (n : Nat) (a1 : Int32) (a2 : Int32) (a3 : Int32) (a4 : Int32) (a5 : Int32) (s : vSt), gM_EachAddsALineModel_needs_37 N n a1 a2 a3 a4 a5 s = some (r, t1) → P s 37 [(0, .ref (ad 0)), (1, .int a1), (2, .int a2), (3, .int a3), (4, .int a4), (5, .int a5)] [] := by
  intro n
  induction n with
  | zero => intro a1 a2 a3 a4 a5 s h; cases h
  | succ n ih =>
    intro a1 a2 a3 a4 a5 s h
    unfold gM_EachAddsALineModel_needs_37 at h
    refine v_iload hX dX12_needs_37 5 rfl ?_
    refine v_aload_n hX dX12_needs_39 rfl 0 rfl ?_
    refine gfM_0_2 hX kf_12_109 dX12_needs_40 ?_
    refine v_icmp_ge (tgt := 83) hX dX12_needs_43 (by decide) h (fun h => ?_) (fun h => ?_)
    · refine v_aload_n hX dX12_needs_83 rfl 0 rfl ?_
      refine v_iconst (v := (-1)) hX dX12_needs_84 (by decide) ?_
      refine pfM_0_35 hX kf_12_55 dX12_needs_85 h (fun z1 h => ?_)
      refine v_iload hX dX12_needs_88 4 rfl ?_
      exact v_retI hR h dX12_needs_90
    · refine v_aload_n hX dX12_needs_46 rfl 0 rfl ?_
      refine v_iload hX dX12_needs_47 5 rfl ?_
      refine pfM_0_35 hX kf_12_55 dX12_needs_49 h (fun z2 h => ?_)
      refine v_iload hX dX12_needs_52 4 rfl ?_
      refine v_aload_n hX dX12_needs_54 rfl 0 rfl ?_
      refine v_iload_n hX dX12_needs_55 rfl 1 rfl ?_
      refine v_iload_n hX dX12_needs_56 rfl 2 rfl ?_
      refine v_iload_n hX dX12_needs_57 rfl 3 rfl ?_
      obtain ⟨p3, hp3, h⟩ := bsome h
      refine v_callVL (o := 0) hX (mM_EachAddsALineModel_countWays hp3 l ad) kM_X12_countWays kV_X12_countWays km_12_308 (by decide) (fun _ => rfl) rfl rfl rfl (Nat.le_of_ble_eq_true rfl) (by decide) dX12_needs_58 ?_
      refine v_lconst (v := 0) hX dX12_needs_61 (by decide) ?_
      refine v_lcmp hX dX12_needs_62 ?_
      refine v_if_ne (tgt := 73) hX dX12_needs_63 (by decide) h (fun h => ?_) (fun h => ?_)
      · refine v_iconst (v := 1) hX dX12_needs_66 (by decide) ?_
        refine v_iload hX dX12_needs_67 5 rfl ?_
        refine v_ishl hX dX12_needs_69 ?_
        refine v_goto (tgt := 74) hX dX12_needs_70 (by decide) ?_
        exact v_sub hX [0, 1, 2, 3, 5] (by rfl) (wM_EachAddsALineModel_needs_74 hX hR ih h)
      · refine v_iconst (v := 0) hX dX12_needs_73 (by decide) ?_
        exact v_sub hX [0, 1, 2, 3, 5] (by rfl) (wM_EachAddsALineModel_needs_74 hX hR ih h)
noncomputable def gM_EachAddsALineModel_needs_0 (N : Nat)  (a1 : Int32) (a2 : Int32) (a3 : Int32) (s : vSt) : Option (Int32 × vSt) :=
  (some (s1 s 0 11 0)).bind fun z1 =>
  (fM_EachAddsALineModel_isTrip N a1 a2 a3 z1).bind fun p2 =>
  if p2.1 = 0 then
    some ((-1), p2.2)
  else
    (fM_EachAddsALineModel_countWays N a1 a2 a3 p2.2).bind fun p3 =>
    if (lg_cmp p3.1 0) = 0 then
      some (0, p3.2)
    else
      gM_EachAddsALineModel_needs_37 N N a1 a2 a3 0 0 p3.2
set_option maxRecDepth 4000 in
theorem wM_EachAddsALineModel_needs_0 {P : vP} {l : Launch} {ad : Nat → Nat} {N : Nat} {r : Int32} {t1 : vSt} (hX : vOK P l shM ad (vR 3 72) cX12_needs RX12 6) (hR : (∀ pc lv, narrow .int (.int r) = .int r → decode cX12_needs pc = .ok (.ireturn, 1) → P t1 pc lv [.int r]))  {a1 : Int32} {a2 : Int32} {a3 : Int32} {s : vSt} (h : gM_EachAddsALineModel_needs_0 N a1 a2 a3 s = some (r, t1)) : P s 0 [(0, .ref (ad 0)), (1, .int a1), (2, .int a2), (3, .int a3)] [] := by
  unfold gM_EachAddsALineModel_needs_0 at h
  refine v_aload_n hX dX12_needs_0 rfl 0 rfl ?_
  refine v_iconst (v := 0) hX dX12_needs_1 (by decide) ?_
  refine pfM_0_11 hX kf_12_96 dX12_needs_2 h (fun z1 h => ?_)
  refine v_aload_n hX dX12_needs_5 rfl 0 rfl ?_
  refine v_iload_n hX dX12_needs_6 rfl 1 rfl ?_
  refine v_iload_n hX dX12_needs_7 rfl 2 rfl ?_
  refine v_iload_n hX dX12_needs_8 rfl 3 rfl ?_
  obtain ⟨p2, hp2, h⟩ := bsome h
  refine v_callVI (o := 0) hX (mM_EachAddsALineModel_isTrip hp2 l ad) kM_X12_isTrip kV_X12_isTrip km_12_294 (by decide) (fun _ => rfl) rfl rfl rfl (Nat.le_of_ble_eq_true rfl) (by decide) dX12_needs_9 ?_
  refine v_if_ne (tgt := 17) hX dX12_needs_12 (by decide) h (fun h => ?_) (fun h => ?_)
  · refine v_iconst (v := (-1)) hX dX12_needs_15 (by decide) ?_
    exact v_retI hR h dX12_needs_16
  · refine v_iconst (v := 0) hX dX12_needs_17 (by decide) ?_
    refine v_istore (lv' := [(4, .int 0), (0, .ref (ad 0)), (1, .int a1), (2, .int a2), (3, .int a3)]) hX dX12_needs_18 (by decide) rfl ?_
    refine v_aload_n hX dX12_needs_20 rfl 1 rfl ?_
    refine v_iload_n hX dX12_needs_21 rfl 2 rfl ?_
    refine v_iload_n hX dX12_needs_22 rfl 3 rfl ?_
    refine v_iload_n hX dX12_needs_23 rfl 4 rfl ?_
    obtain ⟨p3, hp3, h⟩ := bsome h
    refine v_callVL (o := 0) hX (mM_EachAddsALineModel_countWays hp3 l ad) kM_X12_countWays kV_X12_countWays km_12_308 (by decide) (fun _ => rfl) rfl rfl rfl (Nat.le_of_ble_eq_true rfl) (by decide) dX12_needs_24 ?_
    refine v_lconst (v := 0) hX dX12_needs_27 (by decide) ?_
    refine v_lcmp hX dX12_needs_28 ?_
    refine v_if_ne (tgt := 34) hX dX12_needs_29 (by decide) h (fun h => ?_) (fun h => ?_)
    · refine v_iconst (v := 0) hX dX12_needs_32 (by decide) ?_
      exact v_retI hR h dX12_needs_33
    · refine v_iconst (v := 0) hX dX12_needs_34 (by decide) ?_
      refine v_istore (lv' := [(5, .int 0), (4, .int 0), (0, .ref (ad 0)), (1, .int a1), (2, .int a2), (3, .int a3)]) hX dX12_needs_35 (by decide) rfl ?_
      exact v_sub hX [2, 3, 4, 5, 1, 0] (by rfl) (wM_EachAddsALineModel_needs_37 hX hR  N _ _ _ _ _ _ h)
noncomputable def fM_EachAddsALineModel_needs (N : Nat) (a1 : Int32) (a2 : Int32) (a3 : Int32) (s : vSt) : Option (Int32 × vSt) := gM_EachAddsALineModel_needs_0 N a1 a2 a3 s
theorem mM_EachAddsALineModel_needs {N : Nat} {a1 : Int32} {a2 : Int32} {a3 : Int32} {s : vSt} {r : Int32} {t1 : vSt} (h : fM_EachAddsALineModel_needs N a1 a2 a3 s = some (r, t1)) (l : Launch) (ad : Nat → Nat) : vMI l shM ad yX12_needs cX12_needs 6 .int 3 72 s [.ref (ad 0), .int a1, .int a2, .int a3] r t1 :=
  vMI_of (by decide +kernel) (Nat.le_of_ble_eq_true rfl) (fun P hX hR => wM_EachAddsALineModel_needs_0 hX hR h)
-- M_EachAddsALineModel_idle
noncomputable def gM_EachAddsALineModel_idle_88 (N : Nat) (r32 : Int32 → Int32 → Int32 → Int64 → Int32 → Int32 → vSt → Option (Int32 × vSt)) (a1 : Int32) (a2 : Int32) (a3 : Int32) (a4 : Int64) (a6 : Int32) (a7 : Int32) (s : vSt) : Option (Int32 × vSt) :=
  (some (a7 + 1 : Int32)).bind fun v1 =>
  r32 a1 a2 a3 a4 a6 v1 s
set_option maxRecDepth 4000 in
theorem wM_EachAddsALineModel_idle_88 {P : vP} {l : Launch} {ad : Nat → Nat} {N : Nat} {r32 : Int32 → Int32 → Int32 → Int64 → Int32 → Int32 → vSt → Option (Int32 × vSt)} {r : Int32} {t1 : vSt} (hX : vOK P l shM ad (vR 3 72) cX12_idle RX12 8) (hR : (∀ pc lv, narrow .int (.int r) = .int r → decode cX12_idle pc = .ok (.ireturn, 1) → P t1 pc lv [.int r])) (H32 : ∀ (a1 : Int32) (a2 : Int32) (a3 : Int32) (a4 : Int64) (a6 : Int32) (a7 : Int32) (s : vSt), r32 a1 a2 a3 a4 a6 a7 s = some (r, t1) → P s 32 [(0, .ref (ad 0)), (1, .int a1), (2, .int a2), (3, .int a3), (4, .long a4), (6, .int a6), (7, .int a7)] []) {a1 : Int32} {a2 : Int32} {a3 : Int32} {a4 : Int64} {a6 : Int32} {a7 : Int32} {s : vSt} (h : gM_EachAddsALineModel_idle_88 N r32 a1 a2 a3 a4 a6 a7 s = some (r, t1)) : P s 88 [(0, .ref (ad 0)), (1, .int a1), (2, .int a2), (3, .int a3), (4, .long a4), (6, .int a6), (7, .int a7)] [] := by
  unfold gM_EachAddsALineModel_idle_88 at h
  refine v_iincN hX dX12_idle_88 (j := 6) rfl (c := 1) (by decide) (by decide) h (fun v1 h => ?_)
  refine v_show (lv' := [(7, .int v1), (0, .ref (ad 0)), (1, .int a1), (2, .int a2), (3, .int a3), (4, .long a4), (6, .int a6)]) hX rfl ?_
  refine v_goto (tgt := 32) hX dX12_idle_91 (by decide) ?_
  exact v_sub hX [1, 2, 3, 4, 5, 6, 0] (by rfl) (H32 _ _ _ _ _ _ _ h)
noncomputable def gM_EachAddsALineModel_idle_85 (N : Nat) (r32 : Int32 → Int32 → Int32 → Int64 → Int32 → Int32 → vSt → Option (Int32 × vSt)) (a1 : Int32) (a2 : Int32) (a3 : Int32) (a4 : Int64) (a7 : Int32) (k0 : Int32) (k1 : Int32) (s : vSt) : Option (Int32 × vSt) :=
  (some (k0 ||| k1 : Int32)).bind fun v1 =>
  gM_EachAddsALineModel_idle_88 N r32 a1 a2 a3 a4 v1 a7 s
set_option maxRecDepth 4000 in
theorem wM_EachAddsALineModel_idle_85 {P : vP} {l : Launch} {ad : Nat → Nat} {N : Nat} {r32 : Int32 → Int32 → Int32 → Int64 → Int32 → Int32 → vSt → Option (Int32 × vSt)} {r : Int32} {t1 : vSt} (hX : vOK P l shM ad (vR 3 72) cX12_idle RX12 8) (hR : (∀ pc lv, narrow .int (.int r) = .int r → decode cX12_idle pc = .ok (.ireturn, 1) → P t1 pc lv [.int r])) (H32 : ∀ (a1 : Int32) (a2 : Int32) (a3 : Int32) (a4 : Int64) (a6 : Int32) (a7 : Int32) (s : vSt), r32 a1 a2 a3 a4 a6 a7 s = some (r, t1) → P s 32 [(0, .ref (ad 0)), (1, .int a1), (2, .int a2), (3, .int a3), (4, .long a4), (6, .int a6), (7, .int a7)] []) {a1 : Int32} {a2 : Int32} {a3 : Int32} {a4 : Int64} {a7 : Int32} {k0 : Int32} {k1 : Int32} {s : vSt} (h : gM_EachAddsALineModel_idle_85 N r32 a1 a2 a3 a4 a7 k0 k1 s = some (r, t1)) : P s 85 [(0, .ref (ad 0)), (1, .int a1), (2, .int a2), (3, .int a3), (4, .long a4), (7, .int a7)] [.int k1, .int k0] := by
  unfold gM_EachAddsALineModel_idle_85 at h
  refine v_ior hX dX12_idle_85 ?_
  refine v_nmI hX h (fun v1 h => ?_)
  refine v_istore (lv' := [(6, .int v1), (0, .ref (ad 0)), (1, .int a1), (2, .int a2), (3, .int a3), (4, .long a4), (7, .int a7)]) hX dX12_idle_86 (by decide) rfl ?_
  exact v_sub hX [1, 2, 3, 4, 5, 0, 6] (by rfl) (wM_EachAddsALineModel_idle_88 hX hR H32 h)
noncomputable def gM_EachAddsALineModel_idle_32 (N : Nat)  : Nat → Int32 → Int32 → Int32 → Int64 → Int32 → Int32 → vSt → Option (Int32 × vSt)
  | 0, _, _, _, _, _, _, _ => none
  | n + 1, a1, a2, a3, a4, a6, a7, s =>
    if (s.1 0 0) ≤ a7 then
      (some (s1 s 0 37 (-1))).bind fun z1 =>
      some (a6, z1)
    else
      if a7 = a1 then
        gM_EachAddsALineModel_idle_88 N (gM_EachAddsALineModel_idle_32 N n) a1 a2 a3 a4 a6 a7 s
      else
        if a7 = a2 then
          gM_EachAddsALineModel_idle_88 N (gM_EachAddsALineModel_idle_32 N n) a1 a2 a3 a4 a6 a7 s
        else
          (some (s1 s 0 37 a7)).bind fun z2 =>
          (fM_EachAddsALineModel_countWays N a1 a2 a3 z2).bind fun p3 =>
          if (lg_cmp p3.1 a4) = 0 then
            gM_EachAddsALineModel_idle_85 N (gM_EachAddsALineModel_idle_32 N n) a1 a2 a3 a4 a7 a6 ((1 : Int32) <<< (a7 &&& 31)) p3.2
          else
            gM_EachAddsALineModel_idle_85 N (gM_EachAddsALineModel_idle_32 N n) a1 a2 a3 a4 a7 a6 0 p3.2
set_option maxRecDepth 4000 in
theorem wM_EachAddsALineModel_idle_32 {P : vP} {l : Launch} {ad : Nat → Nat} {N : Nat} {r : Int32} {t1 : vSt} (hX : vOK P l shM ad (vR 3 72) cX12_idle RX12 8) (hR : (∀ pc lv, narrow .int (.int r) = .int r → decode cX12_idle pc = .ok (.ireturn, 1) → P t1 pc lv [.int r]))  : ∀ (n : Nat) (a1 : Int32) (a2 : Int32) (a3 : Int32) (a4 : Int64) (a6 : Int32) (a7 : Int32) (s : vSt), gM_EachAddsALineModel_idle_32 N n a1 a2 a3 a4 a6 a7 s = some (r, t1) → P s 32 [(0, .ref (ad 0)), (1, .int a1), (2, .int a2), (3, .int a3), (4, .long a4), (6, .int a6), (7, .int a7)] [] := by
  intro n
  induction n with
  | zero => intro a1 a2 a3 a4 a6 a7 s h; cases h
  | succ n ih =>
    intro a1 a2 a3 a4 a6 a7 s h
    unfold gM_EachAddsALineModel_idle_32 at h
    refine v_iload hX dX12_idle_32 6 rfl ?_
    refine v_aload_n hX dX12_idle_34 rfl 0 rfl ?_
    refine gfM_0_0 hX kf_12_102 dX12_idle_35 ?_
    refine v_icmp_ge (tgt := 94) hX dX12_idle_38 (by decide) h (fun h => ?_) (fun h => ?_)
    · refine v_aload_n hX dX12_idle_94 rfl 0 rfl ?_
      refine v_iconst (v := (-1)) hX dX12_idle_95 (by decide) ?_
      refine pfM_0_37 hX kf_12_62 dX12_idle_96 h (fun z1 h => ?_)
      refine v_iload hX dX12_idle_99 5 rfl ?_
      exact v_retI hR h dX12_idle_101
    · refine v_iload hX dX12_idle_41 6 rfl ?_
      refine v_iload_n hX dX12_idle_43 rfl 1 rfl ?_
      refine v_icmp_eq (tgt := 88) hX dX12_idle_44 (by decide) h (fun h => ?_) (fun h => ?_)
      · exact v_sub hX [0, 1, 2, 3, 4, 5, 6] (by rfl) (wM_EachAddsALineModel_idle_88 hX hR ih h)
      · refine v_iload hX dX12_idle_47 6 rfl ?_
        refine v_iload_n hX dX12_idle_49 rfl 2 rfl ?_
        refine v_icmp_ne (tgt := 56) hX dX12_idle_50 (by decide) h (fun h => ?_) (fun h => ?_)
        · refine v_goto (tgt := 88) hX dX12_idle_53 (by decide) ?_
          exact v_sub hX [0, 1, 2, 3, 4, 5, 6] (by rfl) (wM_EachAddsALineModel_idle_88 hX hR ih h)
        · refine v_aload_n hX dX12_idle_56 rfl 0 rfl ?_
          refine v_iload hX dX12_idle_57 6 rfl ?_
          refine pfM_0_37 hX kf_12_62 dX12_idle_59 h (fun z2 h => ?_)
          refine v_iload hX dX12_idle_62 5 rfl ?_
          refine v_aload_n hX dX12_idle_64 rfl 0 rfl ?_
          refine v_iload_n hX dX12_idle_65 rfl 1 rfl ?_
          refine v_iload_n hX dX12_idle_66 rfl 2 rfl ?_
          refine v_iload_n hX dX12_idle_67 rfl 3 rfl ?_
          obtain ⟨p3, hp3, h⟩ := bsome h
          refine v_callVL (o := 0) hX (mM_EachAddsALineModel_countWays hp3 l ad) kM_X12_countWays kV_X12_countWays km_12_308 (by decide) (fun _ => rfl) rfl rfl rfl (Nat.le_of_ble_eq_true rfl) (by decide) dX12_idle_68 ?_
          refine v_lload hX dX12_idle_71 4 rfl ?_
          refine v_lcmp hX dX12_idle_73 ?_
          refine v_if_ne (tgt := 84) hX dX12_idle_74 (by decide) h (fun h => ?_) (fun h => ?_)
          · refine v_iconst (v := 1) hX dX12_idle_77 (by decide) ?_
            refine v_iload hX dX12_idle_78 6 rfl ?_
            refine v_ishl hX dX12_idle_80 ?_
            refine v_goto (tgt := 85) hX dX12_idle_81 (by decide) ?_
            exact v_sub hX [0, 1, 2, 3, 4, 6] (by rfl) (wM_EachAddsALineModel_idle_85 hX hR ih h)
          · refine v_iconst (v := 0) hX dX12_idle_84 (by decide) ?_
            exact v_sub hX [0, 1, 2, 3, 4, 6] (by rfl) (wM_EachAddsALineModel_idle_85 hX hR ih h)
noncomputable def gM_EachAddsALineModel_idle_0 (N : Nat)  (a1 : Int32) (a2 : Int32) (a3 : Int32) (s : vSt) : Option (Int32 × vSt) :=
  (some (s1 s 0 11 0)).bind fun z1 =>
  (fM_EachAddsALineModel_isTrip N a1 a2 a3 z1).bind fun p2 =>
  if p2.1 = 0 then
    some ((-1), p2.2)
  else
    (fM_EachAddsALineModel_countWays N a1 a2 a3 p2.2).bind fun p3 =>
    gM_EachAddsALineModel_idle_32 N N a1 a2 a3 p3.1 0 0 p3.2
set_option maxRecDepth 4000 in
theorem wM_EachAddsALineModel_idle_0 {P : vP} {l : Launch} {ad : Nat → Nat} {N : Nat} {r : Int32} {t1 : vSt} (hX : vOK P l shM ad (vR 3 72) cX12_idle RX12 8) (hR : (∀ pc lv, narrow .int (.int r) = .int r → decode cX12_idle pc = .ok (.ireturn, 1) → P t1 pc lv [.int r]))  {a1 : Int32} {a2 : Int32} {a3 : Int32} {s : vSt} (h : gM_EachAddsALineModel_idle_0 N a1 a2 a3 s = some (r, t1)) : P s 0 [(0, .ref (ad 0)), (1, .int a1), (2, .int a2), (3, .int a3)] [] := by
  unfold gM_EachAddsALineModel_idle_0 at h
  refine v_aload_n hX dX12_idle_0 rfl 0 rfl ?_
  refine v_iconst (v := 0) hX dX12_idle_1 (by decide) ?_
  refine pfM_0_11 hX kf_12_96 dX12_idle_2 h (fun z1 h => ?_)
  refine v_aload_n hX dX12_idle_5 rfl 0 rfl ?_
  refine v_iload_n hX dX12_idle_6 rfl 1 rfl ?_
  refine v_iload_n hX dX12_idle_7 rfl 2 rfl ?_
  refine v_iload_n hX dX12_idle_8 rfl 3 rfl ?_
  obtain ⟨p2, hp2, h⟩ := bsome h
  refine v_callVI (o := 0) hX (mM_EachAddsALineModel_isTrip hp2 l ad) kM_X12_isTrip kV_X12_isTrip km_12_294 (by decide) (fun _ => rfl) rfl rfl rfl (Nat.le_of_ble_eq_true rfl) (by decide) dX12_idle_9 ?_
  refine v_if_ne (tgt := 17) hX dX12_idle_12 (by decide) h (fun h => ?_) (fun h => ?_)
  · refine v_iconst (v := (-1)) hX dX12_idle_15 (by decide) ?_
    exact v_retI hR h dX12_idle_16
  · refine v_aload_n hX dX12_idle_17 rfl 0 rfl ?_
    refine v_iload_n hX dX12_idle_18 rfl 1 rfl ?_
    refine v_iload_n hX dX12_idle_19 rfl 2 rfl ?_
    refine v_iload_n hX dX12_idle_20 rfl 3 rfl ?_
    obtain ⟨p3, hp3, h⟩ := bsome h
    refine v_callVL (o := 0) hX (mM_EachAddsALineModel_countWays hp3 l ad) kM_X12_countWays kV_X12_countWays km_12_308 (by decide) (fun _ => rfl) rfl rfl rfl (Nat.le_of_ble_eq_true rfl) (by decide) dX12_idle_21 ?_
    refine v_lstore (lv' := [(4, .long p3.1), (0, .ref (ad 0)), (1, .int a1), (2, .int a2), (3, .int a3)]) hX dX12_idle_24 (by decide) rfl ?_
    refine v_iconst (v := 0) hX dX12_idle_26 (by decide) ?_
    refine v_istore (lv' := [(6, .int 0), (4, .long p3.1), (0, .ref (ad 0)), (1, .int a1), (2, .int a2), (3, .int a3)]) hX dX12_idle_27 (by decide) rfl ?_
    refine v_iconst (v := 0) hX dX12_idle_29 (by decide) ?_
    refine v_istore (lv' := [(7, .int 0), (6, .int 0), (4, .long p3.1), (0, .ref (ad 0)), (1, .int a1), (2, .int a2), (3, .int a3)]) hX dX12_idle_30 (by decide) rfl ?_
    exact v_sub hX [3, 4, 5, 6, 2, 1, 0] (by rfl) (wM_EachAddsALineModel_idle_32 hX hR  N _ _ _ _ _ _ _ h)
noncomputable def fM_EachAddsALineModel_idle (N : Nat) (a1 : Int32) (a2 : Int32) (a3 : Int32) (s : vSt) : Option (Int32 × vSt) := gM_EachAddsALineModel_idle_0 N a1 a2 a3 s
theorem mM_EachAddsALineModel_idle {N : Nat} {a1 : Int32} {a2 : Int32} {a3 : Int32} {s : vSt} {r : Int32} {t1 : vSt} (h : fM_EachAddsALineModel_idle N a1 a2 a3 s = some (r, t1)) (l : Launch) (ad : Nat → Nat) : vMI l shM ad yX12_idle cX12_idle 8 .int 3 72 s [.ref (ad 0), .int a1, .int a2, .int a3] r t1 :=
  vMI_of (by decide +kernel) (Nat.le_of_ble_eq_true rfl) (fun P hX hR => wM_EachAddsALineModel_idle_0 hX hR h)
-- M_EachAddsALineModel_longest
noncomputable def gM_EachAddsALineModel_longest_124 (N : Nat) (r68 : Int32 → Int32 → Int32 → Int32 → Int32 → Int32 → vSt → Option (Int32 × vSt)) (a1 : Int32) (a2 : Int32) (a3 : Int32) (a4 : Int32) (a5 : Int32) (a6 : Int32) (s : vSt) : Option (Int32 × vSt) :=
  (some (a6 + 1 : Int32)).bind fun v1 =>
  r68 a1 a2 a3 a4 a5 v1 s
set_option maxRecDepth 4000 in
theorem wM_EachAddsALineModel_longest_124 {P : vP} {l : Launch} {ad : Nat → Nat} {N : Nat} {r68 : Int32 → Int32 → Int32 → Int32 → Int32 → Int32 → vSt → Option (Int32 × vSt)} {r : Int32} {t1 : vSt} (hX : vOK P l shM ad (vR 3 66) cX12_longest RX12 9) (hR : (∀ pc lv, narrow .int (.int r) = .int r → decode cX12_longest pc = .ok (.ireturn, 1) → P t1 pc lv [.int r])) (H68 : ∀ (a1 : Int32) (a2 : Int32) (a3 : Int32) (a4 : Int32) (a5 : Int32) (a6 : Int32) (s : vSt), r68 a1 a2 a3 a4 a5 a6 s = some (r, t1) → P s 68 [(0, .ref (ad 0)), (1, .int a1), (2, .int a2), (3, .int a3), (4, .int a4), (5, .int a5), (6, .int a6)] []) {a1 : Int32} {a2 : Int32} {a3 : Int32} {a4 : Int32} {a5 : Int32} {a6 : Int32} {s : vSt} (h : gM_EachAddsALineModel_longest_124 N r68 a1 a2 a3 a4 a5 a6 s = some (r, t1)) : P s 124 [(0, .ref (ad 0)), (1, .int a1), (2, .int a2), (3, .int a3), (4, .int a4), (5, .int a5), (6, .int a6)] [] := by
  unfold gM_EachAddsALineModel_longest_124 at h
  refine v_iincN hX dX12_longest_124 (j := 6) rfl (c := 1) (by decide) (by decide) h (fun v1 h => ?_)
  refine v_show (lv' := [(6, .int v1), (0, .ref (ad 0)), (1, .int a1), (2, .int a2), (3, .int a3), (4, .int a4), (5, .int a5)]) hX rfl ?_
  refine v_goto (tgt := 68) hX dX12_longest_127 (by decide) ?_
  exact v_sub hX [1, 2, 3, 4, 5, 6, 0] (by rfl) (H68 _ _ _ _ _ _ _ h)
noncomputable def gM_EachAddsALineModel_longest_68 (N : Nat) (r29 : Int32 → Int32 → Int32 → Int32 → vSt → Option (Int32 × vSt)) : Nat → Int32 → Int32 → Int32 → Int32 → Int32 → Int32 → vSt → Option (Int32 × vSt)
  | 0, _, _, _, _, _, _, _ => none
  | n + 1, a1, a2, a3, a4, a5, a6, s =>
    if (s.1 0 30) ≤ a6 then
      (some (a4 + (-1) : Int32)).bind fun v1 =>
      r29 a1 a2 a3 v1 s
    else
      (fM_EachAddsALineModel_follows N a6 a5 s).bind fun p2 =>
      if p2.1 = 0 then
        gM_EachAddsALineModel_longest_124 N (gM_EachAddsALineModel_longest_68 N r29 n) a1 a2 a3 a4 a5 a6 p2.2
      else
        (ld p2.2 13 40 a6).bind fun v3 =>
        if v3 ≤ 0 then
          gM_EachAddsALineModel_longest_124 N (gM_EachAddsALineModel_longest_68 N r29 n) a1 a2 a3 a4 a5 a6 p2.2
        else
          (ld p2.2 13 40 a5).bind fun v4 =>
          (ld p2.2 13 40 a6).bind fun v5 =>
          (sto p2.2 13 40 a5 (if v4 < (v5 + 1) then (v5 + 1) else v4)).bind fun z6 =>
          gM_EachAddsALineModel_longest_124 N (gM_EachAddsALineModel_longest_68 N r29 n) a1 a2 a3 a4 a5 a6 z6
set_option maxRecDepth 4000 in
theorem wM_EachAddsALineModel_longest_68 {P : vP} {l : Launch} {ad : Nat → Nat} {N : Nat} {r29 : Int32 → Int32 → Int32 → Int32 → vSt → Option (Int32 × vSt)} {r : Int32} {t1 : vSt} (hX : vOK P l shM ad (vR 3 66) cX12_longest RX12 9) (hR : (∀ pc lv, narrow .int (.int r) = .int r → decode cX12_longest pc = .ok (.ireturn, 1) → P t1 pc lv [.int r])) (H29 : ∀ (a1 : Int32) (a2 : Int32) (a3 : Int32) (a4 : Int32) (s : vSt), r29 a1 a2 a3 a4 s = some (r, t1) → P s 29 [(0, .ref (ad 0)), (1, .int a1), (2, .int a2), (3, .int a3), (4, .int a4)] []) : ∀ (n : Nat) (a1 : Int32) (a2 : Int32) (a3 : Int32) (a4 : Int32) (a5 : Int32) (a6 : Int32) (s : vSt), gM_EachAddsALineModel_longest_68 N r29 n a1 a2 a3 a4 a5 a6 s = some (r, t1) → P s 68 [(0, .ref (ad 0)), (1, .int a1), (2, .int a2), (3, .int a3), (4, .int a4), (5, .int a5), (6, .int a6)] [] := by
  intro n
  induction n with
  | zero => intro a1 a2 a3 a4 a5 a6 s h; cases h
  | succ n ih =>
    intro a1 a2 a3 a4 a5 a6 s h
    unfold gM_EachAddsALineModel_longest_68 at h
    refine v_iload hX dX12_longest_68 6 rfl ?_
    refine v_aload_n hX dX12_longest_70 rfl 0 rfl ?_
    refine gfM_0_30 hX kf_12_262 dX12_longest_71 ?_
    refine v_icmp_ge (tgt := 130) hX dX12_longest_74 (by decide) h (fun h => ?_) (fun h => ?_)
    · refine v_iincN hX dX12_longest_130 (j := 4) rfl (c := (-1)) (by decide) (by decide) h (fun v1 h => ?_)
      refine v_show (lv' := [(4, .int v1), (0, .ref (ad 0)), (1, .int a1), (2, .int a2), (3, .int a3), (5, .int a5), (6, .int a6)]) hX rfl ?_
      refine v_goto (tgt := 29) hX dX12_longest_133 (by decide) ?_
      exact v_sub hX [1, 2, 3, 4, 0] (by rfl) (H29 _ _ _ _ _ h)
    · refine v_aload_n hX dX12_longest_77 rfl 0 rfl ?_
      refine v_iload hX dX12_longest_78 6 rfl ?_
      refine v_iload hX dX12_longest_80 5 rfl ?_
      obtain ⟨p2, hp2, h⟩ := bsome h
      refine v_callVI (o := 0) hX (mM_EachAddsALineModel_follows hp2 l ad) kM_X12_follows kV_X12_follows km_12_280 (by decide) (fun _ => rfl) rfl rfl rfl (Nat.le_of_ble_eq_true rfl) (by decide) dX12_longest_82 ?_
      refine v_if_eq (tgt := 124) hX dX12_longest_85 (by decide) h (fun h => ?_) (fun h => ?_)
      · exact v_sub hX [0, 1, 2, 3, 4, 5, 6] (by rfl) (wM_EachAddsALineModel_longest_124 hX hR ih h)
      · refine v_aload_n hX dX12_longest_88 rfl 0 rfl ?_
        refine gfM_0_32 hX kf_12_47 dX12_longest_89 ?_
        refine v_iload hX dX12_longest_92 6 rfl ?_
        refine alM_13 hX dX12_longest_94 h (fun v3 h => ?_)
        refine v_if_le (tgt := 124) hX dX12_longest_95 (by decide) h (fun h => ?_) (fun h => ?_)
        · exact v_sub hX [0, 1, 2, 3, 4, 5, 6] (by rfl) (wM_EachAddsALineModel_longest_124 hX hR ih h)
        · refine v_aload_n hX dX12_longest_98 rfl 0 rfl ?_
          refine gfM_0_32 hX kf_12_47 dX12_longest_99 ?_
          refine v_iload hX dX12_longest_102 5 rfl ?_
          refine v_aload_n hX dX12_longest_104 rfl 0 rfl ?_
          refine gfM_0_32 hX kf_12_47 dX12_longest_105 ?_
          refine v_iload hX dX12_longest_108 5 rfl ?_
          refine alM_13 hX dX12_longest_110 h (fun v4 h => ?_)
          refine v_aload_n hX dX12_longest_111 rfl 0 rfl ?_
          refine gfM_0_32 hX kf_12_47 dX12_longest_112 ?_
          refine v_iload hX dX12_longest_115 6 rfl ?_
          refine alM_13 hX dX12_longest_117 h (fun v5 h => ?_)
          refine v_iconst (v := 1) hX dX12_longest_118 (by decide) ?_
          refine v_iadd hX dX12_longest_119 ?_
          refine v_max hX km_12_213 kS_J9_max_7cf53 kI_Math kC_max (Nat.le_of_ble_eq_true rfl) (Nat.le_of_ble_eq_true rfl) dX12_longest_120 ?_
          refine asM_13 hX dX12_longest_123 h (fun z6 h => ?_)
          exact v_sub hX [0, 1, 2, 3, 4, 5, 6] (by rfl) (wM_EachAddsALineModel_longest_124 hX hR ih h)
noncomputable def gM_EachAddsALineModel_longest_64 (N : Nat) (r29 : Int32 → Int32 → Int32 → Int32 → vSt → Option (Int32 × vSt)) (a1 : Int32) (a2 : Int32) (a3 : Int32) (a4 : Int32) (a5 : Int32) (k1 : Int32) (k2 : Int32) (s : vSt) : Option (Int32 × vSt) :=
  (sto s 13 40 k1 k2).bind fun z1 =>
  gM_EachAddsALineModel_longest_68 N r29 N a1 a2 a3 a4 a5 0 z1
set_option maxRecDepth 4000 in
theorem wM_EachAddsALineModel_longest_64 {P : vP} {l : Launch} {ad : Nat → Nat} {N : Nat} {r29 : Int32 → Int32 → Int32 → Int32 → vSt → Option (Int32 × vSt)} {r : Int32} {t1 : vSt} (hX : vOK P l shM ad (vR 3 66) cX12_longest RX12 9) (hR : (∀ pc lv, narrow .int (.int r) = .int r → decode cX12_longest pc = .ok (.ireturn, 1) → P t1 pc lv [.int r])) (H29 : ∀ (a1 : Int32) (a2 : Int32) (a3 : Int32) (a4 : Int32) (s : vSt), r29 a1 a2 a3 a4 s = some (r, t1) → P s 29 [(0, .ref (ad 0)), (1, .int a1), (2, .int a2), (3, .int a3), (4, .int a4)] []) {a1 : Int32} {a2 : Int32} {a3 : Int32} {a4 : Int32} {a5 : Int32} {k1 : Int32} {k2 : Int32} {s : vSt} (h : gM_EachAddsALineModel_longest_64 N r29 a1 a2 a3 a4 a5 k1 k2 s = some (r, t1)) : P s 64 [(0, .ref (ad 0)), (1, .int a1), (2, .int a2), (3, .int a3), (4, .int a4), (5, .int a5)] [.int k2, .int k1, .ref (ad 13)] := by
  unfold gM_EachAddsALineModel_longest_64 at h
  refine asM_13 hX dX12_longest_64 h (fun z1 h => ?_)
  refine v_iconst (v := 0) hX dX12_longest_65 (by decide) ?_
  refine v_istore (lv' := [(6, .int 0), (0, .ref (ad 0)), (1, .int a1), (2, .int a2), (3, .int a3), (4, .int a4), (5, .int a5)]) hX dX12_longest_66 (by decide) rfl ?_
  exact v_sub hX [1, 2, 3, 4, 5, 6, 0] (by rfl) (wM_EachAddsALineModel_longest_68 hX hR H29 N _ _ _ _ _ _ _ h)
noncomputable def gM_EachAddsALineModel_longest_176 (N : Nat) (r142 : Int32 → Int32 → Int32 → Int32 → vSt → Option (Int32 × vSt)) (a1 : Int32) (a3 : Int32) (a4 : Int32) (a5 : Int32) (s : vSt) : Option (Int32 × vSt) :=
  (some (a5 + 1 : Int32)).bind fun v1 =>
  r142 a1 a3 a4 v1 s
set_option maxRecDepth 4000 in
theorem wM_EachAddsALineModel_longest_176 {P : vP} {l : Launch} {ad : Nat → Nat} {N : Nat} {r142 : Int32 → Int32 → Int32 → Int32 → vSt → Option (Int32 × vSt)} {r : Int32} {t1 : vSt} (hX : vOK P l shM ad (vR 3 66) cX12_longest RX12 9) (hR : (∀ pc lv, narrow .int (.int r) = .int r → decode cX12_longest pc = .ok (.ireturn, 1) → P t1 pc lv [.int r])) (H142 : ∀ (a1 : Int32) (a3 : Int32) (a4 : Int32) (a5 : Int32) (s : vSt), r142 a1 a3 a4 a5 s = some (r, t1) → P s 142 [(0, .ref (ad 0)), (1, .int a1), (3, .int a3), (4, .int a4), (5, .int a5)] []) {a1 : Int32} {a3 : Int32} {a4 : Int32} {a5 : Int32} {s : vSt} (h : gM_EachAddsALineModel_longest_176 N r142 a1 a3 a4 a5 s = some (r, t1)) : P s 176 [(0, .ref (ad 0)), (1, .int a1), (3, .int a3), (4, .int a4), (5, .int a5)] [] := by
  unfold gM_EachAddsALineModel_longest_176 at h
  refine v_iincN hX dX12_longest_176 (j := 4) rfl (c := 1) (by decide) (by decide) h (fun v1 h => ?_)
  refine v_show (lv' := [(5, .int v1), (0, .ref (ad 0)), (1, .int a1), (3, .int a3), (4, .int a4)]) hX rfl ?_
  refine v_goto (tgt := 142) hX dX12_longest_179 (by decide) ?_
  exact v_sub hX [1, 2, 3, 4, 0] (by rfl) (H142 _ _ _ _ _ h)
noncomputable def gM_EachAddsALineModel_longest_286 (N : Nat) (r213 : Int32 → Int32 → Int32 → Int32 → Int32 → Int32 → Int32 → vSt → Option (Int32 × vSt)) (a1 : Int32) (a3 : Int32) (a4 : Int32) (a5 : Int32) (a6 : Int32) (a7 : Int32) (a8 : Int32) (s : vSt) : Option (Int32 × vSt) :=
  (some (a8 + 1 : Int32)).bind fun v1 =>
  r213 a1 a3 a4 a5 a6 a7 v1 s
set_option maxRecDepth 4000 in
theorem wM_EachAddsALineModel_longest_286 {P : vP} {l : Launch} {ad : Nat → Nat} {N : Nat} {r213 : Int32 → Int32 → Int32 → Int32 → Int32 → Int32 → Int32 → vSt → Option (Int32 × vSt)} {r : Int32} {t1 : vSt} (hX : vOK P l shM ad (vR 3 66) cX12_longest RX12 9) (hR : (∀ pc lv, narrow .int (.int r) = .int r → decode cX12_longest pc = .ok (.ireturn, 1) → P t1 pc lv [.int r])) (H213 : ∀ (a1 : Int32) (a3 : Int32) (a4 : Int32) (a5 : Int32) (a6 : Int32) (a7 : Int32) (a8 : Int32) (s : vSt), r213 a1 a3 a4 a5 a6 a7 a8 s = some (r, t1) → P s 213 [(0, .ref (ad 0)), (1, .int a1), (3, .int a3), (4, .int a4), (5, .int a5), (6, .int a6), (7, .int a7), (8, .int a8)] []) {a1 : Int32} {a3 : Int32} {a4 : Int32} {a5 : Int32} {a6 : Int32} {a7 : Int32} {a8 : Int32} {s : vSt} (h : gM_EachAddsALineModel_longest_286 N r213 a1 a3 a4 a5 a6 a7 a8 s = some (r, t1)) : P s 286 [(0, .ref (ad 0)), (1, .int a1), (3, .int a3), (4, .int a4), (5, .int a5), (6, .int a6), (7, .int a7), (8, .int a8)] [] := by
  unfold gM_EachAddsALineModel_longest_286 at h
  refine v_iincN hX dX12_longest_286 (j := 7) rfl (c := 1) (by decide) (by decide) h (fun v1 h => ?_)
  refine v_show (lv' := [(8, .int v1), (0, .ref (ad 0)), (1, .int a1), (3, .int a3), (4, .int a4), (5, .int a5), (6, .int a6), (7, .int a7)]) hX rfl ?_
  refine v_goto (tgt := 213) hX dX12_longest_289 (by decide) ?_
  exact v_sub hX [1, 2, 3, 4, 5, 6, 7, 0] (by rfl) (H213 _ _ _ _ _ _ _ _ h)
noncomputable def gM_EachAddsALineModel_longest_282 (N : Nat) (r213 : Int32 → Int32 → Int32 → Int32 → Int32 → Int32 → Int32 → vSt → Option (Int32 × vSt)) (a1 : Int32) (a3 : Int32) (a4 : Int32) (a5 : Int32) (a6 : Int32) (a8 : Int32) (s : vSt) : Option (Int32 × vSt) :=
  gM_EachAddsALineModel_longest_286 N r213 a1 a3 a4 a5 a6 a8 a8 s
set_option maxRecDepth 4000 in
theorem wM_EachAddsALineModel_longest_282 {P : vP} {l : Launch} {ad : Nat → Nat} {N : Nat} {r213 : Int32 → Int32 → Int32 → Int32 → Int32 → Int32 → Int32 → vSt → Option (Int32 × vSt)} {r : Int32} {t1 : vSt} (hX : vOK P l shM ad (vR 3 66) cX12_longest RX12 9) (hR : (∀ pc lv, narrow .int (.int r) = .int r → decode cX12_longest pc = .ok (.ireturn, 1) → P t1 pc lv [.int r])) (H213 : ∀ (a1 : Int32) (a3 : Int32) (a4 : Int32) (a5 : Int32) (a6 : Int32) (a7 : Int32) (a8 : Int32) (s : vSt), r213 a1 a3 a4 a5 a6 a7 a8 s = some (r, t1) → P s 213 [(0, .ref (ad 0)), (1, .int a1), (3, .int a3), (4, .int a4), (5, .int a5), (6, .int a6), (7, .int a7), (8, .int a8)] []) {a1 : Int32} {a3 : Int32} {a4 : Int32} {a5 : Int32} {a6 : Int32} {a8 : Int32} {s : vSt} (h : gM_EachAddsALineModel_longest_282 N r213 a1 a3 a4 a5 a6 a8 s = some (r, t1)) : P s 282 [(0, .ref (ad 0)), (1, .int a1), (3, .int a3), (4, .int a4), (5, .int a5), (6, .int a6), (8, .int a8)] [] := by
  unfold gM_EachAddsALineModel_longest_282 at h
  refine v_iload hX dX12_longest_282 6 rfl ?_
  refine v_istore (lv' := [(7, .int a8), (0, .ref (ad 0)), (1, .int a1), (3, .int a3), (4, .int a4), (5, .int a5), (6, .int a6), (8, .int a8)]) hX dX12_longest_284 (by decide) rfl ?_
  exact v_sub hX [1, 2, 3, 4, 5, 6, 0, 7] (by rfl) (wM_EachAddsALineModel_longest_286 hX hR H213 h)
noncomputable def gM_EachAddsALineModel_longest_253 (N : Nat) (r213 : Int32 → Int32 → Int32 → Int32 → Int32 → Int32 → Int32 → vSt → Option (Int32 × vSt)) (a1 : Int32) (a3 : Int32) (a4 : Int32) (a5 : Int32) (a6 : Int32) (a7 : Int32) (a8 : Int32) (s : vSt) : Option (Int32 × vSt) :=
  (ld s 13 40 a8).bind fun v1 =>
  if v1 = a6 then
    if a7 = (-1) then
      gM_EachAddsALineModel_longest_282 N r213 a1 a3 a4 a5 a6 a8 s
    else
      if (a7 / 2) ≤ (a8 / 2) then
        gM_EachAddsALineModel_longest_286 N r213 a1 a3 a4 a5 a6 a7 a8 s
      else
        gM_EachAddsALineModel_longest_282 N r213 a1 a3 a4 a5 a6 a8 s
  else
    gM_EachAddsALineModel_longest_286 N r213 a1 a3 a4 a5 a6 a7 a8 s
set_option maxRecDepth 4000 in
theorem wM_EachAddsALineModel_longest_253 {P : vP} {l : Launch} {ad : Nat → Nat} {N : Nat} {r213 : Int32 → Int32 → Int32 → Int32 → Int32 → Int32 → Int32 → vSt → Option (Int32 × vSt)} {r : Int32} {t1 : vSt} (hX : vOK P l shM ad (vR 3 66) cX12_longest RX12 9) (hR : (∀ pc lv, narrow .int (.int r) = .int r → decode cX12_longest pc = .ok (.ireturn, 1) → P t1 pc lv [.int r])) (H213 : ∀ (a1 : Int32) (a3 : Int32) (a4 : Int32) (a5 : Int32) (a6 : Int32) (a7 : Int32) (a8 : Int32) (s : vSt), r213 a1 a3 a4 a5 a6 a7 a8 s = some (r, t1) → P s 213 [(0, .ref (ad 0)), (1, .int a1), (3, .int a3), (4, .int a4), (5, .int a5), (6, .int a6), (7, .int a7), (8, .int a8)] []) {a1 : Int32} {a3 : Int32} {a4 : Int32} {a5 : Int32} {a6 : Int32} {a7 : Int32} {a8 : Int32} {s : vSt} (h : gM_EachAddsALineModel_longest_253 N r213 a1 a3 a4 a5 a6 a7 a8 s = some (r, t1)) : P s 253 [(0, .ref (ad 0)), (1, .int a1), (3, .int a3), (4, .int a4), (5, .int a5), (6, .int a6), (7, .int a7), (8, .int a8)] [] := by
  unfold gM_EachAddsALineModel_longest_253 at h
  refine v_aload_n hX dX12_longest_253 rfl 0 rfl ?_
  refine gfM_0_32 hX kf_12_47 dX12_longest_254 ?_
  refine v_iload hX dX12_longest_257 7 rfl ?_
  refine alM_13 hX dX12_longest_259 h (fun v1 h => ?_)
  refine v_iload hX dX12_longest_260 5 rfl ?_
  refine v_icmp_ne (tgt := 286) hX dX12_longest_262 (by decide) h (fun h => ?_) (fun h => ?_)
  · refine v_iload hX dX12_longest_265 6 rfl ?_
    refine v_iconst (v := (-1)) hX dX12_longest_267 (by decide) ?_
    refine v_icmp_eq (tgt := 282) hX dX12_longest_268 (by decide) h (fun h => ?_) (fun h => ?_)
    · exact v_sub hX [0, 1, 2, 3, 4, 5, 7] (by rfl) (wM_EachAddsALineModel_longest_282 hX hR H213 h)
    · refine v_iload hX dX12_longest_271 7 rfl ?_
      refine v_iconst (v := 2) hX dX12_longest_273 (by decide) ?_
      refine v_idiv hX dX12_longest_274 (by decide) ?_
      refine v_iload hX dX12_longest_275 6 rfl ?_
      refine v_iconst (v := 2) hX dX12_longest_277 (by decide) ?_
      refine v_idiv hX dX12_longest_278 (by decide) ?_
      refine v_icmp_ge (tgt := 286) hX dX12_longest_279 (by decide) h (fun h => ?_) (fun h => ?_)
      · exact v_sub hX [0, 1, 2, 3, 4, 5, 6, 7] (by rfl) (wM_EachAddsALineModel_longest_286 hX hR H213 h)
      · exact v_sub hX [0, 1, 2, 3, 4, 5, 7] (by rfl) (wM_EachAddsALineModel_longest_282 hX hR H213 h)
  · exact v_sub hX [0, 1, 2, 3, 4, 5, 6, 7] (by rfl) (wM_EachAddsALineModel_longest_286 hX hR H213 h)
noncomputable def gM_EachAddsALineModel_longest_309 (N : Nat) (r202 : Int32 → Int32 → Int32 → Int32 → Int32 → vSt → Option (Int32 × vSt)) (a1 : Int32) (a3 : Int32) (a4 : Int32) (a6 : Int32) (a7 : Int32) (s : vSt) : Option (Int32 × vSt) :=
  (some (a6 + (-1) : Int32)).bind fun v1 =>
  r202 a1 a3 a4 a7 v1 s
set_option maxRecDepth 4000 in
theorem wM_EachAddsALineModel_longest_309 {P : vP} {l : Launch} {ad : Nat → Nat} {N : Nat} {r202 : Int32 → Int32 → Int32 → Int32 → Int32 → vSt → Option (Int32 × vSt)} {r : Int32} {t1 : vSt} (hX : vOK P l shM ad (vR 3 66) cX12_longest RX12 9) (hR : (∀ pc lv, narrow .int (.int r) = .int r → decode cX12_longest pc = .ok (.ireturn, 1) → P t1 pc lv [.int r])) (H202 : ∀ (a1 : Int32) (a3 : Int32) (a4 : Int32) (a5 : Int32) (a6 : Int32) (s : vSt), r202 a1 a3 a4 a5 a6 s = some (r, t1) → P s 202 [(0, .ref (ad 0)), (1, .int a1), (3, .int a3), (4, .int a4), (5, .int a5), (6, .int a6)] []) {a1 : Int32} {a3 : Int32} {a4 : Int32} {a6 : Int32} {a7 : Int32} {s : vSt} (h : gM_EachAddsALineModel_longest_309 N r202 a1 a3 a4 a6 a7 s = some (r, t1)) : P s 309 [(0, .ref (ad 0)), (1, .int a1), (3, .int a3), (4, .int a4), (6, .int a6), (7, .int a7)] [] := by
  unfold gM_EachAddsALineModel_longest_309 at h
  refine v_iload hX dX12_longest_309 5 rfl ?_
  refine v_istore (lv' := [(5, .int a7), (0, .ref (ad 0)), (1, .int a1), (3, .int a3), (4, .int a4), (6, .int a6), (7, .int a7)]) hX dX12_longest_311 (by decide) rfl ?_
  refine v_iincN hX dX12_longest_313 (j := 5) rfl (c := (-1)) (by decide) (by decide) h (fun v1 h => ?_)
  refine v_show (lv' := [(6, .int v1), (5, .int a7), (0, .ref (ad 0)), (1, .int a1), (3, .int a3), (4, .int a4), (7, .int a7)]) hX rfl ?_
  refine v_goto (tgt := 202) hX dX12_longest_316 (by decide) ?_
  exact v_sub hX [2, 3, 4, 5, 1, 0] (by rfl) (H202 _ _ _ _ _ _ h)
noncomputable def gM_EachAddsALineModel_longest_213 (N : Nat) (r202 : Int32 → Int32 → Int32 → Int32 → Int32 → vSt → Option (Int32 × vSt)) : Nat → Int32 → Int32 → Int32 → Int32 → Int32 → Int32 → Int32 → vSt → Option (Int32 × vSt)
  | 0, _, _, _, _, _, _, _, _ => none
  | n + 1, a1, a3, a4, a5, a6, a7, a8, s =>
    if (s.1 0 30) ≤ a8 then
      if 12 ≤ (s.1 0 10) then
        gM_EachAddsALineModel_longest_309 N r202 a1 a3 a4 a6 a7 s
      else
        (fM_EachAddsALineModel_tell N (a7 / 2) s).bind fun z1 =>
        gM_EachAddsALineModel_longest_309 N r202 a1 a3 a4 a6 a7 z1
    else
      if a5 = (-1) then
        (fM_EachAddsALineModel_begins N a8 a1 a3 s).bind fun p2 =>
        if p2.1 = 0 then
          gM_EachAddsALineModel_longest_286 N (gM_EachAddsALineModel_longest_213 N r202 n) a1 a3 a4 a5 a6 a7 a8 p2.2
        else
          gM_EachAddsALineModel_longest_253 N (gM_EachAddsALineModel_longest_213 N r202 n) a1 a3 a4 a5 a6 a7 a8 p2.2
      else
        (fM_EachAddsALineModel_follows N a8 a5 s).bind fun p3 =>
        if p3.1 = 0 then
          gM_EachAddsALineModel_longest_286 N (gM_EachAddsALineModel_longest_213 N r202 n) a1 a3 a4 a5 a6 a7 a8 p3.2
        else
          gM_EachAddsALineModel_longest_253 N (gM_EachAddsALineModel_longest_213 N r202 n) a1 a3 a4 a5 a6 a7 a8 p3.2
set_option maxRecDepth 4000 in
theorem wM_EachAddsALineModel_longest_213 {P : vP} {l : Launch} {ad : Nat → Nat} {N : Nat} {r202 : Int32 → Int32 → Int32 → Int32 → Int32 → vSt → Option (Int32 × vSt)} {r : Int32} {t1 : vSt} (hX : vOK P l shM ad (vR 3 66) cX12_longest RX12 9) (hR : (∀ pc lv, narrow .int (.int r) = .int r → decode cX12_longest pc = .ok (.ireturn, 1) → P t1 pc lv [.int r])) (H202 : ∀ (a1 : Int32) (a3 : Int32) (a4 : Int32) (a5 : Int32) (a6 : Int32) (s : vSt), r202 a1 a3 a4 a5 a6 s = some (r, t1) → P s 202 [(0, .ref (ad 0)), (1, .int a1), (3, .int a3), (4, .int a4), (5, .int a5), (6, .int a6)] []) : ∀ (n : Nat) (a1 : Int32) (a3 : Int32) (a4 : Int32) (a5 : Int32) (a6 : Int32) (a7 : Int32) (a8 : Int32) (s : vSt), gM_EachAddsALineModel_longest_213 N r202 n a1 a3 a4 a5 a6 a7 a8 s = some (r, t1) → P s 213 [(0, .ref (ad 0)), (1, .int a1), (3, .int a3), (4, .int a4), (5, .int a5), (6, .int a6), (7, .int a7), (8, .int a8)] [] := by
  intro n
  induction n with
  | zero => intro a1 a3 a4 a5 a6 a7 a8 s h; cases h
  | succ n ih =>
    intro a1 a3 a4 a5 a6 a7 a8 s h
    unfold gM_EachAddsALineModel_longest_213 at h
    refine v_iload hX dX12_longest_213 7 rfl ?_
    refine v_aload_n hX dX12_longest_215 rfl 0 rfl ?_
    refine gfM_0_30 hX kf_12_262 dX12_longest_216 ?_
    refine v_icmp_ge (tgt := 292) hX dX12_longest_219 (by decide) h (fun h => ?_) (fun h => ?_)
    · refine v_aload_n hX dX12_longest_292 rfl 0 rfl ?_
      refine gfM_0_10 hX kf_12_99 dX12_longest_293 ?_
      refine v_bipush (v := 12) hX dX12_longest_296 (by decide) ?_
      refine v_icmp_ge (tgt := 309) hX dX12_longest_298 (by decide) h (fun h => ?_) (fun h => ?_)
      · exact v_sub hX [0, 1, 2, 3, 5, 6] (by rfl) (wM_EachAddsALineModel_longest_309 hX hR H202 h)
      · refine v_aload_n hX dX12_longest_301 rfl 0 rfl ?_
        refine v_iload hX dX12_longest_302 6 rfl ?_
        refine v_iconst (v := 2) hX dX12_longest_304 (by decide) ?_
        refine v_idiv hX dX12_longest_305 (by decide) ?_
        obtain ⟨z1, hz1, h⟩ := bsome h
        refine v_callVV (o := 0) hX (mM_EachAddsALineModel_tell hz1 l ad) kM_X12_tell kV_X12_tell km_12_250 (by decide) (fun _ => rfl) rfl rfl rfl (Nat.le_of_ble_eq_true rfl) (by decide) dX12_longest_306 ?_
        exact v_sub hX [0, 1, 2, 3, 5, 6] (by rfl) (wM_EachAddsALineModel_longest_309 hX hR H202 h)
    · refine v_iload hX dX12_longest_222 4 rfl ?_
      refine v_iconst (v := (-1)) hX dX12_longest_224 (by decide) ?_
      refine v_icmp_ne (tgt := 242) hX dX12_longest_225 (by decide) h (fun h => ?_) (fun h => ?_)
      · refine v_aload_n hX dX12_longest_228 rfl 0 rfl ?_
        refine v_iload hX dX12_longest_229 7 rfl ?_
        refine v_iload_n hX dX12_longest_231 rfl 1 rfl ?_
        refine v_iload_n hX dX12_longest_232 rfl 2 rfl ?_
        obtain ⟨p2, hp2, h⟩ := bsome h
        refine v_callVI (o := 0) hX (mM_EachAddsALineModel_begins hp2 l ad) kM_X12_begins kV_X12_begins km_12_291 (by decide) (fun _ => rfl) rfl rfl rfl (Nat.le_of_ble_eq_true rfl) (by decide) dX12_longest_233 ?_
        refine v_if_eq (tgt := 286) hX dX12_longest_236 (by decide) h (fun h => ?_) (fun h => ?_)
        · exact v_sub hX [0, 1, 2, 3, 4, 5, 6, 7] (by rfl) (wM_EachAddsALineModel_longest_286 hX hR ih h)
        · refine v_goto (tgt := 253) hX dX12_longest_239 (by decide) ?_
          exact v_sub hX [0, 1, 2, 3, 4, 5, 6, 7] (by rfl) (wM_EachAddsALineModel_longest_253 hX hR ih h)
      · refine v_aload_n hX dX12_longest_242 rfl 0 rfl ?_
        refine v_iload hX dX12_longest_243 7 rfl ?_
        refine v_iload hX dX12_longest_245 4 rfl ?_
        obtain ⟨p3, hp3, h⟩ := bsome h
        refine v_callVI (o := 0) hX (mM_EachAddsALineModel_follows hp3 l ad) kM_X12_follows kV_X12_follows km_12_280 (by decide) (fun _ => rfl) rfl rfl rfl (Nat.le_of_ble_eq_true rfl) (by decide) dX12_longest_247 ?_
        refine v_if_eq (tgt := 286) hX dX12_longest_250 (by decide) h (fun h => ?_) (fun h => ?_)
        · exact v_sub hX [0, 1, 2, 3, 4, 5, 6, 7] (by rfl) (wM_EachAddsALineModel_longest_286 hX hR ih h)
        · exact v_sub hX [0, 1, 2, 3, 4, 5, 6, 7] (by rfl) (wM_EachAddsALineModel_longest_253 hX hR ih h)
noncomputable def gM_EachAddsALineModel_longest_202 (N : Nat)  : Nat → Int32 → Int32 → Int32 → Int32 → Int32 → vSt → Option (Int32 × vSt)
  | 0, _, _, _, _, _, _ => none
  | n + 1, a1, a3, a4, a5, a6, s =>
    if a6 ≤ 0 then
      some (a4, s)
    else
      (some ((-1) : Int32)).bind fun v1 =>
      gM_EachAddsALineModel_longest_213 N (gM_EachAddsALineModel_longest_202 N n) N a1 a3 a4 a5 a6 v1 0 s
set_option maxRecDepth 4000 in
theorem wM_EachAddsALineModel_longest_202 {P : vP} {l : Launch} {ad : Nat → Nat} {N : Nat} {r : Int32} {t1 : vSt} (hX : vOK P l shM ad (vR 3 66) cX12_longest RX12 9) (hR : (∀ pc lv, narrow .int (.int r) = .int r → decode cX12_longest pc = .ok (.ireturn, 1) → P t1 pc lv [.int r]))  : ∀ (n : Nat) (a1 : Int32) (a3 : Int32) (a4 : Int32) (a5 : Int32) (a6 : Int32) (s : vSt), gM_EachAddsALineModel_longest_202 N n a1 a3 a4 a5 a6 s = some (r, t1) → P s 202 [(0, .ref (ad 0)), (1, .int a1), (3, .int a3), (4, .int a4), (5, .int a5), (6, .int a6)] [] := by
  intro n
  induction n with
  | zero => intro a1 a3 a4 a5 a6 s h; cases h
  | succ n ih =>
    intro a1 a3 a4 a5 a6 s h
    unfold gM_EachAddsALineModel_longest_202 at h
    refine v_iload hX dX12_longest_202 5 rfl ?_
    refine v_if_le (tgt := 319) hX dX12_longest_204 (by decide) h (fun h => ?_) (fun h => ?_)
    · refine v_iload hX dX12_longest_319 3 rfl ?_
      exact v_retI hR h dX12_longest_321
    · refine v_iconst (v := (-1)) hX dX12_longest_207 (by decide) ?_
      refine v_nmI hX h (fun v1 h => ?_)
      refine v_istore (lv' := [(7, .int v1), (0, .ref (ad 0)), (1, .int a1), (3, .int a3), (4, .int a4), (5, .int a5), (6, .int a6)]) hX dX12_longest_208 (by decide) rfl ?_
      refine v_iconst (v := 0) hX dX12_longest_210 (by decide) ?_
      refine v_istore (lv' := [(8, .int 0), (7, .int v1), (0, .ref (ad 0)), (1, .int a1), (3, .int a3), (4, .int a4), (5, .int a5), (6, .int a6)]) hX dX12_longest_211 (by decide) rfl ?_
      exact v_sub hX [2, 3, 4, 5, 6, 7, 1, 0] (by rfl) (wM_EachAddsALineModel_longest_213 hX hR ih N _ _ _ _ _ _ _ _ h)
noncomputable def gM_EachAddsALineModel_longest_142 (N : Nat)  : Nat → Int32 → Int32 → Int32 → Int32 → vSt → Option (Int32 × vSt)
  | 0, _, _, _, _, _ => none
  | n + 1, a1, a3, a4, a5, s =>
    if (s.1 0 30) ≤ a5 then
      if a4 = 0 then
        some ((-2), s)
      else
        (some ((-1) : Int32)).bind fun v1 =>
        (some (s1 s 0 10 0)).bind fun z2 =>
        gM_EachAddsALineModel_longest_202 N N a1 a3 a4 v1 a4 z2
    else
      (fM_EachAddsALineModel_begins N a5 a1 a3 s).bind fun p3 =>
      if p3.1 = 0 then
        gM_EachAddsALineModel_longest_176 N (gM_EachAddsALineModel_longest_142 N n) a1 a3 a4 a5 p3.2
      else
        (ld p3.2 13 40 a5).bind fun v4 =>
        (some (if a4 < v4 then v4 else a4 : Int32)).bind fun v5 =>
        gM_EachAddsALineModel_longest_176 N (gM_EachAddsALineModel_longest_142 N n) a1 a3 v5 a5 p3.2
set_option maxRecDepth 4000 in
theorem wM_EachAddsALineModel_longest_142 {P : vP} {l : Launch} {ad : Nat → Nat} {N : Nat} {r : Int32} {t1 : vSt} (hX : vOK P l shM ad (vR 3 66) cX12_longest RX12 9) (hR : (∀ pc lv, narrow .int (.int r) = .int r → decode cX12_longest pc = .ok (.ireturn, 1) → P t1 pc lv [.int r]))  : ∀ (n : Nat) (a1 : Int32) (a3 : Int32) (a4 : Int32) (a5 : Int32) (s : vSt), gM_EachAddsALineModel_longest_142 N n a1 a3 a4 a5 s = some (r, t1) → P s 142 [(0, .ref (ad 0)), (1, .int a1), (3, .int a3), (4, .int a4), (5, .int a5)] [] := by
  intro n
  induction n with
  | zero => intro a1 a3 a4 a5 s h; cases h
  | succ n ih =>
    intro a1 a3 a4 a5 s h
    unfold gM_EachAddsALineModel_longest_142 at h
    refine v_iload hX dX12_longest_142 4 rfl ?_
    refine v_aload_n hX dX12_longest_144 rfl 0 rfl ?_
    refine gfM_0_30 hX kf_12_262 dX12_longest_145 ?_
    refine v_icmp_ge (tgt := 182) hX dX12_longest_148 (by decide) h (fun h => ?_) (fun h => ?_)
    · refine v_iload hX dX12_longest_182 3 rfl ?_
      refine v_if_ne (tgt := 190) hX dX12_longest_184 (by decide) h (fun h => ?_) (fun h => ?_)
      · refine v_bipush (v := (-2)) hX dX12_longest_187 (by decide) ?_
        exact v_retI hR h dX12_longest_189
      · refine v_iconst (v := (-1)) hX dX12_longest_190 (by decide) ?_
        refine v_nmI hX h (fun v1 h => ?_)
        refine v_istore (lv' := [(5, .int v1), (0, .ref (ad 0)), (1, .int a1), (3, .int a3), (4, .int a4)]) hX dX12_longest_191 (by decide) rfl ?_
        refine v_aload_n hX dX12_longest_193 rfl 1 rfl ?_
        refine v_iconst (v := 0) hX dX12_longest_194 (by decide) ?_
        refine pfM_0_10 hX kf_12_99 dX12_longest_195 h (fun z2 h => ?_)
        refine v_iload hX dX12_longest_198 4 rfl ?_
        refine v_istore (lv' := [(6, .int a4), (5, .int v1), (0, .ref (ad 0)), (1, .int a1), (3, .int a3), (4, .int a4)]) hX dX12_longest_200 (by decide) rfl ?_
        exact v_sub hX [2, 3, 4, 5, 1, 0] (by rfl) (wM_EachAddsALineModel_longest_202 hX hR  N _ _ _ _ _ _ h)
    · refine v_aload_n hX dX12_longest_151 rfl 0 rfl ?_
      refine v_iload hX dX12_longest_152 4 rfl ?_
      refine v_iload_n hX dX12_longest_154 rfl 1 rfl ?_
      refine v_iload_n hX dX12_longest_155 rfl 2 rfl ?_
      obtain ⟨p3, hp3, h⟩ := bsome h
      refine v_callVI (o := 0) hX (mM_EachAddsALineModel_begins hp3 l ad) kM_X12_begins kV_X12_begins km_12_291 (by decide) (fun _ => rfl) rfl rfl rfl (Nat.le_of_ble_eq_true rfl) (by decide) dX12_longest_156 ?_
      refine v_if_eq (tgt := 176) hX dX12_longest_159 (by decide) h (fun h => ?_) (fun h => ?_)
      · exact v_sub hX [0, 1, 2, 3, 4] (by rfl) (wM_EachAddsALineModel_longest_176 hX hR ih h)
      · refine v_iload hX dX12_longest_162 3 rfl ?_
        refine v_aload_n hX dX12_longest_164 rfl 0 rfl ?_
        refine gfM_0_32 hX kf_12_47 dX12_longest_165 ?_
        refine v_iload hX dX12_longest_168 4 rfl ?_
        refine alM_13 hX dX12_longest_170 h (fun v4 h => ?_)
        refine v_max hX km_12_213 kS_J9_max_7cf53 kI_Math kC_max (Nat.le_of_ble_eq_true rfl) (Nat.le_of_ble_eq_true rfl) dX12_longest_171 ?_
        refine v_nmI hX h (fun v5 h => ?_)
        refine v_istore (lv' := [(4, .int v5), (0, .ref (ad 0)), (1, .int a1), (3, .int a3), (5, .int a5)]) hX dX12_longest_174 (by decide) rfl ?_
        exact v_sub hX [1, 2, 3, 0, 4] (by rfl) (wM_EachAddsALineModel_longest_176 hX hR ih h)
noncomputable def gM_EachAddsALineModel_longest_29 (N : Nat)  : Nat → Int32 → Int32 → Int32 → Int32 → vSt → Option (Int32 × vSt)
  | 0, _, _, _, _, _ => none
  | n + 1, a1, a2, a3, a4, s =>
    if a4 < 0 then
      gM_EachAddsALineModel_longest_142 N N a1 a3 0 0 s
    else
      (ld s 11 40 a4).bind fun v1 =>
      (fM_EachAddsALineModel_getter N v1 s).bind fun p2 =>
      if p2.1 = a2 then
        gM_EachAddsALineModel_longest_64 N (gM_EachAddsALineModel_longest_29 N n) a1 a2 a3 a4 v1 v1 1 p2.2
      else
        gM_EachAddsALineModel_longest_64 N (gM_EachAddsALineModel_longest_29 N n) a1 a2 a3 a4 v1 v1 0 p2.2
set_option maxRecDepth 4000 in
theorem wM_EachAddsALineModel_longest_29 {P : vP} {l : Launch} {ad : Nat → Nat} {N : Nat} {r : Int32} {t1 : vSt} (hX : vOK P l shM ad (vR 3 66) cX12_longest RX12 9) (hR : (∀ pc lv, narrow .int (.int r) = .int r → decode cX12_longest pc = .ok (.ireturn, 1) → P t1 pc lv [.int r]))  : ∀ (n : Nat) (a1 : Int32) (a2 : Int32) (a3 : Int32) (a4 : Int32) (s : vSt), gM_EachAddsALineModel_longest_29 N n a1 a2 a3 a4 s = some (r, t1) → P s 29 [(0, .ref (ad 0)), (1, .int a1), (2, .int a2), (3, .int a3), (4, .int a4)] [] := by
  intro n
  induction n with
  | zero => intro a1 a2 a3 a4 s h; cases h
  | succ n ih =>
    intro a1 a2 a3 a4 s h
    unfold gM_EachAddsALineModel_longest_29 at h
    refine v_iload hX dX12_longest_29 4 rfl ?_
    refine v_if_lt (tgt := 136) hX dX12_longest_31 (by decide) h (fun h => ?_) (fun h => ?_)
    · refine v_iconst (v := 0) hX dX12_longest_136 (by decide) ?_
      refine v_istore (lv' := [(4, .int 0), (0, .ref (ad 0)), (1, .int a1), (2, .int a2), (3, .int a3)]) hX dX12_longest_137 (by decide) rfl ?_
      refine v_iconst (v := 0) hX dX12_longest_139 (by decide) ?_
      refine v_istore (lv' := [(5, .int 0), (4, .int 0), (0, .ref (ad 0)), (1, .int a1), (2, .int a2), (3, .int a3)]) hX dX12_longest_140 (by decide) rfl ?_
      exact v_sub hX [2, 3, 5, 1, 0] (by rfl) (wM_EachAddsALineModel_longest_142 hX hR  N _ _ _ _ _ h)
    · refine v_aload_n hX dX12_longest_34 rfl 0 rfl ?_
      refine gfM_0_29 hX kf_12_41 dX12_longest_35 ?_
      refine v_iload hX dX12_longest_38 4 rfl ?_
      refine alM_11 hX dX12_longest_40 h (fun v1 h => ?_)
      refine v_istore (lv' := [(5, .int v1), (0, .ref (ad 0)), (1, .int a1), (2, .int a2), (3, .int a3), (4, .int a4)]) hX dX12_longest_41 (by decide) rfl ?_
      refine v_aload_n hX dX12_longest_43 rfl 1 rfl ?_
      refine gfM_0_32 hX kf_12_47 dX12_longest_44 ?_
      refine v_iload hX dX12_longest_47 0 rfl ?_
      refine v_aload_n hX dX12_longest_49 rfl 1 rfl ?_
      refine v_iload hX dX12_longest_50 0 rfl ?_
      obtain ⟨p2, hp2, h⟩ := bsome h
      refine v_callVI (o := 0) hX (mM_EachAddsALineModel_getter hp2 l ad) kM_X12_getter kV_X12_getter km_12_268 (by decide) (fun _ => rfl) rfl rfl rfl (Nat.le_of_ble_eq_true rfl) (by decide) dX12_longest_52 ?_
      refine v_iload_n hX dX12_longest_55 rfl 3 rfl ?_
      refine v_icmp_ne (tgt := 63) hX dX12_longest_56 (by decide) h (fun h => ?_) (fun h => ?_)
      · refine v_iconst (v := 1) hX dX12_longest_59 (by decide) ?_
        refine v_goto (tgt := 64) hX dX12_longest_60 (by decide) ?_
        exact v_sub hX [1, 2, 3, 4, 5, 0] (by rfl) (wM_EachAddsALineModel_longest_64 hX hR ih h)
      · refine v_iconst (v := 0) hX dX12_longest_63 (by decide) ?_
        exact v_sub hX [1, 2, 3, 4, 5, 0] (by rfl) (wM_EachAddsALineModel_longest_64 hX hR ih h)
noncomputable def gM_EachAddsALineModel_longest_0 (N : Nat)  (a1 : Int32) (a2 : Int32) (a3 : Int32) (s : vSt) : Option (Int32 × vSt) :=
  (some (s1 s 0 11 0)).bind fun z1 =>
  (fM_EachAddsALineModel_isTrip N a1 a2 a3 z1).bind fun p2 =>
  if p2.1 = 0 then
    some ((-1), p2.2)
  else
    (fM_EachAddsALineModel_findOrder N p2.2).bind fun z3 =>
    (some ((z3.1 0 30) - 1 : Int32)).bind fun v4 =>
    gM_EachAddsALineModel_longest_29 N N a1 a2 a3 v4 z3
set_option maxRecDepth 4000 in
theorem wM_EachAddsALineModel_longest_0 {P : vP} {l : Launch} {ad : Nat → Nat} {N : Nat} {r : Int32} {t1 : vSt} (hX : vOK P l shM ad (vR 3 66) cX12_longest RX12 9) (hR : (∀ pc lv, narrow .int (.int r) = .int r → decode cX12_longest pc = .ok (.ireturn, 1) → P t1 pc lv [.int r]))  {a1 : Int32} {a2 : Int32} {a3 : Int32} {s : vSt} (h : gM_EachAddsALineModel_longest_0 N a1 a2 a3 s = some (r, t1)) : P s 0 [(0, .ref (ad 0)), (1, .int a1), (2, .int a2), (3, .int a3)] [] := by
  unfold gM_EachAddsALineModel_longest_0 at h
  refine v_aload_n hX dX12_longest_0 rfl 0 rfl ?_
  refine v_iconst (v := 0) hX dX12_longest_1 (by decide) ?_
  refine pfM_0_11 hX kf_12_96 dX12_longest_2 h (fun z1 h => ?_)
  refine v_aload_n hX dX12_longest_5 rfl 0 rfl ?_
  refine v_iload_n hX dX12_longest_6 rfl 1 rfl ?_
  refine v_iload_n hX dX12_longest_7 rfl 2 rfl ?_
  refine v_iload_n hX dX12_longest_8 rfl 3 rfl ?_
  obtain ⟨p2, hp2, h⟩ := bsome h
  refine v_callVI (o := 0) hX (mM_EachAddsALineModel_isTrip hp2 l ad) kM_X12_isTrip kV_X12_isTrip km_12_294 (by decide) (fun _ => rfl) rfl rfl rfl (Nat.le_of_ble_eq_true rfl) (by decide) dX12_longest_9 ?_
  refine v_if_ne (tgt := 17) hX dX12_longest_12 (by decide) h (fun h => ?_) (fun h => ?_)
  · refine v_iconst (v := (-1)) hX dX12_longest_15 (by decide) ?_
    exact v_retI hR h dX12_longest_16
  · refine v_aload_n hX dX12_longest_17 rfl 0 rfl ?_
    obtain ⟨z3, hz3, h⟩ := bsome h
    refine v_callVV (o := 0) hX (mM_EachAddsALineModel_findOrder hz3 l ad) kM_X12_findOrder kV_X12_findOrder km_12_271 (by decide) (fun _ => rfl) rfl rfl rfl (Nat.le_of_ble_eq_true rfl) (by decide) dX12_longest_18 ?_
    refine v_aload_n hX dX12_longest_21 rfl 0 rfl ?_
    refine gfM_0_30 hX kf_12_262 dX12_longest_22 ?_
    refine v_iconst (v := 1) hX dX12_longest_25 (by decide) ?_
    refine v_isub hX dX12_longest_26 ?_
    refine v_nmI hX h (fun v4 h => ?_)
    refine v_istore (lv' := [(4, .int v4), (0, .ref (ad 0)), (1, .int a1), (2, .int a2), (3, .int a3)]) hX dX12_longest_27 (by decide) rfl ?_
    exact v_sub hX [1, 2, 3, 4, 0] (by rfl) (wM_EachAddsALineModel_longest_29 hX hR  N _ _ _ _ _ h)
noncomputable def fM_EachAddsALineModel_longest (N : Nat) (a1 : Int32) (a2 : Int32) (a3 : Int32) (s : vSt) : Option (Int32 × vSt) := gM_EachAddsALineModel_longest_0 N a1 a2 a3 s
theorem mM_EachAddsALineModel_longest {N : Nat} {a1 : Int32} {a2 : Int32} {a3 : Int32} {s : vSt} {r : Int32} {t1 : vSt} (h : fM_EachAddsALineModel_longest N a1 a2 a3 s = some (r, t1)) (l : Launch) (ad : Nat → Nat) : vMI l shM ad yX12_longest cX12_longest 9 .int 3 66 s [.ref (ad 0), .int a1, .int a2, .int a3] r t1 :=
  vMI_of (by decide +kernel) (Nat.le_of_ble_eq_true rfl) (fun P hX hR => wM_EachAddsALineModel_longest_0 hX hR h)
