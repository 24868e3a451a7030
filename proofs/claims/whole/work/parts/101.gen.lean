-- C_Roads_putHour
noncomputable def gC_Roads_putHour_0 (N : Nat)  (a1 : Int32) (a2 : Int32) (s : vSt) : Option (Int32 × vSt) :=
  (ld s 13 20 a1).bind fun v1 =>
  (sto s 13 20 a1 a2).bind fun z2 =>
  (fC_Roads_sortByHour N z2).bind fun z3 =>
  some (v1, z3)
set_option maxRecDepth 4000 in
theorem wC_Roads_putHour_0 {P : vP} {l : Launch} {ad : Nat → Nat} {N : Nat} {r : Int32} {t1 : vSt} (hX : vOK P l shC ad (vR 1 22) cX6_putHour RX6 4) (hR : (∀ pc lv, narrow .int (.int r) = .int r → decode cX6_putHour pc = .ok (.ireturn, 1) → P t1 pc lv [.int r]))  {a1 : Int32} {a2 : Int32} {s : vSt} (h : gC_Roads_putHour_0 N a1 a2 s = some (r, t1)) : P s 0 [(0, .ref (ad 9)), (1, .int a1), (2, .int a2)] [] := by
  unfold gC_Roads_putHour_0 at h
  refine v_aload_n hX dX6_putHour_0 rfl 0 rfl ?_
  refine gfC_9_3 hX kf_6_21 dX6_putHour_1 ?_
  refine v_iload_n hX dX6_putHour_4 rfl 1 rfl ?_
  refine alC_13 hX dX6_putHour_5 h (fun v1 h => ?_)
  refine v_istore_n (lv' := [(3, .int v1), (0, .ref (ad 9)), (1, .int a1), (2, .int a2)]) hX dX6_putHour_6 rfl (by decide) rfl ?_
  refine v_aload_n hX dX6_putHour_7 rfl 1 rfl ?_
  refine gfC_9_3 hX kf_6_21 dX6_putHour_8 ?_
  refine v_iload_n hX dX6_putHour_11 rfl 2 rfl ?_
  refine v_iload_n hX dX6_putHour_12 rfl 3 rfl ?_
  refine asC_13 hX dX6_putHour_13 h (fun z2 h => ?_)
  refine v_aload_n hX dX6_putHour_14 rfl 1 rfl ?_
  obtain ⟨z3, hz3, h⟩ := bsome h
  refine v_callVV (o := 9) hX (mC_Roads_sortByHour hz3 l ad) kM_X6_sortByHour kV_X6_sortByHour km_6_41 (by decide) (fun _ => rfl) rfl rfl rfl (Nat.le_of_ble_eq_true rfl) (by decide) dX6_putHour_15 ?_
  refine v_iload_n hX dX6_putHour_18 rfl 0 rfl ?_
  exact v_retI hR h dX6_putHour_19
noncomputable def fC_Roads_putHour (N : Nat) (a1 : Int32) (a2 : Int32) (s : vSt) : Option (Int32 × vSt) := gC_Roads_putHour_0 N a1 a2 s
theorem mC_Roads_putHour {N : Nat} {a1 : Int32} {a2 : Int32} {s : vSt} {r : Int32} {t1 : vSt} (h : fC_Roads_putHour N a1 a2 s = some (r, t1)) (l : Launch) (ad : Nat → Nat) : vMI l shC ad yX6_putHour cX6_putHour 4 .int 1 22 s [.ref (ad 9), .int a1, .int a2] r t1 :=
  vMI_of (by decide +kernel) (Nat.le_of_ble_eq_true rfl) (fun P hX hR => wC_Roads_putHour_0 hX hR h)
-- C_EachAddsALine_move
noncomputable def gC_EachAddsALine_move_34 (N : Nat)  (a1 : Int32) (a2 : Int32) (a3 : Int32) (s : vSt) : Option (Int32 × vSt) :=
  if a2 = 1 then
    if a3 < 0 then
      some ((-1), s)
    else
      if 9 < a3 then
        some ((-1), s)
      else
        (ld s 14 20 a1).bind fun v1 =>
        (sto s 14 20 a1 a3).bind fun z2 =>
        some (v1, z2)
  else
    some ((-1), s)
set_option maxRecDepth 4000 in
theorem wC_EachAddsALine_move_34 {P : vP} {l : Launch} {ad : Nat → Nat} {N : Nat} {r : Int32} {t1 : vSt} (hX : vOK P l shC ad (vR 2 45) cX11_move RX11 5) (hR : (∀ pc lv, narrow .int (.int r) = .int r → decode cX11_move pc = .ok (.ireturn, 1) → P t1 pc lv [.int r]))  {a1 : Int32} {a2 : Int32} {a3 : Int32} {s : vSt} (h : gC_EachAddsALine_move_34 N a1 a2 a3 s = some (r, t1)) : P s 34 [(0, .ref (ad 0)), (1, .int a1), (2, .int a2), (3, .int a3)] [] := by
  unfold gC_EachAddsALine_move_34 at h
  refine v_iload_n hX dX11_move_34 rfl 2 rfl ?_
  refine v_iconst (v := 1) hX dX11_move_35 (by decide) ?_
  refine v_icmp_ne (tgt := 73) hX dX11_move_36 (by decide) h (fun h => ?_) (fun h => ?_)
  · refine v_iload_n hX dX11_move_39 rfl 3 rfl ?_
    refine v_if_lt (tgt := 73) hX dX11_move_40 (by decide) h (fun h => ?_) (fun h => ?_)
    · refine v_iconst (v := (-1)) hX dX11_move_73 (by decide) ?_
      exact v_retI hR h dX11_move_74
    · refine v_iload_n hX dX11_move_43 rfl 3 rfl ?_
      refine v_bipush (v := 9) hX dX11_move_44 (by decide) ?_
      refine v_icmp_gt (tgt := 73) hX dX11_move_46 (by decide) h (fun h => ?_) (fun h => ?_)
      · refine v_iconst (v := (-1)) hX dX11_move_73 (by decide) ?_
        exact v_retI hR h dX11_move_74
      · refine v_aload_n hX dX11_move_49 rfl 0 rfl ?_
        refine gfC_0_2 hX kf_11_26 dX11_move_50 ?_
        refine gfC_9_4 hX kf_11_140 dX11_move_53 ?_
        refine v_iload_n hX dX11_move_56 rfl 1 rfl ?_
        refine alC_14 hX dX11_move_57 h (fun v1 h => ?_)
        refine v_istore (lv' := [(4, .int v1), (0, .ref (ad 0)), (1, .int a1), (2, .int a2), (3, .int a3)]) hX dX11_move_58 (by decide) rfl ?_
        refine v_aload_n hX dX11_move_60 rfl 1 rfl ?_
        refine gfC_0_2 hX kf_11_26 dX11_move_61 ?_
        refine gfC_9_4 hX kf_11_140 dX11_move_64 ?_
        refine v_iload_n hX dX11_move_67 rfl 2 rfl ?_
        refine v_iload_n hX dX11_move_68 rfl 4 rfl ?_
        refine asC_14 hX dX11_move_69 h (fun z2 h => ?_)
        refine v_iload hX dX11_move_70 0 rfl ?_
        exact v_retI hR h dX11_move_72
  · refine v_iconst (v := (-1)) hX dX11_move_73 (by decide) ?_
    exact v_retI hR h dX11_move_74
noncomputable def gC_EachAddsALine_move_0 (N : Nat)  (a1 : Int32) (a2 : Int32) (a3 : Int32) (s : vSt) : Option (Int32 × vSt) :=
  (fC_Roads_hasMeeting N a1 s).bind fun p1 =>
  if p1.1 = 0 then
    some ((-1), p1.2)
  else
    if a2 = 0 then
      (fC_EachAddsALine_isHour N a3 p1.2).bind fun p2 =>
      if p2.1 = 0 then
        gC_EachAddsALine_move_34 N a1 a2 a3 p2.2
      else
        (fC_Roads_putHour N a1 a3 p2.2).bind fun p3 =>
        some (p3.1, p3.2)
    else
      gC_EachAddsALine_move_34 N a1 a2 a3 p1.2
set_option maxRecDepth 4000 in
theorem wC_EachAddsALine_move_0 {P : vP} {l : Launch} {ad : Nat → Nat} {N : Nat} {r : Int32} {t1 : vSt} (hX : vOK P l shC ad (vR 2 45) cX11_move RX11 5) (hR : (∀ pc lv, narrow .int (.int r) = .int r → decode cX11_move pc = .ok (.ireturn, 1) → P t1 pc lv [.int r]))  {a1 : Int32} {a2 : Int32} {a3 : Int32} {s : vSt} (h : gC_EachAddsALine_move_0 N a1 a2 a3 s = some (r, t1)) : P s 0 [(0, .ref (ad 0)), (1, .int a1), (2, .int a2), (3, .int a3)] [] := by
  unfold gC_EachAddsALine_move_0 at h
  refine v_aload_n hX dX11_move_0 rfl 0 rfl ?_
  refine gfC_0_2 hX kf_11_26 dX11_move_1 ?_
  refine v_iload_n hX dX11_move_4 rfl 1 rfl ?_
  obtain ⟨p1, hp1, h⟩ := bsome h
  refine v_callVI (o := 9) hX (mC_Roads_hasMeeting hp1 l ad) kM_X6_hasMeeting kV_X6_hasMeeting km_11_121 (by decide) (fun _ => rfl) rfl rfl rfl (Nat.le_of_ble_eq_true rfl) (by decide) dX11_move_5 ?_
  refine v_if_ne (tgt := 13) hX dX11_move_8 (by decide) h (fun h => ?_) (fun h => ?_)
  · refine v_iconst (v := (-1)) hX dX11_move_11 (by decide) ?_
    exact v_retI hR h dX11_move_12
  · refine v_iload_n hX dX11_move_13 rfl 2 rfl ?_
    refine v_if_ne (tgt := 34) hX dX11_move_14 (by decide) h (fun h => ?_) (fun h => ?_)
    · refine v_iload_n hX dX11_move_17 rfl 3 rfl ?_
      obtain ⟨p2, hp2, h⟩ := bsome h
      refine v_callSI hX (mC_EachAddsALine_isHour hp2 l ad) kM_X11_isHour kS_X11_isHour km_11_145 rfl rfl (Nat.le_of_ble_eq_true rfl) (by decide) dX11_move_18 ?_
      refine v_if_eq (tgt := 34) hX dX11_move_21 (by decide) h (fun h => ?_) (fun h => ?_)
      · exact v_sub hX [0, 1, 2, 3] (by rfl) (wC_EachAddsALine_move_34 hX hR  h)
      · refine v_aload_n hX dX11_move_24 rfl 0 rfl ?_
        refine gfC_0_2 hX kf_11_26 dX11_move_25 ?_
        refine v_iload_n hX dX11_move_28 rfl 1 rfl ?_
        refine v_iload_n hX dX11_move_29 rfl 3 rfl ?_
        obtain ⟨p3, hp3, h⟩ := bsome h
        refine v_callVI (o := 9) hX (mC_Roads_putHour hp3 l ad) kM_X6_putHour kV_X6_putHour km_11_148 (by decide) (fun _ => rfl) rfl rfl rfl (Nat.le_of_ble_eq_true rfl) (by decide) dX11_move_30 ?_
        exact v_retI hR h dX11_move_33
    · exact v_sub hX [0, 1, 2, 3] (by rfl) (wC_EachAddsALine_move_34 hX hR  h)
noncomputable def fC_EachAddsALine_move (N : Nat) (a1 : Int32) (a2 : Int32) (a3 : Int32) (s : vSt) : Option (Int32 × vSt) := gC_EachAddsALine_move_0 N a1 a2 a3 s
theorem mC_EachAddsALine_move {N : Nat} {a1 : Int32} {a2 : Int32} {a3 : Int32} {s : vSt} {r : Int32} {t1 : vSt} (h : fC_EachAddsALine_move N a1 a2 a3 s = some (r, t1)) (l : Launch) (ad : Nat → Nat) : vMI l shC ad yX11_move cX11_move 5 .int 2 45 s [.ref (ad 0), .int a1, .int a2, .int a3] r t1 :=
  vMI_of (by decide +kernel) (Nat.le_of_ble_eq_true rfl) (fun P hX hR => wC_EachAddsALine_move_0 hX hR h)
-- C_Roads_priceFrom
noncomputable def gC_Roads_priceFrom_20 (N : Nat)  (a2 : Int32) (s : vSt) : Option (Int32 × vSt) :=
  some (if (0 : Int32) < (if (9 : Int32) > a2 then a2 else (9 : Int32)) then (if (9 : Int32) > a2 then a2 else (9 : Int32)) else (0 : Int32), s)
set_option maxRecDepth 4000 in
theorem wC_Roads_priceFrom_20 {P : vP} {l : Launch} {ad : Nat → Nat} {N : Nat} {r : Int32} {t1 : vSt} (hX : vOK P l shC ad (vR 1 30) cX6_priceFrom RX6 3) (hR : (∀ pc lv, narrow .int (.int r) = .int r → decode cX6_priceFrom pc = .ok (.ireturn, 1) → P t1 pc lv [.int r]))  {a2 : Int32} {s : vSt} (h : gC_Roads_priceFrom_20 N a2 s = some (r, t1)) : P s 20 [(2, .int a2)] [] := by
  unfold gC_Roads_priceFrom_20 at h
  refine v_iconst (v := 0) hX dX6_priceFrom_20 (by decide) ?_
  refine v_bipush (v := 9) hX dX6_priceFrom_21 (by decide) ?_
  refine v_iload_n hX dX6_priceFrom_23 rfl 0 rfl ?_
  refine v_min hX km_6_48 kS_J9_min_7cf53 kI_Math kC_min (Nat.le_of_ble_eq_true rfl) (Nat.le_of_ble_eq_true rfl) dX6_priceFrom_24 ?_
  refine v_max hX km_6_53 kS_J9_max_7cf53 kI_Math kC_max (Nat.le_of_ble_eq_true rfl) (Nat.le_of_ble_eq_true rfl) dX6_priceFrom_27 ?_
  exact v_retI hR h dX6_priceFrom_30
noncomputable def gC_Roads_priceFrom_0 (N : Nat)  (a0 : Int32) (a1 : Int32) (s : vSt) : Option (Int32 × vSt) :=
  if a0 = 0 then
    (some ((a1 : Int32).toInt8.toInt32 : Int32)).bind fun v1 =>
    gC_Roads_priceFrom_20 N v1 s
  else
    if a0 = 1 then
      (some ((a1 : Int32).toInt16.toInt32 : Int32)).bind fun v2 =>
      gC_Roads_priceFrom_20 N v2 s
    else
      gC_Roads_priceFrom_20 N a1 s
set_option maxRecDepth 4000 in
theorem wC_Roads_priceFrom_0 {P : vP} {l : Launch} {ad : Nat → Nat} {N : Nat} {r : Int32} {t1 : vSt} (hX : vOK P l shC ad (vR 1 30) cX6_priceFrom RX6 3) (hR : (∀ pc lv, narrow .int (.int r) = .int r → decode cX6_priceFrom pc = .ok (.ireturn, 1) → P t1 pc lv [.int r]))  {a0 : Int32} {a1 : Int32} {s : vSt} (h : gC_Roads_priceFrom_0 N a0 a1 s = some (r, t1)) : P s 0 [(0, .int a0), (1, .int a1)] [] := by
  unfold gC_Roads_priceFrom_0 at h
  refine v_iload_n hX dX6_priceFrom_0 rfl 1 rfl ?_
  refine v_istore_n (lv' := [(2, .int a1), (0, .int a0), (1, .int a1)]) hX dX6_priceFrom_1 rfl (by decide) rfl ?_
  refine v_iload_n hX dX6_priceFrom_2 rfl 1 rfl ?_
  refine v_if_ne (tgt := 12) hX dX6_priceFrom_3 (by decide) h (fun h => ?_) (fun h => ?_)
  · refine v_iload_n hX dX6_priceFrom_6 rfl 2 rfl ?_
    refine v_i2b hX dX6_priceFrom_7 ?_
    refine v_nmI hX h (fun v1 h => ?_)
    refine v_istore_n (lv' := [(2, .int v1), (0, .int a0), (1, .int a1)]) hX dX6_priceFrom_8 rfl (by decide) rfl ?_
    refine v_goto (tgt := 20) hX dX6_priceFrom_9 (by decide) ?_
    exact v_sub hX [0] (by rfl) (wC_Roads_priceFrom_20 hX hR  h)
  · refine v_iload_n hX dX6_priceFrom_12 rfl 1 rfl ?_
    refine v_iconst (v := 1) hX dX6_priceFrom_13 (by decide) ?_
    refine v_icmp_ne (tgt := 20) hX dX6_priceFrom_14 (by decide) h (fun h => ?_) (fun h => ?_)
    · refine v_iload_n hX dX6_priceFrom_17 rfl 2 rfl ?_
      refine v_i2s hX dX6_priceFrom_18 ?_
      refine v_nmI hX h (fun v2 h => ?_)
      refine v_istore_n (lv' := [(2, .int v2), (0, .int a0), (1, .int a1)]) hX dX6_priceFrom_19 rfl (by decide) rfl ?_
      exact v_sub hX [0] (by rfl) (wC_Roads_priceFrom_20 hX hR  h)
    · exact v_sub hX [0] (by rfl) (wC_Roads_priceFrom_20 hX hR  h)
noncomputable def fC_Roads_priceFrom (N : Nat) (a0 : Int32) (a1 : Int32) (s : vSt) : Option (Int32 × vSt) := gC_Roads_priceFrom_0 N a0 a1 s
theorem mC_Roads_priceFrom {N : Nat} {a0 : Int32} {a1 : Int32} {s : vSt} {r : Int32} {t1 : vSt} (h : fC_Roads_priceFrom N a0 a1 s = some (r, t1)) (l : Launch) (ad : Nat → Nat) : vMI l shC ad yX6_priceFrom cX6_priceFrom 3 .int 1 30 s [.int a0, .int a1] r t1 :=
  vMI_of (by decide +kernel) (Nat.le_of_ble_eq_true rfl) (fun P hX hR => wC_Roads_priceFrom_0 hX hR h)
-- C_Roads_putPrices
noncomputable def gC_Roads_putPrices_42 (N : Nat) (r6 : Int32 → Int32 → Int32 → Int32 → Int32 → Int32 → vSt → Option (Int32 × vSt)) (a1 : Int32) (a2 : Int32) (a3 : Int32) (a4 : Int32) (a5 : Int32) (a6 : Int32) (k1 : Int32) (k2 : Int32) (s : vSt) : Option (Int32 × vSt) :=
  (sto s 14 20 k1 k2).bind fun z1 =>
  (ld z1 14 20 a6).bind fun v2 =>
  (some (a5 + v2 : Int32)).bind fun v3 =>
  (some (a6 + 1 : Int32)).bind fun v4 =>
  r6 a1 a2 a3 a4 v3 v4 z1
set_option maxRecDepth 4000 in
theorem wC_Roads_putPrices_42 {P : vP} {l : Launch} {ad : Nat → Nat} {N : Nat} {r6 : Int32 → Int32 → Int32 → Int32 → Int32 → Int32 → vSt → Option (Int32 × vSt)} {r : Int32} {t1 : vSt} (hX : vOK P l shC ad (vR 2 52) cX6_putPrices RX6 7) (hR : (∀ pc lv, narrow .int (.int r) = .int r → decode cX6_putPrices pc = .ok (.ireturn, 1) → P t1 pc lv [.int r])) (H6 : ∀ (a1 : Int32) (a2 : Int32) (a3 : Int32) (a4 : Int32) (a5 : Int32) (a6 : Int32) (s : vSt), r6 a1 a2 a3 a4 a5 a6 s = some (r, t1) → P s 6 [(0, .ref (ad 9)), (1, .int a1), (2, .int a2), (3, .int a3), (4, .int a4), (5, .int a5), (6, .int a6)] []) {a1 : Int32} {a2 : Int32} {a3 : Int32} {a4 : Int32} {a5 : Int32} {a6 : Int32} {k1 : Int32} {k2 : Int32} {s : vSt} (h : gC_Roads_putPrices_42 N r6 a1 a2 a3 a4 a5 a6 k1 k2 s = some (r, t1)) : P s 42 [(0, .ref (ad 9)), (1, .int a1), (2, .int a2), (3, .int a3), (4, .int a4), (5, .int a5), (6, .int a6)] [.int k2, .int k1, .ref (ad 14)] := by
  unfold gC_Roads_putPrices_42 at h
  refine asC_14 hX dX6_putPrices_42 h (fun z1 h => ?_)
  refine v_iload hX dX6_putPrices_43 5 rfl ?_
  refine v_aload_n hX dX6_putPrices_45 rfl 0 rfl ?_
  refine gfC_9_4 hX kf_6_24 dX6_putPrices_46 ?_
  refine v_iload hX dX6_putPrices_49 6 rfl ?_
  refine alC_14 hX dX6_putPrices_51 h (fun v2 h => ?_)
  refine v_iadd hX dX6_putPrices_52 ?_
  refine v_nmI hX h (fun v3 h => ?_)
  refine v_istore (lv' := [(5, .int v3), (0, .ref (ad 9)), (1, .int a1), (2, .int a2), (3, .int a3), (4, .int a4), (6, .int a6)]) hX dX6_putPrices_53 (by decide) rfl ?_
  refine v_iincN hX dX6_putPrices_55 (j := 6) rfl (c := 1) (by decide) (by decide) h (fun v4 h => ?_)
  refine v_show (lv' := [(6, .int v4), (5, .int v3), (0, .ref (ad 9)), (1, .int a1), (2, .int a2), (3, .int a3), (4, .int a4)]) hX rfl ?_
  refine v_goto (tgt := 6) hX dX6_putPrices_58 (by decide) ?_
  exact v_sub hX [2, 3, 4, 5, 6, 1, 0] (by rfl) (H6 _ _ _ _ _ _ _ h)
noncomputable def gC_Roads_putPrices_6 (N : Nat)  : Nat → Int32 → Int32 → Int32 → Int32 → Int32 → Int32 → vSt → Option (Int32 × vSt)
  | 0, _, _, _, _, _, _, _ => none
  | n + 1, a1, a2, a3, a4, a5, a6, s =>
    if (s.1 9 7) ≤ a6 then
      some (a5, s)
    else
      if a2 ≤ a6 then
        gC_Roads_putPrices_42 N (gC_Roads_putPrices_6 N n) a1 a2 a3 a4 a5 a6 a6 0 s
      else
        (fC_Roads_priceFrom N a1 (a3 + (a6 * a4)) s).bind fun p1 =>
        gC_Roads_putPrices_42 N (gC_Roads_putPrices_6 N n) a1 a2 a3 a4 a5 a6 a6 p1.1 p1.2
set_option maxRecDepth 4000 in
theorem wC_Roads_putPrices_6 {P : vP} {l : Launch} {ad : Nat → Nat} {N : Nat} {r : Int32} {t1 : vSt} (hX : vOK P l shC ad (vR 2 52) cX6_putPrices RX6 7) (hR : (∀ pc lv, narrow .int (.int r) = .int r → decode cX6_putPrices pc = .ok (.ireturn, 1) → P t1 pc lv [.int r]))  : ∀ (n : Nat) (a1 : Int32) (a2 : Int32) (a3 : Int32) (a4 : Int32) (a5 : Int32) (a6 : Int32) (s : vSt), gC_Roads_putPrices_6 N n a1 a2 a3 a4 a5 a6 s = some (r, t1) → P s 6 [(0, .ref (ad 9)), (1, .int a1), (2, .int a2), (3, .int a3), (4, .int a4), (5, .int a5), (6, .int a6)] [] := by
  intro n
  induction n with
  | zero => intro a1 a2 a3 a4 a5 a6 s h; cases h
  | succ n ih =>
    intro a1 a2 a3 a4 a5 a6 s h
    unfold gC_Roads_putPrices_6 at h
    refine v_iload hX dX6_putPrices_6 6 rfl ?_
    refine v_aload_n hX dX6_putPrices_8 rfl 0 rfl ?_
    refine gfC_9_7 hX kf_6_34 dX6_putPrices_9 ?_
    refine v_icmp_ge (tgt := 61) hX dX6_putPrices_12 (by decide) h (fun h => ?_) (fun h => ?_)
    · refine v_iload hX dX6_putPrices_61 5 rfl ?_
      exact v_retI hR h dX6_putPrices_63
    · refine v_aload_n hX dX6_putPrices_15 rfl 0 rfl ?_
      refine gfC_9_4 hX kf_6_24 dX6_putPrices_16 ?_
      refine v_iload hX dX6_putPrices_19 6 rfl ?_
      refine v_iload hX dX6_putPrices_21 6 rfl ?_
      refine v_iload_n hX dX6_putPrices_23 rfl 2 rfl ?_
      refine v_icmp_ge (tgt := 41) hX dX6_putPrices_24 (by decide) h (fun h => ?_) (fun h => ?_)
      · refine v_iconst (v := 0) hX dX6_putPrices_41 (by decide) ?_
        exact v_sub hX [0, 1, 2, 3, 4, 5, 6] (by rfl) (wC_Roads_putPrices_42 hX hR ih h)
      · refine v_iload_n hX dX6_putPrices_27 rfl 1 rfl ?_
        refine v_iload_n hX dX6_putPrices_28 rfl 3 rfl ?_
        refine v_iload hX dX6_putPrices_29 6 rfl ?_
        refine v_iload hX dX6_putPrices_31 4 rfl ?_
        refine v_imul hX dX6_putPrices_33 ?_
        refine v_iadd hX dX6_putPrices_34 ?_
        obtain ⟨p1, hp1, h⟩ := bsome h
        refine v_callSI hX (mC_Roads_priceFrom hp1 l ad) kM_X6_priceFrom kS_X6_priceFrom km_6_44 rfl rfl (Nat.le_of_ble_eq_true rfl) (by decide) dX6_putPrices_35 ?_
        refine v_goto (tgt := 42) hX dX6_putPrices_38 (by decide) ?_
        exact v_sub hX [0, 1, 2, 3, 4, 5, 6] (by rfl) (wC_Roads_putPrices_42 hX hR ih h)
noncomputable def gC_Roads_putPrices_0 (N : Nat)  (a1 : Int32) (a2 : Int32) (a3 : Int32) (a4 : Int32) (s : vSt) : Option (Int32 × vSt) :=
  gC_Roads_putPrices_6 N N a1 a2 a3 a4 0 0 s
set_option maxRecDepth 4000 in
theorem wC_Roads_putPrices_0 {P : vP} {l : Launch} {ad : Nat → Nat} {N : Nat} {r : Int32} {t1 : vSt} (hX : vOK P l shC ad (vR 2 52) cX6_putPrices RX6 7) (hR : (∀ pc lv, narrow .int (.int r) = .int r → decode cX6_putPrices pc = .ok (.ireturn, 1) → P t1 pc lv [.int r]))  {a1 : Int32} {a2 : Int32} {a3 : Int32} {a4 : Int32} {s : vSt} (h : gC_Roads_putPrices_0 N a1 a2 a3 a4 s = some (r, t1)) : P s 0 [(0, .ref (ad 9)), (1, .int a1), (2, .int a2), (3, .int a3), (4, .int a4)] [] := by
  unfold gC_Roads_putPrices_0 at h
  refine v_iconst (v := 0) hX dX6_putPrices_0 (by decide) ?_
  refine v_istore (lv' := [(5, .int 0), (0, .ref (ad 9)), (1, .int a1), (2, .int a2), (3, .int a3), (4, .int a4)]) hX dX6_putPrices_1 (by decide) rfl ?_
  refine v_iconst (v := 0) hX dX6_putPrices_3 (by decide) ?_
  refine v_istore (lv' := [(6, .int 0), (5, .int 0), (0, .ref (ad 9)), (1, .int a1), (2, .int a2), (3, .int a3), (4, .int a4)]) hX dX6_putPrices_4 (by decide) rfl ?_
  exact v_sub hX [2, 3, 4, 5, 6, 1, 0] (by rfl) (wC_Roads_putPrices_6 hX hR  N _ _ _ _ _ _ _ h)
noncomputable def fC_Roads_putPrices (N : Nat) (a1 : Int32) (a2 : Int32) (a3 : Int32) (a4 : Int32) (s : vSt) : Option (Int32 × vSt) := gC_Roads_putPrices_0 N a1 a2 a3 a4 s
theorem mC_Roads_putPrices {N : Nat} {a1 : Int32} {a2 : Int32} {a3 : Int32} {a4 : Int32} {s : vSt} {r : Int32} {t1 : vSt} (h : fC_Roads_putPrices N a1 a2 a3 a4 s = some (r, t1)) (l : Launch) (ad : Nat → Nat) : vMI l shC ad yX6_putPrices cX6_putPrices 7 .int 2 52 s [.ref (ad 9), .int a1, .int a2, .int a3, .int a4] r t1 :=
  vMI_of (by decide +kernel) (Nat.le_of_ble_eq_true rfl) (fun P hX hR => wC_Roads_putPrices_0 hX hR h)
-- C_EachAddsALine_sheet
noncomputable def gC_EachAddsALine_sheet_0 (N : Nat)  (a1 : Int32) (a2 : Int32) (a3 : Int32) (a4 : Int32) (s : vSt) : Option (Int32 × vSt) :=
  if a1 < 0 then
    some ((-1), s)
  else
    if 3 < a1 then
      some ((-1), s)
    else
      if a2 ≤ 20 then
        if a1 = 3 then
          (fC_Roads_putPrices N a1 0 0 0 s).bind fun p1 =>
          some ((-3), p1.2)
        else
          if 0 ≤ a2 then
            (fC_Roads_putPrices N a1 a2 a3 a4 s).bind fun p2 =>
            some (p2.1, p2.2)
          else
            some ((-2), s)
      else
        some ((-1), s)
set_option maxRecDepth 4000 in
theorem wC_EachAddsALine_sheet_0 {P : vP} {l : Launch} {ad : Nat → Nat} {N : Nat} {r : Int32} {t1 : vSt} (hX : vOK P l shC ad (vR 3 78) cX11_sheet RX11 5) (hR : (∀ pc lv, narrow .int (.int r) = .int r → decode cX11_sheet pc = .ok (.ireturn, 1) → P t1 pc lv [.int r]))  {a1 : Int32} {a2 : Int32} {a3 : Int32} {a4 : Int32} {s : vSt} (h : gC_EachAddsALine_sheet_0 N a1 a2 a3 a4 s = some (r, t1)) : P s 0 [(0, .ref (ad 0)), (1, .int a1), (2, .int a2), (3, .int a3), (4, .int a4)] [] := by
  unfold gC_EachAddsALine_sheet_0 at h
  refine v_iload_n hX dX11_sheet_0 rfl 1 rfl ?_
  refine v_if_lt (tgt := 15) hX dX11_sheet_1 (by decide) h (fun h => ?_) (fun h => ?_)
  · refine v_iconst (v := (-1)) hX dX11_sheet_15 (by decide) ?_
    exact v_retI hR h dX11_sheet_16
  · refine v_iload_n hX dX11_sheet_4 rfl 1 rfl ?_
    refine v_iconst (v := 3) hX dX11_sheet_5 (by decide) ?_
    refine v_icmp_gt (tgt := 15) hX dX11_sheet_6 (by decide) h (fun h => ?_) (fun h => ?_)
    · refine v_iconst (v := (-1)) hX dX11_sheet_15 (by decide) ?_
      exact v_retI hR h dX11_sheet_16
    · refine v_iload_n hX dX11_sheet_9 rfl 2 rfl ?_
      refine v_bipush (v := 20) hX dX11_sheet_10 (by decide) ?_
      refine v_icmp_le (tgt := 17) hX dX11_sheet_12 (by decide) h (fun h => ?_) (fun h => ?_)
      · refine v_iload_n hX dX11_sheet_17 rfl 1 rfl ?_
        refine v_iconst (v := 3) hX dX11_sheet_18 (by decide) ?_
        refine v_icmp_ne (tgt := 37) hX dX11_sheet_19 (by decide) h (fun h => ?_) (fun h => ?_)
        · refine v_aload_n hX dX11_sheet_22 rfl 0 rfl ?_
          refine gfC_0_2 hX kf_11_26 dX11_sheet_23 ?_
          refine v_iload_n hX dX11_sheet_26 rfl 1 rfl ?_
          refine v_iconst (v := 0) hX dX11_sheet_27 (by decide) ?_
          refine v_iconst (v := 0) hX dX11_sheet_28 (by decide) ?_
          refine v_iconst (v := 0) hX dX11_sheet_29 (by decide) ?_
          obtain ⟨p1, hp1, h⟩ := bsome h
          refine v_callVI (o := 9) hX (mC_Roads_putPrices hp1 l ad) kM_X6_putPrices kV_X6_putPrices km_11_152 (by decide) (fun _ => rfl) rfl rfl rfl (Nat.le_of_ble_eq_true rfl) (by decide) dX11_sheet_30 ?_
          refine v_pop hX dX11_sheet_33 rfl ?_
          refine v_bipush (v := (-3)) hX dX11_sheet_34 (by decide) ?_
          exact v_retI hR h dX11_sheet_36
        · refine v_iload_n hX dX11_sheet_37 rfl 2 rfl ?_
          refine v_if_ge (tgt := 44) hX dX11_sheet_38 (by decide) h (fun h => ?_) (fun h => ?_)
          · refine v_aload_n hX dX11_sheet_44 rfl 0 rfl ?_
            refine gfC_0_2 hX kf_11_26 dX11_sheet_45 ?_
            refine v_iload_n hX dX11_sheet_48 rfl 1 rfl ?_
            refine v_iload_n hX dX11_sheet_49 rfl 2 rfl ?_
            refine v_iload_n hX dX11_sheet_50 rfl 3 rfl ?_
            refine v_iload hX dX11_sheet_51 4 rfl ?_
            obtain ⟨p2, hp2, h⟩ := bsome h
            refine v_callVI (o := 9) hX (mC_Roads_putPrices hp2 l ad) kM_X6_putPrices kV_X6_putPrices km_11_152 (by decide) (fun _ => rfl) rfl rfl rfl (Nat.le_of_ble_eq_true rfl) (by decide) dX11_sheet_53 ?_
            exact v_retI hR h dX11_sheet_56
          · refine v_bipush (v := (-2)) hX dX11_sheet_41 (by decide) ?_
            exact v_retI hR h dX11_sheet_43
      · refine v_iconst (v := (-1)) hX dX11_sheet_15 (by decide) ?_
        exact v_retI hR h dX11_sheet_16
noncomputable def fC_EachAddsALine_sheet (N : Nat) (a1 : Int32) (a2 : Int32) (a3 : Int32) (a4 : Int32) (s : vSt) : Option (Int32 × vSt) := gC_EachAddsALine_sheet_0 N a1 a2 a3 a4 s
theorem mC_EachAddsALine_sheet {N : Nat} {a1 : Int32} {a2 : Int32} {a3 : Int32} {a4 : Int32} {s : vSt} {r : Int32} {t1 : vSt} (h : fC_EachAddsALine_sheet N a1 a2 a3 a4 s = some (r, t1)) (l : Launch) (ad : Nat → Nat) : vMI l shC ad yX11_sheet cX11_sheet 5 .int 3 78 s [.ref (ad 0), .int a1, .int a2, .int a3, .int a4] r t1 :=
  vMI_of (by decide +kernel) (Nat.le_of_ble_eq_true rfl) (fun P hX hR => wC_EachAddsALine_sheet_0 hX hR h)
-- C_Letters_add
noncomputable def gC_Letters_add_0 (N : Nat)  (a1 : Int32) (a2 : Int32) (a3 : Int32) (a4 : Int32) (s : vSt) : Option (vSt) :=
  (ld s 27 3 a1).bind fun v1 =>
  if v1 < 30 then
    (ld s 27 3 a1).bind fun v2 =>
    (some ((a1 * 30) + v2 : Int32)).bind fun v3 =>
    (sto s 28 90 v3 a2).bind fun z4 =>
    (sto z4 29 90 v3 a3).bind fun z5 =>
    (sto z5 30 90 v3 a4).bind fun z6 =>
    (ld z6 27 3 a1).bind fun v7 =>
    (sto z6 27 3 a1 (v7 + 1)).bind fun z8 =>
    some z8
  else
    some s
set_option maxRecDepth 4000 in
theorem wC_Letters_add_0 {P : vP} {l : Launch} {ad : Nat → Nat} {N : Nat} {t1 : vSt} (hX : vOK P l shC ad (vR 0 0) cX1_add RX1 6) (hR : (∀ pc lv, decode cX1_add pc = .ok (.return_, 1) → P t1 pc lv []))  {a1 : Int32} {a2 : Int32} {a3 : Int32} {a4 : Int32} {s : vSt} (h : gC_Letters_add_0 N a1 a2 a3 a4 s = some t1) : P s 0 [(0, .ref (ad 26)), (1, .int a1), (2, .int a2), (3, .int a3), (4, .int a4)] [] := by
  unfold gC_Letters_add_0 at h
  refine v_aload_n hX dX1_add_0 rfl 0 rfl ?_
  refine gfC_26_0 hX kf_1_9 dX1_add_1 ?_
  refine v_iload_n hX dX1_add_4 rfl 1 rfl ?_
  refine alC_27 hX dX1_add_5 h (fun v1 h => ?_)
  refine v_bipush (v := 30) hX dX1_add_6 (by decide) ?_
  refine v_icmp_lt (tgt := 12) hX dX1_add_8 (by decide) h (fun h => ?_) (fun h => ?_)
  · refine v_iload_n hX dX1_add_12 rfl 1 rfl ?_
    refine v_bipush (v := 30) hX dX1_add_13 (by decide) ?_
    refine v_imul hX dX1_add_15 ?_
    refine v_aload_n hX dX1_add_16 rfl 0 rfl ?_
    refine gfC_26_0 hX kf_1_9 dX1_add_17 ?_
    refine v_iload_n hX dX1_add_20 rfl 1 rfl ?_
    refine alC_27 hX dX1_add_21 h (fun v2 h => ?_)
    refine v_iadd hX dX1_add_22 ?_
    refine v_nmI hX h (fun v3 h => ?_)
    refine v_istore (lv' := [(5, .int v3), (0, .ref (ad 26)), (1, .int a1), (2, .int a2), (3, .int a3), (4, .int a4)]) hX dX1_add_23 (by decide) rfl ?_
    refine v_aload_n hX dX1_add_25 rfl 1 rfl ?_
    refine gfC_26_1 hX kf_1_15 dX1_add_26 ?_
    refine v_iload hX dX1_add_29 0 rfl ?_
    refine v_iload_n hX dX1_add_31 rfl 3 rfl ?_
    refine asC_28 hX dX1_add_32 h (fun z4 h => ?_)
    refine v_aload_n hX dX1_add_33 rfl 1 rfl ?_
    refine gfC_26_2 hX kf_1_18 dX1_add_34 ?_
    refine v_iload hX dX1_add_37 0 rfl ?_
    refine v_iload_n hX dX1_add_39 rfl 4 rfl ?_
    refine asC_29 hX dX1_add_40 h (fun z5 h => ?_)
    refine v_aload_n hX dX1_add_41 rfl 1 rfl ?_
    refine gfC_26_3 hX kf_1_21 dX1_add_42 ?_
    refine v_iload hX dX1_add_45 0 rfl ?_
    refine v_iload hX dX1_add_47 5 rfl ?_
    refine asC_30 hX dX1_add_49 h (fun z6 h => ?_)
    refine v_aload_n hX dX1_add_50 rfl 1 rfl ?_
    refine gfC_26_0 hX kf_1_9 dX1_add_51 ?_
    refine v_iload_n hX dX1_add_54 rfl 2 rfl ?_
    refine v_dup2 hX dX1_add_55 rfl rfl ?_
    refine alC_27 hX dX1_add_56 h (fun v7 h => ?_)
    refine v_iconst (v := 1) hX dX1_add_57 (by decide) ?_
    refine v_iadd hX dX1_add_58 ?_
    refine asC_27 hX dX1_add_59 h (fun z8 h => ?_)
    exact v_retV hR h dX1_add_60
  · exact v_retV hR h dX1_add_11
noncomputable def fC_Letters_add (N : Nat) (a1 : Int32) (a2 : Int32) (a3 : Int32) (a4 : Int32) (s : vSt) : Option (vSt) := gC_Letters_add_0 N a1 a2 a3 a4 s
theorem mC_Letters_add {N : Nat} {a1 : Int32} {a2 : Int32} {a3 : Int32} {a4 : Int32} {s : vSt} {t1 : vSt} (h : fC_Letters_add N a1 a2 a3 a4 s = some t1) (l : Launch) (ad : Nat → Nat) : vMV l shC ad yX1_add cX1_add 6 0 0 s [.ref (ad 26), .int a1, .int a2, .int a3, .int a4] t1 :=
  vMV_of (by decide +kernel) (Nat.le_of_ble_eq_true rfl) (fun P hX hR => wC_Letters_add_0 hX hR h)
-- C_Letters_begin
noncomputable def gC_Letters_begin_0 (N : Nat)  (a1 : Int32) (a2 : Int32) (a3 : Int32) (a4 : Int32) (s : vSt) : Option (vSt) :=
  (sto s 27 3 a1 0).bind fun z1 =>
  (fC_Letters_add N a1 a2 a3 a4 z1).bind fun z2 =>
  some z2
set_option maxRecDepth 4000 in
theorem wC_Letters_begin_0 {P : vP} {l : Launch} {ad : Nat → Nat} {N : Nat} {t1 : vSt} (hX : vOK P l shC ad (vR 1 25) cX1_begin RX1 5) (hR : (∀ pc lv, decode cX1_begin pc = .ok (.return_, 1) → P t1 pc lv []))  {a1 : Int32} {a2 : Int32} {a3 : Int32} {a4 : Int32} {s : vSt} (h : gC_Letters_begin_0 N a1 a2 a3 a4 s = some t1) : P s 0 [(0, .ref (ad 26)), (1, .int a1), (2, .int a2), (3, .int a3), (4, .int a4)] [] := by
  unfold gC_Letters_begin_0 at h
  refine v_aload_n hX dX1_begin_0 rfl 0 rfl ?_
  refine gfC_26_0 hX kf_1_9 dX1_begin_1 ?_
  refine v_iload_n hX dX1_begin_4 rfl 1 rfl ?_
  refine v_iconst (v := 0) hX dX1_begin_5 (by decide) ?_
  refine asC_27 hX dX1_begin_6 h (fun z1 h => ?_)
  refine v_aload_n hX dX1_begin_7 rfl 0 rfl ?_
  refine v_iload_n hX dX1_begin_8 rfl 1 rfl ?_
  refine v_iload_n hX dX1_begin_9 rfl 2 rfl ?_
  refine v_iload_n hX dX1_begin_10 rfl 3 rfl ?_
  refine v_iload hX dX1_begin_11 4 rfl ?_
  obtain ⟨z2, hz2, h⟩ := bsome h
  refine v_callVV (o := 26) hX (mC_Letters_add hz2 l ad) kM_X1_add kV_X1_add km_1_24 (by decide) (fun _ => rfl) rfl rfl rfl (Nat.le_of_ble_eq_true rfl) (by decide) dX1_begin_13 ?_
  exact v_retV hR h dX1_begin_16
noncomputable def fC_Letters_begin (N : Nat) (a1 : Int32) (a2 : Int32) (a3 : Int32) (a4 : Int32) (s : vSt) : Option (vSt) := gC_Letters_begin_0 N a1 a2 a3 a4 s
theorem mC_Letters_begin {N : Nat} {a1 : Int32} {a2 : Int32} {a3 : Int32} {a4 : Int32} {s : vSt} {t1 : vSt} (h : fC_Letters_begin N a1 a2 a3 a4 s = some t1) (l : Launch) (ad : Nat → Nat) : vMV l shC ad yX1_begin cX1_begin 5 1 25 s [.ref (ad 26), .int a1, .int a2, .int a3, .int a4] t1 :=
  vMV_of (by decide +kernel) (Nat.le_of_ble_eq_true rfl) (fun P hX hR => wC_Letters_begin_0 hX hR h)
-- C_EachAddsALine_write
noncomputable def gC_EachAddsALine_write_0 (N : Nat)  (a1 : Int32) (a2 : Int32) (a3 : Int32) (a4 : Int32) (s : vSt) : Option (Int32 × vSt) :=
  if a1 < 0 then
    some (0, s)
  else
    if 3 ≤ a1 then
      some (0, s)
    else
      (fC_Roads_hasPerson N a2 s).bind fun p1 =>
      if p1.1 = 0 then
        some (0, p1.2)
      else
        (fC_EachAddsALine_isHour N a3 p1.2).bind fun p2 =>
        if p2.1 = 0 then
          some (0, p2.2)
        else
          if a4 < 0 then
            some (0, p2.2)
          else
            if a4 ≤ 9 then
              (fC_Letters_begin N a1 a2 a3 a4 p2.2).bind fun z3 =>
              some (1, z3)
            else
              some (0, p2.2)
set_option maxRecDepth 4000 in
theorem wC_EachAddsALine_write_0 {P : vP} {l : Launch} {ad : Nat → Nat} {N : Nat} {r : Int32} {t1 : vSt} (hX : vOK P l shC ad (vR 2 49) cX11_write RX11 5) (hR : (∀ pc lv, narrow .boolean (.int r) = .int r → decode cX11_write pc = .ok (.ireturn, 1) → P t1 pc lv [.int r]))  {a1 : Int32} {a2 : Int32} {a3 : Int32} {a4 : Int32} {s : vSt} (h : gC_EachAddsALine_write_0 N a1 a2 a3 a4 s = some (r, t1)) : P s 0 [(0, .ref (ad 0)), (1, .int a1), (2, .int a2), (3, .int a3), (4, .int a4)] [] := by
  unfold gC_EachAddsALine_write_0 at h
  refine v_iload_n hX dX11_write_0 rfl 1 rfl ?_
  refine v_if_lt (tgt := 20) hX dX11_write_1 (by decide) h (fun h => ?_) (fun h => ?_)
  · refine v_iconst (v := 0) hX dX11_write_20 (by decide) ?_
    exact v_retZ0 hR h dX11_write_21
  · refine v_iload_n hX dX11_write_4 rfl 1 rfl ?_
    refine v_iconst (v := 3) hX dX11_write_5 (by decide) ?_
    refine v_icmp_ge (tgt := 20) hX dX11_write_6 (by decide) h (fun h => ?_) (fun h => ?_)
    · refine v_iconst (v := 0) hX dX11_write_20 (by decide) ?_
      exact v_retZ0 hR h dX11_write_21
    · refine v_aload_n hX dX11_write_9 rfl 0 rfl ?_
      refine gfC_0_2 hX kf_11_26 dX11_write_10 ?_
      refine v_iload_n hX dX11_write_13 rfl 2 rfl ?_
      obtain ⟨p1, hp1, h⟩ := bsome h
      refine v_callVI (o := 9) hX (mC_Roads_hasPerson hp1 l ad) kM_X6_hasPerson kV_X6_hasPerson km_11_114 (by decide) (fun _ => rfl) rfl rfl rfl (Nat.le_of_ble_eq_true rfl) (by decide) dX11_write_14 ?_
      refine v_if_ne (tgt := 22) hX dX11_write_17 (by decide) h (fun h => ?_) (fun h => ?_)
      · refine v_iconst (v := 0) hX dX11_write_20 (by decide) ?_
        exact v_retZ0 hR h dX11_write_21
      · refine v_iload_n hX dX11_write_22 rfl 3 rfl ?_
        obtain ⟨p2, hp2, h⟩ := bsome h
        refine v_callSI hX (mC_EachAddsALine_isHour hp2 l ad) kM_X11_isHour kS_X11_isHour km_11_145 rfl rfl (Nat.le_of_ble_eq_true rfl) (by decide) dX11_write_23 ?_
        refine v_if_eq (tgt := 41) hX dX11_write_26 (by decide) h (fun h => ?_) (fun h => ?_)
        · refine v_iconst (v := 0) hX dX11_write_41 (by decide) ?_
          exact v_retZ0 hR h dX11_write_42
        · refine v_iload hX dX11_write_29 4 rfl ?_
          refine v_if_lt (tgt := 41) hX dX11_write_31 (by decide) h (fun h => ?_) (fun h => ?_)
          · refine v_iconst (v := 0) hX dX11_write_41 (by decide) ?_
            exact v_retZ0 hR h dX11_write_42
          · refine v_iload hX dX11_write_34 4 rfl ?_
            refine v_bipush (v := 9) hX dX11_write_36 (by decide) ?_
            refine v_icmp_le (tgt := 43) hX dX11_write_38 (by decide) h (fun h => ?_) (fun h => ?_)
            · refine v_aload_n hX dX11_write_43 rfl 0 rfl ?_
              refine gfC_0_6 hX kf_11_60 dX11_write_44 ?_
              refine gfC_23_0 hX kf_11_156 dX11_write_47 ?_
              refine v_iload_n hX dX11_write_50 rfl 1 rfl ?_
              refine v_iload_n hX dX11_write_51 rfl 2 rfl ?_
              refine v_iload_n hX dX11_write_52 rfl 3 rfl ?_
              refine v_iload hX dX11_write_53 4 rfl ?_
              obtain ⟨z3, hz3, h⟩ := bsome h
              refine v_callVV (o := 26) hX (mC_Letters_begin hz3 l ad) kM_X1_begin kV_X1_begin km_11_160 (by decide) (fun _ => rfl) rfl rfl rfl (Nat.le_of_ble_eq_true rfl) (by decide) dX11_write_55 ?_
              refine v_iconst (v := 1) hX dX11_write_58 (by decide) ?_
              exact v_retZ1 hR h dX11_write_59
            · refine v_iconst (v := 0) hX dX11_write_41 (by decide) ?_
              exact v_retZ0 hR h dX11_write_42
noncomputable def fC_EachAddsALine_write (N : Nat) (a1 : Int32) (a2 : Int32) (a3 : Int32) (a4 : Int32) (s : vSt) : Option (Int32 × vSt) := gC_EachAddsALine_write_0 N a1 a2 a3 a4 s
theorem mC_EachAddsALine_write {N : Nat} {a1 : Int32} {a2 : Int32} {a3 : Int32} {a4 : Int32} {s : vSt} {r : Int32} {t1 : vSt} (h : fC_EachAddsALine_write N a1 a2 a3 a4 s = some (r, t1)) (l : Launch) (ad : Nat → Nat) : vMI l shC ad yX11_write cX11_write 5 .boolean 2 49 s [.ref (ad 0), .int a1, .int a2, .int a3, .int a4] r t1 :=
  vMI_of (by decide +kernel) (Nat.le_of_ble_eq_true rfl) (fun P hX hR => wC_EachAddsALine_write_0 hX hR h)
-- C_Letters_isThere
noncomputable def gC_Letters_isThere_22 (N : Nat)   (s : vSt) : Option (Int32 × vSt) :=
  some (0, s)
set_option maxRecDepth 4000 in
theorem wC_Letters_isThere_22 {P : vP} {l : Launch} {ad : Nat → Nat} {N : Nat} {r : Int32} {t1 : vSt} (hX : vOK P l shC ad (vR 0 0) cX1_isThere RX1 2) (hR : (∀ pc lv, narrow .boolean (.int r) = .int r → decode cX1_isThere pc = .ok (.ireturn, 1) → P t1 pc lv [.int r]))   {s : vSt} (h : gC_Letters_isThere_22 N s = some (r, t1)) : P s 22 [] [] := by
  unfold gC_Letters_isThere_22 at h
  refine v_iconst (v := 0) hX dX1_isThere_22 (by decide) ?_
  exact v_retZ0 hR h dX1_isThere_23
noncomputable def gC_Letters_isThere_0 (N : Nat)  (a1 : Int32) (s : vSt) : Option (Int32 × vSt) :=
  if a1 < 0 then
    gC_Letters_isThere_22 N s
  else
    if 3 ≤ a1 then
      gC_Letters_isThere_22 N s
    else
      (ld s 27 3 a1).bind fun v1 =>
      if v1 ≤ 0 then
        gC_Letters_isThere_22 N s
      else
        some (1, s)
set_option maxRecDepth 4000 in
theorem wC_Letters_isThere_0 {P : vP} {l : Launch} {ad : Nat → Nat} {N : Nat} {r : Int32} {t1 : vSt} (hX : vOK P l shC ad (vR 0 0) cX1_isThere RX1 2) (hR : (∀ pc lv, narrow .boolean (.int r) = .int r → decode cX1_isThere pc = .ok (.ireturn, 1) → P t1 pc lv [.int r]))  {a1 : Int32} {s : vSt} (h : gC_Letters_isThere_0 N a1 s = some (r, t1)) : P s 0 [(0, .ref (ad 26)), (1, .int a1)] [] := by
  unfold gC_Letters_isThere_0 at h
  refine v_iload_n hX dX1_isThere_0 rfl 1 rfl ?_
  refine v_if_lt (tgt := 22) hX dX1_isThere_1 (by decide) h (fun h => ?_) (fun h => ?_)
  · exact v_sub hX [] (by rfl) (wC_Letters_isThere_22 hX hR  h)
  · refine v_iload_n hX dX1_isThere_4 rfl 1 rfl ?_
    refine v_iconst (v := 3) hX dX1_isThere_5 (by decide) ?_
    refine v_icmp_ge (tgt := 22) hX dX1_isThere_6 (by decide) h (fun h => ?_) (fun h => ?_)
    · exact v_sub hX [] (by rfl) (wC_Letters_isThere_22 hX hR  h)
    · refine v_aload_n hX dX1_isThere_9 rfl 0 rfl ?_
      refine gfC_26_0 hX kf_1_9 dX1_isThere_10 ?_
      refine v_iload_n hX dX1_isThere_13 rfl 1 rfl ?_
      refine alC_27 hX dX1_isThere_14 h (fun v1 h => ?_)
      refine v_if_le (tgt := 22) hX dX1_isThere_15 (by decide) h (fun h => ?_) (fun h => ?_)
      · exact v_sub hX [] (by rfl) (wC_Letters_isThere_22 hX hR  h)
      · refine v_iconst (v := 1) hX dX1_isThere_18 (by decide) ?_
        refine v_goto (tgt := 23) hX dX1_isThere_19 (by decide) ?_
        exact v_retZ1 hR h dX1_isThere_23
noncomputable def fC_Letters_isThere (N : Nat) (a1 : Int32) (s : vSt) : Option (Int32 × vSt) := gC_Letters_isThere_0 N a1 s
theorem mC_Letters_isThere {N : Nat} {a1 : Int32} {s : vSt} {r : Int32} {t1 : vSt} (h : fC_Letters_isThere N a1 s = some (r, t1)) (l : Launch) (ad : Nat → Nat) : vMI l shC ad yX1_isThere cX1_isThere 2 .boolean 0 0 s [.ref (ad 26), .int a1] r t1 :=
  vMI_of (by decide +kernel) (Nat.le_of_ble_eq_true rfl) (fun P hX hR => wC_Letters_isThere_0 hX hR h)
-- C_Letters_holderAt
noncomputable def gC_Letters_holderAt_0 (N : Nat)  (a1 : Int32) (a2 : Int32) (s : vSt) : Option (Int32 × vSt) :=
  (ld s 28 90 ((a1 * 30) + a2)).bind fun v1 =>
  some (v1, s)
set_option maxRecDepth 4000 in
theorem wC_Letters_holderAt_0 {P : vP} {l : Launch} {ad : Nat → Nat} {N : Nat} {r : Int32} {t1 : vSt} (hX : vOK P l shC ad (vR 0 0) cX1_holderAt RX1 3) (hR : (∀ pc lv, narrow .int (.int r) = .int r → decode cX1_holderAt pc = .ok (.ireturn, 1) → P t1 pc lv [.int r]))  {a1 : Int32} {a2 : Int32} {s : vSt} (h : gC_Letters_holderAt_0 N a1 a2 s = some (r, t1)) : P s 0 [(0, .ref (ad 26)), (1, .int a1), (2, .int a2)] [] := by
  unfold gC_Letters_holderAt_0 at h
  refine v_aload_n hX dX1_holderAt_0 rfl 0 rfl ?_
  refine gfC_26_1 hX kf_1_15 dX1_holderAt_1 ?_
  refine v_iload_n hX dX1_holderAt_4 rfl 1 rfl ?_
  refine v_bipush (v := 30) hX dX1_holderAt_5 (by decide) ?_
  refine v_imul hX dX1_holderAt_7 ?_
  refine v_iload_n hX dX1_holderAt_8 rfl 2 rfl ?_
  refine v_iadd hX dX1_holderAt_9 ?_
  refine alC_28 hX dX1_holderAt_10 h (fun v1 h => ?_)
  exact v_retI hR h dX1_holderAt_11
noncomputable def fC_Letters_holderAt (N : Nat) (a1 : Int32) (a2 : Int32) (s : vSt) : Option (Int32 × vSt) := gC_Letters_holderAt_0 N a1 a2 s
theorem mC_Letters_holderAt {N : Nat} {a1 : Int32} {a2 : Int32} {s : vSt} {r : Int32} {t1 : vSt} (h : fC_Letters_holderAt N a1 a2 s = some (r, t1)) (l : Launch) (ad : Nat → Nat) : vMI l shC ad yX1_holderAt cX1_holderAt 3 .int 0 0 s [.ref (ad 26), .int a1, .int a2] r t1 :=
  vMI_of (by decide +kernel) (Nat.le_of_ble_eq_true rfl) (fun P hX hR => wC_Letters_holderAt_0 hX hR h)
-- C_Roads_isAt
noncomputable def gC_Roads_isAt_20 (N : Nat)   (s : vSt) : Option (Int32 × vSt) :=
  some (1, s)
set_option maxRecDepth 4000 in
theorem wC_Roads_isAt_20 {P : vP} {l : Launch} {ad : Nat → Nat} {N : Nat} {r : Int32} {t1 : vSt} (hX : vOK P l shC ad (vR 0 0) cX6_isAt RX6 3) (hR : (∀ pc lv, narrow .boolean (.int r) = .int r → decode cX6_isAt pc = .ok (.ireturn, 1) → P t1 pc lv [.int r]))   {s : vSt} (h : gC_Roads_isAt_20 N s = some (r, t1)) : P s 20 [] [] := by
  unfold gC_Roads_isAt_20 at h
  refine v_iconst (v := 1) hX dX6_isAt_20 (by decide) ?_
  refine v_goto (tgt := 25) hX dX6_isAt_21 (by decide) ?_
  exact v_retZ1 hR h dX6_isAt_25
noncomputable def gC_Roads_isAt_0 (N : Nat)  (a1 : Int32) (a2 : Int32) (s : vSt) : Option (Int32 × vSt) :=
  (ld s 11 20 a2).bind fun v1 =>
  if v1 = a1 then
    gC_Roads_isAt_20 N s
  else
    (ld s 12 20 a2).bind fun v2 =>
    if v2 = a1 then
      gC_Roads_isAt_20 N s
    else
      some (0, s)
set_option maxRecDepth 4000 in
theorem wC_Roads_isAt_0 {P : vP} {l : Launch} {ad : Nat → Nat} {N : Nat} {r : Int32} {t1 : vSt} (hX : vOK P l shC ad (vR 0 0) cX6_isAt RX6 3) (hR : (∀ pc lv, narrow .boolean (.int r) = .int r → decode cX6_isAt pc = .ok (.ireturn, 1) → P t1 pc lv [.int r]))  {a1 : Int32} {a2 : Int32} {s : vSt} (h : gC_Roads_isAt_0 N a1 a2 s = some (r, t1)) : P s 0 [(0, .ref (ad 9)), (1, .int a1), (2, .int a2)] [] := by
  unfold gC_Roads_isAt_0 at h
  refine v_aload_n hX dX6_isAt_0 rfl 0 rfl ?_
  refine gfC_9_1 hX kf_6_15 dX6_isAt_1 ?_
  refine v_iload_n hX dX6_isAt_4 rfl 2 rfl ?_
  refine alC_11 hX dX6_isAt_5 h (fun v1 h => ?_)
  refine v_iload_n hX dX6_isAt_6 rfl 1 rfl ?_
  refine v_icmp_eq (tgt := 20) hX dX6_isAt_7 (by decide) h (fun h => ?_) (fun h => ?_)
  · exact v_sub hX [] (by rfl) (wC_Roads_isAt_20 hX hR  h)
  · refine v_aload_n hX dX6_isAt_10 rfl 0 rfl ?_
    refine gfC_9_2 hX kf_6_18 dX6_isAt_11 ?_
    refine v_iload_n hX dX6_isAt_14 rfl 2 rfl ?_
    refine alC_12 hX dX6_isAt_15 h (fun v2 h => ?_)
    refine v_iload_n hX dX6_isAt_16 rfl 1 rfl ?_
    refine v_icmp_ne (tgt := 24) hX dX6_isAt_17 (by decide) h (fun h => ?_) (fun h => ?_)
    · exact v_sub hX [] (by rfl) (wC_Roads_isAt_20 hX hR  h)
    · refine v_iconst (v := 0) hX dX6_isAt_24 (by decide) ?_
      exact v_retZ0 hR h dX6_isAt_25
noncomputable def fC_Roads_isAt (N : Nat) (a1 : Int32) (a2 : Int32) (s : vSt) : Option (Int32 × vSt) := gC_Roads_isAt_0 N a1 a2 s
theorem mC_Roads_isAt {N : Nat} {a1 : Int32} {a2 : Int32} {s : vSt} {r : Int32} {t1 : vSt} (h : fC_Roads_isAt N a1 a2 s = some (r, t1)) (l : Launch) (ad : Nat → Nat) : vMI l shC ad yX6_isAt cX6_isAt 3 .boolean 0 0 s [.ref (ad 9), .int a1, .int a2] r t1 :=
  vMI_of (by decide +kernel) (Nat.le_of_ble_eq_true rfl) (fun P hX hR => wC_Roads_isAt_0 hX hR h)
-- C_Letters_sinceAt
noncomputable def gC_Letters_sinceAt_0 (N : Nat)  (a1 : Int32) (a2 : Int32) (s : vSt) : Option (Int32 × vSt) :=
  (ld s 29 90 ((a1 * 30) + a2)).bind fun v1 =>
  some (v1, s)
set_option maxRecDepth 4000 in
theorem wC_Letters_sinceAt_0 {P : vP} {l : Launch} {ad : Nat → Nat} {N : Nat} {r : Int32} {t1 : vSt} (hX : vOK P l shC ad (vR 0 0) cX1_sinceAt RX1 3) (hR : (∀ pc lv, narrow .int (.int r) = .int r → decode cX1_sinceAt pc = .ok (.ireturn, 1) → P t1 pc lv [.int r]))  {a1 : Int32} {a2 : Int32} {s : vSt} (h : gC_Letters_sinceAt_0 N a1 a2 s = some (r, t1)) : P s 0 [(0, .ref (ad 26)), (1, .int a1), (2, .int a2)] [] := by
  unfold gC_Letters_sinceAt_0 at h
  refine v_aload_n hX dX1_sinceAt_0 rfl 0 rfl ?_
  refine gfC_26_2 hX kf_1_18 dX1_sinceAt_1 ?_
  refine v_iload_n hX dX1_sinceAt_4 rfl 1 rfl ?_
  refine v_bipush (v := 30) hX dX1_sinceAt_5 (by decide) ?_
  refine v_imul hX dX1_sinceAt_7 ?_
  refine v_iload_n hX dX1_sinceAt_8 rfl 2 rfl ?_
  refine v_iadd hX dX1_sinceAt_9 ?_
  refine alC_29 hX dX1_sinceAt_10 h (fun v1 h => ?_)
  exact v_retI hR h dX1_sinceAt_11
noncomputable def fC_Letters_sinceAt (N : Nat) (a1 : Int32) (a2 : Int32) (s : vSt) : Option (Int32 × vSt) := gC_Letters_sinceAt_0 N a1 a2 s
theorem mC_Letters_sinceAt {N : Nat} {a1 : Int32} {a2 : Int32} {s : vSt} {r : Int32} {t1 : vSt} (h : fC_Letters_sinceAt N a1 a2 s = some (r, t1)) (l : Launch) (ad : Nat → Nat) : vMI l shC ad yX1_sinceAt cX1_sinceAt 3 .int 0 0 s [.ref (ad 26), .int a1, .int a2] r t1 :=
  vMI_of (by decide +kernel) (Nat.le_of_ble_eq_true rfl) (fun P hX hR => wC_Letters_sinceAt_0 hX hR h)
-- C_Post_readyHour
noncomputable def gC_Post_readyHour_0 (N : Nat)  (a1 : Int32) (s : vSt) : Option (Int32 × vSt) :=
  (ld s 27 3 a1).bind fun v1 =>
  (some (v1 - 1 : Int32)).bind fun v2 =>
  (fC_Letters_sinceAt N a1 v2 s).bind fun p3 =>
  if v2 = 0 then
    some (p3.1, p3.2)
  else
    (fC_Letters_holderAt N a1 v2 p3.2).bind fun p4 =>
    (ld p4.2 10 9 p4.1).bind fun v5 =>
    some (p3.1 + v5, p4.2)
set_option maxRecDepth 4000 in
theorem wC_Post_readyHour_0 {P : vP} {l : Launch} {ad : Nat → Nat} {N : Nat} {r : Int32} {t1 : vSt} (hX : vOK P l shC ad (vR 1 22) cX4_readyHour RX4 4) (hR : (∀ pc lv, narrow .int (.int r) = .int r → decode cX4_readyHour pc = .ok (.ireturn, 1) → P t1 pc lv [.int r]))  {a1 : Int32} {s : vSt} (h : gC_Post_readyHour_0 N a1 s = some (r, t1)) : P s 0 [(0, .ref (ad 23)), (1, .int a1)] [] := by
  unfold gC_Post_readyHour_0 at h
  refine v_aload_n hX dX4_readyHour_0 rfl 0 rfl ?_
  refine gfC_23_0 hX kf_4_12 dX4_readyHour_1 ?_
  refine gfC_26_0 hX kf_4_38 dX4_readyHour_4 ?_
  refine v_iload_n hX dX4_readyHour_7 rfl 1 rfl ?_
  refine alC_27 hX dX4_readyHour_8 h (fun v1 h => ?_)
  refine v_iconst (v := 1) hX dX4_readyHour_9 (by decide) ?_
  refine v_isub hX dX4_readyHour_10 ?_
  refine v_nmI hX h (fun v2 h => ?_)
  refine v_istore_n (lv' := [(2, .int v2), (0, .ref (ad 23)), (1, .int a1)]) hX dX4_readyHour_11 rfl (by decide) rfl ?_
  refine v_aload_n hX dX4_readyHour_12 rfl 1 rfl ?_
  refine gfC_23_0 hX kf_4_12 dX4_readyHour_13 ?_
  refine v_iload_n hX dX4_readyHour_16 rfl 2 rfl ?_
  refine v_iload_n hX dX4_readyHour_17 rfl 0 rfl ?_
  obtain ⟨p3, hp3, h⟩ := bsome h
  refine v_callVI (o := 26) hX (mC_Letters_sinceAt hp3 l ad) kM_X1_sinceAt kV_X1_sinceAt km_4_89 (by decide) (fun _ => rfl) rfl rfl rfl (Nat.le_of_ble_eq_true rfl) (by decide) dX4_readyHour_18 ?_
  refine v_istore_n (lv' := [(3, .int p3.1), (2, .int v2), (0, .ref (ad 23)), (1, .int a1)]) hX dX4_readyHour_21 rfl (by decide) rfl ?_
  refine v_iload_n hX dX4_readyHour_22 rfl 1 rfl ?_
  refine v_if_ne (tgt := 30) hX dX4_readyHour_23 (by decide) h (fun h => ?_) (fun h => ?_)
  · refine v_iload_n hX dX4_readyHour_26 rfl 0 rfl ?_
    refine v_goto (tgt := 49) hX dX4_readyHour_27 (by decide) ?_
    exact v_retI hR h dX4_readyHour_49
  · refine v_iload_n hX dX4_readyHour_30 rfl 0 rfl ?_
    refine v_aload_n hX dX4_readyHour_31 rfl 2 rfl ?_
    refine gfC_23_1 hX kf_4_26 dX4_readyHour_32 ?_
    refine gfC_9_0 hX kf_4_101 dX4_readyHour_35 ?_
    refine v_aload_n hX dX4_readyHour_38 rfl 2 rfl ?_
    refine gfC_23_0 hX kf_4_12 dX4_readyHour_39 ?_
    refine v_iload_n hX dX4_readyHour_42 rfl 3 rfl ?_
    refine v_iload_n hX dX4_readyHour_43 rfl 1 rfl ?_
    obtain ⟨p4, hp4, h⟩ := bsome h
    refine v_callVI (o := 26) hX (mC_Letters_holderAt hp4 l ad) kM_X1_holderAt kV_X1_holderAt km_4_42 (by decide) (fun _ => rfl) rfl rfl rfl (Nat.le_of_ble_eq_true rfl) (by decide) dX4_readyHour_44 ?_
    refine alC_10 hX dX4_readyHour_47 h (fun v5 h => ?_)
    refine v_iadd hX dX4_readyHour_48 ?_
    exact v_retI hR h dX4_readyHour_49
noncomputable def fC_Post_readyHour (N : Nat) (a1 : Int32) (s : vSt) : Option (Int32 × vSt) := gC_Post_readyHour_0 N a1 s
theorem mC_Post_readyHour {N : Nat} {a1 : Int32} {s : vSt} {r : Int32} {t1 : vSt} (h : fC_Post_readyHour N a1 s = some (r, t1)) (l : Launch) (ad : Nat → Nat) : vMI l shC ad yX4_readyHour cX4_readyHour 4 .int 1 22 s [.ref (ad 23), .int a1] r t1 :=
  vMI_of (by decide +kernel) (Nat.le_of_ble_eq_true rfl) (fun P hX hR => wC_Post_readyHour_0 hX hR h)
-- C_Roads_otherAt
noncomputable def gC_Roads_otherAt_0 (N : Nat)  (a1 : Int32) (a2 : Int32) (s : vSt) : Option (Int32 × vSt) :=
  (ld s 11 20 a1).bind fun v1 =>
  if v1 = a2 then
    (ld s 12 20 a1).bind fun v2 =>
    some (v2, s)
  else
    (ld s 11 20 a1).bind fun v3 =>
    some (v3, s)
set_option maxRecDepth 4000 in
theorem wC_Roads_otherAt_0 {P : vP} {l : Launch} {ad : Nat → Nat} {N : Nat} {r : Int32} {t1 : vSt} (hX : vOK P l shC ad (vR 0 0) cX6_otherAt RX6 3) (hR : (∀ pc lv, narrow .int (.int r) = .int r → decode cX6_otherAt pc = .ok (.ireturn, 1) → P t1 pc lv [.int r]))  {a1 : Int32} {a2 : Int32} {s : vSt} (h : gC_Roads_otherAt_0 N a1 a2 s = some (r, t1)) : P s 0 [(0, .ref (ad 9)), (1, .int a1), (2, .int a2)] [] := by
  unfold gC_Roads_otherAt_0 at h
  refine v_aload_n hX dX6_otherAt_0 rfl 0 rfl ?_
  refine gfC_9_1 hX kf_6_15 dX6_otherAt_1 ?_
  refine v_iload_n hX dX6_otherAt_4 rfl 1 rfl ?_
  refine alC_11 hX dX6_otherAt_5 h (fun v1 h => ?_)
  refine v_iload_n hX dX6_otherAt_6 rfl 2 rfl ?_
  refine v_icmp_ne (tgt := 19) hX dX6_otherAt_7 (by decide) h (fun h => ?_) (fun h => ?_)
  · refine v_aload_n hX dX6_otherAt_10 rfl 0 rfl ?_
    refine gfC_9_2 hX kf_6_18 dX6_otherAt_11 ?_
    refine v_iload_n hX dX6_otherAt_14 rfl 1 rfl ?_
    refine alC_12 hX dX6_otherAt_15 h (fun v2 h => ?_)
    refine v_goto (tgt := 25) hX dX6_otherAt_16 (by decide) ?_
    exact v_retI hR h dX6_otherAt_25
  · refine v_aload_n hX dX6_otherAt_19 rfl 0 rfl ?_
    refine gfC_9_1 hX kf_6_15 dX6_otherAt_20 ?_
    refine v_iload_n hX dX6_otherAt_23 rfl 1 rfl ?_
    refine alC_11 hX dX6_otherAt_24 h (fun v3 h => ?_)
    exact v_retI hR h dX6_otherAt_25
noncomputable def fC_Roads_otherAt (N : Nat) (a1 : Int32) (a2 : Int32) (s : vSt) : Option (Int32 × vSt) := gC_Roads_otherAt_0 N a1 a2 s
theorem mC_Roads_otherAt {N : Nat} {a1 : Int32} {a2 : Int32} {s : vSt} {r : Int32} {t1 : vSt} (h : fC_Roads_otherAt N a1 a2 s = some (r, t1)) (l : Launch) (ad : Nat → Nat) : vMI l shC ad yX6_otherAt cX6_otherAt 3 .int 0 0 s [.ref (ad 9), .int a1, .int a2] r t1 :=
  vMI_of (by decide +kernel) (Nat.le_of_ble_eq_true rfl) (fun P hX hR => wC_Roads_otherAt_0 hX hR h)
-- C_Letters_lineAt
noncomputable def gC_Letters_lineAt_0 (N : Nat)  (a1 : Int32) (a2 : Int32) (s : vSt) : Option (Int32 × vSt) :=
  (ld s 30 90 ((a1 * 30) + a2)).bind fun v1 =>
  some (v1, s)
set_option maxRecDepth 4000 in
theorem wC_Letters_lineAt_0 {P : vP} {l : Launch} {ad : Nat → Nat} {N : Nat} {r : Int32} {t1 : vSt} (hX : vOK P l shC ad (vR 0 0) cX1_lineAt RX1 3) (hR : (∀ pc lv, narrow .int (.int r) = .int r → decode cX1_lineAt pc = .ok (.ireturn, 1) → P t1 pc lv [.int r]))  {a1 : Int32} {a2 : Int32} {s : vSt} (h : gC_Letters_lineAt_0 N a1 a2 s = some (r, t1)) : P s 0 [(0, .ref (ad 26)), (1, .int a1), (2, .int a2)] [] := by
  unfold gC_Letters_lineAt_0 at h
  refine v_aload_n hX dX1_lineAt_0 rfl 0 rfl ?_
  refine gfC_26_3 hX kf_1_21 dX1_lineAt_1 ?_
  refine v_iload_n hX dX1_lineAt_4 rfl 1 rfl ?_
  refine v_bipush (v := 30) hX dX1_lineAt_5 (by decide) ?_
  refine v_imul hX dX1_lineAt_7 ?_
  refine v_iload_n hX dX1_lineAt_8 rfl 2 rfl ?_
  refine v_iadd hX dX1_lineAt_9 ?_
  refine alC_30 hX dX1_lineAt_10 h (fun v1 h => ?_)
  exact v_retI hR h dX1_lineAt_11
noncomputable def fC_Letters_lineAt (N : Nat) (a1 : Int32) (a2 : Int32) (s : vSt) : Option (Int32 × vSt) := gC_Letters_lineAt_0 N a1 a2 s
theorem mC_Letters_lineAt {N : Nat} {a1 : Int32} {a2 : Int32} {s : vSt} {r : Int32} {t1 : vSt} (h : fC_Letters_lineAt N a1 a2 s = some (r, t1)) (l : Launch) (ad : Nat → Nat) : vMI l shC ad yX1_lineAt cX1_lineAt 3 .int 0 0 s [.ref (ad 26), .int a1, .int a2] r t1 :=
  vMI_of (by decide +kernel) (Nat.le_of_ble_eq_true rfl) (fun P hX hR => wC_Letters_lineAt_0 hX hR h)
-- C_Rule_putAhead
noncomputable def gC_Rule_putAhead_0 (N : Nat)  (a1 : Int32) (a2 : Int32) (a3 : Int32) (a4 : Int32) (s : vSt) : Option (vSt) :=
  (sto s 19 7 3 a1).bind fun z1 =>
  (sto z1 19 7 4 a2).bind fun z2 =>
  (sto z2 19 7 5 a3).bind fun z3 =>
  (sto z3 19 7 6 a4).bind fun z4 =>
  some z4
set_option maxRecDepth 4000 in
theorem wC_Rule_putAhead_0 {P : vP} {l : Launch} {ad : Nat → Nat} {N : Nat} {t1 : vSt} (hX : vOK P l shC ad (vR 0 0) cX7_putAhead RX7 5) (hR : (∀ pc lv, decode cX7_putAhead pc = .ok (.return_, 1) → P t1 pc lv []))  {a1 : Int32} {a2 : Int32} {a3 : Int32} {a4 : Int32} {s : vSt} (h : gC_Rule_putAhead_0 N a1 a2 a3 a4 s = some t1) : P s 0 [(0, .ref (ad 17)), (1, .int a1), (2, .int a2), (3, .int a3), (4, .int a4)] [] := by
  unfold gC_Rule_putAhead_0 at h
  refine v_aload_n hX dX7_putAhead_0 rfl 0 rfl ?_
  refine gfC_17_2 hX kf_7_15 dX7_putAhead_1 ?_
  refine v_iconst (v := 3) hX dX7_putAhead_4 (by decide) ?_
  refine v_iload_n hX dX7_putAhead_5 rfl 1 rfl ?_
  refine asC_19 hX dX7_putAhead_6 h (fun z1 h => ?_)
  refine v_aload_n hX dX7_putAhead_7 rfl 0 rfl ?_
  refine gfC_17_2 hX kf_7_15 dX7_putAhead_8 ?_
  refine v_iconst (v := 4) hX dX7_putAhead_11 (by decide) ?_
  refine v_iload_n hX dX7_putAhead_12 rfl 2 rfl ?_
  refine asC_19 hX dX7_putAhead_13 h (fun z2 h => ?_)
  refine v_aload_n hX dX7_putAhead_14 rfl 0 rfl ?_
  refine gfC_17_2 hX kf_7_15 dX7_putAhead_15 ?_
  refine v_iconst (v := 5) hX dX7_putAhead_18 (by decide) ?_
  refine v_iload_n hX dX7_putAhead_19 rfl 3 rfl ?_
  refine asC_19 hX dX7_putAhead_20 h (fun z3 h => ?_)
  refine v_aload_n hX dX7_putAhead_21 rfl 0 rfl ?_
  refine gfC_17_2 hX kf_7_15 dX7_putAhead_22 ?_
  refine v_bipush (v := 6) hX dX7_putAhead_25 (by decide) ?_
  refine v_iload hX dX7_putAhead_27 4 rfl ?_
  refine asC_19 hX dX7_putAhead_29 h (fun z4 h => ?_)
  exact v_retV hR h dX7_putAhead_30
noncomputable def fC_Rule_putAhead (N : Nat) (a1 : Int32) (a2 : Int32) (a3 : Int32) (a4 : Int32) (s : vSt) : Option (vSt) := gC_Rule_putAhead_0 N a1 a2 a3 a4 s
theorem mC_Rule_putAhead {N : Nat} {a1 : Int32} {a2 : Int32} {a3 : Int32} {a4 : Int32} {s : vSt} {t1 : vSt} (h : fC_Rule_putAhead N a1 a2 a3 a4 s = some t1) (l : Launch) (ad : Nat → Nat) : vMV l shC ad yX7_putAhead cX7_putAhead 5 0 0 s [.ref (ad 17), .int a1, .int a2, .int a3, .int a4] t1 :=
  vMV_of (by decide +kernel) (Nat.le_of_ble_eq_true rfl) (fun P hX hR => wC_Rule_putAhead_0 hX hR h)
-- C_Post_putAhead
noncomputable def gC_Post_putAhead_5 (N : Nat)  : Nat → Int32 → Int32 → Int32 → Int32 → vSt → Option (vSt)
  | 0, _, _, _, _, _ => none
  | n + 1, a1, a2, a3, a4, s =>
    if a2 ≤ a4 then
      (fC_Letters_lineAt N a1 0 s).bind fun p1 =>
      (fC_Letters_lineAt N a1 (a2 - 1) p1.2).bind fun p2 =>
      (fC_Rule_putAhead N a2 p1.1 p2.1 a3 p2.2).bind fun z3 =>
      some z3
    else
      (fC_Letters_lineAt N a1 a4 s).bind fun p4 =>
      (some (a3 + p4.1 : Int32)).bind fun v5 =>
      (some (a4 + 1 : Int32)).bind fun v6 =>
      gC_Post_putAhead_5 N n a1 a2 v5 v6 p4.2
set_option maxRecDepth 4000 in
theorem wC_Post_putAhead_5 {P : vP} {l : Launch} {ad : Nat → Nat} {N : Nat} {t1 : vSt} (hX : vOK P l shC ad (vR 1 24) cX4_putAhead RX4 5) (hR : (∀ pc lv, decode cX4_putAhead pc = .ok (.return_, 1) → P t1 pc lv []))  : ∀ (n : Nat) (a1 : Int32) (a2 : Int32) (a3 : Int32) (a4 : Int32) (s : vSt), gC_Post_putAhead_5 N n a1 a2 a3 a4 s = some t1 → P s 5 [(0, .ref (ad 23)), (1, .int a1), (2, .int a2), (3, .int a3), (4, .int a4)] [] := by
  intro n
  induction n with
  | zero => intro a1 a2 a3 a4 s h; cases h
  | succ n ih =>
    intro a1 a2 a3 a4 s h
    unfold gC_Post_putAhead_5 at h
    refine v_iload hX dX4_putAhead_5 4 rfl ?_
    refine v_iload_n hX dX4_putAhead_7 rfl 2 rfl ?_
    refine v_icmp_ge (tgt := 30) hX dX4_putAhead_8 (by decide) h (fun h => ?_) (fun h => ?_)
    · refine v_aload_n hX dX4_putAhead_30 rfl 0 rfl ?_
      refine gfC_23_2 hX kf_4_30 dX4_putAhead_31 ?_
      refine v_iload_n hX dX4_putAhead_34 rfl 2 rfl ?_
      refine v_aload_n hX dX4_putAhead_35 rfl 0 rfl ?_
      refine gfC_23_0 hX kf_4_12 dX4_putAhead_36 ?_
      refine v_iload_n hX dX4_putAhead_39 rfl 1 rfl ?_
      refine v_iconst (v := 0) hX dX4_putAhead_40 (by decide) ?_
      obtain ⟨p1, hp1, h⟩ := bsome h
      refine v_callVI (o := 26) hX (mC_Letters_lineAt hp1 l ad) kM_X1_lineAt kV_X1_lineAt km_4_92 (by decide) (fun _ => rfl) rfl rfl rfl (Nat.le_of_ble_eq_true rfl) (by decide) dX4_putAhead_41 ?_
      refine v_aload_n hX dX4_putAhead_44 rfl 0 rfl ?_
      refine gfC_23_0 hX kf_4_12 dX4_putAhead_45 ?_
      refine v_iload_n hX dX4_putAhead_48 rfl 1 rfl ?_
      refine v_iload_n hX dX4_putAhead_49 rfl 2 rfl ?_
      refine v_iconst (v := 1) hX dX4_putAhead_50 (by decide) ?_
      refine v_isub hX dX4_putAhead_51 ?_
      obtain ⟨p2, hp2, h⟩ := bsome h
      refine v_callVI (o := 26) hX (mC_Letters_lineAt hp2 l ad) kM_X1_lineAt kV_X1_lineAt km_4_92 (by decide) (fun _ => rfl) rfl rfl rfl (Nat.le_of_ble_eq_true rfl) (by decide) dX4_putAhead_52 ?_
      refine v_iload_n hX dX4_putAhead_55 rfl 3 rfl ?_
      obtain ⟨z3, hz3, h⟩ := bsome h
      refine v_callVV (o := 17) hX (mC_Rule_putAhead hz3 l ad) kM_X7_putAhead kV_X7_putAhead km_4_104 (by decide) (fun _ => rfl) rfl rfl rfl (Nat.le_of_ble_eq_true rfl) (by decide) dX4_putAhead_56 ?_
      exact v_retV hR h dX4_putAhead_59
    · refine v_iload_n hX dX4_putAhead_11 rfl 3 rfl ?_
      refine v_aload_n hX dX4_putAhead_12 rfl 0 rfl ?_
      refine gfC_23_0 hX kf_4_12 dX4_putAhead_13 ?_
      refine v_iload_n hX dX4_putAhead_16 rfl 1 rfl ?_
      refine v_iload hX dX4_putAhead_17 4 rfl ?_
      obtain ⟨p4, hp4, h⟩ := bsome h
      refine v_callVI (o := 26) hX (mC_Letters_lineAt hp4 l ad) kM_X1_lineAt kV_X1_lineAt km_4_92 (by decide) (fun _ => rfl) rfl rfl rfl (Nat.le_of_ble_eq_true rfl) (by decide) dX4_putAhead_19 ?_
      refine v_iadd hX dX4_putAhead_22 ?_
      refine v_nmI hX h (fun v5 h => ?_)
      refine v_istore_n (lv' := [(3, .int v5), (0, .ref (ad 23)), (1, .int a1), (2, .int a2), (4, .int a4)]) hX dX4_putAhead_23 rfl (by decide) rfl ?_
      refine v_iincN hX dX4_putAhead_24 (j := 4) rfl (c := 1) (by decide) (by decide) h (fun v6 h => ?_)
      refine v_show (lv' := [(4, .int v6), (3, .int v5), (0, .ref (ad 23)), (1, .int a1), (2, .int a2)]) hX rfl ?_
      refine v_goto (tgt := 5) hX dX4_putAhead_27 (by decide) ?_
      exact v_sub hX [2, 3, 4, 1, 0] (by rfl) (ih _ _ _ _ _ h)
noncomputable def gC_Post_putAhead_0 (N : Nat)  (a1 : Int32) (a2 : Int32) (s : vSt) : Option (vSt) :=
  gC_Post_putAhead_5 N N a1 a2 0 0 s
set_option maxRecDepth 4000 in
theorem wC_Post_putAhead_0 {P : vP} {l : Launch} {ad : Nat → Nat} {N : Nat} {t1 : vSt} (hX : vOK P l shC ad (vR 1 24) cX4_putAhead RX4 5) (hR : (∀ pc lv, decode cX4_putAhead pc = .ok (.return_, 1) → P t1 pc lv []))  {a1 : Int32} {a2 : Int32} {s : vSt} (h : gC_Post_putAhead_0 N a1 a2 s = some t1) : P s 0 [(0, .ref (ad 23)), (1, .int a1), (2, .int a2)] [] := by
  unfold gC_Post_putAhead_0 at h
  refine v_iconst (v := 0) hX dX4_putAhead_0 (by decide) ?_
  refine v_istore_n (lv' := [(3, .int 0), (0, .ref (ad 23)), (1, .int a1), (2, .int a2)]) hX dX4_putAhead_1 rfl (by decide) rfl ?_
  refine v_iconst (v := 0) hX dX4_putAhead_2 (by decide) ?_
  refine v_istore (lv' := [(4, .int 0), (3, .int 0), (0, .ref (ad 23)), (1, .int a1), (2, .int a2)]) hX dX4_putAhead_3 (by decide) rfl ?_
  exact v_sub hX [2, 3, 4, 1, 0] (by rfl) (wC_Post_putAhead_5 hX hR  N _ _ _ _ _ h)
noncomputable def fC_Post_putAhead (N : Nat) (a1 : Int32) (a2 : Int32) (s : vSt) : Option (vSt) := gC_Post_putAhead_0 N a1 a2 s
theorem mC_Post_putAhead {N : Nat} {a1 : Int32} {a2 : Int32} {s : vSt} {t1 : vSt} (h : fC_Post_putAhead N a1 a2 s = some t1) (l : Launch) (ad : Nat → Nat) : vMV l shC ad yX4_putAhead cX4_putAhead 5 1 24 s [.ref (ad 23), .int a1, .int a2] t1 :=
  vMV_of (by decide +kernel) (Nat.le_of_ble_eq_true rfl) (fun P hX hR => wC_Post_putAhead_0 hX hR h)
-- C_Math_floorMod
noncomputable def gC_Math_floorMod_0 (N : Nat)  (a0 : Int32) (a1 : Int32) (s : vSt) : Option (Int32 × vSt) :=
  if a1 = 0 then none else
  (some (a0 - a0 / a1 * a1 : Int32)).bind fun v1 =>
  if 0 ≤ (a0 ^^^ a1) then
    some (v1, s)
  else
    if v1 = 0 then
      some (v1, s)
    else
      some (v1 + a1, s)
set_option maxRecDepth 4000 in
theorem wC_Math_floorMod_0 {P : vP} {l : Launch} {ad : Nat → Nat} {N : Nat} {r : Int32} {t1 : vSt} (hX : vOK P l shC ad (vR 0 0) cJ9_floorMod_7cf53 RJ9 3) (hR : (∀ pc lv, narrow .int (.int r) = .int r → decode cJ9_floorMod_7cf53 pc = .ok (.ireturn, 1) → P t1 pc lv [.int r]))  {a0 : Int32} {a1 : Int32} {s : vSt} (h : gC_Math_floorMod_0 N a0 a1 s = some (r, t1)) : P s 0 [(0, .int a0), (1, .int a1)] [] := by
  unfold gC_Math_floorMod_0 at h
  refine v_iload_n hX dJ9_floorMod_7cf53_0 rfl 0 rfl ?_
  refine v_iload_n hX dJ9_floorMod_7cf53_1 rfl 1 rfl ?_
  obtain ⟨hz, h⟩ := nzsome h
  refine v_irem hX dJ9_floorMod_7cf53_2 hz ?_
  refine v_nmI hX h (fun v1 h => ?_)
  refine v_istore_n (lv' := [(2, .int v1), (0, .int a0), (1, .int a1)]) hX dJ9_floorMod_7cf53_3 rfl (by decide) rfl ?_
  refine v_iload_n hX dJ9_floorMod_7cf53_4 rfl 1 rfl ?_
  refine v_iload_n hX dJ9_floorMod_7cf53_5 rfl 2 rfl ?_
  refine v_ixor hX dJ9_floorMod_7cf53_6 ?_
  refine v_if_ge (tgt := 18) hX dJ9_floorMod_7cf53_7 (by decide) h (fun h => ?_) (fun h => ?_)
  · refine v_iload_n hX dJ9_floorMod_7cf53_18 rfl 0 rfl ?_
    exact v_retI hR h dJ9_floorMod_7cf53_19
  · refine v_iload_n hX dJ9_floorMod_7cf53_10 rfl 0 rfl ?_
    refine v_if_eq (tgt := 18) hX dJ9_floorMod_7cf53_11 (by decide) h (fun h => ?_) (fun h => ?_)
    · refine v_iload_n hX dJ9_floorMod_7cf53_18 rfl 0 rfl ?_
      exact v_retI hR h dJ9_floorMod_7cf53_19
    · refine v_iload_n hX dJ9_floorMod_7cf53_14 rfl 0 rfl ?_
      refine v_iload_n hX dJ9_floorMod_7cf53_15 rfl 2 rfl ?_
      refine v_iadd hX dJ9_floorMod_7cf53_16 ?_
      exact v_retI hR h dJ9_floorMod_7cf53_17
noncomputable def fC_Math_floorMod (N : Nat) (a0 : Int32) (a1 : Int32) (s : vSt) : Option (Int32 × vSt) := gC_Math_floorMod_0 N a0 a1 s
theorem mC_Math_floorMod {N : Nat} {a0 : Int32} {a1 : Int32} {s : vSt} {r : Int32} {t1 : vSt} (h : fC_Math_floorMod N a0 a1 s = some (r, t1)) (l : Launch) (ad : Nat → Nat) : vMI l shC ad yJ9_floorMod_7cf53 cJ9_floorMod_7cf53 3 .int 0 0 s [.int a0, .int a1] r t1 :=
  vMI_of (by decide +kernel) (Nat.le_of_ble_eq_true rfl) (fun P hX hR => wC_Math_floorMod_0 hX hR h)
-- C_Rule_pop
noncomputable def gC_Rule_pop_0 (N : Nat)   (s : vSt) : Option (Int32 × vSt) :=
  if 0 < (s.1 17 4) then
    (some (s1 s 17 4 ((s.1 17 4) - 1))).bind fun z1 =>
    (ld z1 20 40 (z1.1 17 4)).bind fun v2 =>
    some (v2, z1)
  else
    some (0, s)
set_option maxRecDepth 4000 in
theorem wC_Rule_pop_0 {P : vP} {l : Launch} {ad : Nat → Nat} {N : Nat} {r : Int32} {t1 : vSt} (hX : vOK P l shC ad (vR 0 0) cX7_pop RX7 1) (hR : (∀ pc lv, narrow .int (.int r) = .int r → decode cX7_pop pc = .ok (.ireturn, 1) → P t1 pc lv [.int r]))   {s : vSt} (h : gC_Rule_pop_0 N s = some (r, t1)) : P s 0 [(0, .ref (ad 17))] [] := by
  unfold gC_Rule_pop_0 at h
  refine v_aload_n hX dX7_pop_0 rfl 0 rfl ?_
  refine gfC_17_4 hX kf_7_35 dX7_pop_1 ?_
  refine v_if_gt (tgt := 9) hX dX7_pop_4 (by decide) h (fun h => ?_) (fun h => ?_)
  · refine v_aload_n hX dX7_pop_9 rfl 0 rfl ?_
    refine v_dup hX dX7_pop_10 rfl ?_
    refine gfC_17_4 hX kf_7_35 dX7_pop_11 ?_
    refine v_iconst (v := 1) hX dX7_pop_14 (by decide) ?_
    refine v_isub hX dX7_pop_15 ?_
    refine pfC_17_4 hX kf_7_35 dX7_pop_16 h (fun z1 h => ?_)
    refine v_aload_n hX dX7_pop_19 rfl 0 rfl ?_
    refine gfC_17_3 hX kf_7_18 dX7_pop_20 ?_
    refine v_aload_n hX dX7_pop_23 rfl 0 rfl ?_
    refine gfC_17_4 hX kf_7_35 dX7_pop_24 ?_
    refine alC_20 hX dX7_pop_27 h (fun v2 h => ?_)
    exact v_retI hR h dX7_pop_28
  · refine v_iconst (v := 0) hX dX7_pop_7 (by decide) ?_
    exact v_retI hR h dX7_pop_8
noncomputable def fC_Rule_pop (N : Nat)  (s : vSt) : Option (Int32 × vSt) := gC_Rule_pop_0 N s
theorem mC_Rule_pop {N : Nat}  {s : vSt} {r : Int32} {t1 : vSt} (h : fC_Rule_pop N s = some (r, t1)) (l : Launch) (ad : Nat → Nat) : vMI l shC ad yX7_pop cX7_pop 1 .int 0 0 s [.ref (ad 17)] r t1 :=
  vMI_of (by decide +kernel) (Nat.le_of_ble_eq_true rfl) (fun P hX hR => wC_Rule_pop_0 hX hR h)
-- C_Rule_push
noncomputable def gC_Rule_push_0 (N : Nat)  (a1 : Int32) (s : vSt) : Option (vSt) :=
  if 40 ≤ (s.1 17 4) then
    some s
  else
    (sto s 20 40 (s.1 17 4) a1).bind fun z1 =>
    (some (s1 z1 17 4 ((z1.1 17 4) + 1))).bind fun z2 =>
    some z2
set_option maxRecDepth 4000 in
theorem wC_Rule_push_0 {P : vP} {l : Launch} {ad : Nat → Nat} {N : Nat} {t1 : vSt} (hX : vOK P l shC ad (vR 0 0) cX7_push RX7 2) (hR : (∀ pc lv, decode cX7_push pc = .ok (.return_, 1) → P t1 pc lv []))  {a1 : Int32} {s : vSt} (h : gC_Rule_push_0 N a1 s = some t1) : P s 0 [(0, .ref (ad 17)), (1, .int a1)] [] := by
  unfold gC_Rule_push_0 at h
  refine v_aload_n hX dX7_push_0 rfl 0 rfl ?_
  refine gfC_17_4 hX kf_7_35 dX7_push_1 ?_
  refine v_aload_n hX dX7_push_4 rfl 0 rfl ?_
  refine gfC_17_3 hX kf_7_18 dX7_push_5 ?_
  refine v_alen (o := 20) (n := 40) (ct := 0) (v := 40) hX (by decide) (fun _ => rfl) (fun _ => rfl) (by decide) dX7_push_8 ?_
  refine v_icmp_ge (tgt := 32) hX dX7_push_9 (by decide) h (fun h => ?_) (fun h => ?_)
  · exact v_retV hR h dX7_push_32
  · refine v_aload_n hX dX7_push_12 rfl 0 rfl ?_
    refine gfC_17_3 hX kf_7_18 dX7_push_13 ?_
    refine v_aload_n hX dX7_push_16 rfl 0 rfl ?_
    refine gfC_17_4 hX kf_7_35 dX7_push_17 ?_
    refine v_iload_n hX dX7_push_20 rfl 1 rfl ?_
    refine asC_20 hX dX7_push_21 h (fun z1 h => ?_)
    refine v_aload_n hX dX7_push_22 rfl 0 rfl ?_
    refine v_dup hX dX7_push_23 rfl ?_
    refine gfC_17_4 hX kf_7_35 dX7_push_24 ?_
    refine v_iconst (v := 1) hX dX7_push_27 (by decide) ?_
    refine v_iadd hX dX7_push_28 ?_
    refine pfC_17_4 hX kf_7_35 dX7_push_29 h (fun z2 h => ?_)
    exact v_retV hR h dX7_push_32
noncomputable def fC_Rule_push (N : Nat) (a1 : Int32) (s : vSt) : Option (vSt) := gC_Rule_push_0 N a1 s
theorem mC_Rule_push {N : Nat} {a1 : Int32} {s : vSt} {t1 : vSt} (h : fC_Rule_push N a1 s = some t1) (l : Launch) (ad : Nat → Nat) : vMV l shC ad yX7_push cX7_push 2 0 0 s [.ref (ad 17), .int a1] t1 :=
  vMV_of (by decide +kernel) (Nat.le_of_ble_eq_true rfl) (fun P hX hR => wC_Rule_push_0 hX hR h)
-- C_Rule_join
noncomputable def gC_Rule_join_0 (N : Nat)  (a0 : Int32) (a1 : Int32) (a2 : Int32) (s : vSt) : Option (Int32 × vSt) :=
  if a0 = 42 then
    some (a1 * a2, s)
  else
  if a0 = 43 then
    some (a1 + a2, s)
  else
  if a0 = 45 then
    some (a1 - a2, s)
  else
  if a0 = 60 then
    if a2 ≤ a1 then
      some (0, s)
    else
      some (1, s)
  else
  if a0 = 61 then
    if a1 = a2 then
      some (1, s)
    else
      some (0, s)
  else
  if a0 = 62 then
    if a1 ≤ a2 then
      some (0, s)
    else
      some (1, s)
  else
  if a2 = 0 then
    some (0, s)
  else
    if a2 = 0 then none else
    some (a1 / a2, s)
set_option maxRecDepth 4000 in
theorem wC_Rule_join_0 {P : vP} {l : Launch} {ad : Nat → Nat} {N : Nat} {r : Int32} {t1 : vSt} (hX : vOK P l shC ad (vR 0 0) cX7_join RX7 3) (hR : (∀ pc lv, narrow .int (.int r) = .int r → decode cX7_join pc = .ok (.ireturn, 1) → P t1 pc lv [.int r]))  {a0 : Int32} {a1 : Int32} {a2 : Int32} {s : vSt} (h : gC_Rule_join_0 N a0 a1 a2 s = some (r, t1)) : P s 0 [(0, .int a0), (1, .int a1), (2, .int a2)] [] := by
  unfold gC_Rule_join_0 at h
  refine v_iload_n hX dX7_join_0 rfl 0 rfl ?_
  rcases ifs h with ⟨hc, h⟩ | ⟨hn42, h⟩
  · refine v_lookup (tgt := 101) (off := 100) hX dX7_join_1 (by decide) (by rw [hc]; rfl) (by decide) ?_
    refine v_iload_n hX dX7_join_101 rfl 1 rfl ?_
    refine v_iload_n hX dX7_join_102 rfl 2 rfl ?_
    refine v_imul hX dX7_join_103 ?_
    exact v_retI hR h dX7_join_104
  rcases ifs h with ⟨hc, h⟩ | ⟨hn43, h⟩
  · refine v_lookup (tgt := 93) (off := 92) hX dX7_join_1 (by decide) (by rw [hc]; rfl) (by decide) ?_
    refine v_iload_n hX dX7_join_93 rfl 1 rfl ?_
    refine v_iload_n hX dX7_join_94 rfl 2 rfl ?_
    refine v_iadd hX dX7_join_95 ?_
    exact v_retI hR h dX7_join_96
  rcases ifs h with ⟨hc, h⟩ | ⟨hn45, h⟩
  · refine v_lookup (tgt := 97) (off := 96) hX dX7_join_1 (by decide) (by rw [hc]; rfl) (by decide) ?_
    refine v_iload_n hX dX7_join_97 rfl 1 rfl ?_
    refine v_iload_n hX dX7_join_98 rfl 2 rfl ?_
    refine v_isub hX dX7_join_99 ?_
    exact v_retI hR h dX7_join_100
  rcases ifs h with ⟨hc, h⟩ | ⟨hn60, h⟩
  · refine v_lookup (tgt := 60) (off := 59) hX dX7_join_1 (by decide) (by rw [hc]; rfl) (by decide) ?_
    refine v_iload_n hX dX7_join_60 rfl 1 rfl ?_
    refine v_iload_n hX dX7_join_61 rfl 2 rfl ?_
    refine v_icmp_ge (tgt := 69) hX dX7_join_62 (by decide) h (fun h => ?_) (fun h => ?_)
    · refine v_iconst (v := 0) hX dX7_join_69 (by decide) ?_
      exact v_retI hR h dX7_join_70
    · refine v_iconst (v := 1) hX dX7_join_65 (by decide) ?_
      refine v_goto (tgt := 70) hX dX7_join_66 (by decide) ?_
      exact v_retI hR h dX7_join_70
  rcases ifs h with ⟨hc, h⟩ | ⟨hn61, h⟩
  · refine v_lookup (tgt := 82) (off := 81) hX dX7_join_1 (by decide) (by rw [hc]; rfl) (by decide) ?_
    refine v_iload_n hX dX7_join_82 rfl 1 rfl ?_
    refine v_iload_n hX dX7_join_83 rfl 2 rfl ?_
    refine v_icmp_ne (tgt := 91) hX dX7_join_84 (by decide) h (fun h => ?_) (fun h => ?_)
    · refine v_iconst (v := 1) hX dX7_join_87 (by decide) ?_
      refine v_goto (tgt := 92) hX dX7_join_88 (by decide) ?_
      exact v_retI hR h dX7_join_92
    · refine v_iconst (v := 0) hX dX7_join_91 (by decide) ?_
      exact v_retI hR h dX7_join_92
  rcases ifs h with ⟨hc, h⟩ | ⟨hn62, h⟩
  · refine v_lookup (tgt := 71) (off := 70) hX dX7_join_1 (by decide) (by rw [hc]; rfl) (by decide) ?_
    refine v_iload_n hX dX7_join_71 rfl 1 rfl ?_
    refine v_iload_n hX dX7_join_72 rfl 2 rfl ?_
    refine v_icmp_le (tgt := 80) hX dX7_join_73 (by decide) h (fun h => ?_) (fun h => ?_)
    · refine v_iconst (v := 0) hX dX7_join_80 (by decide) ?_
      exact v_retI hR h dX7_join_81
    · refine v_iconst (v := 1) hX dX7_join_76 (by decide) ?_
      refine v_goto (tgt := 81) hX dX7_join_77 (by decide) ?_
      exact v_retI hR h dX7_join_81
  have ehn42 : ¬ 42 = (a0).toInt := fun z => hn42 (Int32.toInt_inj.mp z.symm)
  have ehn43 : ¬ 43 = (a0).toInt := fun z => hn43 (Int32.toInt_inj.mp z.symm)
  have ehn45 : ¬ 45 = (a0).toInt := fun z => hn45 (Int32.toInt_inj.mp z.symm)
  have ehn60 : ¬ 60 = (a0).toInt := fun z => hn60 (Int32.toInt_inj.mp z.symm)
  have ehn61 : ¬ 61 = (a0).toInt := fun z => hn61 (Int32.toInt_inj.mp z.symm)
  have ehn62 : ¬ 62 = (a0).toInt := fun z => hn62 (Int32.toInt_inj.mp z.symm)
  refine v_lookup (tgt := 105) hX dX7_join_1 (by decide) (off := 104) (by simp [Op.lookupswitch.offset, ehn42, ehn43, ehn45, ehn60, ehn61, ehn62]) (by decide) ?_
  refine v_iload_n hX dX7_join_105 rfl 2 rfl ?_
  refine v_if_ne (tgt := 113) hX dX7_join_106 (by decide) h (fun h => ?_) (fun h => ?_)
  · refine v_iconst (v := 0) hX dX7_join_109 (by decide) ?_
    refine v_goto (tgt := 116) hX dX7_join_110 (by decide) ?_
    exact v_retI hR h dX7_join_116
  · refine v_iload_n hX dX7_join_113 rfl 1 rfl ?_
    refine v_iload_n hX dX7_join_114 rfl 2 rfl ?_
    obtain ⟨hz, h⟩ := nzsome h
    refine v_idiv hX dX7_join_115 hz ?_
    exact v_retI hR h dX7_join_116
noncomputable def fC_Rule_join (N : Nat) (a0 : Int32) (a1 : Int32) (a2 : Int32) (s : vSt) : Option (Int32 × vSt) := gC_Rule_join_0 N a0 a1 a2 s
theorem mC_Rule_join {N : Nat} {a0 : Int32} {a1 : Int32} {a2 : Int32} {s : vSt} {r : Int32} {t1 : vSt} (h : fC_Rule_join N a0 a1 a2 s = some (r, t1)) (l : Launch) (ad : Nat → Nat) : vMI l shC ad yX7_join cX7_join 3 .int 0 0 s [.int a0, .int a1, .int a2] r t1 :=
  vMI_of (by decide +kernel) (Nat.le_of_ble_eq_true rfl) (fun P hX hR => wC_Rule_join_0 hX hR h)
-- C_Rule_factAt
noncomputable def gC_Rule_factAt_22 (N : Nat)   (s : vSt) : Option (Int32 × vSt) :=
  some (0, s)
set_option maxRecDepth 4000 in
theorem wC_Rule_factAt_22 {P : vP} {l : Launch} {ad : Nat → Nat} {N : Nat} {r : Int32} {t1 : vSt} (hX : vOK P l shC ad (vR 0 0) cX7_factAt RX7 2) (hR : (∀ pc lv, narrow .int (.int r) = .int r → decode cX7_factAt pc = .ok (.ireturn, 1) → P t1 pc lv [.int r]))   {s : vSt} (h : gC_Rule_factAt_22 N s = some (r, t1)) : P s 22 [] [] := by
  unfold gC_Rule_factAt_22 at h
  refine v_iconst (v := 0) hX dX7_factAt_22 (by decide) ?_
  exact v_retI hR h dX7_factAt_23
noncomputable def gC_Rule_factAt_0 (N : Nat)  (a1 : Int32) (s : vSt) : Option (Int32 × vSt) :=
  if a1 < 0 then
    gC_Rule_factAt_22 N s
  else
    if 7 ≤ a1 then
      gC_Rule_factAt_22 N s
    else
      (ld s 19 7 a1).bind fun v1 =>
      some (v1, s)
set_option maxRecDepth 4000 in
theorem wC_Rule_factAt_0 {P : vP} {l : Launch} {ad : Nat → Nat} {N : Nat} {r : Int32} {t1 : vSt} (hX : vOK P l shC ad (vR 0 0) cX7_factAt RX7 2) (hR : (∀ pc lv, narrow .int (.int r) = .int r → decode cX7_factAt pc = .ok (.ireturn, 1) → P t1 pc lv [.int r]))  {a1 : Int32} {s : vSt} (h : gC_Rule_factAt_0 N a1 s = some (r, t1)) : P s 0 [(0, .ref (ad 17)), (1, .int a1)] [] := by
  unfold gC_Rule_factAt_0 at h
  refine v_iload_n hX dX7_factAt_0 rfl 1 rfl ?_
  refine v_if_lt (tgt := 22) hX dX7_factAt_1 (by decide) h (fun h => ?_) (fun h => ?_)
  · exact v_sub hX [] (by rfl) (wC_Rule_factAt_22 hX hR  h)
  · refine v_iload_n hX dX7_factAt_4 rfl 1 rfl ?_
    refine v_aload_n hX dX7_factAt_5 rfl 0 rfl ?_
    refine gfC_17_2 hX kf_7_15 dX7_factAt_6 ?_
    refine v_alen (o := 19) (n := 7) (ct := 0) (v := 7) hX (by decide) (fun _ => rfl) (fun _ => rfl) (by decide) dX7_factAt_9 ?_
    refine v_icmp_ge (tgt := 22) hX dX7_factAt_10 (by decide) h (fun h => ?_) (fun h => ?_)
    · exact v_sub hX [] (by rfl) (wC_Rule_factAt_22 hX hR  h)
    · refine v_aload_n hX dX7_factAt_13 rfl 0 rfl ?_
      refine gfC_17_2 hX kf_7_15 dX7_factAt_14 ?_
      refine v_iload_n hX dX7_factAt_17 rfl 1 rfl ?_
      refine alC_19 hX dX7_factAt_18 h (fun v1 h => ?_)
      refine v_goto (tgt := 23) hX dX7_factAt_19 (by decide) ?_
      exact v_retI hR h dX7_factAt_23
noncomputable def fC_Rule_factAt (N : Nat) (a1 : Int32) (s : vSt) : Option (Int32 × vSt) := gC_Rule_factAt_0 N a1 s
theorem mC_Rule_factAt {N : Nat} {a1 : Int32} {s : vSt} {r : Int32} {t1 : vSt} (h : fC_Rule_factAt N a1 s = some (r, t1)) (l : Launch) (ad : Nat → Nat) : vMI l shC ad yX7_factAt cX7_factAt 2 .int 0 0 s [.ref (ad 17), .int a1] r t1 :=
  vMI_of (by decide +kernel) (Nat.le_of_ble_eq_true rfl) (fun P hX hR => wC_Rule_factAt_0 hX hR h)
-- C_Rule_value
noncomputable def gC_Rule_value_105 (N : Nat) (r7 : Int32 → vSt → Option (Int32 × vSt)) (a1 : Int32) (s : vSt) : Option (Int32 × vSt) :=
  (some (a1 + 1 : Int32)).bind fun v1 =>
  r7 v1 s
set_option maxRecDepth 4000 in
theorem wC_Rule_value_105 {P : vP} {l : Launch} {ad : Nat → Nat} {N : Nat} {r7 : Int32 → vSt → Option (Int32 × vSt)} {r : Int32} {t1 : vSt} (hX : vOK P l shC ad (vR 1 22) cX7_value RX7 5) (hR : (∀ pc lv, narrow .int (.int r) = .int r → decode cX7_value pc = .ok (.ireturn, 1) → P t1 pc lv [.int r])) (H7 : ∀ (a1 : Int32) (s : vSt), r7 a1 s = some (r, t1) → P s 7 [(0, .ref (ad 17)), (1, .int a1)] []) {a1 : Int32} {s : vSt} (h : gC_Rule_value_105 N r7 a1 s = some (r, t1)) : P s 105 [(0, .ref (ad 17)), (1, .int a1)] [] := by
  unfold gC_Rule_value_105 at h
  refine v_iincN hX dX7_value_105 (j := 1) rfl (c := 1) (by decide) (by decide) h (fun v1 h => ?_)
  refine v_show (lv' := [(1, .int v1), (0, .ref (ad 17))]) hX rfl ?_
  refine v_goto (tgt := 7) hX dX7_value_108 (by decide) ?_
  exact v_sub hX [1, 0] (by rfl) (H7 _ _ h)
noncomputable def gC_Rule_value_7 (N : Nat)  : Nat → Int32 → vSt → Option (Int32 × vSt)
  | 0, _, _ => none
  | n + 1, a1, s =>
    if (s.1 17 1) ≤ a1 then
      (fC_Rule_pop N s).bind fun p1 =>
      some (p1.1, p1.2)
    else
      (ld s 18 40 a1).bind fun v2 =>
      if 1000 ≤ v2 then
        if 2000 ≤ v2 then
          if v2 = 2126 then
            (fC_Rule_pop N s).bind fun p3 =>
            (fC_Rule_push N (-p3.1) p3.2).bind fun z4 =>
            gC_Rule_value_105 N (gC_Rule_value_7 N n) a1 z4
          else
            (fC_Rule_pop N s).bind fun p5 =>
            (fC_Rule_pop N p5.2).bind fun p6 =>
            (fC_Rule_join N (v2 - 2000) p6.1 p5.1 p6.2).bind fun p7 =>
            (fC_Rule_push N p7.1 p7.2).bind fun z8 =>
            gC_Rule_value_105 N (gC_Rule_value_7 N n) a1 z8
        else
          (fC_Rule_factAt N (v2 - 1000) s).bind fun p9 =>
          (fC_Rule_push N p9.1 p9.2).bind fun z10 =>
          gC_Rule_value_105 N (gC_Rule_value_7 N n) a1 z10
      else
        (fC_Rule_push N v2 s).bind fun z11 =>
        gC_Rule_value_105 N (gC_Rule_value_7 N n) a1 z11
set_option maxRecDepth 4000 in
theorem wC_Rule_value_7 {P : vP} {l : Launch} {ad : Nat → Nat} {N : Nat} {r : Int32} {t1 : vSt} (hX : vOK P l shC ad (vR 1 22) cX7_value RX7 5) (hR : (∀ pc lv, narrow .int (.int r) = .int r → decode cX7_value pc = .ok (.ireturn, 1) → P t1 pc lv [.int r]))  : ∀ (n : Nat) (a1 : Int32) (s : vSt), gC_Rule_value_7 N n a1 s = some (r, t1) → P s 7 [(0, .ref (ad 17)), (1, .int a1)] [] := by
  intro n
  induction n with
  | zero => intro a1 s h; cases h
  | succ n ih =>
    intro a1 s h
    unfold gC_Rule_value_7 at h
    refine v_iload_n hX dX7_value_7 rfl 1 rfl ?_
    refine v_aload_n hX dX7_value_8 rfl 0 rfl ?_
    refine gfC_17_1 hX kf_7_21 dX7_value_9 ?_
    refine v_icmp_ge (tgt := 111) hX dX7_value_12 (by decide) h (fun h => ?_) (fun h => ?_)
    · refine v_aload_n hX dX7_value_111 rfl 0 rfl ?_
      obtain ⟨p1, hp1, h⟩ := bsome h
      refine v_callVI (o := 17) hX (mC_Rule_pop hp1 l ad) kM_X7_pop kV_X7_pop km_7_46 (by decide) (fun _ => rfl) rfl rfl rfl (Nat.le_of_ble_eq_true rfl) (by decide) dX7_value_112 ?_
      exact v_retI hR h dX7_value_115
    · refine v_aload_n hX dX7_value_15 rfl 0 rfl ?_
      refine gfC_17_0 hX kf_7_11 dX7_value_16 ?_
      refine v_iload_n hX dX7_value_19 rfl 1 rfl ?_
      refine alC_18 hX dX7_value_20 h (fun v2 h => ?_)
      refine v_istore_n (lv' := [(2, .int v2), (0, .ref (ad 17)), (1, .int a1)]) hX dX7_value_21 rfl (by decide) rfl ?_
      refine v_iload_n hX dX7_value_22 rfl 0 rfl ?_
      refine v_sipush (v := 1000) hX dX7_value_23 (by decide) ?_
      refine v_icmp_ge (tgt := 37) hX dX7_value_26 (by decide) h (fun h => ?_) (fun h => ?_)
      · refine v_iload_n hX dX7_value_37 rfl 0 rfl ?_
        refine v_sipush (v := 2000) hX dX7_value_38 (by decide) ?_
        refine v_icmp_ge (tgt := 60) hX dX7_value_41 (by decide) h (fun h => ?_) (fun h => ?_)
        · refine v_iload_n hX dX7_value_60 rfl 0 rfl ?_
          refine v_sipush (v := 2126) hX dX7_value_61 (by decide) ?_
          refine v_icmp_ne (tgt := 79) hX dX7_value_64 (by decide) h (fun h => ?_) (fun h => ?_)
          · refine v_aload_n hX dX7_value_67 rfl 1 rfl ?_
            refine v_aload_n hX dX7_value_68 rfl 1 rfl ?_
            obtain ⟨p3, hp3, h⟩ := bsome h
            refine v_callVI (o := 17) hX (mC_Rule_pop hp3 l ad) kM_X7_pop kV_X7_pop km_7_46 (by decide) (fun _ => rfl) rfl rfl rfl (Nat.le_of_ble_eq_true rfl) (by decide) dX7_value_69 ?_
            refine v_ineg hX dX7_value_72 ?_
            obtain ⟨z4, hz4, h⟩ := bsome h
            refine v_callVV (o := 17) hX (mC_Rule_push hz4 l ad) kM_X7_push kV_X7_push km_7_38 (by decide) (fun _ => rfl) rfl rfl rfl (Nat.le_of_ble_eq_true rfl) (by decide) dX7_value_73 ?_
            refine v_goto (tgt := 105) hX dX7_value_76 (by decide) ?_
            exact v_sub hX [1, 2] (by rfl) (wC_Rule_value_105 hX hR ih h)
          · refine v_aload_n hX dX7_value_79 rfl 1 rfl ?_
            obtain ⟨p5, hp5, h⟩ := bsome h
            refine v_callVI (o := 17) hX (mC_Rule_pop hp5 l ad) kM_X7_pop kV_X7_pop km_7_46 (by decide) (fun _ => rfl) rfl rfl rfl (Nat.le_of_ble_eq_true rfl) (by decide) dX7_value_80 ?_
            refine v_istore_n (lv' := [(3, .int p5.1), (2, .int v2), (0, .ref (ad 17)), (1, .int a1)]) hX dX7_value_83 rfl (by decide) rfl ?_
            refine v_aload_n hX dX7_value_84 rfl 2 rfl ?_
            obtain ⟨p6, hp6, h⟩ := bsome h
            refine v_callVI (o := 17) hX (mC_Rule_pop hp6 l ad) kM_X7_pop kV_X7_pop km_7_46 (by decide) (fun _ => rfl) rfl rfl rfl (Nat.le_of_ble_eq_true rfl) (by decide) dX7_value_85 ?_
            refine v_istore (lv' := [(4, .int p6.1), (3, .int p5.1), (2, .int v2), (0, .ref (ad 17)), (1, .int a1)]) hX dX7_value_88 (by decide) rfl ?_
            refine v_aload_n hX dX7_value_90 rfl 3 rfl ?_
            refine v_iload_n hX dX7_value_91 rfl 2 rfl ?_
            refine v_sipush (v := 2000) hX dX7_value_92 (by decide) ?_
            refine v_isub hX dX7_value_95 ?_
            refine v_iload hX dX7_value_96 0 rfl ?_
            refine v_iload_n hX dX7_value_98 rfl 1 rfl ?_
            obtain ⟨p7, hp7, h⟩ := bsome h
            refine v_callSI hX (mC_Rule_join hp7 l ad) kM_X7_join kS_X7_join km_7_49 rfl rfl (Nat.le_of_ble_eq_true rfl) (by decide) dX7_value_99 ?_
            obtain ⟨z8, hz8, h⟩ := bsome h
            refine v_callVV (o := 17) hX (mC_Rule_push hz8 l ad) kM_X7_push kV_X7_push km_7_38 (by decide) (fun _ => rfl) rfl rfl rfl (Nat.le_of_ble_eq_true rfl) (by decide) dX7_value_102 ?_
            exact v_sub hX [3, 4] (by rfl) (wC_Rule_value_105 hX hR ih h)
        · refine v_aload_n hX dX7_value_44 rfl 1 rfl ?_
          refine v_aload_n hX dX7_value_45 rfl 1 rfl ?_
          refine v_iload_n hX dX7_value_46 rfl 0 rfl ?_
          refine v_sipush (v := 1000) hX dX7_value_47 (by decide) ?_
          refine v_isub hX dX7_value_50 ?_
          obtain ⟨p9, hp9, h⟩ := bsome h
          refine v_callVI (o := 17) hX (mC_Rule_factAt hp9 l ad) kM_X7_factAt kV_X7_factAt km_7_42 (by decide) (fun _ => rfl) rfl rfl rfl (Nat.le_of_ble_eq_true rfl) (by decide) dX7_value_51 ?_
          obtain ⟨z10, hz10, h⟩ := bsome h
          refine v_callVV (o := 17) hX (mC_Rule_push hz10 l ad) kM_X7_push kV_X7_push km_7_38 (by decide) (fun _ => rfl) rfl rfl rfl (Nat.le_of_ble_eq_true rfl) (by decide) dX7_value_54 ?_
          refine v_goto (tgt := 105) hX dX7_value_57 (by decide) ?_
          exact v_sub hX [1, 2] (by rfl) (wC_Rule_value_105 hX hR ih h)
      · refine v_aload_n hX dX7_value_29 rfl 1 rfl ?_
        refine v_iload_n hX dX7_value_30 rfl 0 rfl ?_
        obtain ⟨z11, hz11, h⟩ := bsome h
        refine v_callVV (o := 17) hX (mC_Rule_push hz11 l ad) kM_X7_push kV_X7_push km_7_38 (by decide) (fun _ => rfl) rfl rfl rfl (Nat.le_of_ble_eq_true rfl) (by decide) dX7_value_31 ?_
        refine v_goto (tgt := 105) hX dX7_value_34 (by decide) ?_
        exact v_sub hX [1, 2] (by rfl) (wC_Rule_value_105 hX hR ih h)
noncomputable def gC_Rule_value_0 (N : Nat)   (s : vSt) : Option (Int32 × vSt) :=
  (some (s1 s 17 4 0)).bind fun z1 =>
  gC_Rule_value_7 N N 0 z1
set_option maxRecDepth 4000 in
theorem wC_Rule_value_0 {P : vP} {l : Launch} {ad : Nat → Nat} {N : Nat} {r : Int32} {t1 : vSt} (hX : vOK P l shC ad (vR 1 22) cX7_value RX7 5) (hR : (∀ pc lv, narrow .int (.int r) = .int r → decode cX7_value pc = .ok (.ireturn, 1) → P t1 pc lv [.int r]))   {s : vSt} (h : gC_Rule_value_0 N s = some (r, t1)) : P s 0 [(0, .ref (ad 17))] [] := by
  unfold gC_Rule_value_0 at h
  refine v_aload_n hX dX7_value_0 rfl 0 rfl ?_
  refine v_iconst (v := 0) hX dX7_value_1 (by decide) ?_
  refine pfC_17_4 hX kf_7_35 dX7_value_2 h (fun z1 h => ?_)
  refine v_iconst (v := 0) hX dX7_value_5 (by decide) ?_
  refine v_istore_n (lv' := [(1, .int 0), (0, .ref (ad 17))]) hX dX7_value_6 rfl (by decide) rfl ?_
  exact v_sub hX [1, 0] (by rfl) (wC_Rule_value_7 hX hR  N _ _ h)
noncomputable def fC_Rule_value (N : Nat)  (s : vSt) : Option (Int32 × vSt) := gC_Rule_value_0 N s
theorem mC_Rule_value {N : Nat}  {s : vSt} {r : Int32} {t1 : vSt} (h : fC_Rule_value N s = some (r, t1)) (l : Launch) (ad : Nat → Nat) : vMI l shC ad yX7_value cX7_value 5 .int 1 22 s [.ref (ad 17)] r t1 :=
  vMI_of (by decide +kernel) (Nat.le_of_ble_eq_true rfl) (fun P hX hR => wC_Rule_value_0 hX hR h)
-- C_Rule_lineBy
noncomputable def gC_Rule_lineBy_0 (N : Nat)  (a1 : Int32) (a2 : Int32) (a3 : Int32) (s : vSt) : Option (Int32 × vSt) :=
  (sto s 19 7 0 a1).bind fun z1 =>
  (sto z1 19 7 1 a2).bind fun z2 =>
  (sto z2 19 7 2 a3).bind fun z3 =>
  if (z3.1 17 1) = 0 then
    (ld z3 19 7 3).bind fun v4 =>
    (fC_Math_floorMod N v4 10 z3).bind fun p5 =>
    some (p5.1, p5.2)
  else
    (fC_Rule_value N z3).bind fun p6 =>
    (fC_Math_floorMod N p6.1 10 p6.2).bind fun p7 =>
    some (p7.1, p7.2)
set_option maxRecDepth 4000 in
theorem wC_Rule_lineBy_0 {P : vP} {l : Launch} {ad : Nat → Nat} {N : Nat} {r : Int32} {t1 : vSt} (hX : vOK P l shC ad (vR 2 46) cX7_lineBy RX7 4) (hR : (∀ pc lv, narrow .int (.int r) = .int r → decode cX7_lineBy pc = .ok (.ireturn, 1) → P t1 pc lv [.int r]))  {a1 : Int32} {a2 : Int32} {a3 : Int32} {s : vSt} (h : gC_Rule_lineBy_0 N a1 a2 a3 s = some (r, t1)) : P s 0 [(0, .ref (ad 17)), (1, .int a1), (2, .int a2), (3, .int a3)] [] := by
  unfold gC_Rule_lineBy_0 at h
  refine v_aload_n hX dX7_lineBy_0 rfl 0 rfl ?_
  refine gfC_17_2 hX kf_7_15 dX7_lineBy_1 ?_
  refine v_iconst (v := 0) hX dX7_lineBy_4 (by decide) ?_
  refine v_iload_n hX dX7_lineBy_5 rfl 1 rfl ?_
  refine asC_19 hX dX7_lineBy_6 h (fun z1 h => ?_)
  refine v_aload_n hX dX7_lineBy_7 rfl 0 rfl ?_
  refine gfC_17_2 hX kf_7_15 dX7_lineBy_8 ?_
  refine v_iconst (v := 1) hX dX7_lineBy_11 (by decide) ?_
  refine v_iload_n hX dX7_lineBy_12 rfl 2 rfl ?_
  refine asC_19 hX dX7_lineBy_13 h (fun z2 h => ?_)
  refine v_aload_n hX dX7_lineBy_14 rfl 0 rfl ?_
  refine gfC_17_2 hX kf_7_15 dX7_lineBy_15 ?_
  refine v_iconst (v := 2) hX dX7_lineBy_18 (by decide) ?_
  refine v_iload_n hX dX7_lineBy_19 rfl 3 rfl ?_
  refine asC_19 hX dX7_lineBy_20 h (fun z3 h => ?_)
  refine v_aload_n hX dX7_lineBy_21 rfl 0 rfl ?_
  refine gfC_17_1 hX kf_7_21 dX7_lineBy_22 ?_
  refine v_if_ne (tgt := 37) hX dX7_lineBy_25 (by decide) h (fun h => ?_) (fun h => ?_)
  · refine v_aload_n hX dX7_lineBy_28 rfl 0 rfl ?_
    refine gfC_17_2 hX kf_7_15 dX7_lineBy_29 ?_
    refine v_iconst (v := 3) hX dX7_lineBy_32 (by decide) ?_
    refine alC_19 hX dX7_lineBy_33 h (fun v4 h => ?_)
    refine v_goto (tgt := 41) hX dX7_lineBy_34 (by decide) ?_
    refine v_bipush (v := 10) hX dX7_lineBy_41 (by decide) ?_
    obtain ⟨p5, hp5, h⟩ := bsome h
    refine v_callSI hX (mC_Math_floorMod hp5 l ad) kM_J9_floorMod_7cf53 kS_J9_floorMod_7cf53 km_7_29 rfl rfl (Nat.le_of_ble_eq_true rfl) (by decide) dX7_lineBy_43 ?_
    exact v_retI hR h dX7_lineBy_46
  · refine v_aload_n hX dX7_lineBy_37 rfl 0 rfl ?_
    obtain ⟨p6, hp6, h⟩ := bsome h
    refine v_callVI (o := 17) hX (mC_Rule_value hp6 l ad) kM_X7_value kV_X7_value km_7_25 (by decide) (fun _ => rfl) rfl rfl rfl (Nat.le_of_ble_eq_true rfl) (by decide) dX7_lineBy_38 ?_
    refine v_bipush (v := 10) hX dX7_lineBy_41 (by decide) ?_
    obtain ⟨p7, hp7, h⟩ := bsome h
    refine v_callSI hX (mC_Math_floorMod hp7 l ad) kM_J9_floorMod_7cf53 kS_J9_floorMod_7cf53 km_7_29 rfl rfl (Nat.le_of_ble_eq_true rfl) (by decide) dX7_lineBy_43 ?_
    exact v_retI hR h dX7_lineBy_46
noncomputable def fC_Rule_lineBy (N : Nat) (a1 : Int32) (a2 : Int32) (a3 : Int32) (s : vSt) : Option (Int32 × vSt) := gC_Rule_lineBy_0 N a1 a2 a3 s
theorem mC_Rule_lineBy {N : Nat} {a1 : Int32} {a2 : Int32} {a3 : Int32} {s : vSt} {r : Int32} {t1 : vSt} (h : fC_Rule_lineBy N a1 a2 a3 s = some (r, t1)) (l : Launch) (ad : Nat → Nat) : vMI l shC ad yX7_lineBy cX7_lineBy 4 .int 2 46 s [.ref (ad 17), .int a1, .int a2, .int a3] r t1 :=
  vMI_of (by decide +kernel) (Nat.le_of_ble_eq_true rfl) (fun P hX hR => wC_Rule_lineBy_0 hX hR h)
-- C_Post_handOn
noncomputable def gC_Post_handOn_0 (N : Nat)  (a1 : Int32) (a2 : Int32) (s : vSt) : Option (Int32 × vSt) :=
  (ld s 27 3 a1).bind fun v1 =>
  (some (v1 - 1 : Int32)).bind fun v2 =>
  (fC_Letters_holderAt N a1 v2 s).bind fun p3 =>
  (fC_Roads_isAt N p3.1 a2 p3.2).bind fun p4 =>
  if p4.1 = 0 then
    some ((-2), p4.2)
  else
    (ld p4.2 13 20 a2).bind fun v5 =>
    (fC_Post_readyHour N a1 p4.2).bind fun p6 =>
    if p6.1 ≤ v5 then
      (ld p6.2 27 3 a1).bind fun v7 =>
      if v7 < 30 then
        (fC_Roads_otherAt N a2 p3.1 p6.2).bind fun p8 =>
        (fC_Post_putAhead N a1 (v2 + 1) p8.2).bind fun z9 =>
        (ld z9 13 20 a2).bind fun v10 =>
        (fC_Rule_lineBy N p8.1 p3.1 v10 z9).bind fun p11 =>
        (ld p11.2 13 20 a2).bind fun v12 =>
        (fC_Letters_add N a1 p8.1 v12 p11.1 p11.2).bind fun z13 =>
        some (p11.1, z13)
      else
        some ((-4), p6.2)
    else
      some ((-3), p6.2)
set_option maxRecDepth 4000 in
theorem wC_Post_handOn_0 {P : vP} {l : Launch} {ad : Nat → Nat} {N : Nat} {r : Int32} {t1 : vSt} (hX : vOK P l shC ad (vR 3 69) cX4_handOn RX4 7) (hR : (∀ pc lv, narrow .int (.int r) = .int r → decode cX4_handOn pc = .ok (.ireturn, 1) → P t1 pc lv [.int r]))  {a1 : Int32} {a2 : Int32} {s : vSt} (h : gC_Post_handOn_0 N a1 a2 s = some (r, t1)) : P s 0 [(0, .ref (ad 23)), (1, .int a1), (2, .int a2)] [] := by
  unfold gC_Post_handOn_0 at h
  refine v_aload_n hX dX4_handOn_0 rfl 0 rfl ?_
  refine gfC_23_0 hX kf_4_12 dX4_handOn_1 ?_
  refine gfC_26_0 hX kf_4_38 dX4_handOn_4 ?_
  refine v_iload_n hX dX4_handOn_7 rfl 1 rfl ?_
  refine alC_27 hX dX4_handOn_8 h (fun v1 h => ?_)
  refine v_iconst (v := 1) hX dX4_handOn_9 (by decide) ?_
  refine v_isub hX dX4_handOn_10 ?_
  refine v_nmI hX h (fun v2 h => ?_)
  refine v_istore_n (lv' := [(3, .int v2), (0, .ref (ad 23)), (1, .int a1), (2, .int a2)]) hX dX4_handOn_11 rfl (by decide) rfl ?_
  refine v_aload_n hX dX4_handOn_12 rfl 1 rfl ?_
  refine gfC_23_0 hX kf_4_12 dX4_handOn_13 ?_
  refine v_iload_n hX dX4_handOn_16 rfl 2 rfl ?_
  refine v_iload_n hX dX4_handOn_17 rfl 0 rfl ?_
  obtain ⟨p3, hp3, h⟩ := bsome h
  refine v_callVI (o := 26) hX (mC_Letters_holderAt hp3 l ad) kM_X1_holderAt kV_X1_holderAt km_4_42 (by decide) (fun _ => rfl) rfl rfl rfl (Nat.le_of_ble_eq_true rfl) (by decide) dX4_handOn_18 ?_
  refine v_istore (lv' := [(4, .int p3.1), (3, .int v2), (0, .ref (ad 23)), (1, .int a1), (2, .int a2)]) hX dX4_handOn_21 (by decide) rfl ?_
  refine v_aload_n hX dX4_handOn_23 rfl 2 rfl ?_
  refine gfC_23_1 hX kf_4_26 dX4_handOn_24 ?_
  refine v_iload hX dX4_handOn_27 0 rfl ?_
  refine v_iload_n hX dX4_handOn_29 rfl 4 rfl ?_
  obtain ⟨p4, hp4, h⟩ := bsome h
  refine v_callVI (o := 9) hX (mC_Roads_isAt hp4 l ad) kM_X6_isAt kV_X6_isAt km_4_46 (by decide) (fun _ => rfl) rfl rfl rfl (Nat.le_of_ble_eq_true rfl) (by decide) dX4_handOn_30 ?_
  refine v_if_ne (tgt := 39) hX dX4_handOn_33 (by decide) h (fun h => ?_) (fun h => ?_)
  · refine v_bipush (v := (-2)) hX dX4_handOn_36 (by decide) ?_
    exact v_retI hR h dX4_handOn_38
  · refine v_aload_n hX dX4_handOn_39 rfl 2 rfl ?_
    refine gfC_23_1 hX kf_4_26 dX4_handOn_40 ?_
    refine gfC_9_3 hX kf_4_52 dX4_handOn_43 ?_
    refine v_iload_n hX dX4_handOn_46 rfl 4 rfl ?_
    refine alC_13 hX dX4_handOn_47 h (fun v5 h => ?_)
    refine v_aload_n hX dX4_handOn_48 rfl 2 rfl ?_
    refine v_iload_n hX dX4_handOn_49 rfl 3 rfl ?_
    obtain ⟨p6, hp6, h⟩ := bsome h
    refine v_callVI (o := 23) hX (mC_Post_readyHour hp6 l ad) kM_X4_readyHour kV_X4_readyHour km_4_55 (by decide) (fun _ => rfl) rfl rfl rfl (Nat.le_of_ble_eq_true rfl) (by decide) dX4_handOn_50 ?_
    refine v_icmp_ge (tgt := 59) hX dX4_handOn_53 (by decide) h (fun h => ?_) (fun h => ?_)
    · refine v_aload_n hX dX4_handOn_59 rfl 2 rfl ?_
      refine gfC_23_0 hX kf_4_12 dX4_handOn_60 ?_
      refine gfC_26_0 hX kf_4_38 dX4_handOn_63 ?_
      refine v_iload_n hX dX4_handOn_66 rfl 3 rfl ?_
      refine alC_27 hX dX4_handOn_67 h (fun v7 h => ?_)
      refine v_bipush (v := 30) hX dX4_handOn_68 (by decide) ?_
      refine v_icmp_lt (tgt := 76) hX dX4_handOn_70 (by decide) h (fun h => ?_) (fun h => ?_)
      · refine v_aload_n hX dX4_handOn_76 rfl 2 rfl ?_
        refine gfC_23_1 hX kf_4_26 dX4_handOn_77 ?_
        refine v_iload_n hX dX4_handOn_80 rfl 4 rfl ?_
        refine v_iload hX dX4_handOn_81 0 rfl ?_
        obtain ⟨p8, hp8, h⟩ := bsome h
        refine v_callVI (o := 9) hX (mC_Roads_otherAt hp8 l ad) kM_X6_otherAt kV_X6_otherAt km_4_59 (by decide) (fun _ => rfl) rfl rfl rfl (Nat.le_of_ble_eq_true rfl) (by decide) dX4_handOn_83 ?_
        refine v_istore (lv' := [(5, .int p8.1), (4, .int p3.1), (3, .int v2), (0, .ref (ad 23)), (1, .int a1), (2, .int a2)]) hX dX4_handOn_86 (by decide) rfl ?_
        refine v_aload_n hX dX4_handOn_88 rfl 3 rfl ?_
        refine v_iload_n hX dX4_handOn_89 rfl 4 rfl ?_
        refine v_iload_n hX dX4_handOn_90 rfl 2 rfl ?_
        refine v_iconst (v := 1) hX dX4_handOn_91 (by decide) ?_
        refine v_iadd hX dX4_handOn_92 ?_
        obtain ⟨z9, hz9, h⟩ := bsome h
        refine v_callVV (o := 23) hX (mC_Post_putAhead hz9 l ad) kM_X4_putAhead kV_X4_putAhead km_4_62 (by decide) (fun _ => rfl) rfl rfl rfl (Nat.le_of_ble_eq_true rfl) (by decide) dX4_handOn_93 ?_
        refine v_aload_n hX dX4_handOn_96 rfl 3 rfl ?_
        refine gfC_23_2 hX kf_4_30 dX4_handOn_97 ?_
        refine v_iload hX dX4_handOn_100 0 rfl ?_
        refine v_iload hX dX4_handOn_102 1 rfl ?_
        refine v_aload_n hX dX4_handOn_104 rfl 3 rfl ?_
        refine gfC_23_1 hX kf_4_26 dX4_handOn_105 ?_
        refine gfC_9_3 hX kf_4_52 dX4_handOn_108 ?_
        refine v_iload_n hX dX4_handOn_111 rfl 5 rfl ?_
        refine alC_13 hX dX4_handOn_112 h (fun v10 h => ?_)
        obtain ⟨p11, hp11, h⟩ := bsome h
        refine v_callVI (o := 17) hX (mC_Rule_lineBy hp11 l ad) kM_X7_lineBy kV_X7_lineBy km_4_66 (by decide) (fun _ => rfl) rfl rfl rfl (Nat.le_of_ble_eq_true rfl) (by decide) dX4_handOn_113 ?_
        refine v_istore (lv' := [(6, .int p11.1), (5, .int p8.1), (4, .int p3.1), (3, .int v2), (0, .ref (ad 23)), (1, .int a1), (2, .int a2)]) hX dX4_handOn_116 (by decide) rfl ?_
        refine v_aload_n hX dX4_handOn_118 rfl 4 rfl ?_
        refine gfC_23_0 hX kf_4_12 dX4_handOn_119 ?_
        refine v_iload_n hX dX4_handOn_122 rfl 5 rfl ?_
        refine v_iload hX dX4_handOn_123 1 rfl ?_
        refine v_aload_n hX dX4_handOn_125 rfl 4 rfl ?_
        refine gfC_23_1 hX kf_4_26 dX4_handOn_126 ?_
        refine gfC_9_3 hX kf_4_52 dX4_handOn_129 ?_
        refine v_iload_n hX dX4_handOn_132 rfl 6 rfl ?_
        refine alC_13 hX dX4_handOn_133 h (fun v12 h => ?_)
        refine v_iload hX dX4_handOn_134 0 rfl ?_
        obtain ⟨z13, hz13, h⟩ := bsome h
        refine v_callVV (o := 26) hX (mC_Letters_add hz13 l ad) kM_X1_add kV_X1_add km_4_72 (by decide) (fun _ => rfl) rfl rfl rfl (Nat.le_of_ble_eq_true rfl) (by decide) dX4_handOn_136 ?_
        refine v_iload hX dX4_handOn_139 0 rfl ?_
        exact v_retI hR h dX4_handOn_141
      · refine v_bipush (v := (-4)) hX dX4_handOn_73 (by decide) ?_
        exact v_retI hR h dX4_handOn_75
    · refine v_bipush (v := (-3)) hX dX4_handOn_56 (by decide) ?_
      exact v_retI hR h dX4_handOn_58
noncomputable def fC_Post_handOn (N : Nat) (a1 : Int32) (a2 : Int32) (s : vSt) : Option (Int32 × vSt) := gC_Post_handOn_0 N a1 a2 s
theorem mC_Post_handOn {N : Nat} {a1 : Int32} {a2 : Int32} {s : vSt} {r : Int32} {t1 : vSt} (h : fC_Post_handOn N a1 a2 s = some (r, t1)) (l : Launch) (ad : Nat → Nat) : vMI l shC ad yX4_handOn cX4_handOn 7 .int 3 69 s [.ref (ad 23), .int a1, .int a2] r t1 :=
  vMI_of (by decide +kernel) (Nat.le_of_ble_eq_true rfl) (fun P hX hR => wC_Post_handOn_0 hX hR h)
-- C_EachAddsALine_hand
noncomputable def gC_EachAddsALine_hand_0 (N : Nat)  (a1 : Int32) (a2 : Int32) (s : vSt) : Option (Int32 × vSt) :=
  (fC_Letters_isThere N a1 s).bind fun p1 =>
  if p1.1 = 0 then
    some ((-1), p1.2)
  else
    (fC_Roads_hasMeeting N a2 p1.2).bind fun p2 =>
    if p2.1 = 0 then
      some ((-1), p2.2)
    else
      (fC_Post_handOn N a1 a2 p2.2).bind fun p3 =>
      some (p3.1, p3.2)
set_option maxRecDepth 4000 in
theorem wC_EachAddsALine_hand_0 {P : vP} {l : Launch} {ad : Nat → Nat} {N : Nat} {r : Int32} {t1 : vSt} (hX : vOK P l shC ad (vR 4 95) cX11_hand RX11 3) (hR : (∀ pc lv, narrow .int (.int r) = .int r → decode cX11_hand pc = .ok (.ireturn, 1) → P t1 pc lv [.int r]))  {a1 : Int32} {a2 : Int32} {s : vSt} (h : gC_EachAddsALine_hand_0 N a1 a2 s = some (r, t1)) : P s 0 [(0, .ref (ad 0)), (1, .int a1), (2, .int a2)] [] := by
  unfold gC_EachAddsALine_hand_0 at h
  refine v_aload_n hX dX11_hand_0 rfl 0 rfl ?_
  refine gfC_0_6 hX kf_11_60 dX11_hand_1 ?_
  refine gfC_23_0 hX kf_11_156 dX11_hand_4 ?_
  refine v_iload_n hX dX11_hand_7 rfl 1 rfl ?_
  obtain ⟨p1, hp1, h⟩ := bsome h
  refine v_callVI (o := 26) hX (mC_Letters_isThere hp1 l ad) kM_X1_isThere kV_X1_isThere km_11_166 (by decide) (fun _ => rfl) rfl rfl rfl (Nat.le_of_ble_eq_true rfl) (by decide) dX11_hand_8 ?_
  refine v_if_eq (tgt := 25) hX dX11_hand_11 (by decide) h (fun h => ?_) (fun h => ?_)
  · refine v_iconst (v := (-1)) hX dX11_hand_25 (by decide) ?_
    exact v_retI hR h dX11_hand_26
  · refine v_aload_n hX dX11_hand_14 rfl 0 rfl ?_
    refine gfC_0_2 hX kf_11_26 dX11_hand_15 ?_
    refine v_iload_n hX dX11_hand_18 rfl 2 rfl ?_
    obtain ⟨p2, hp2, h⟩ := bsome h
    refine v_callVI (o := 9) hX (mC_Roads_hasMeeting hp2 l ad) kM_X6_hasMeeting kV_X6_hasMeeting km_11_121 (by decide) (fun _ => rfl) rfl rfl rfl (Nat.le_of_ble_eq_true rfl) (by decide) dX11_hand_19 ?_
    refine v_if_ne (tgt := 27) hX dX11_hand_22 (by decide) h (fun h => ?_) (fun h => ?_)
    · refine v_iconst (v := (-1)) hX dX11_hand_25 (by decide) ?_
      exact v_retI hR h dX11_hand_26
    · refine v_aload_n hX dX11_hand_27 rfl 0 rfl ?_
      refine gfC_0_6 hX kf_11_60 dX11_hand_28 ?_
      refine v_iload_n hX dX11_hand_31 rfl 1 rfl ?_
      refine v_iload_n hX dX11_hand_32 rfl 2 rfl ?_
      obtain ⟨p3, hp3, h⟩ := bsome h
      refine v_callVI (o := 23) hX (mC_Post_handOn hp3 l ad) kM_X4_handOn kV_X4_handOn km_11_169 (by decide) (fun _ => rfl) rfl rfl rfl (Nat.le_of_ble_eq_true rfl) (by decide) dX11_hand_33 ?_
      exact v_retI hR h dX11_hand_36
noncomputable def fC_EachAddsALine_hand (N : Nat) (a1 : Int32) (a2 : Int32) (s : vSt) : Option (Int32 × vSt) := gC_EachAddsALine_hand_0 N a1 a2 s
theorem mC_EachAddsALine_hand {N : Nat} {a1 : Int32} {a2 : Int32} {s : vSt} {r : Int32} {t1 : vSt} (h : fC_EachAddsALine_hand N a1 a2 s = some (r, t1)) (l : Launch) (ad : Nat → Nat) : vMI l shC ad yX11_hand cX11_hand 3 .int 4 95 s [.ref (ad 0), .int a1, .int a2] r t1 :=
  vMI_of (by decide +kernel) (Nat.le_of_ble_eq_true rfl) (fun P hX hR => wC_EachAddsALine_hand_0 hX hR h)
-- C_Letters_takeBack
noncomputable def gC_Letters_takeBack_0 (N : Nat)  (a1 : Int32) (s : vSt) : Option (Int32 × vSt) :=
  (ld s 27 3 a1).bind fun v1 =>
  if 1 < v1 then
    (ld s 27 3 a1).bind fun v2 =>
    (sto s 27 3 a1 (v2 - 1)).bind fun z3 =>
    (ld z3 27 3 a1).bind fun v4 =>
    some (v4 - 1, z3)
  else
    some ((-1), s)
set_option maxRecDepth 4000 in
theorem wC_Letters_takeBack_0 {P : vP} {l : Launch} {ad : Nat → Nat} {N : Nat} {r : Int32} {t1 : vSt} (hX : vOK P l shC ad (vR 0 0) cX1_takeBack RX1 2) (hR : (∀ pc lv, narrow .int (.int r) = .int r → decode cX1_takeBack pc = .ok (.ireturn, 1) → P t1 pc lv [.int r]))  {a1 : Int32} {s : vSt} (h : gC_Letters_takeBack_0 N a1 s = some (r, t1)) : P s 0 [(0, .ref (ad 26)), (1, .int a1)] [] := by
  unfold gC_Letters_takeBack_0 at h
  refine v_aload_n hX dX1_takeBack_0 rfl 0 rfl ?_
  refine gfC_26_0 hX kf_1_9 dX1_takeBack_1 ?_
  refine v_iload_n hX dX1_takeBack_4 rfl 1 rfl ?_
  refine alC_27 hX dX1_takeBack_5 h (fun v1 h => ?_)
  refine v_iconst (v := 1) hX dX1_takeBack_6 (by decide) ?_
  refine v_icmp_gt (tgt := 12) hX dX1_takeBack_7 (by decide) h (fun h => ?_) (fun h => ?_)
  · refine v_aload_n hX dX1_takeBack_12 rfl 0 rfl ?_
    refine gfC_26_0 hX kf_1_9 dX1_takeBack_13 ?_
    refine v_iload_n hX dX1_takeBack_16 rfl 1 rfl ?_
    refine v_dup2 hX dX1_takeBack_17 rfl rfl ?_
    refine alC_27 hX dX1_takeBack_18 h (fun v2 h => ?_)
    refine v_iconst (v := 1) hX dX1_takeBack_19 (by decide) ?_
    refine v_isub hX dX1_takeBack_20 ?_
    refine asC_27 hX dX1_takeBack_21 h (fun z3 h => ?_)
    refine v_aload_n hX dX1_takeBack_22 rfl 0 rfl ?_
    refine gfC_26_0 hX kf_1_9 dX1_takeBack_23 ?_
    refine v_iload_n hX dX1_takeBack_26 rfl 1 rfl ?_
    refine alC_27 hX dX1_takeBack_27 h (fun v4 h => ?_)
    refine v_iconst (v := 1) hX dX1_takeBack_28 (by decide) ?_
    refine v_isub hX dX1_takeBack_29 ?_
    exact v_retI hR h dX1_takeBack_30
  · refine v_iconst (v := (-1)) hX dX1_takeBack_10 (by decide) ?_
    exact v_retI hR h dX1_takeBack_11
noncomputable def fC_Letters_takeBack (N : Nat) (a1 : Int32) (s : vSt) : Option (Int32 × vSt) := gC_Letters_takeBack_0 N a1 s
theorem mC_Letters_takeBack {N : Nat} {a1 : Int32} {s : vSt} {r : Int32} {t1 : vSt} (h : fC_Letters_takeBack N a1 s = some (r, t1)) (l : Launch) (ad : Nat → Nat) : vMI l shC ad yX1_takeBack cX1_takeBack 2 .int 0 0 s [.ref (ad 26), .int a1] r t1 :=
  vMI_of (by decide +kernel) (Nat.le_of_ble_eq_true rfl) (fun P hX hR => wC_Letters_takeBack_0 hX hR h)
-- C_EachAddsALine_undo
noncomputable def gC_EachAddsALine_undo_0 (N : Nat)  (a1 : Int32) (s : vSt) : Option (Int32 × vSt) :=
  (fC_Letters_isThere N a1 s).bind fun p1 =>
  if p1.1 = 0 then
    some ((-1), p1.2)
  else
    (fC_Letters_takeBack N a1 p1.2).bind fun p2 =>
    some (p2.1, p2.2)
set_option maxRecDepth 4000 in
theorem wC_EachAddsALine_undo_0 {P : vP} {l : Launch} {ad : Nat → Nat} {N : Nat} {r : Int32} {t1 : vSt} (hX : vOK P l shC ad (vR 1 21) cX11_undo RX11 2) (hR : (∀ pc lv, narrow .int (.int r) = .int r → decode cX11_undo pc = .ok (.ireturn, 1) → P t1 pc lv [.int r]))  {a1 : Int32} {s : vSt} (h : gC_EachAddsALine_undo_0 N a1 s = some (r, t1)) : P s 0 [(0, .ref (ad 0)), (1, .int a1)] [] := by
  unfold gC_EachAddsALine_undo_0 at h
  refine v_aload_n hX dX11_undo_0 rfl 0 rfl ?_
  refine gfC_0_6 hX kf_11_60 dX11_undo_1 ?_
  refine gfC_23_0 hX kf_11_156 dX11_undo_4 ?_
  refine v_iload_n hX dX11_undo_7 rfl 1 rfl ?_
  obtain ⟨p1, hp1, h⟩ := bsome h
  refine v_callVI (o := 26) hX (mC_Letters_isThere hp1 l ad) kM_X1_isThere kV_X1_isThere km_11_166 (by decide) (fun _ => rfl) rfl rfl rfl (Nat.le_of_ble_eq_true rfl) (by decide) dX11_undo_8 ?_
  refine v_if_eq (tgt := 28) hX dX11_undo_11 (by decide) h (fun h => ?_) (fun h => ?_)
  · refine v_iconst (v := (-1)) hX dX11_undo_28 (by decide) ?_
    exact v_retI hR h dX11_undo_29
  · refine v_aload_n hX dX11_undo_14 rfl 0 rfl ?_
    refine gfC_0_6 hX kf_11_60 dX11_undo_15 ?_
    refine gfC_23_0 hX kf_11_156 dX11_undo_18 ?_
    refine v_iload_n hX dX11_undo_21 rfl 1 rfl ?_
    obtain ⟨p2, hp2, h⟩ := bsome h
    refine v_callVI (o := 26) hX (mC_Letters_takeBack hp2 l ad) kM_X1_takeBack kV_X1_takeBack km_11_172 (by decide) (fun _ => rfl) rfl rfl rfl (Nat.le_of_ble_eq_true rfl) (by decide) dX11_undo_22 ?_
    refine v_goto (tgt := 29) hX dX11_undo_25 (by decide) ?_
    exact v_retI hR h dX11_undo_29
noncomputable def fC_EachAddsALine_undo (N : Nat) (a1 : Int32) (s : vSt) : Option (Int32 × vSt) := gC_EachAddsALine_undo_0 N a1 s
theorem mC_EachAddsALine_undo {N : Nat} {a1 : Int32} {s : vSt} {r : Int32} {t1 : vSt} (h : fC_EachAddsALine_undo N a1 s = some (r, t1)) (l : Launch) (ad : Nat → Nat) : vMI l shC ad yX11_undo cX11_undo 2 .int 1 21 s [.ref (ad 0), .int a1] r t1 :=
  vMI_of (by decide +kernel) (Nat.le_of_ble_eq_true rfl) (fun P hX hR => wC_EachAddsALine_undo_0 hX hR h)
-- C_Numbers_add_row
noncomputable def gC_Numbers_add_row_0 (N : Nat)  (a1 : Int32) (s : vSt) : Option (vSt) :=
  if 12 ≤ (s.1 3 1) then
    some s
  else
    (sto s 4 12 (s.1 3 1) a1).bind fun z1 =>
    (some (s1 z1 3 1 ((z1.1 3 1) + 1))).bind fun z2 =>
    some z2
set_option maxRecDepth 4000 in
theorem wC_Numbers_add_row_0 {P : vP} {l : Launch} {ad : Nat → Nat} {N : Nat} {t1 : vSt} (hX : vOK P l shC ad (vR 0 0) cX2_add RX2 2) (hR : (∀ pc lv, decode cX2_add pc = .ok (.return_, 1) → P t1 pc lv []))  {a1 : Int32} {s : vSt} (h : gC_Numbers_add_row_0 N a1 s = some t1) : P s 0 [(0, .ref (ad 3)), (1, .int a1)] [] := by
  unfold gC_Numbers_add_row_0 at h
  refine v_aload_n hX dX2_add_0 rfl 0 rfl ?_
  refine gfC_3_1 hX kf_2_15 dX2_add_1 ?_
  refine v_bipush (v := 12) hX dX2_add_4 (by decide) ?_
  refine v_icmp_ge (tgt := 29) hX dX2_add_6 (by decide) h (fun h => ?_) (fun h => ?_)
  · exact v_retV hR h dX2_add_29
  · refine v_aload_n hX dX2_add_9 rfl 0 rfl ?_
    refine gfC_3_0 hX kf_2_9 dX2_add_10 ?_
    refine v_aload_n hX dX2_add_13 rfl 0 rfl ?_
    refine gfC_3_1 hX kf_2_15 dX2_add_14 ?_
    refine v_iload_n hX dX2_add_17 rfl 1 rfl ?_
    refine asC_4 hX dX2_add_18 h (fun z1 h => ?_)
    refine v_aload_n hX dX2_add_19 rfl 0 rfl ?_
    refine v_dup hX dX2_add_20 rfl ?_
    refine gfC_3_1 hX kf_2_15 dX2_add_21 ?_
    refine v_iconst (v := 1) hX dX2_add_24 (by decide) ?_
    refine v_iadd hX dX2_add_25 ?_
    refine pfC_3_1 hX kf_2_15 dX2_add_26 h (fun z2 h => ?_)
    exact v_retV hR h dX2_add_29
noncomputable def fC_Numbers_add_row (N : Nat) (a1 : Int32) (s : vSt) : Option (vSt) := gC_Numbers_add_row_0 N a1 s
theorem mC_Numbers_add_row {N : Nat} {a1 : Int32} {s : vSt} {t1 : vSt} (h : fC_Numbers_add_row N a1 s = some t1) (l : Launch) (ad : Nat → Nat) : vMV l shC ad yX2_add cX2_add 2 0 0 s [.ref (ad 3), .int a1] t1 :=
  vMV_of (by decide +kernel) (Nat.le_of_ble_eq_true rfl) (fun P hX hR => wC_Numbers_add_row_0 hX hR h)
-- C_Numbers_clear_row
noncomputable def gC_Numbers_clear_row_0 (N : Nat)   (s : vSt) : Option (vSt) :=
  (some (s1 s 3 1 0)).bind fun z1 =>
  some z1
set_option maxRecDepth 4000 in
theorem wC_Numbers_clear_row_0 {P : vP} {l : Launch} {ad : Nat → Nat} {N : Nat} {t1 : vSt} (hX : vOK P l shC ad (vR 0 0) cX2_clear RX2 1) (hR : (∀ pc lv, decode cX2_clear pc = .ok (.return_, 1) → P t1 pc lv []))   {s : vSt} (h : gC_Numbers_clear_row_0 N s = some t1) : P s 0 [(0, .ref (ad 3))] [] := by
  unfold gC_Numbers_clear_row_0 at h
  refine v_aload_n hX dX2_clear_0 rfl 0 rfl ?_
  refine v_iconst (v := 0) hX dX2_clear_1 (by decide) ?_
  refine pfC_3_1 hX kf_2_15 dX2_clear_2 h (fun z1 h => ?_)
  exact v_retV hR h dX2_clear_5
noncomputable def fC_Numbers_clear_row (N : Nat)  (s : vSt) : Option (vSt) := gC_Numbers_clear_row_0 N s
theorem mC_Numbers_clear_row {N : Nat}  {s : vSt} {t1 : vSt} (h : fC_Numbers_clear_row N s = some t1) (l : Launch) (ad : Nat → Nat) : vMV l shC ad yX2_clear cX2_clear 1 0 0 s [.ref (ad 3)] t1 :=
  vMV_of (by decide +kernel) (Nat.le_of_ble_eq_true rfl) (fun P hX hR => wC_Numbers_clear_row_0 hX hR h)
-- C_EachAddsALine_lines
noncomputable def gC_EachAddsALine_lines_25 (N : Nat)  : Nat → Int32 → Int32 → vSt → Option (Int32 × vSt)
  | 0, _, _, _ => none
  | n + 1, a1, a2, s =>
    (ld s 27 3 a1).bind fun v1 =>
    if v1 ≤ a2 then
      (ld s 27 3 a1).bind fun v2 =>
      some (v2, s)
    else
      (fC_Letters_lineAt N a1 a2 s).bind fun p3 =>
      (fC_Numbers_add_row N p3.1 p3.2).bind fun z4 =>
      (some (a2 + 1 : Int32)).bind fun v5 =>
      gC_EachAddsALine_lines_25 N n a1 v5 z4
set_option maxRecDepth 4000 in
theorem wC_EachAddsALine_lines_25 {P : vP} {l : Launch} {ad : Nat → Nat} {N : Nat} {r : Int32} {t1 : vSt} (hX : vOK P l shC ad (vR 1 22) cX11_lines RX11 3) (hR : (∀ pc lv, narrow .int (.int r) = .int r → decode cX11_lines pc = .ok (.ireturn, 1) → P t1 pc lv [.int r]))  : ∀ (n : Nat) (a1 : Int32) (a2 : Int32) (s : vSt), gC_EachAddsALine_lines_25 N n a1 a2 s = some (r, t1) → P s 25 [(0, .ref (ad 0)), (1, .int a1), (2, .int a2)] [] := by
  intro n
  induction n with
  | zero => intro a1 a2 s h; cases h
  | succ n ih =>
    intro a1 a2 s h
    unfold gC_EachAddsALine_lines_25 at h
    refine v_iload_n hX dX11_lines_25 rfl 2 rfl ?_
    refine v_aload_n hX dX11_lines_26 rfl 0 rfl ?_
    refine gfC_0_6 hX kf_11_60 dX11_lines_27 ?_
    refine gfC_23_0 hX kf_11_156 dX11_lines_30 ?_
    refine gfC_26_0 hX kf_11_177 dX11_lines_33 ?_
    refine v_iload_n hX dX11_lines_36 rfl 1 rfl ?_
    refine alC_27 hX dX11_lines_37 h (fun v1 h => ?_)
    refine v_icmp_ge (tgt := 66) hX dX11_lines_38 (by decide) h (fun h => ?_) (fun h => ?_)
    · refine v_aload_n hX dX11_lines_66 rfl 0 rfl ?_
      refine gfC_0_6 hX kf_11_60 dX11_lines_67 ?_
      refine gfC_23_0 hX kf_11_156 dX11_lines_70 ?_
      refine gfC_26_0 hX kf_11_177 dX11_lines_73 ?_
      refine v_iload_n hX dX11_lines_76 rfl 1 rfl ?_
      refine alC_27 hX dX11_lines_77 h (fun v2 h => ?_)
      exact v_retI hR h dX11_lines_78
    · refine v_aload_n hX dX11_lines_41 rfl 0 rfl ?_
      refine gfC_0_1 hX kf_11_19 dX11_lines_42 ?_
      refine v_aload_n hX dX11_lines_45 rfl 0 rfl ?_
      refine gfC_0_6 hX kf_11_60 dX11_lines_46 ?_
      refine gfC_23_0 hX kf_11_156 dX11_lines_49 ?_
      refine v_iload_n hX dX11_lines_52 rfl 1 rfl ?_
      refine v_iload_n hX dX11_lines_53 rfl 2 rfl ?_
      obtain ⟨p3, hp3, h⟩ := bsome h
      refine v_callVI (o := 26) hX (mC_Letters_lineAt hp3 l ad) kM_X1_lineAt kV_X1_lineAt km_11_179 (by decide) (fun _ => rfl) rfl rfl rfl (Nat.le_of_ble_eq_true rfl) (by decide) dX11_lines_54 ?_
      obtain ⟨z4, hz4, h⟩ := bsome h
      refine v_callVV (o := 3) hX (mC_Numbers_add_row hz4 l ad) kM_X2_add kV_X2_add km_11_182 (by decide) (fun _ => rfl) rfl rfl rfl (Nat.le_of_ble_eq_true rfl) (by decide) dX11_lines_57 ?_
      refine v_iincN hX dX11_lines_60 (j := 2) rfl (c := 1) (by decide) (by decide) h (fun v5 h => ?_)
      refine v_show (lv' := [(2, .int v5), (0, .ref (ad 0)), (1, .int a1)]) hX rfl ?_
      refine v_goto (tgt := 25) hX dX11_lines_63 (by decide) ?_
      exact v_sub hX [1, 2, 0] (by rfl) (ih _ _ _ h)
noncomputable def gC_EachAddsALine_lines_0 (N : Nat)  (a1 : Int32) (s : vSt) : Option (Int32 × vSt) :=
  (fC_Letters_isThere N a1 s).bind fun p1 =>
  if p1.1 = 0 then
    some ((-1), p1.2)
  else
    (fC_Numbers_clear_row N p1.2).bind fun z2 =>
    gC_EachAddsALine_lines_25 N N a1 0 z2
set_option maxRecDepth 4000 in
theorem wC_EachAddsALine_lines_0 {P : vP} {l : Launch} {ad : Nat → Nat} {N : Nat} {r : Int32} {t1 : vSt} (hX : vOK P l shC ad (vR 1 22) cX11_lines RX11 3) (hR : (∀ pc lv, narrow .int (.int r) = .int r → decode cX11_lines pc = .ok (.ireturn, 1) → P t1 pc lv [.int r]))  {a1 : Int32} {s : vSt} (h : gC_EachAddsALine_lines_0 N a1 s = some (r, t1)) : P s 0 [(0, .ref (ad 0)), (1, .int a1)] [] := by
  unfold gC_EachAddsALine_lines_0 at h
  refine v_aload_n hX dX11_lines_0 rfl 0 rfl ?_
  refine gfC_0_6 hX kf_11_60 dX11_lines_1 ?_
  refine gfC_23_0 hX kf_11_156 dX11_lines_4 ?_
  refine v_iload_n hX dX11_lines_7 rfl 1 rfl ?_
  obtain ⟨p1, hp1, h⟩ := bsome h
  refine v_callVI (o := 26) hX (mC_Letters_isThere hp1 l ad) kM_X1_isThere kV_X1_isThere km_11_166 (by decide) (fun _ => rfl) rfl rfl rfl (Nat.le_of_ble_eq_true rfl) (by decide) dX11_lines_8 ?_
  refine v_if_ne (tgt := 16) hX dX11_lines_11 (by decide) h (fun h => ?_) (fun h => ?_)
  · refine v_iconst (v := (-1)) hX dX11_lines_14 (by decide) ?_
    exact v_retI hR h dX11_lines_15
  · refine v_aload_n hX dX11_lines_16 rfl 0 rfl ?_
    refine gfC_0_1 hX kf_11_19 dX11_lines_17 ?_
    obtain ⟨z2, hz2, h⟩ := bsome h
    refine v_callVV (o := 3) hX (mC_Numbers_clear_row hz2 l ad) kM_X2_clear kV_X2_clear km_11_176 (by decide) (fun _ => rfl) rfl rfl rfl (Nat.le_of_ble_eq_true rfl) (by decide) dX11_lines_20 ?_
    refine v_iconst (v := 0) hX dX11_lines_23 (by decide) ?_
    refine v_istore_n (lv' := [(2, .int 0), (0, .ref (ad 0)), (1, .int a1)]) hX dX11_lines_24 rfl (by decide) rfl ?_
    exact v_sub hX [1, 2, 0] (by rfl) (wC_EachAddsALine_lines_25 hX hR  N _ _ _ h)
noncomputable def fC_EachAddsALine_lines (N : Nat) (a1 : Int32) (s : vSt) : Option (Int32 × vSt) := gC_EachAddsALine_lines_0 N a1 s
theorem mC_EachAddsALine_lines {N : Nat} {a1 : Int32} {s : vSt} {r : Int32} {t1 : vSt} (h : fC_EachAddsALine_lines N a1 s = some (r, t1)) (l : Launch) (ad : Nat → Nat) : vMI l shC ad yX11_lines cX11_lines 3 .int 1 22 s [.ref (ad 0), .int a1] r t1 :=
  vMI_of (by decide +kernel) (Nat.le_of_ble_eq_true rfl) (fun P hX hR => wC_EachAddsALine_lines_0 hX hR h)
-- C_Letters_readers
noncomputable def gC_Letters_readers_4 (N : Nat)  : Nat → Int32 → Int32 → Int32 → vSt → Option (Int32 × vSt)
  | 0, _, _, _, _ => none
  | n + 1, a1, a2, a3, s =>
    (ld s 27 3 a1).bind fun v1 =>
    if v1 ≤ a3 then
      some (a2, s)
    else
      (fC_Letters_holderAt N a1 a3 s).bind fun p2 =>
      (some (a2 ||| ((1 : Int32) <<< (p2.1 &&& 31)) : Int32)).bind fun v3 =>
      (some (a3 + 1 : Int32)).bind fun v4 =>
      gC_Letters_readers_4 N n a1 v3 v4 p2.2
set_option maxRecDepth 4000 in
theorem wC_Letters_readers_4 {P : vP} {l : Launch} {ad : Nat → Nat} {N : Nat} {r : Int32} {t1 : vSt} (hX : vOK P l shC ad (vR 1 22) cX1_readers RX1 4) (hR : (∀ pc lv, narrow .int (.int r) = .int r → decode cX1_readers pc = .ok (.ireturn, 1) → P t1 pc lv [.int r]))  : ∀ (n : Nat) (a1 : Int32) (a2 : Int32) (a3 : Int32) (s : vSt), gC_Letters_readers_4 N n a1 a2 a3 s = some (r, t1) → P s 4 [(0, .ref (ad 26)), (1, .int a1), (2, .int a2), (3, .int a3)] [] := by
  intro n
  induction n with
  | zero => intro a1 a2 a3 s h; cases h
  | succ n ih =>
    intro a1 a2 a3 s h
    unfold gC_Letters_readers_4 at h
    refine v_iload_n hX dX1_readers_4 rfl 3 rfl ?_
    refine v_aload_n hX dX1_readers_5 rfl 0 rfl ?_
    refine gfC_26_0 hX kf_1_9 dX1_readers_6 ?_
    refine v_iload_n hX dX1_readers_9 rfl 1 rfl ?_
    refine alC_27 hX dX1_readers_10 h (fun v1 h => ?_)
    refine v_icmp_ge (tgt := 31) hX dX1_readers_11 (by decide) h (fun h => ?_) (fun h => ?_)
    · refine v_iload_n hX dX1_readers_31 rfl 2 rfl ?_
      exact v_retI hR h dX1_readers_32
    · refine v_iload_n hX dX1_readers_14 rfl 2 rfl ?_
      refine v_iconst (v := 1) hX dX1_readers_15 (by decide) ?_
      refine v_aload_n hX dX1_readers_16 rfl 0 rfl ?_
      refine v_iload_n hX dX1_readers_17 rfl 1 rfl ?_
      refine v_iload_n hX dX1_readers_18 rfl 3 rfl ?_
      obtain ⟨p2, hp2, h⟩ := bsome h
      refine v_callVI (o := 26) hX (mC_Letters_holderAt hp2 l ad) kM_X1_holderAt kV_X1_holderAt km_1_28 (by decide) (fun _ => rfl) rfl rfl rfl (Nat.le_of_ble_eq_true rfl) (by decide) dX1_readers_19 ?_
      refine v_ishl hX dX1_readers_22 ?_
      refine v_ior hX dX1_readers_23 ?_
      refine v_nmI hX h (fun v3 h => ?_)
      refine v_istore_n (lv' := [(2, .int v3), (0, .ref (ad 26)), (1, .int a1), (3, .int a3)]) hX dX1_readers_24 rfl (by decide) rfl ?_
      refine v_iincN hX dX1_readers_25 (j := 3) rfl (c := 1) (by decide) (by decide) h (fun v4 h => ?_)
      refine v_show (lv' := [(3, .int v4), (2, .int v3), (0, .ref (ad 26)), (1, .int a1)]) hX rfl ?_
      refine v_goto (tgt := 4) hX dX1_readers_28 (by decide) ?_
      exact v_sub hX [2, 3, 1, 0] (by rfl) (ih _ _ _ _ h)
noncomputable def gC_Letters_readers_0 (N : Nat)  (a1 : Int32) (s : vSt) : Option (Int32 × vSt) :=
  gC_Letters_readers_4 N N a1 0 0 s
set_option maxRecDepth 4000 in
theorem wC_Letters_readers_0 {P : vP} {l : Launch} {ad : Nat → Nat} {N : Nat} {r : Int32} {t1 : vSt} (hX : vOK P l shC ad (vR 1 22) cX1_readers RX1 4) (hR : (∀ pc lv, narrow .int (.int r) = .int r → decode cX1_readers pc = .ok (.ireturn, 1) → P t1 pc lv [.int r]))  {a1 : Int32} {s : vSt} (h : gC_Letters_readers_0 N a1 s = some (r, t1)) : P s 0 [(0, .ref (ad 26)), (1, .int a1)] [] := by
  unfold gC_Letters_readers_0 at h
  refine v_iconst (v := 0) hX dX1_readers_0 (by decide) ?_
  refine v_istore_n (lv' := [(2, .int 0), (0, .ref (ad 26)), (1, .int a1)]) hX dX1_readers_1 rfl (by decide) rfl ?_
  refine v_iconst (v := 0) hX dX1_readers_2 (by decide) ?_
  refine v_istore_n (lv' := [(3, .int 0), (2, .int 0), (0, .ref (ad 26)), (1, .int a1)]) hX dX1_readers_3 rfl (by decide) rfl ?_
  exact v_sub hX [2, 3, 1, 0] (by rfl) (wC_Letters_readers_4 hX hR  N _ _ _ _ h)
noncomputable def fC_Letters_readers (N : Nat) (a1 : Int32) (s : vSt) : Option (Int32 × vSt) := gC_Letters_readers_0 N a1 s
theorem mC_Letters_readers {N : Nat} {a1 : Int32} {s : vSt} {r : Int32} {t1 : vSt} (h : fC_Letters_readers N a1 s = some (r, t1)) (l : Launch) (ad : Nat → Nat) : vMI l shC ad yX1_readers cX1_readers 4 .int 1 22 s [.ref (ad 26), .int a1] r t1 :=
  vMI_of (by decide +kernel) (Nat.le_of_ble_eq_true rfl) (fun P hX hR => wC_Letters_readers_0 hX hR h)
-- C_EachAddsALine_of
noncomputable def gC_EachAddsALine_of_0 (N : Nat)  (a1 : Int32) (a2 : Int32) (s : vSt) : Option (Int32 × vSt) :=
  (fC_Letters_isThere N a1 s).bind fun p1 =>
  if p1.1 = 0 then
    some ((-1), p1.2)
  else
    (ld p1.2 27 3 a1).bind fun v2 =>
    (some (v2 - 1 : Int32)).bind fun v3 =>
    if a2 = 0 then
      (fC_Letters_holderAt N a1 0 p1.2).bind fun p4 =>
      some (p4.1, p4.2)
    else
    if a2 = 1 then
      (fC_Letters_sinceAt N a1 0 p1.2).bind fun p5 =>
      some (p5.1, p5.2)
    else
    if a2 = 2 then
      (fC_Letters_holderAt N a1 v3 p1.2).bind fun p6 =>
      some (p6.1, p6.2)
    else
    if a2 = 3 then
      (fC_Letters_sinceAt N a1 v3 p1.2).bind fun p7 =>
      some (p7.1, p7.2)
    else
    if a2 = 4 then
      (fC_Letters_readers N a1 p1.2).bind fun p8 =>
      some (p8.1, p8.2)
    else
    if a2 < 0 ∨ 4 < a2 then
      some ((-1), p1.2)
    else none
set_option maxRecDepth 4000 in
theorem wC_EachAddsALine_of_0 {P : vP} {l : Launch} {ad : Nat → Nat} {N : Nat} {r : Int32} {t1 : vSt} (hX : vOK P l shC ad (vR 2 45) cX11_of RX11 5) (hR : (∀ pc lv, narrow .int (.int r) = .int r → decode cX11_of pc = .ok (.ireturn, 1) → P t1 pc lv [.int r]))  {a1 : Int32} {a2 : Int32} {s : vSt} (h : gC_EachAddsALine_of_0 N a1 a2 s = some (r, t1)) : P s 0 [(0, .ref (ad 0)), (1, .int a1), (2, .int a2)] [] := by
  unfold gC_EachAddsALine_of_0 at h
  refine v_aload_n hX dX11_of_0 rfl 0 rfl ?_
  refine gfC_0_6 hX kf_11_60 dX11_of_1 ?_
  refine gfC_23_0 hX kf_11_156 dX11_of_4 ?_
  refine v_iload_n hX dX11_of_7 rfl 1 rfl ?_
  obtain ⟨p1, hp1, h⟩ := bsome h
  refine v_callVI (o := 26) hX (mC_Letters_isThere hp1 l ad) kM_X1_isThere kV_X1_isThere km_11_166 (by decide) (fun _ => rfl) rfl rfl rfl (Nat.le_of_ble_eq_true rfl) (by decide) dX11_of_8 ?_
  refine v_if_ne (tgt := 16) hX dX11_of_11 (by decide) h (fun h => ?_) (fun h => ?_)
  · refine v_iconst (v := (-1)) hX dX11_of_14 (by decide) ?_
    exact v_retI hR h dX11_of_15
  · refine v_aload_n hX dX11_of_16 rfl 0 rfl ?_
    refine gfC_0_6 hX kf_11_60 dX11_of_17 ?_
    refine gfC_23_0 hX kf_11_156 dX11_of_20 ?_
    refine v_astore_n (lv' := [(3, .ref (ad 26)), (0, .ref (ad 0)), (1, .int a1), (2, .int a2)]) hX dX11_of_23 rfl (by decide) rfl ?_
    refine v_aload_n hX dX11_of_24 rfl 0 rfl ?_
    refine gfC_26_0 hX kf_11_177 dX11_of_25 ?_
    refine v_iload_n hX dX11_of_28 rfl 2 rfl ?_
    refine alC_27 hX dX11_of_29 h (fun v2 h => ?_)
    refine v_iconst (v := 1) hX dX11_of_30 (by decide) ?_
    refine v_isub hX dX11_of_31 ?_
    refine v_nmI hX h (fun v3 h => ?_)
    refine v_istore (lv' := [(4, .int v3), (3, .ref (ad 26)), (0, .ref (ad 0)), (1, .int a1), (2, .int a2)]) hX dX11_of_32 (by decide) rfl ?_
    refine v_iload_n hX dX11_of_34 rfl 4 rfl ?_
    rcases ifs h with ⟨hc, h⟩ | ⟨hn0, h⟩
    · refine v_tblIn (tgt := 68) (off := 33) hX dX11_of_35 (by rw [hc]; decide) (by rw [hc]; decide) (by rw [hc]; rfl) (by decide) ?_
      refine v_aload_n hX dX11_of_68 rfl 1 rfl ?_
      refine v_iload_n hX dX11_of_69 rfl 3 rfl ?_
      refine v_iconst (v := 0) hX dX11_of_70 (by decide) ?_
      obtain ⟨p4, hp4, h⟩ := bsome h
      refine v_callVI (o := 26) hX (mC_Letters_holderAt hp4 l ad) kM_X1_holderAt kV_X1_holderAt km_11_186 (by decide) (fun _ => rfl) rfl rfl rfl (Nat.le_of_ble_eq_true rfl) (by decide) dX11_of_71 ?_
      exact v_retI hR h dX11_of_74
    rcases ifs h with ⟨hc, h⟩ | ⟨hn1, h⟩
    · refine v_tblIn (tgt := 75) (off := 40) hX dX11_of_35 (by rw [hc]; decide) (by rw [hc]; decide) (by rw [hc]; rfl) (by decide) ?_
      refine v_aload_n hX dX11_of_75 rfl 1 rfl ?_
      refine v_iload_n hX dX11_of_76 rfl 3 rfl ?_
      refine v_iconst (v := 0) hX dX11_of_77 (by decide) ?_
      obtain ⟨p5, hp5, h⟩ := bsome h
      refine v_callVI (o := 26) hX (mC_Letters_sinceAt hp5 l ad) kM_X1_sinceAt kV_X1_sinceAt km_11_189 (by decide) (fun _ => rfl) rfl rfl rfl (Nat.le_of_ble_eq_true rfl) (by decide) dX11_of_78 ?_
      exact v_retI hR h dX11_of_81
    rcases ifs h with ⟨hc, h⟩ | ⟨hn2, h⟩
    · refine v_tblIn (tgt := 82) (off := 47) hX dX11_of_35 (by rw [hc]; decide) (by rw [hc]; decide) (by rw [hc]; rfl) (by decide) ?_
      refine v_aload_n hX dX11_of_82 rfl 1 rfl ?_
      refine v_iload_n hX dX11_of_83 rfl 3 rfl ?_
      refine v_iload hX dX11_of_84 0 rfl ?_
      obtain ⟨p6, hp6, h⟩ := bsome h
      refine v_callVI (o := 26) hX (mC_Letters_holderAt hp6 l ad) kM_X1_holderAt kV_X1_holderAt km_11_186 (by decide) (fun _ => rfl) rfl rfl rfl (Nat.le_of_ble_eq_true rfl) (by decide) dX11_of_86 ?_
      exact v_retI hR h dX11_of_89
    rcases ifs h with ⟨hc, h⟩ | ⟨hn3, h⟩
    · refine v_tblIn (tgt := 90) (off := 55) hX dX11_of_35 (by rw [hc]; decide) (by rw [hc]; decide) (by rw [hc]; rfl) (by decide) ?_
      refine v_aload_n hX dX11_of_90 rfl 1 rfl ?_
      refine v_iload_n hX dX11_of_91 rfl 3 rfl ?_
      refine v_iload hX dX11_of_92 0 rfl ?_
      obtain ⟨p7, hp7, h⟩ := bsome h
      refine v_callVI (o := 26) hX (mC_Letters_sinceAt hp7 l ad) kM_X1_sinceAt kV_X1_sinceAt km_11_189 (by decide) (fun _ => rfl) rfl rfl rfl (Nat.le_of_ble_eq_true rfl) (by decide) dX11_of_94 ?_
      exact v_retI hR h dX11_of_97
    rcases ifs h with ⟨hc, h⟩ | ⟨hn4, h⟩
    · refine v_tblIn (tgt := 98) (off := 63) hX dX11_of_35 (by rw [hc]; decide) (by rw [hc]; decide) (by rw [hc]; rfl) (by decide) ?_
      refine v_aload_n hX dX11_of_98 rfl 1 rfl ?_
      refine v_iload_n hX dX11_of_99 rfl 3 rfl ?_
      obtain ⟨p8, hp8, h⟩ := bsome h
      refine v_callVI (o := 26) hX (mC_Letters_readers hp8 l ad) kM_X1_readers kV_X1_readers km_11_192 (by decide) (fun _ => rfl) rfl rfl rfl (Nat.le_of_ble_eq_true rfl) (by decide) dX11_of_100 ?_
      exact v_retI hR h dX11_of_103
    obtain ⟨hc, h⟩ := gsome h
    refine v_tblOut (tgt := 104) hX dX11_of_35 (tblo (lo := 0) (hi := 4) (by decide) (by decide) hc) (by decide) ?_
    refine v_iconst (v := (-1)) hX dX11_of_104 (by decide) ?_
    exact v_retI hR h dX11_of_105
noncomputable def fC_EachAddsALine_of (N : Nat) (a1 : Int32) (a2 : Int32) (s : vSt) : Option (Int32 × vSt) := gC_EachAddsALine_of_0 N a1 a2 s
theorem mC_EachAddsALine_of {N : Nat} {a1 : Int32} {a2 : Int32} {s : vSt} {r : Int32} {t1 : vSt} (h : fC_EachAddsALine_of N a1 a2 s = some (r, t1)) (l : Launch) (ad : Nat → Nat) : vMI l shC ad yX11_of cX11_of 5 .int 2 45 s [.ref (ad 0), .int a1, .int a2] r t1 :=
  vMI_of (by decide +kernel) (Nat.le_of_ble_eq_true rfl) (fun P hX hR => wC_EachAddsALine_of_0 hX hR h)
-- C_Post_canHand
noncomputable def gC_Post_canHand_67 (N : Nat)   (s : vSt) : Option (Int32 × vSt) :=
  some (0, s)
set_option maxRecDepth 4000 in
theorem wC_Post_canHand_67 {P : vP} {l : Launch} {ad : Nat → Nat} {N : Nat} {r : Int32} {t1 : vSt} (hX : vOK P l shC ad (vR 2 45) cX4_canHand RX4 4) (hR : (∀ pc lv, narrow .boolean (.int r) = .int r → decode cX4_canHand pc = .ok (.ireturn, 1) → P t1 pc lv [.int r]))   {s : vSt} (h : gC_Post_canHand_67 N s = some (r, t1)) : P s 67 [] [] := by
  unfold gC_Post_canHand_67 at h
  refine v_iconst (v := 0) hX dX4_canHand_67 (by decide) ?_
  exact v_retZ0 hR h dX4_canHand_68
noncomputable def gC_Post_canHand_0 (N : Nat)  (a1 : Int32) (a2 : Int32) (s : vSt) : Option (Int32 × vSt) :=
  (ld s 27 3 a1).bind fun v1 =>
  (fC_Letters_holderAt N a1 (v1 - 1) s).bind fun p2 =>
  (ld p2.2 27 3 a1).bind fun v3 =>
  if 30 ≤ v3 then
    gC_Post_canHand_67 N p2.2
  else
    (fC_Roads_isAt N p2.1 a2 p2.2).bind fun p4 =>
    if p4.1 = 0 then
      gC_Post_canHand_67 N p4.2
    else
      (ld p4.2 13 20 a2).bind fun v5 =>
      (fC_Post_readyHour N a1 p4.2).bind fun p6 =>
      if v5 < p6.1 then
        gC_Post_canHand_67 N p6.2
      else
        some (1, p6.2)
set_option maxRecDepth 4000 in
theorem wC_Post_canHand_0 {P : vP} {l : Launch} {ad : Nat → Nat} {N : Nat} {r : Int32} {t1 : vSt} (hX : vOK P l shC ad (vR 2 45) cX4_canHand RX4 4) (hR : (∀ pc lv, narrow .boolean (.int r) = .int r → decode cX4_canHand pc = .ok (.ireturn, 1) → P t1 pc lv [.int r]))  {a1 : Int32} {a2 : Int32} {s : vSt} (h : gC_Post_canHand_0 N a1 a2 s = some (r, t1)) : P s 0 [(0, .ref (ad 23)), (1, .int a1), (2, .int a2)] [] := by
  unfold gC_Post_canHand_0 at h
  refine v_aload_n hX dX4_canHand_0 rfl 0 rfl ?_
  refine gfC_23_0 hX kf_4_12 dX4_canHand_1 ?_
  refine v_iload_n hX dX4_canHand_4 rfl 1 rfl ?_
  refine v_aload_n hX dX4_canHand_5 rfl 0 rfl ?_
  refine gfC_23_0 hX kf_4_12 dX4_canHand_6 ?_
  refine gfC_26_0 hX kf_4_38 dX4_canHand_9 ?_
  refine v_iload_n hX dX4_canHand_12 rfl 1 rfl ?_
  refine alC_27 hX dX4_canHand_13 h (fun v1 h => ?_)
  refine v_iconst (v := 1) hX dX4_canHand_14 (by decide) ?_
  refine v_isub hX dX4_canHand_15 ?_
  obtain ⟨p2, hp2, h⟩ := bsome h
  refine v_callVI (o := 26) hX (mC_Letters_holderAt hp2 l ad) kM_X1_holderAt kV_X1_holderAt km_4_42 (by decide) (fun _ => rfl) rfl rfl rfl (Nat.le_of_ble_eq_true rfl) (by decide) dX4_canHand_16 ?_
  refine v_istore_n (lv' := [(3, .int p2.1), (0, .ref (ad 23)), (1, .int a1), (2, .int a2)]) hX dX4_canHand_19 rfl (by decide) rfl ?_
  refine v_aload_n hX dX4_canHand_20 rfl 1 rfl ?_
  refine gfC_23_0 hX kf_4_12 dX4_canHand_21 ?_
  refine gfC_26_0 hX kf_4_38 dX4_canHand_24 ?_
  refine v_iload_n hX dX4_canHand_27 rfl 2 rfl ?_
  refine alC_27 hX dX4_canHand_28 h (fun v3 h => ?_)
  refine v_bipush (v := 30) hX dX4_canHand_29 (by decide) ?_
  refine v_icmp_ge (tgt := 67) hX dX4_canHand_31 (by decide) h (fun h => ?_) (fun h => ?_)
  · exact v_sub hX [] (by rfl) (wC_Post_canHand_67 hX hR  h)
  · refine v_aload_n hX dX4_canHand_34 rfl 1 rfl ?_
    refine gfC_23_1 hX kf_4_26 dX4_canHand_35 ?_
    refine v_iload_n hX dX4_canHand_38 rfl 0 rfl ?_
    refine v_iload_n hX dX4_canHand_39 rfl 3 rfl ?_
    obtain ⟨p4, hp4, h⟩ := bsome h
    refine v_callVI (o := 9) hX (mC_Roads_isAt hp4 l ad) kM_X6_isAt kV_X6_isAt km_4_46 (by decide) (fun _ => rfl) rfl rfl rfl (Nat.le_of_ble_eq_true rfl) (by decide) dX4_canHand_40 ?_
    refine v_if_eq (tgt := 67) hX dX4_canHand_43 (by decide) h (fun h => ?_) (fun h => ?_)
    · exact v_sub hX [] (by rfl) (wC_Post_canHand_67 hX hR  h)
    · refine v_aload_n hX dX4_canHand_46 rfl 1 rfl ?_
      refine gfC_23_1 hX kf_4_26 dX4_canHand_47 ?_
      refine gfC_9_3 hX kf_4_52 dX4_canHand_50 ?_
      refine v_iload_n hX dX4_canHand_53 rfl 3 rfl ?_
      refine alC_13 hX dX4_canHand_54 h (fun v5 h => ?_)
      refine v_aload_n hX dX4_canHand_55 rfl 1 rfl ?_
      refine v_iload_n hX dX4_canHand_56 rfl 2 rfl ?_
      obtain ⟨p6, hp6, h⟩ := bsome h
      refine v_callVI (o := 23) hX (mC_Post_readyHour hp6 l ad) kM_X4_readyHour kV_X4_readyHour km_4_55 (by decide) (fun _ => rfl) rfl rfl rfl (Nat.le_of_ble_eq_true rfl) (by decide) dX4_canHand_57 ?_
      refine v_icmp_lt (tgt := 67) hX dX4_canHand_60 (by decide) h (fun h => ?_) (fun h => ?_)
      · exact v_sub hX [] (by rfl) (wC_Post_canHand_67 hX hR  h)
      · refine v_iconst (v := 1) hX dX4_canHand_63 (by decide) ?_
        refine v_goto (tgt := 68) hX dX4_canHand_64 (by decide) ?_
        exact v_retZ1 hR h dX4_canHand_68
noncomputable def fC_Post_canHand (N : Nat) (a1 : Int32) (a2 : Int32) (s : vSt) : Option (Int32 × vSt) := gC_Post_canHand_0 N a1 a2 s
theorem mC_Post_canHand {N : Nat} {a1 : Int32} {a2 : Int32} {s : vSt} {r : Int32} {t1 : vSt} (h : fC_Post_canHand N a1 a2 s = some (r, t1)) (l : Launch) (ad : Nat → Nat) : vMI l shC ad yX4_canHand cX4_canHand 4 .boolean 2 45 s [.ref (ad 23), .int a1, .int a2] r t1 :=
  vMI_of (by decide +kernel) (Nat.le_of_ble_eq_true rfl) (fun P hX hR => wC_Post_canHand_0 hX hR h)
-- C_Post_openMeetings
noncomputable def gC_Post_openMeetings_30 (N : Nat) (r4 : Int32 → Int32 → Int32 → vSt → Option (Int32 × vSt)) (a1 : Int32) (a2 : Int32) (a3 : Int32) (s : vSt) : Option (Int32 × vSt) :=
  (some (a3 + 1 : Int32)).bind fun v1 =>
  r4 a1 a2 v1 s
set_option maxRecDepth 4000 in
theorem wC_Post_openMeetings_30 {P : vP} {l : Launch} {ad : Nat → Nat} {N : Nat} {r4 : Int32 → Int32 → Int32 → vSt → Option (Int32 × vSt)} {r : Int32} {t1 : vSt} (hX : vOK P l shC ad (vR 3 68) cX4_openMeetings RX4 4) (hR : (∀ pc lv, narrow .int (.int r) = .int r → decode cX4_openMeetings pc = .ok (.ireturn, 1) → P t1 pc lv [.int r])) (H4 : ∀ (a1 : Int32) (a2 : Int32) (a3 : Int32) (s : vSt), r4 a1 a2 a3 s = some (r, t1) → P s 4 [(0, .ref (ad 23)), (1, .int a1), (2, .int a2), (3, .int a3)] []) {a1 : Int32} {a2 : Int32} {a3 : Int32} {s : vSt} (h : gC_Post_openMeetings_30 N r4 a1 a2 a3 s = some (r, t1)) : P s 30 [(0, .ref (ad 23)), (1, .int a1), (2, .int a2), (3, .int a3)] [] := by
  unfold gC_Post_openMeetings_30 at h
  refine v_iincN hX dX4_openMeetings_30 (j := 3) rfl (c := 1) (by decide) (by decide) h (fun v1 h => ?_)
  refine v_show (lv' := [(3, .int v1), (0, .ref (ad 23)), (1, .int a1), (2, .int a2)]) hX rfl ?_
  refine v_goto (tgt := 4) hX dX4_openMeetings_33 (by decide) ?_
  exact v_sub hX [1, 2, 3, 0] (by rfl) (H4 _ _ _ _ h)
noncomputable def gC_Post_openMeetings_4 (N : Nat)  : Nat → Int32 → Int32 → Int32 → vSt → Option (Int32 × vSt)
  | 0, _, _, _, _ => none
  | n + 1, a1, a2, a3, s =>
    if (s.1 9 7) ≤ a3 then
      some (a2, s)
    else
      (fC_Post_canHand N a1 a3 s).bind fun p1 =>
      if p1.1 = 0 then
        gC_Post_openMeetings_30 N (gC_Post_openMeetings_4 N n) a1 a2 a3 p1.2
      else
        (some (a2 ||| ((1 : Int32) <<< (a3 &&& 31)) : Int32)).bind fun v2 =>
        gC_Post_openMeetings_30 N (gC_Post_openMeetings_4 N n) a1 v2 a3 p1.2
set_option maxRecDepth 4000 in
theorem wC_Post_openMeetings_4 {P : vP} {l : Launch} {ad : Nat → Nat} {N : Nat} {r : Int32} {t1 : vSt} (hX : vOK P l shC ad (vR 3 68) cX4_openMeetings RX4 4) (hR : (∀ pc lv, narrow .int (.int r) = .int r → decode cX4_openMeetings pc = .ok (.ireturn, 1) → P t1 pc lv [.int r]))  : ∀ (n : Nat) (a1 : Int32) (a2 : Int32) (a3 : Int32) (s : vSt), gC_Post_openMeetings_4 N n a1 a2 a3 s = some (r, t1) → P s 4 [(0, .ref (ad 23)), (1, .int a1), (2, .int a2), (3, .int a3)] [] := by
  intro n
  induction n with
  | zero => intro a1 a2 a3 s h; cases h
  | succ n ih =>
    intro a1 a2 a3 s h
    unfold gC_Post_openMeetings_4 at h
    refine v_iload_n hX dX4_openMeetings_4 rfl 3 rfl ?_
    refine v_aload_n hX dX4_openMeetings_5 rfl 0 rfl ?_
    refine gfC_23_1 hX kf_4_26 dX4_openMeetings_6 ?_
    refine gfC_9_7 hX kf_4_76 dX4_openMeetings_9 ?_
    refine v_icmp_ge (tgt := 36) hX dX4_openMeetings_12 (by decide) h (fun h => ?_) (fun h => ?_)
    · refine v_iload_n hX dX4_openMeetings_36 rfl 2 rfl ?_
      exact v_retI hR h dX4_openMeetings_37
    · refine v_aload_n hX dX4_openMeetings_15 rfl 0 rfl ?_
      refine v_iload_n hX dX4_openMeetings_16 rfl 1 rfl ?_
      refine v_iload_n hX dX4_openMeetings_17 rfl 3 rfl ?_
      obtain ⟨p1, hp1, h⟩ := bsome h
      refine v_callVI (o := 23) hX (mC_Post_canHand hp1 l ad) kM_X4_canHand kV_X4_canHand km_4_80 (by decide) (fun _ => rfl) rfl rfl rfl (Nat.le_of_ble_eq_true rfl) (by decide) dX4_openMeetings_18 ?_
      refine v_if_eq (tgt := 30) hX dX4_openMeetings_21 (by decide) h (fun h => ?_) (fun h => ?_)
      · exact v_sub hX [0, 1, 2, 3] (by rfl) (wC_Post_openMeetings_30 hX hR ih h)
      · refine v_iload_n hX dX4_openMeetings_24 rfl 2 rfl ?_
        refine v_iconst (v := 1) hX dX4_openMeetings_25 (by decide) ?_
        refine v_iload_n hX dX4_openMeetings_26 rfl 3 rfl ?_
        refine v_ishl hX dX4_openMeetings_27 ?_
        refine v_ior hX dX4_openMeetings_28 ?_
        refine v_nmI hX h (fun v2 h => ?_)
        refine v_istore_n (lv' := [(2, .int v2), (0, .ref (ad 23)), (1, .int a1), (3, .int a3)]) hX dX4_openMeetings_29 rfl (by decide) rfl ?_
        exact v_sub hX [1, 2, 0, 3] (by rfl) (wC_Post_openMeetings_30 hX hR ih h)
noncomputable def gC_Post_openMeetings_0 (N : Nat)  (a1 : Int32) (s : vSt) : Option (Int32 × vSt) :=
  gC_Post_openMeetings_4 N N a1 0 0 s
set_option maxRecDepth 4000 in
theorem wC_Post_openMeetings_0 {P : vP} {l : Launch} {ad : Nat → Nat} {N : Nat} {r : Int32} {t1 : vSt} (hX : vOK P l shC ad (vR 3 68) cX4_openMeetings RX4 4) (hR : (∀ pc lv, narrow .int (.int r) = .int r → decode cX4_openMeetings pc = .ok (.ireturn, 1) → P t1 pc lv [.int r]))  {a1 : Int32} {s : vSt} (h : gC_Post_openMeetings_0 N a1 s = some (r, t1)) : P s 0 [(0, .ref (ad 23)), (1, .int a1)] [] := by
  unfold gC_Post_openMeetings_0 at h
  refine v_iconst (v := 0) hX dX4_openMeetings_0 (by decide) ?_
  refine v_istore_n (lv' := [(2, .int 0), (0, .ref (ad 23)), (1, .int a1)]) hX dX4_openMeetings_1 rfl (by decide) rfl ?_
  refine v_iconst (v := 0) hX dX4_openMeetings_2 (by decide) ?_
  refine v_istore_n (lv' := [(3, .int 0), (2, .int 0), (0, .ref (ad 23)), (1, .int a1)]) hX dX4_openMeetings_3 rfl (by decide) rfl ?_
  exact v_sub hX [2, 3, 1, 0] (by rfl) (wC_Post_openMeetings_4 hX hR  N _ _ _ _ h)
noncomputable def fC_Post_openMeetings (N : Nat) (a1 : Int32) (s : vSt) : Option (Int32 × vSt) := gC_Post_openMeetings_0 N a1 s
theorem mC_Post_openMeetings {N : Nat} {a1 : Int32} {s : vSt} {r : Int32} {t1 : vSt} (h : fC_Post_openMeetings N a1 s = some (r, t1)) (l : Launch) (ad : Nat → Nat) : vMI l shC ad yX4_openMeetings cX4_openMeetings 4 .int 3 68 s [.ref (ad 23), .int a1] r t1 :=
  vMI_of (by decide +kernel) (Nat.le_of_ble_eq_true rfl) (fun P hX hR => wC_Post_openMeetings_0 hX hR h)
-- C_EachAddsALine_can
noncomputable def gC_EachAddsALine_can_0 (N : Nat)  (a1 : Int32) (s : vSt) : Option (Int32 × vSt) :=
  (fC_Letters_isThere N a1 s).bind fun p1 =>
  if p1.1 = 0 then
    some ((-1), p1.2)
  else
    (fC_Post_openMeetings N a1 p1.2).bind fun p2 =>
    some (p2.1, p2.2)
set_option maxRecDepth 4000 in
theorem wC_EachAddsALine_can_0 {P : vP} {l : Launch} {ad : Nat → Nat} {N : Nat} {r : Int32} {t1 : vSt} (hX : vOK P l shC ad (vR 4 91) cX11_can RX11 2) (hR : (∀ pc lv, narrow .int (.int r) = .int r → decode cX11_can pc = .ok (.ireturn, 1) → P t1 pc lv [.int r]))  {a1 : Int32} {s : vSt} (h : gC_EachAddsALine_can_0 N a1 s = some (r, t1)) : P s 0 [(0, .ref (ad 0)), (1, .int a1)] [] := by
  unfold gC_EachAddsALine_can_0 at h
  refine v_aload_n hX dX11_can_0 rfl 0 rfl ?_
  refine gfC_0_6 hX kf_11_60 dX11_can_1 ?_
  refine gfC_23_0 hX kf_11_156 dX11_can_4 ?_
  refine v_iload_n hX dX11_can_7 rfl 1 rfl ?_
  obtain ⟨p1, hp1, h⟩ := bsome h
  refine v_callVI (o := 26) hX (mC_Letters_isThere hp1 l ad) kM_X1_isThere kV_X1_isThere km_11_166 (by decide) (fun _ => rfl) rfl rfl rfl (Nat.le_of_ble_eq_true rfl) (by decide) dX11_can_8 ?_
  refine v_if_eq (tgt := 25) hX dX11_can_11 (by decide) h (fun h => ?_) (fun h => ?_)
  · refine v_iconst (v := (-1)) hX dX11_can_25 (by decide) ?_
    exact v_retI hR h dX11_can_26
  · refine v_aload_n hX dX11_can_14 rfl 0 rfl ?_
    refine gfC_0_6 hX kf_11_60 dX11_can_15 ?_
    refine v_iload_n hX dX11_can_18 rfl 1 rfl ?_
    obtain ⟨p2, hp2, h⟩ := bsome h
    refine v_callVI (o := 23) hX (mC_Post_openMeetings hp2 l ad) kM_X4_openMeetings kV_X4_openMeetings km_11_195 (by decide) (fun _ => rfl) rfl rfl rfl (Nat.le_of_ble_eq_true rfl) (by decide) dX11_can_19 ?_
    refine v_goto (tgt := 26) hX dX11_can_22 (by decide) ?_
    exact v_retI hR h dX11_can_26
noncomputable def fC_EachAddsALine_can (N : Nat) (a1 : Int32) (s : vSt) : Option (Int32 × vSt) := gC_EachAddsALine_can_0 N a1 s
theorem mC_EachAddsALine_can {N : Nat} {a1 : Int32} {s : vSt} {r : Int32} {t1 : vSt} (h : fC_EachAddsALine_can N a1 s = some (r, t1)) (l : Launch) (ad : Nat → Nat) : vMI l shC ad yX11_can cX11_can 2 .int 4 91 s [.ref (ad 0), .int a1] r t1 :=
  vMI_of (by decide +kernel) (Nat.le_of_ble_eq_true rfl) (fun P hX hR => wC_EachAddsALine_can_0 hX hR h)
-- C_Post_nextMeeting
noncomputable def gC_Post_nextMeeting_86 (N : Nat) (r32 : Int32 → Int32 → Int32 → Int32 → vSt → Option (Int32 × vSt)) (a1 : Int32) (a2 : Int32) (a3 : Int32) (a4 : Int32) (s : vSt) : Option (Int32 × vSt) :=
  (some (a4 + 1 : Int32)).bind fun v1 =>
  r32 a1 a2 a3 v1 s
set_option maxRecDepth 4000 in
theorem wC_Post_nextMeeting_86 {P : vP} {l : Launch} {ad : Nat → Nat} {N : Nat} {r32 : Int32 → Int32 → Int32 → Int32 → vSt → Option (Int32 × vSt)} {r : Int32} {t1 : vSt} (hX : vOK P l shC ad (vR 3 68) cX4_nextMeeting RX4 6) (hR : (∀ pc lv, narrow .int (.int r) = .int r → decode cX4_nextMeeting pc = .ok (.ireturn, 1) → P t1 pc lv [.int r])) (H32 : ∀ (a1 : Int32) (a2 : Int32) (a3 : Int32) (a4 : Int32) (s : vSt), r32 a1 a2 a3 a4 s = some (r, t1) → P s 32 [(0, .ref (ad 23)), (1, .int a1), (2, .int a2), (3, .int a3), (4, .int a4)] []) {a1 : Int32} {a2 : Int32} {a3 : Int32} {a4 : Int32} {s : vSt} (h : gC_Post_nextMeeting_86 N r32 a1 a2 a3 a4 s = some (r, t1)) : P s 86 [(0, .ref (ad 23)), (1, .int a1), (2, .int a2), (3, .int a3), (4, .int a4)] [] := by
  unfold gC_Post_nextMeeting_86 at h
  refine v_iincN hX dX4_nextMeeting_86 (j := 4) rfl (c := 1) (by decide) (by decide) h (fun v1 h => ?_)
  refine v_show (lv' := [(4, .int v1), (0, .ref (ad 23)), (1, .int a1), (2, .int a2), (3, .int a3)]) hX rfl ?_
  refine v_goto (tgt := 32) hX dX4_nextMeeting_89 (by decide) ?_
  exact v_sub hX [1, 2, 3, 4, 0] (by rfl) (H32 _ _ _ _ _ h)
noncomputable def gC_Post_nextMeeting_32 (N : Nat)  : Nat → Int32 → Int32 → Int32 → Int32 → vSt → Option (Int32 × vSt)
  | 0, _, _, _, _, _ => none
  | n + 1, a1, a2, a3, a4, s =>
    if (s.1 9 7) ≤ a4 then
      some ((-1), s)
    else
      (ld s 15 20 a4).bind fun v1 =>
      (fC_Post_canHand N a1 v1 s).bind fun p2 =>
      if p2.1 = 0 then
        gC_Post_nextMeeting_86 N (gC_Post_nextMeeting_32 N n) a1 a2 a3 a4 p2.2
      else
        (fC_Roads_otherAt N v1 a2 p2.2).bind fun p3 =>
        if (a3 &&& ((1 : Int32) <<< (p3.1 &&& 31))) = 0 then
          some (v1, p3.2)
        else
          gC_Post_nextMeeting_86 N (gC_Post_nextMeeting_32 N n) a1 a2 a3 a4 p3.2
set_option maxRecDepth 4000 in
theorem wC_Post_nextMeeting_32 {P : vP} {l : Launch} {ad : Nat → Nat} {N : Nat} {r : Int32} {t1 : vSt} (hX : vOK P l shC ad (vR 3 68) cX4_nextMeeting RX4 6) (hR : (∀ pc lv, narrow .int (.int r) = .int r → decode cX4_nextMeeting pc = .ok (.ireturn, 1) → P t1 pc lv [.int r]))  : ∀ (n : Nat) (a1 : Int32) (a2 : Int32) (a3 : Int32) (a4 : Int32) (s : vSt), gC_Post_nextMeeting_32 N n a1 a2 a3 a4 s = some (r, t1) → P s 32 [(0, .ref (ad 23)), (1, .int a1), (2, .int a2), (3, .int a3), (4, .int a4)] [] := by
  intro n
  induction n with
  | zero => intro a1 a2 a3 a4 s h; cases h
  | succ n ih =>
    intro a1 a2 a3 a4 s h
    unfold gC_Post_nextMeeting_32 at h
    refine v_iload hX dX4_nextMeeting_32 4 rfl ?_
    refine v_aload_n hX dX4_nextMeeting_34 rfl 0 rfl ?_
    refine gfC_23_1 hX kf_4_26 dX4_nextMeeting_35 ?_
    refine gfC_9_7 hX kf_4_76 dX4_nextMeeting_38 ?_
    refine v_icmp_ge (tgt := 92) hX dX4_nextMeeting_41 (by decide) h (fun h => ?_) (fun h => ?_)
    · refine v_iconst (v := (-1)) hX dX4_nextMeeting_92 (by decide) ?_
      exact v_retI hR h dX4_nextMeeting_93
    · refine v_aload_n hX dX4_nextMeeting_44 rfl 0 rfl ?_
      refine gfC_23_1 hX kf_4_26 dX4_nextMeeting_45 ?_
      refine gfC_9_5 hX kf_4_98 dX4_nextMeeting_48 ?_
      refine v_iload hX dX4_nextMeeting_51 4 rfl ?_
      refine alC_15 hX dX4_nextMeeting_53 h (fun v1 h => ?_)
      refine v_istore (lv' := [(5, .int v1), (0, .ref (ad 23)), (1, .int a1), (2, .int a2), (3, .int a3), (4, .int a4)]) hX dX4_nextMeeting_54 (by decide) rfl ?_
      refine v_aload_n hX dX4_nextMeeting_56 rfl 1 rfl ?_
      refine v_iload_n hX dX4_nextMeeting_57 rfl 2 rfl ?_
      refine v_iload hX dX4_nextMeeting_58 0 rfl ?_
      obtain ⟨p2, hp2, h⟩ := bsome h
      refine v_callVI (o := 23) hX (mC_Post_canHand hp2 l ad) kM_X4_canHand kV_X4_canHand km_4_80 (by decide) (fun _ => rfl) rfl rfl rfl (Nat.le_of_ble_eq_true rfl) (by decide) dX4_nextMeeting_60 ?_
      refine v_if_eq (tgt := 86) hX dX4_nextMeeting_63 (by decide) h (fun h => ?_) (fun h => ?_)
      · exact v_sub hX [1, 2, 3, 4, 5] (by rfl) (wC_Post_nextMeeting_86 hX hR ih h)
      · refine v_iload_n hX dX4_nextMeeting_66 rfl 4 rfl ?_
        refine v_iconst (v := 1) hX dX4_nextMeeting_67 (by decide) ?_
        refine v_aload_n hX dX4_nextMeeting_68 rfl 1 rfl ?_
        refine gfC_23_1 hX kf_4_26 dX4_nextMeeting_69 ?_
        refine v_iload hX dX4_nextMeeting_72 0 rfl ?_
        refine v_iload_n hX dX4_nextMeeting_74 rfl 3 rfl ?_
        obtain ⟨p3, hp3, h⟩ := bsome h
        refine v_callVI (o := 9) hX (mC_Roads_otherAt hp3 l ad) kM_X6_otherAt kV_X6_otherAt km_4_59 (by decide) (fun _ => rfl) rfl rfl rfl (Nat.le_of_ble_eq_true rfl) (by decide) dX4_nextMeeting_75 ?_
        refine v_ishl hX dX4_nextMeeting_78 ?_
        refine v_iand hX dX4_nextMeeting_79 ?_
        refine v_if_ne (tgt := 86) hX dX4_nextMeeting_80 (by decide) h (fun h => ?_) (fun h => ?_)
        · refine v_iload hX dX4_nextMeeting_83 0 rfl ?_
          exact v_retI hR h dX4_nextMeeting_85
        · exact v_sub hX [1, 2, 3, 4, 5] (by rfl) (wC_Post_nextMeeting_86 hX hR ih h)
noncomputable def gC_Post_nextMeeting_0 (N : Nat)  (a1 : Int32) (s : vSt) : Option (Int32 × vSt) :=
  (ld s 27 3 a1).bind fun v1 =>
  (fC_Letters_holderAt N a1 (v1 - 1) s).bind fun p2 =>
  (fC_Letters_readers N a1 p2.2).bind fun p3 =>
  gC_Post_nextMeeting_32 N N a1 p2.1 p3.1 0 p3.2
set_option maxRecDepth 4000 in
theorem wC_Post_nextMeeting_0 {P : vP} {l : Launch} {ad : Nat → Nat} {N : Nat} {r : Int32} {t1 : vSt} (hX : vOK P l shC ad (vR 3 68) cX4_nextMeeting RX4 6) (hR : (∀ pc lv, narrow .int (.int r) = .int r → decode cX4_nextMeeting pc = .ok (.ireturn, 1) → P t1 pc lv [.int r]))  {a1 : Int32} {s : vSt} (h : gC_Post_nextMeeting_0 N a1 s = some (r, t1)) : P s 0 [(0, .ref (ad 23)), (1, .int a1)] [] := by
  unfold gC_Post_nextMeeting_0 at h
  refine v_aload_n hX dX4_nextMeeting_0 rfl 0 rfl ?_
  refine gfC_23_0 hX kf_4_12 dX4_nextMeeting_1 ?_
  refine v_iload_n hX dX4_nextMeeting_4 rfl 1 rfl ?_
  refine v_aload_n hX dX4_nextMeeting_5 rfl 0 rfl ?_
  refine gfC_23_0 hX kf_4_12 dX4_nextMeeting_6 ?_
  refine gfC_26_0 hX kf_4_38 dX4_nextMeeting_9 ?_
  refine v_iload_n hX dX4_nextMeeting_12 rfl 1 rfl ?_
  refine alC_27 hX dX4_nextMeeting_13 h (fun v1 h => ?_)
  refine v_iconst (v := 1) hX dX4_nextMeeting_14 (by decide) ?_
  refine v_isub hX dX4_nextMeeting_15 ?_
  obtain ⟨p2, hp2, h⟩ := bsome h
  refine v_callVI (o := 26) hX (mC_Letters_holderAt hp2 l ad) kM_X1_holderAt kV_X1_holderAt km_4_42 (by decide) (fun _ => rfl) rfl rfl rfl (Nat.le_of_ble_eq_true rfl) (by decide) dX4_nextMeeting_16 ?_
  refine v_istore_n (lv' := [(2, .int p2.1), (0, .ref (ad 23)), (1, .int a1)]) hX dX4_nextMeeting_19 rfl (by decide) rfl ?_
  refine v_aload_n hX dX4_nextMeeting_20 rfl 1 rfl ?_
  refine gfC_23_0 hX kf_4_12 dX4_nextMeeting_21 ?_
  refine v_iload_n hX dX4_nextMeeting_24 rfl 2 rfl ?_
  obtain ⟨p3, hp3, h⟩ := bsome h
  refine v_callVI (o := 26) hX (mC_Letters_readers hp3 l ad) kM_X1_readers kV_X1_readers km_4_95 (by decide) (fun _ => rfl) rfl rfl rfl (Nat.le_of_ble_eq_true rfl) (by decide) dX4_nextMeeting_25 ?_
  refine v_istore_n (lv' := [(3, .int p3.1), (2, .int p2.1), (0, .ref (ad 23)), (1, .int a1)]) hX dX4_nextMeeting_28 rfl (by decide) rfl ?_
  refine v_iconst (v := 0) hX dX4_nextMeeting_29 (by decide) ?_
  refine v_istore (lv' := [(4, .int 0), (3, .int p3.1), (2, .int p2.1), (0, .ref (ad 23)), (1, .int a1)]) hX dX4_nextMeeting_30 (by decide) rfl ?_
  exact v_sub hX [3, 4, 2, 1, 0] (by rfl) (wC_Post_nextMeeting_32 hX hR  N _ _ _ _ _ h)
noncomputable def fC_Post_nextMeeting (N : Nat) (a1 : Int32) (s : vSt) : Option (Int32 × vSt) := gC_Post_nextMeeting_0 N a1 s
theorem mC_Post_nextMeeting {N : Nat} {a1 : Int32} {s : vSt} {r : Int32} {t1 : vSt} (h : fC_Post_nextMeeting N a1 s = some (r, t1)) (l : Launch) (ad : Nat → Nat) : vMI l shC ad yX4_nextMeeting cX4_nextMeeting 6 .int 3 68 s [.ref (ad 23), .int a1] r t1 :=
  vMI_of (by decide +kernel) (Nat.le_of_ble_eq_true rfl) (fun P hX hR => wC_Post_nextMeeting_0 hX hR h)
-- C_Post_passOn
noncomputable def gC_Post_passOn_2 (N : Nat)  : Nat → Int32 → Int32 → Int32 → vSt → Option (Int32 × vSt)
  | 0, _, _, _, _ => none
  | n + 1, a1, a2, a3, s =>
    if a2 ≤ a3 then
      some (a2, s)
    else
      (fC_Post_nextMeeting N a1 s).bind fun p1 =>
      if p1.1 = (-1) then
        some (a3, p1.2)
      else
        (fC_Post_handOn N a1 p1.1 p1.2).bind fun p2 =>
        (some (a3 + 1 : Int32)).bind fun v3 =>
        gC_Post_passOn_2 N n a1 a2 v3 p2.2
set_option maxRecDepth 4000 in
theorem wC_Post_passOn_2 {P : vP} {l : Launch} {ad : Nat → Nat} {N : Nat} {r : Int32} {t1 : vSt} (hX : vOK P l shC ad (vR 4 95) cX4_passOn RX4 5) (hR : (∀ pc lv, narrow .int (.int r) = .int r → decode cX4_passOn pc = .ok (.ireturn, 1) → P t1 pc lv [.int r]))  : ∀ (n : Nat) (a1 : Int32) (a2 : Int32) (a3 : Int32) (s : vSt), gC_Post_passOn_2 N n a1 a2 a3 s = some (r, t1) → P s 2 [(0, .ref (ad 23)), (1, .int a1), (2, .int a2), (3, .int a3)] [] := by
  intro n
  induction n with
  | zero => intro a1 a2 a3 s h; cases h
  | succ n ih =>
    intro a1 a2 a3 s h
    unfold gC_Post_passOn_2 at h
    refine v_iload_n hX dX4_passOn_2 rfl 3 rfl ?_
    refine v_iload_n hX dX4_passOn_3 rfl 2 rfl ?_
    refine v_icmp_ge (tgt := 36) hX dX4_passOn_4 (by decide) h (fun h => ?_) (fun h => ?_)
    · refine v_iload_n hX dX4_passOn_36 rfl 2 rfl ?_
      exact v_retI hR h dX4_passOn_37
    · refine v_aload_n hX dX4_passOn_7 rfl 0 rfl ?_
      refine v_iload_n hX dX4_passOn_8 rfl 1 rfl ?_
      obtain ⟨p1, hp1, h⟩ := bsome h
      refine v_callVI (o := 23) hX (mC_Post_nextMeeting hp1 l ad) kM_X4_nextMeeting kV_X4_nextMeeting km_4_83 (by decide) (fun _ => rfl) rfl rfl rfl (Nat.le_of_ble_eq_true rfl) (by decide) dX4_passOn_9 ?_
      refine v_istore (lv' := [(4, .int p1.1), (0, .ref (ad 23)), (1, .int a1), (2, .int a2), (3, .int a3)]) hX dX4_passOn_12 (by decide) rfl ?_
      refine v_iload hX dX4_passOn_14 0 rfl ?_
      refine v_iconst (v := (-1)) hX dX4_passOn_16 (by decide) ?_
      refine v_icmp_ne (tgt := 22) hX dX4_passOn_17 (by decide) h (fun h => ?_) (fun h => ?_)
      · refine v_iload_n hX dX4_passOn_20 rfl 4 rfl ?_
        exact v_retI hR h dX4_passOn_21
      · refine v_aload_n hX dX4_passOn_22 rfl 1 rfl ?_
        refine v_iload_n hX dX4_passOn_23 rfl 2 rfl ?_
        refine v_iload hX dX4_passOn_24 0 rfl ?_
        obtain ⟨p2, hp2, h⟩ := bsome h
        refine v_callVI (o := 23) hX (mC_Post_handOn hp2 l ad) kM_X4_handOn kV_X4_handOn km_4_86 (by decide) (fun _ => rfl) rfl rfl rfl (Nat.le_of_ble_eq_true rfl) (by decide) dX4_passOn_26 ?_
        refine v_pop hX dX4_passOn_29 rfl ?_
        refine v_iincN hX dX4_passOn_30 (j := 4) rfl (c := 1) (by decide) (by decide) h (fun v3 h => ?_)
        refine v_show (lv' := [(3, .int v3), (4, .int p1.1), (0, .ref (ad 23)), (1, .int a1), (2, .int a2)]) hX rfl ?_
        refine v_goto (tgt := 2) hX dX4_passOn_33 (by decide) ?_
        exact v_sub hX [2, 3, 4, 0] (by rfl) (ih _ _ _ _ h)
noncomputable def gC_Post_passOn_0 (N : Nat)  (a1 : Int32) (a2 : Int32) (s : vSt) : Option (Int32 × vSt) :=
  gC_Post_passOn_2 N N a1 a2 0 s
set_option maxRecDepth 4000 in
theorem wC_Post_passOn_0 {P : vP} {l : Launch} {ad : Nat → Nat} {N : Nat} {r : Int32} {t1 : vSt} (hX : vOK P l shC ad (vR 4 95) cX4_passOn RX4 5) (hR : (∀ pc lv, narrow .int (.int r) = .int r → decode cX4_passOn pc = .ok (.ireturn, 1) → P t1 pc lv [.int r]))  {a1 : Int32} {a2 : Int32} {s : vSt} (h : gC_Post_passOn_0 N a1 a2 s = some (r, t1)) : P s 0 [(0, .ref (ad 23)), (1, .int a1), (2, .int a2)] [] := by
  unfold gC_Post_passOn_0 at h
  refine v_iconst (v := 0) hX dX4_passOn_0 (by decide) ?_
  refine v_istore_n (lv' := [(3, .int 0), (0, .ref (ad 23)), (1, .int a1), (2, .int a2)]) hX dX4_passOn_1 rfl (by decide) rfl ?_
  exact v_sub hX [1, 2, 3, 0] (by rfl) (wC_Post_passOn_2 hX hR  N _ _ _ _ h)
noncomputable def fC_Post_passOn (N : Nat) (a1 : Int32) (a2 : Int32) (s : vSt) : Option (Int32 × vSt) := gC_Post_passOn_0 N a1 a2 s
theorem mC_Post_passOn {N : Nat} {a1 : Int32} {a2 : Int32} {s : vSt} {r : Int32} {t1 : vSt} (h : fC_Post_passOn N a1 a2 s = some (r, t1)) (l : Launch) (ad : Nat → Nat) : vMI l shC ad yX4_passOn cX4_passOn 5 .int 4 95 s [.ref (ad 23), .int a1, .int a2] r t1 :=
  vMI_of (by decide +kernel) (Nat.le_of_ble_eq_true rfl) (fun P hX hR => wC_Post_passOn_0 hX hR h)
-- C_EachAddsALine_goes
noncomputable def gC_EachAddsALine_goes_0 (N : Nat)  (a1 : Int32) (a2 : Int32) (s : vSt) : Option (Int32 × vSt) :=
  (fC_Letters_isThere N a1 s).bind fun p1 =>
  if p1.1 = 0 then
    some ((-1), p1.2)
  else
    if a2 < 0 then
      some ((-1), p1.2)
    else
      if a2 ≤ 20 then
        (fC_Post_passOn N a1 a2 p1.2).bind fun p2 =>
        (ld p2.2 27 3 a1).bind fun v3 =>
        (some (v3 - 1 : Int32)).bind fun v4 =>
        (fC_Numbers_clear_row N p2.2).bind fun z5 =>
        (fC_Letters_holderAt N a1 v4 z5).bind fun p6 =>
        (fC_Numbers_add_row N p6.1 p6.2).bind fun z7 =>
        (fC_Letters_sinceAt N a1 v4 z7).bind fun p8 =>
        (fC_Numbers_add_row N p8.1 p8.2).bind fun z9 =>
        some (p2.1, z9)
      else
        some ((-1), p1.2)
set_option maxRecDepth 4000 in
theorem wC_EachAddsALine_goes_0 {P : vP} {l : Launch} {ad : Nat → Nat} {N : Nat} {r : Int32} {t1 : vSt} (hX : vOK P l shC ad (vR 5 119) cX11_goes RX11 5) (hR : (∀ pc lv, narrow .int (.int r) = .int r → decode cX11_goes pc = .ok (.ireturn, 1) → P t1 pc lv [.int r]))  {a1 : Int32} {a2 : Int32} {s : vSt} (h : gC_EachAddsALine_goes_0 N a1 a2 s = some (r, t1)) : P s 0 [(0, .ref (ad 0)), (1, .int a1), (2, .int a2)] [] := by
  unfold gC_EachAddsALine_goes_0 at h
  refine v_aload_n hX dX11_goes_0 rfl 0 rfl ?_
  refine gfC_0_6 hX kf_11_60 dX11_goes_1 ?_
  refine gfC_23_0 hX kf_11_156 dX11_goes_4 ?_
  refine v_iload_n hX dX11_goes_7 rfl 1 rfl ?_
  obtain ⟨p1, hp1, h⟩ := bsome h
  refine v_callVI (o := 26) hX (mC_Letters_isThere hp1 l ad) kM_X1_isThere kV_X1_isThere km_11_166 (by decide) (fun _ => rfl) rfl rfl rfl (Nat.le_of_ble_eq_true rfl) (by decide) dX11_goes_8 ?_
  refine v_if_eq (tgt := 24) hX dX11_goes_11 (by decide) h (fun h => ?_) (fun h => ?_)
  · refine v_iconst (v := (-1)) hX dX11_goes_24 (by decide) ?_
    exact v_retI hR h dX11_goes_25
  · refine v_iload_n hX dX11_goes_14 rfl 2 rfl ?_
    refine v_if_lt (tgt := 24) hX dX11_goes_15 (by decide) h (fun h => ?_) (fun h => ?_)
    · refine v_iconst (v := (-1)) hX dX11_goes_24 (by decide) ?_
      exact v_retI hR h dX11_goes_25
    · refine v_iload_n hX dX11_goes_18 rfl 2 rfl ?_
      refine v_bipush (v := 20) hX dX11_goes_19 (by decide) ?_
      refine v_icmp_le (tgt := 26) hX dX11_goes_21 (by decide) h (fun h => ?_) (fun h => ?_)
      · refine v_aload_n hX dX11_goes_26 rfl 0 rfl ?_
        refine gfC_0_6 hX kf_11_60 dX11_goes_27 ?_
        refine v_iload_n hX dX11_goes_30 rfl 1 rfl ?_
        refine v_iload_n hX dX11_goes_31 rfl 2 rfl ?_
        obtain ⟨p2, hp2, h⟩ := bsome h
        refine v_callVI (o := 23) hX (mC_Post_passOn hp2 l ad) kM_X4_passOn kV_X4_passOn km_11_198 (by decide) (fun _ => rfl) rfl rfl rfl (Nat.le_of_ble_eq_true rfl) (by decide) dX11_goes_32 ?_
        refine v_istore_n (lv' := [(3, .int p2.1), (0, .ref (ad 0)), (1, .int a1), (2, .int a2)]) hX dX11_goes_35 rfl (by decide) rfl ?_
        refine v_aload_n hX dX11_goes_36 rfl 1 rfl ?_
        refine gfC_0_6 hX kf_11_60 dX11_goes_37 ?_
        refine gfC_23_0 hX kf_11_156 dX11_goes_40 ?_
        refine gfC_26_0 hX kf_11_177 dX11_goes_43 ?_
        refine v_iload_n hX dX11_goes_46 rfl 2 rfl ?_
        refine alC_27 hX dX11_goes_47 h (fun v3 h => ?_)
        refine v_iconst (v := 1) hX dX11_goes_48 (by decide) ?_
        refine v_isub hX dX11_goes_49 ?_
        refine v_nmI hX h (fun v4 h => ?_)
        refine v_istore (lv' := [(4, .int v4), (3, .int p2.1), (0, .ref (ad 0)), (1, .int a1), (2, .int a2)]) hX dX11_goes_50 (by decide) rfl ?_
        refine v_aload_n hX dX11_goes_52 rfl 2 rfl ?_
        refine gfC_0_1 hX kf_11_19 dX11_goes_53 ?_
        obtain ⟨z5, hz5, h⟩ := bsome h
        refine v_callVV (o := 3) hX (mC_Numbers_clear_row hz5 l ad) kM_X2_clear kV_X2_clear km_11_176 (by decide) (fun _ => rfl) rfl rfl rfl (Nat.le_of_ble_eq_true rfl) (by decide) dX11_goes_56 ?_
        refine v_aload_n hX dX11_goes_59 rfl 2 rfl ?_
        refine gfC_0_1 hX kf_11_19 dX11_goes_60 ?_
        refine v_aload_n hX dX11_goes_63 rfl 2 rfl ?_
        refine gfC_0_6 hX kf_11_60 dX11_goes_64 ?_
        refine gfC_23_0 hX kf_11_156 dX11_goes_67 ?_
        refine v_iload_n hX dX11_goes_70 rfl 3 rfl ?_
        refine v_iload hX dX11_goes_71 0 rfl ?_
        obtain ⟨p6, hp6, h⟩ := bsome h
        refine v_callVI (o := 26) hX (mC_Letters_holderAt hp6 l ad) kM_X1_holderAt kV_X1_holderAt km_11_186 (by decide) (fun _ => rfl) rfl rfl rfl (Nat.le_of_ble_eq_true rfl) (by decide) dX11_goes_73 ?_
        obtain ⟨z7, hz7, h⟩ := bsome h
        refine v_callVV (o := 3) hX (mC_Numbers_add_row hz7 l ad) kM_X2_add kV_X2_add km_11_182 (by decide) (fun _ => rfl) rfl rfl rfl (Nat.le_of_ble_eq_true rfl) (by decide) dX11_goes_76 ?_
        refine v_aload_n hX dX11_goes_79 rfl 2 rfl ?_
        refine gfC_0_1 hX kf_11_19 dX11_goes_80 ?_
        refine v_aload_n hX dX11_goes_83 rfl 2 rfl ?_
        refine gfC_0_6 hX kf_11_60 dX11_goes_84 ?_
        refine gfC_23_0 hX kf_11_156 dX11_goes_87 ?_
        refine v_iload_n hX dX11_goes_90 rfl 3 rfl ?_
        refine v_iload hX dX11_goes_91 0 rfl ?_
        obtain ⟨p8, hp8, h⟩ := bsome h
        refine v_callVI (o := 26) hX (mC_Letters_sinceAt hp8 l ad) kM_X1_sinceAt kV_X1_sinceAt km_11_189 (by decide) (fun _ => rfl) rfl rfl rfl (Nat.le_of_ble_eq_true rfl) (by decide) dX11_goes_93 ?_
        obtain ⟨z9, hz9, h⟩ := bsome h
        refine v_callVV (o := 3) hX (mC_Numbers_add_row hz9 l ad) kM_X2_add kV_X2_add km_11_182 (by decide) (fun _ => rfl) rfl rfl rfl (Nat.le_of_ble_eq_true rfl) (by decide) dX11_goes_96 ?_
        refine v_iload_n hX dX11_goes_99 rfl 1 rfl ?_
        exact v_retI hR h dX11_goes_100
      · refine v_iconst (v := (-1)) hX dX11_goes_24 (by decide) ?_
        exact v_retI hR h dX11_goes_25
noncomputable def fC_EachAddsALine_goes (N : Nat) (a1 : Int32) (a2 : Int32) (s : vSt) : Option (Int32 × vSt) := gC_EachAddsALine_goes_0 N a1 a2 s
theorem mC_EachAddsALine_goes {N : Nat} {a1 : Int32} {a2 : Int32} {s : vSt} {r : Int32} {t1 : vSt} (h : fC_EachAddsALine_goes N a1 a2 s = some (r, t1)) (l : Launch) (ad : Nat → Nat) : vMI l shC ad yX11_goes cX11_goes 5 .int 5 119 s [.ref (ad 0), .int a1, .int a2] r t1 :=
  vMI_of (by decide +kernel) (Nat.le_of_ble_eq_true rfl) (fun P hX hR => wC_EachAddsALine_goes_0 hX hR h)
