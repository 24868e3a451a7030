-- C_EachAddsALine_idle
noncomputable def gC_EachAddsALine_idle_0 (N : Nat)  (a1 : Int32) (a2 : Int32) (a3 : Int32) (s : vSt) : Option (Int32 × vSt) :=
  (fC_EachAddsALine_isTrip N a1 a2 a3 s).bind fun p1 =>
  if p1.1 = 0 then
    some ((-1), p1.2)
  else
    (fC_Paths_idlePeople N a1 a2 a3 p1.2).bind fun p2 =>
    some (p2.1, p2.2)
set_option maxRecDepth 4000 in
theorem wC_EachAddsALine_idle_0 {P : vP} {l : Launch} {ad : Nat → Nat} {N : Nat} {r : Int32} {t1 : vSt} (hX : vOK P l shC ad (vR 6 152) cX11_idle RX11 4) (hR : (∀ pc lv, narrow .int (.int r) = .int r → decode cX11_idle pc = .ok (.ireturn, 1) → P t1 pc lv [.int r]))  {a1 : Int32} {a2 : Int32} {a3 : Int32} {s : vSt} (h : gC_EachAddsALine_idle_0 N a1 a2 a3 s = some (r, t1)) : P s 0 [(0, .ref (ad 0)), (1, .int a1), (2, .int a2), (3, .int a3)] [] := by
  unfold gC_EachAddsALine_idle_0 at h
  refine v_aload_n hX dX11_idle_0 rfl 0 rfl ?_
  refine v_iload_n hX dX11_idle_1 rfl 1 rfl ?_
  refine v_iload_n hX dX11_idle_2 rfl 2 rfl ?_
  refine v_iload_n hX dX11_idle_3 rfl 3 rfl ?_
  obtain ⟨p1, hp1, h⟩ := bsome h
  refine v_callVI (o := 0) hX (mC_EachAddsALine_isTrip hp1 l ad) kM_X11_isTrip kV_X11_isTrip km_11_201 (by decide) (fun _ => rfl) rfl rfl rfl (Nat.le_of_ble_eq_true rfl) (by decide) dX11_idle_4 ?_
  refine v_if_eq (tgt := 23) hX dX11_idle_7 (by decide) h (fun h => ?_) (fun h => ?_)
  · refine v_iconst (v := (-1)) hX dX11_idle_23 (by decide) ?_
    exact v_retI hR h dX11_idle_24
  · refine v_aload_n hX dX11_idle_10 rfl 0 rfl ?_
    refine gfC_0_7 hX kf_11_69 dX11_idle_11 ?_
    refine v_iload_n hX dX11_idle_14 rfl 1 rfl ?_
    refine v_iload_n hX dX11_idle_15 rfl 2 rfl ?_
    refine v_iload_n hX dX11_idle_16 rfl 3 rfl ?_
    obtain ⟨p2, hp2, h⟩ := bsome h
    refine v_callVI (o := 41) hX (mC_Paths_idlePeople hp2 l ad) kM_X3_idlePeople kV_X3_idlePeople km_11_234 (by decide) (fun _ => rfl) rfl rfl rfl (Nat.le_of_ble_eq_true rfl) (by decide) dX11_idle_17 ?_
    refine v_goto (tgt := 24) hX dX11_idle_20 (by decide) ?_
    exact v_retI hR h dX11_idle_24
noncomputable def fC_EachAddsALine_idle (N : Nat) (a1 : Int32) (a2 : Int32) (a3 : Int32) (s : vSt) : Option (Int32 × vSt) := gC_EachAddsALine_idle_0 N a1 a2 a3 s
theorem mC_EachAddsALine_idle {N : Nat} {a1 : Int32} {a2 : Int32} {a3 : Int32} {s : vSt} {r : Int32} {t1 : vSt} (h : fC_EachAddsALine_idle N a1 a2 a3 s = some (r, t1)) (l : Launch) (ad : Nat → Nat) : vMI l shC ad yX11_idle cX11_idle 4 .int 6 152 s [.ref (ad 0), .int a1, .int a2, .int a3] r t1 :=
  vMI_of (by decide +kernel) (Nat.le_of_ble_eq_true rfl) (fun P hX hR => wC_EachAddsALine_idle_0 hX hR h)
-- C_EachAddsALine_longest
noncomputable def gC_EachAddsALine_longest_0 (N : Nat)  (a1 : Int32) (a2 : Int32) (a3 : Int32) (s : vSt) : Option (Int32 × vSt) :=
  (fC_EachAddsALine_isTrip N a1 a2 a3 s).bind fun p1 =>
  if p1.1 = 0 then
    some ((-1), p1.2)
  else
    (fC_Paths_aim N a2 99 0 2 p1.2).bind fun z2 =>
    (fC_Paths_traceFrom N a1 a3 z2).bind fun p3 =>
    some (p3.1, p3.2)
set_option maxRecDepth 4000 in
theorem wC_EachAddsALine_longest_0 {P : vP} {l : Launch} {ad : Nat → Nat} {N : Nat} {r : Int32} {t1 : vSt} (hX : vOK P l shC ad (vR 5 123) cX11_longest RX11 4) (hR : (∀ pc lv, narrow .int (.int r) = .int r → decode cX11_longest pc = .ok (.ireturn, 1) → P t1 pc lv [.int r]))  {a1 : Int32} {a2 : Int32} {a3 : Int32} {s : vSt} (h : gC_EachAddsALine_longest_0 N a1 a2 a3 s = some (r, t1)) : P s 0 [(0, .ref (ad 0)), (1, .int a1), (2, .int a2), (3, .int a3)] [] := by
  unfold gC_EachAddsALine_longest_0 at h
  refine v_aload_n hX dX11_longest_0 rfl 0 rfl ?_
  refine v_iload_n hX dX11_longest_1 rfl 1 rfl ?_
  refine v_iload_n hX dX11_longest_2 rfl 2 rfl ?_
  refine v_iload_n hX dX11_longest_3 rfl 3 rfl ?_
  obtain ⟨p1, hp1, h⟩ := bsome h
  refine v_callVI (o := 0) hX (mC_EachAddsALine_isTrip hp1 l ad) kM_X11_isTrip kV_X11_isTrip km_11_201 (by decide) (fun _ => rfl) rfl rfl rfl (Nat.le_of_ble_eq_true rfl) (by decide) dX11_longest_4 ?_
  refine v_if_ne (tgt := 12) hX dX11_longest_7 (by decide) h (fun h => ?_) (fun h => ?_)
  · refine v_iconst (v := (-1)) hX dX11_longest_10 (by decide) ?_
    exact v_retI hR h dX11_longest_11
  · refine v_aload_n hX dX11_longest_12 rfl 0 rfl ?_
    refine gfC_0_7 hX kf_11_69 dX11_longest_13 ?_
    refine v_iload_n hX dX11_longest_16 rfl 2 rfl ?_
    refine v_bipush (v := 99) hX dX11_longest_17 (by decide) ?_
    refine v_iconst (v := 0) hX dX11_longest_19 (by decide) ?_
    refine v_iconst (v := 2) hX dX11_longest_20 (by decide) ?_
    obtain ⟨z2, hz2, h⟩ := bsome h
    refine v_callVV (o := 41) hX (mC_Paths_aim hz2 l ad) kM_X3_aim kV_X3_aim km_11_212 (by decide) (fun _ => rfl) rfl rfl rfl (Nat.le_of_ble_eq_true rfl) (by decide) dX11_longest_21 ?_
    refine v_aload_n hX dX11_longest_24 rfl 0 rfl ?_
    refine gfC_0_7 hX kf_11_69 dX11_longest_25 ?_
    refine v_iload_n hX dX11_longest_28 rfl 1 rfl ?_
    refine v_iload_n hX dX11_longest_29 rfl 3 rfl ?_
    refine v_aload_n hX dX11_longest_30 rfl 0 rfl ?_
    refine gfC_0_1 hX kf_11_19 dX11_longest_31 ?_
    obtain ⟨p3, hp3, h⟩ := bsome h
    refine v_callVI (o := 41) hX (mC_Paths_traceFrom hp3 l ad) kM_X3_traceFrom kV_X3_traceFrom km_11_215 (by decide) (fun _ => rfl) rfl rfl rfl (Nat.le_of_ble_eq_true rfl) (by decide) dX11_longest_34 ?_
    exact v_retI hR h dX11_longest_37
noncomputable def fC_EachAddsALine_longest (N : Nat) (a1 : Int32) (a2 : Int32) (a3 : Int32) (s : vSt) : Option (Int32 × vSt) := gC_EachAddsALine_longest_0 N a1 a2 a3 s
theorem mC_EachAddsALine_longest {N : Nat} {a1 : Int32} {a2 : Int32} {a3 : Int32} {s : vSt} {r : Int32} {t1 : vSt} (h : fC_EachAddsALine_longest N a1 a2 a3 s = some (r, t1)) (l : Launch) (ad : Nat → Nat) : vMI l shC ad yX11_longest cX11_longest 4 .int 5 123 s [.ref (ad 0), .int a1, .int a2, .int a3] r t1 :=
  vMI_of (by decide +kernel) (Nat.le_of_ble_eq_true rfl) (fun P hX hR => wC_EachAddsALine_longest_0 hX hR h)
-- C_Paths_countPairs
noncomputable def gC_Paths_countPairs_115 (N : Nat) (r36 : Int32 → Int32 → Int32 → Int32 → Int32 → vSt → Option (Int32 × vSt)) (a1 : Int32) (a3 : Int32) (a4 : Int32) (a5 : Int32) (a6 : Int32) (s : vSt) : Option (Int32 × vSt) :=
  (some (a6 + 1 : Int32)).bind fun v1 =>
  r36 a1 a3 a4 a5 v1 s
set_option maxRecDepth 4000 in
theorem wC_Paths_countPairs_115 {P : vP} {l : Launch} {ad : Nat → Nat} {N : Nat} {r36 : Int32 → Int32 → Int32 → Int32 → Int32 → vSt → Option (Int32 × vSt)} {r : Int32} {t1 : vSt} (hX : vOK P l shC ad (vR 3 74) cX3_countPairs RX3 7) (hR : (∀ pc lv, narrow .int (.int r) = .int r → decode cX3_countPairs pc = .ok (.ireturn, 1) → P t1 pc lv [.int r])) (H36 : ∀ (a1 : Int32) (a3 : Int32) (a4 : Int32) (a5 : Int32) (a6 : Int32) (s : vSt), r36 a1 a3 a4 a5 a6 s = some (r, t1) → P s 36 [(0, .ref (ad 41)), (1, .int a1), (2, .ref (ad 3)), (3, .int a3), (4, .int a4), (5, .int a5), (6, .int a6)] []) {a1 : Int32} {a3 : Int32} {a4 : Int32} {a5 : Int32} {a6 : Int32} {s : vSt} (h : gC_Paths_countPairs_115 N r36 a1 a3 a4 a5 a6 s = some (r, t1)) : P s 115 [(0, .ref (ad 41)), (1, .int a1), (2, .ref (ad 3)), (3, .int a3), (4, .int a4), (5, .int a5), (6, .int a6)] [] := by
  unfold gC_Paths_countPairs_115 at h
  refine v_iincN hX dX3_countPairs_115 (j := 6) rfl (c := 1) (by decide) (by decide) h (fun v1 h => ?_)
  refine v_show (lv' := [(6, .int v1), (0, .ref (ad 41)), (1, .int a1), (2, .ref (ad 3)), (3, .int a3), (4, .int a4), (5, .int a5)]) hX rfl ?_
  refine v_goto (tgt := 36) hX dX3_countPairs_118 (by decide) ?_
  exact v_sub hX [1, 2, 3, 4, 5, 6, 0] (by rfl) (H36 _ _ _ _ _ _ h)
noncomputable def gC_Paths_countPairs_36 (N : Nat) (r12 : Int32 → Int32 → Int32 → Int32 → vSt → Option (Int32 × vSt)) : Nat → Int32 → Int32 → Int32 → Int32 → Int32 → vSt → Option (Int32 × vSt)
  | 0, _, _, _, _, _, _ => none
  | n + 1, a1, a3, a4, a5, a6, s =>
    if (s.1 9 6) ≤ a6 then
      (some (a5 + 1 : Int32)).bind fun v1 =>
      r12 a1 a3 a4 v1 s
    else
      if a6 = a5 then
        gC_Paths_countPairs_115 N (gC_Paths_countPairs_36 N r12 n) a1 a3 a4 a5 a6 s
      else
        (ld s 42 9 a6).bind fun v2 =>
        if v2 = (-1) then
          gC_Paths_countPairs_115 N (gC_Paths_countPairs_36 N r12 n) a1 a3 a4 a5 a6 s
        else
          (some (a3 + 1 : Int32)).bind fun v3 =>
          (ld s 42 9 a6).bind fun v4 =>
          if v4 ≤ a4 then
            gC_Paths_countPairs_115 N (gC_Paths_countPairs_36 N r12 n) a1 v3 a4 a5 a6 s
          else
            (ld s 42 9 a6).bind fun v5 =>
            (fC_Numbers_clear_row N s).bind fun z6 =>
            (fC_Numbers_add_row N a5 z6).bind fun z7 =>
            (fC_Numbers_add_row N a6 z7).bind fun z8 =>
            (fC_Numbers_add_row N v5 z8).bind fun z9 =>
            gC_Paths_countPairs_115 N (gC_Paths_countPairs_36 N r12 n) a1 v3 v5 a5 a6 z9
set_option maxRecDepth 4000 in
theorem wC_Paths_countPairs_36 {P : vP} {l : Launch} {ad : Nat → Nat} {N : Nat} {r12 : Int32 → Int32 → Int32 → Int32 → vSt → Option (Int32 × vSt)} {r : Int32} {t1 : vSt} (hX : vOK P l shC ad (vR 3 74) cX3_countPairs RX3 7) (hR : (∀ pc lv, narrow .int (.int r) = .int r → decode cX3_countPairs pc = .ok (.ireturn, 1) → P t1 pc lv [.int r])) (H12 : ∀ (a1 : Int32) (a3 : Int32) (a4 : Int32) (a5 : Int32) (s : vSt), r12 a1 a3 a4 a5 s = some (r, t1) → P s 12 [(0, .ref (ad 41)), (1, .int a1), (2, .ref (ad 3)), (3, .int a3), (4, .int a4), (5, .int a5)] []) : ∀ (n : Nat) (a1 : Int32) (a3 : Int32) (a4 : Int32) (a5 : Int32) (a6 : Int32) (s : vSt), gC_Paths_countPairs_36 N r12 n a1 a3 a4 a5 a6 s = some (r, t1) → P s 36 [(0, .ref (ad 41)), (1, .int a1), (2, .ref (ad 3)), (3, .int a3), (4, .int a4), (5, .int a5), (6, .int a6)] [] := by
  intro n
  induction n with
  | zero => intro a1 a3 a4 a5 a6 s h; cases h
  | succ n ih =>
    intro a1 a3 a4 a5 a6 s h
    unfold gC_Paths_countPairs_36 at h
    refine v_iload hX dX3_countPairs_36 6 rfl ?_
    refine v_aload_n hX dX3_countPairs_38 rfl 0 rfl ?_
    refine gfC_41_3 hX kf_3_25 dX3_countPairs_39 ?_
    refine gfC_9_6 hX kf_3_29 dX3_countPairs_42 ?_
    refine v_icmp_ge (tgt := 121) hX dX3_countPairs_45 (by decide) h (fun h => ?_) (fun h => ?_)
    · refine v_iincN hX dX3_countPairs_121 (j := 5) rfl (c := 1) (by decide) (by decide) h (fun v1 h => ?_)
      refine v_show (lv' := [(5, .int v1), (0, .ref (ad 41)), (1, .int a1), (2, .ref (ad 3)), (3, .int a3), (4, .int a4), (6, .int a6)]) hX rfl ?_
      refine v_goto (tgt := 12) hX dX3_countPairs_124 (by decide) ?_
      exact v_sub hX [1, 2, 3, 4, 5, 0] (by rfl) (H12 _ _ _ _ _ h)
    · refine v_iload hX dX3_countPairs_48 6 rfl ?_
      refine v_iload hX dX3_countPairs_50 5 rfl ?_
      refine v_icmp_eq (tgt := 115) hX dX3_countPairs_52 (by decide) h (fun h => ?_) (fun h => ?_)
      · exact v_sub hX [0, 1, 2, 3, 4, 5, 6] (by rfl) (wC_Paths_countPairs_115 hX hR ih h)
      · refine v_aload_n hX dX3_countPairs_55 rfl 0 rfl ?_
        refine gfC_41_0 hX kf_3_9 dX3_countPairs_56 ?_
        refine v_iload hX dX3_countPairs_59 6 rfl ?_
        refine alC_42 hX dX3_countPairs_61 h (fun v2 h => ?_)
        refine v_iconst (v := (-1)) hX dX3_countPairs_62 (by decide) ?_
        refine v_icmp_ne (tgt := 69) hX dX3_countPairs_63 (by decide) h (fun h => ?_) (fun h => ?_)
        · refine v_goto (tgt := 115) hX dX3_countPairs_66 (by decide) ?_
          exact v_sub hX [0, 1, 2, 3, 4, 5, 6] (by rfl) (wC_Paths_countPairs_115 hX hR ih h)
        · refine v_iincN hX dX3_countPairs_69 (j := 3) rfl (c := 1) (by decide) (by decide) h (fun v3 h => ?_)
          refine v_show (lv' := [(3, .int v3), (0, .ref (ad 41)), (1, .int a1), (2, .ref (ad 3)), (4, .int a4), (5, .int a5), (6, .int a6)]) hX rfl ?_
          refine v_aload_n hX dX3_countPairs_72 rfl 1 rfl ?_
          refine gfC_41_0 hX kf_3_9 dX3_countPairs_73 ?_
          refine v_iload hX dX3_countPairs_76 6 rfl ?_
          refine alC_42 hX dX3_countPairs_78 h (fun v4 h => ?_)
          refine v_iload hX dX3_countPairs_79 4 rfl ?_
          refine v_icmp_le (tgt := 115) hX dX3_countPairs_81 (by decide) h (fun h => ?_) (fun h => ?_)
          · exact v_sub hX [1, 2, 3, 0, 4, 5, 6] (by rfl) (wC_Paths_countPairs_115 hX hR ih h)
          · refine v_aload_n hX dX3_countPairs_84 rfl 1 rfl ?_
            refine gfC_41_0 hX kf_3_9 dX3_countPairs_85 ?_
            refine v_iload hX dX3_countPairs_88 6 rfl ?_
            refine alC_42 hX dX3_countPairs_90 h (fun v5 h => ?_)
            refine v_istore (lv' := [(4, .int v5), (3, .int v3), (0, .ref (ad 41)), (1, .int a1), (2, .ref (ad 3)), (5, .int a5), (6, .int a6)]) hX dX3_countPairs_91 (by decide) rfl ?_
            refine v_aload_n hX dX3_countPairs_93 rfl 4 rfl ?_
            obtain ⟨z6, hz6, h⟩ := bsome h
            refine v_callVV (o := 3) hX (mC_Numbers_clear_row hz6 l ad) kM_X2_clear kV_X2_clear km_3_104 (by decide) (fun _ => rfl) rfl rfl rfl (Nat.le_of_ble_eq_true rfl) (by decide) dX3_countPairs_94 ?_
            refine v_aload_n hX dX3_countPairs_97 rfl 4 rfl ?_
            refine v_iload hX dX3_countPairs_98 5 rfl ?_
            obtain ⟨z7, hz7, h⟩ := bsome h
            refine v_callVV (o := 3) hX (mC_Numbers_add_row hz7 l ad) kM_X2_add kV_X2_add km_3_112 (by decide) (fun _ => rfl) rfl rfl rfl (Nat.le_of_ble_eq_true rfl) (by decide) dX3_countPairs_100 ?_
            refine v_aload_n hX dX3_countPairs_103 rfl 4 rfl ?_
            refine v_iload hX dX3_countPairs_104 6 rfl ?_
            obtain ⟨z8, hz8, h⟩ := bsome h
            refine v_callVV (o := 3) hX (mC_Numbers_add_row hz8 l ad) kM_X2_add kV_X2_add km_3_112 (by decide) (fun _ => rfl) rfl rfl rfl (Nat.le_of_ble_eq_true rfl) (by decide) dX3_countPairs_106 ?_
            refine v_aload_n hX dX3_countPairs_109 rfl 4 rfl ?_
            refine v_iload hX dX3_countPairs_110 0 rfl ?_
            obtain ⟨z9, hz9, h⟩ := bsome h
            refine v_callVV (o := 3) hX (mC_Numbers_add_row hz9 l ad) kM_X2_add kV_X2_add km_3_112 (by decide) (fun _ => rfl) rfl rfl rfl (Nat.le_of_ble_eq_true rfl) (by decide) dX3_countPairs_112 ?_
            exact v_sub hX [2, 3, 4, 1, 0, 5, 6] (by rfl) (wC_Paths_countPairs_115 hX hR ih h)
noncomputable def gC_Paths_countPairs_12 (N : Nat)  : Nat → Int32 → Int32 → Int32 → Int32 → vSt → Option (Int32 × vSt)
  | 0, _, _, _, _, _ => none
  | n + 1, a1, a3, a4, a5, s =>
    if (s.1 9 6) ≤ a5 then
      some (a3, s)
    else
      (fC_Paths_spread N a5 a1 0 (-1) s).bind fun z1 =>
      gC_Paths_countPairs_36 N (gC_Paths_countPairs_12 N n) N a1 a3 a4 a5 0 z1
set_option maxRecDepth 4000 in
theorem wC_Paths_countPairs_12 {P : vP} {l : Launch} {ad : Nat → Nat} {N : Nat} {r : Int32} {t1 : vSt} (hX : vOK P l shC ad (vR 3 74) cX3_countPairs RX3 7) (hR : (∀ pc lv, narrow .int (.int r) = .int r → decode cX3_countPairs pc = .ok (.ireturn, 1) → P t1 pc lv [.int r]))  : ∀ (n : Nat) (a1 : Int32) (a3 : Int32) (a4 : Int32) (a5 : Int32) (s : vSt), gC_Paths_countPairs_12 N n a1 a3 a4 a5 s = some (r, t1) → P s 12 [(0, .ref (ad 41)), (1, .int a1), (2, .ref (ad 3)), (3, .int a3), (4, .int a4), (5, .int a5)] [] := by
  intro n
  induction n with
  | zero => intro a1 a3 a4 a5 s h; cases h
  | succ n ih =>
    intro a1 a3 a4 a5 s h
    unfold gC_Paths_countPairs_12 at h
    refine v_iload hX dX3_countPairs_12 5 rfl ?_
    refine v_aload_n hX dX3_countPairs_14 rfl 0 rfl ?_
    refine gfC_41_3 hX kf_3_25 dX3_countPairs_15 ?_
    refine gfC_9_6 hX kf_3_29 dX3_countPairs_18 ?_
    refine v_icmp_ge (tgt := 127) hX dX3_countPairs_21 (by decide) h (fun h => ?_) (fun h => ?_)
    · refine v_iload_n hX dX3_countPairs_127 rfl 3 rfl ?_
      exact v_retI hR h dX3_countPairs_128
    · refine v_aload_n hX dX3_countPairs_24 rfl 0 rfl ?_
      refine v_iload hX dX3_countPairs_25 5 rfl ?_
      refine v_iload_n hX dX3_countPairs_27 rfl 1 rfl ?_
      refine v_iconst (v := 0) hX dX3_countPairs_28 (by decide) ?_
      refine v_iconst (v := (-1)) hX dX3_countPairs_29 (by decide) ?_
      obtain ⟨z1, hz1, h⟩ := bsome h
      refine v_callVV (o := 41) hX (mC_Paths_spread hz1 l ad) kM_X3_spread kV_X3_spread km_3_132 (by decide) (fun _ => rfl) rfl rfl rfl (Nat.le_of_ble_eq_true rfl) (by decide) dX3_countPairs_30 ?_
      refine v_iconst (v := 0) hX dX3_countPairs_33 (by decide) ?_
      refine v_istore (lv' := [(6, .int 0), (0, .ref (ad 41)), (1, .int a1), (2, .ref (ad 3)), (3, .int a3), (4, .int a4), (5, .int a5)]) hX dX3_countPairs_34 (by decide) rfl ?_
      exact v_sub hX [1, 2, 3, 4, 5, 6, 0] (by rfl) (wC_Paths_countPairs_36 hX hR ih N _ _ _ _ _ _ h)
noncomputable def gC_Paths_countPairs_0 (N : Nat)  (a1 : Int32) (s : vSt) : Option (Int32 × vSt) :=
  (some ((-1) : Int32)).bind fun v1 =>
  (fC_Numbers_clear_row N s).bind fun z2 =>
  gC_Paths_countPairs_12 N N a1 0 v1 0 z2
set_option maxRecDepth 4000 in
theorem wC_Paths_countPairs_0 {P : vP} {l : Launch} {ad : Nat → Nat} {N : Nat} {r : Int32} {t1 : vSt} (hX : vOK P l shC ad (vR 3 74) cX3_countPairs RX3 7) (hR : (∀ pc lv, narrow .int (.int r) = .int r → decode cX3_countPairs pc = .ok (.ireturn, 1) → P t1 pc lv [.int r]))  {a1 : Int32} {s : vSt} (h : gC_Paths_countPairs_0 N a1 s = some (r, t1)) : P s 0 [(0, .ref (ad 41)), (1, .int a1), (2, .ref (ad 3))] [] := by
  unfold gC_Paths_countPairs_0 at h
  refine v_iconst (v := 0) hX dX3_countPairs_0 (by decide) ?_
  refine v_istore_n (lv' := [(3, .int 0), (0, .ref (ad 41)), (1, .int a1), (2, .ref (ad 3))]) hX dX3_countPairs_1 rfl (by decide) rfl ?_
  refine v_iconst (v := (-1)) hX dX3_countPairs_2 (by decide) ?_
  refine v_nmI hX h (fun v1 h => ?_)
  refine v_istore (lv' := [(4, .int v1), (3, .int 0), (0, .ref (ad 41)), (1, .int a1), (2, .ref (ad 3))]) hX dX3_countPairs_3 (by decide) rfl ?_
  refine v_aload_n hX dX3_countPairs_5 rfl 4 rfl ?_
  obtain ⟨z2, hz2, h⟩ := bsome h
  refine v_callVV (o := 3) hX (mC_Numbers_clear_row hz2 l ad) kM_X2_clear kV_X2_clear km_3_104 (by decide) (fun _ => rfl) rfl rfl rfl (Nat.le_of_ble_eq_true rfl) (by decide) dX3_countPairs_6 ?_
  refine v_iconst (v := 0) hX dX3_countPairs_9 (by decide) ?_
  refine v_istore (lv' := [(5, .int 0), (4, .int v1), (3, .int 0), (0, .ref (ad 41)), (1, .int a1), (2, .ref (ad 3))]) hX dX3_countPairs_10 (by decide) rfl ?_
  exact v_sub hX [3, 4, 5, 2, 1, 0] (by rfl) (wC_Paths_countPairs_12 hX hR  N _ _ _ _ _ h)
noncomputable def fC_Paths_countPairs (N : Nat) (a1 : Int32) (s : vSt) : Option (Int32 × vSt) := gC_Paths_countPairs_0 N a1 s
theorem mC_Paths_countPairs {N : Nat} {a1 : Int32} {s : vSt} {r : Int32} {t1 : vSt} (h : fC_Paths_countPairs N a1 s = some (r, t1)) (l : Launch) (ad : Nat → Nat) : vMI l shC ad yX3_countPairs cX3_countPairs 7 .int 3 74 s [.ref (ad 41), .int a1, .ref (ad 3)] r t1 :=
  vMI_of (by decide +kernel) (Nat.le_of_ble_eq_true rfl) (fun P hX hR => wC_Paths_countPairs_0 hX hR h)
-- C_EachAddsALine_pairs
noncomputable def gC_EachAddsALine_pairs_0 (N : Nat)  (a1 : Int32) (s : vSt) : Option (Int32 × vSt) :=
  (fC_EachAddsALine_isHour N a1 s).bind fun p1 =>
  if p1.1 = 0 then
    some ((-1), p1.2)
  else
    (fC_Paths_countPairs N a1 p1.2).bind fun p2 =>
    some (p2.1, p2.2)
set_option maxRecDepth 4000 in
theorem wC_EachAddsALine_pairs_0 {P : vP} {l : Launch} {ad : Nat → Nat} {N : Nat} {r : Int32} {t1 : vSt} (hX : vOK P l shC ad (vR 4 100) cX11_pairs RX11 2) (hR : (∀ pc lv, narrow .int (.int r) = .int r → decode cX11_pairs pc = .ok (.ireturn, 1) → P t1 pc lv [.int r]))  {a1 : Int32} {s : vSt} (h : gC_EachAddsALine_pairs_0 N a1 s = some (r, t1)) : P s 0 [(0, .ref (ad 0)), (1, .int a1)] [] := by
  unfold gC_EachAddsALine_pairs_0 at h
  refine v_iload_n hX dX11_pairs_0 rfl 1 rfl ?_
  obtain ⟨p1, hp1, h⟩ := bsome h
  refine v_callSI hX (mC_EachAddsALine_isHour hp1 l ad) kM_X11_isHour kS_X11_isHour km_11_145 rfl rfl (Nat.le_of_ble_eq_true rfl) (by decide) dX11_pairs_1 ?_
  refine v_if_eq (tgt := 22) hX dX11_pairs_4 (by decide) h (fun h => ?_) (fun h => ?_)
  · refine v_iconst (v := (-1)) hX dX11_pairs_22 (by decide) ?_
    exact v_retI hR h dX11_pairs_23
  · refine v_aload_n hX dX11_pairs_7 rfl 0 rfl ?_
    refine gfC_0_7 hX kf_11_69 dX11_pairs_8 ?_
    refine v_iload_n hX dX11_pairs_11 rfl 1 rfl ?_
    refine v_aload_n hX dX11_pairs_12 rfl 0 rfl ?_
    refine gfC_0_1 hX kf_11_19 dX11_pairs_13 ?_
    obtain ⟨p2, hp2, h⟩ := bsome h
    refine v_callVI (o := 41) hX (mC_Paths_countPairs hp2 l ad) kM_X3_countPairs kV_X3_countPairs km_11_237 (by decide) (fun _ => rfl) rfl rfl rfl (Nat.le_of_ble_eq_true rfl) (by decide) dX11_pairs_16 ?_
    refine v_goto (tgt := 23) hX dX11_pairs_19 (by decide) ?_
    exact v_retI hR h dX11_pairs_23
noncomputable def fC_EachAddsALine_pairs (N : Nat) (a1 : Int32) (s : vSt) : Option (Int32 × vSt) := gC_EachAddsALine_pairs_0 N a1 s
theorem mC_EachAddsALine_pairs {N : Nat} {a1 : Int32} {s : vSt} {r : Int32} {t1 : vSt} (h : fC_EachAddsALine_pairs N a1 s = some (r, t1)) (l : Launch) (ad : Nat → Nat) : vMI l shC ad yX11_pairs cX11_pairs 2 .int 4 100 s [.ref (ad 0), .int a1] r t1 :=
  vMI_of (by decide +kernel) (Nat.le_of_ble_eq_true rfl) (fun P hX hR => wC_EachAddsALine_pairs_0 hX hR h)
-- C_Paths_comesBy
noncomputable def gC_Paths_comesBy_0 (N : Nat)  (a1 : Int32) (a2 : Int32) (a3 : Int32) (a4 : Int32) (s : vSt) : Option (Int32 × vSt) :=
  (fC_Paths_spread N a1 a3 (a4 ^^^ (-1)) (-1) s).bind fun z1 =>
  (ld z1 42 9 a2).bind fun v2 =>
  if v2 = (-1) then
    some (0, z1)
  else
    some (1, z1)
set_option maxRecDepth 4000 in
theorem wC_Paths_comesBy_0 {P : vP} {l : Launch} {ad : Nat → Nat} {N : Nat} {r : Int32} {t1 : vSt} (hX : vOK P l shC ad (vR 3 74) cX3_comesBy RX3 5) (hR : (∀ pc lv, narrow .boolean (.int r) = .int r → decode cX3_comesBy pc = .ok (.ireturn, 1) → P t1 pc lv [.int r]))  {a1 : Int32} {a2 : Int32} {a3 : Int32} {a4 : Int32} {s : vSt} (h : gC_Paths_comesBy_0 N a1 a2 a3 a4 s = some (r, t1)) : P s 0 [(0, .ref (ad 41)), (1, .int a1), (2, .int a2), (3, .int a3), (4, .int a4)] [] := by
  unfold gC_Paths_comesBy_0 at h
  refine v_aload_n hX dX3_comesBy_0 rfl 0 rfl ?_
  refine v_iload_n hX dX3_comesBy_1 rfl 1 rfl ?_
  refine v_iload_n hX dX3_comesBy_2 rfl 3 rfl ?_
  refine v_iload hX dX3_comesBy_3 4 rfl ?_
  refine v_iconst (v := (-1)) hX dX3_comesBy_5 (by decide) ?_
  refine v_ixor hX dX3_comesBy_6 ?_
  refine v_iconst (v := (-1)) hX dX3_comesBy_7 (by decide) ?_
  obtain ⟨z1, hz1, h⟩ := bsome h
  refine v_callVV (o := 41) hX (mC_Paths_spread hz1 l ad) kM_X3_spread kV_X3_spread km_3_132 (by decide) (fun _ => rfl) rfl rfl rfl (Nat.le_of_ble_eq_true rfl) (by decide) dX3_comesBy_8 ?_
  refine v_aload_n hX dX3_comesBy_11 rfl 0 rfl ?_
  refine gfC_41_0 hX kf_3_9 dX3_comesBy_12 ?_
  refine v_iload_n hX dX3_comesBy_15 rfl 2 rfl ?_
  refine alC_42 hX dX3_comesBy_16 h (fun v2 h => ?_)
  refine v_iconst (v := (-1)) hX dX3_comesBy_17 (by decide) ?_
  refine v_icmp_eq (tgt := 25) hX dX3_comesBy_18 (by decide) h (fun h => ?_) (fun h => ?_)
  · refine v_iconst (v := 0) hX dX3_comesBy_25 (by decide) ?_
    exact v_retZ0 hR h dX3_comesBy_26
  · refine v_iconst (v := 1) hX dX3_comesBy_21 (by decide) ?_
    refine v_goto (tgt := 26) hX dX3_comesBy_22 (by decide) ?_
    exact v_retZ1 hR h dX3_comesBy_26
noncomputable def fC_Paths_comesBy (N : Nat) (a1 : Int32) (a2 : Int32) (a3 : Int32) (a4 : Int32) (s : vSt) : Option (Int32 × vSt) := gC_Paths_comesBy_0 N a1 a2 a3 a4 s
theorem mC_Paths_comesBy {N : Nat} {a1 : Int32} {a2 : Int32} {a3 : Int32} {a4 : Int32} {s : vSt} {r : Int32} {t1 : vSt} (h : fC_Paths_comesBy N a1 a2 a3 a4 s = some (r, t1)) (l : Launch) (ad : Nat → Nat) : vMI l shC ad yX3_comesBy cX3_comesBy 5 .boolean 3 74 s [.ref (ad 41), .int a1, .int a2, .int a3, .int a4] r t1 :=
  vMI_of (by decide +kernel) (Nat.le_of_ble_eq_true rfl) (fun P hX hR => wC_Paths_comesBy_0 hX hR h)
-- C_Paths_leastPart
noncomputable def gC_Paths_leastPart_85 (N : Nat) (r24 : Int32 → Int32 → Int32 → Int32 → Int32 → vSt → Option (Int32 × vSt)) (a1 : Int32) (a2 : Int32) (a3 : Int32) (a4 : Int32) (a5 : Int32) (s : vSt) : Option (Int32 × vSt) :=
  (some (a5 + 1 : Int32)).bind fun v1 =>
  r24 a1 a2 a3 a4 v1 s
set_option maxRecDepth 4000 in
theorem wC_Paths_leastPart_85 {P : vP} {l : Launch} {ad : Nat → Nat} {N : Nat} {r24 : Int32 → Int32 → Int32 → Int32 → Int32 → vSt → Option (Int32 × vSt)} {r : Int32} {t1 : vSt} (hX : vOK P l shC ad (vR 4 98) cX3_leastPart RX3 7) (hR : (∀ pc lv, narrow .int (.int r) = .int r → decode cX3_leastPart pc = .ok (.ireturn, 1) → P t1 pc lv [.int r])) (H24 : ∀ (a1 : Int32) (a2 : Int32) (a3 : Int32) (a4 : Int32) (a5 : Int32) (s : vSt), r24 a1 a2 a3 a4 a5 s = some (r, t1) → P s 24 [(0, .ref (ad 41)), (1, .int a1), (2, .int a2), (3, .int a3), (4, .int a4), (5, .int a5)] []) {a1 : Int32} {a2 : Int32} {a3 : Int32} {a4 : Int32} {a5 : Int32} {s : vSt} (h : gC_Paths_leastPart_85 N r24 a1 a2 a3 a4 a5 s = some (r, t1)) : P s 85 [(0, .ref (ad 41)), (1, .int a1), (2, .int a2), (3, .int a3), (4, .int a4), (5, .int a5)] [] := by
  unfold gC_Paths_leastPart_85 at h
  refine v_iincN hX dX3_leastPart_85 (j := 5) rfl (c := 1) (by decide) (by decide) h (fun v1 h => ?_)
  refine v_show (lv' := [(5, .int v1), (0, .ref (ad 41)), (1, .int a1), (2, .int a2), (3, .int a3), (4, .int a4)]) hX rfl ?_
  refine v_goto (tgt := 24) hX dX3_leastPart_88 (by decide) ?_
  exact v_sub hX [1, 2, 3, 4, 5, 0] (by rfl) (H24 _ _ _ _ _ _ h)
noncomputable def gC_Paths_leastPart_46 (N : Nat) (r24 : Int32 → Int32 → Int32 → Int32 → Int32 → vSt → Option (Int32 × vSt)) (a1 : Int32) (a2 : Int32) (a3 : Int32) (a4 : Int32) (a5 : Int32) (k0 : Int32) (s : vSt) : Option (Int32 × vSt) :=
  if k0 = 0 then
    gC_Paths_leastPart_85 N r24 a1 a2 a3 a4 a5 s
  else
    (fC_Paths_comesBy N a1 a2 a3 a5 s).bind fun p1 =>
    if p1.1 = 0 then
      gC_Paths_leastPart_85 N r24 a1 a2 a3 a4 a5 p1.2
    else
      (fC_Paths_comesBy N a1 a2 a3 (a4 &&& (a5 ^^^ (-1))) p1.2).bind fun p2 =>
      if p2.1 = 0 then
        gC_Paths_leastPart_85 N r24 a1 a2 a3 a4 a5 p2.2
      else
        some (a5, p2.2)
set_option maxRecDepth 4000 in
theorem wC_Paths_leastPart_46 {P : vP} {l : Launch} {ad : Nat → Nat} {N : Nat} {r24 : Int32 → Int32 → Int32 → Int32 → Int32 → vSt → Option (Int32 × vSt)} {r : Int32} {t1 : vSt} (hX : vOK P l shC ad (vR 4 98) cX3_leastPart RX3 7) (hR : (∀ pc lv, narrow .int (.int r) = .int r → decode cX3_leastPart pc = .ok (.ireturn, 1) → P t1 pc lv [.int r])) (H24 : ∀ (a1 : Int32) (a2 : Int32) (a3 : Int32) (a4 : Int32) (a5 : Int32) (s : vSt), r24 a1 a2 a3 a4 a5 s = some (r, t1) → P s 24 [(0, .ref (ad 41)), (1, .int a1), (2, .int a2), (3, .int a3), (4, .int a4), (5, .int a5)] []) {a1 : Int32} {a2 : Int32} {a3 : Int32} {a4 : Int32} {a5 : Int32} {k0 : Int32} {s : vSt} (h : gC_Paths_leastPart_46 N r24 a1 a2 a3 a4 a5 k0 s = some (r, t1)) : P s 46 [(0, .ref (ad 41)), (1, .int a1), (2, .int a2), (3, .int a3), (4, .int a4), (5, .int a5)] [.int k0] := by
  unfold gC_Paths_leastPart_46 at h
  refine v_istore (lv' := [(6, .int k0), (0, .ref (ad 41)), (1, .int a1), (2, .int a2), (3, .int a3), (4, .int a4), (5, .int a5)]) hX dX3_leastPart_46 (by decide) rfl ?_
  refine v_iload hX dX3_leastPart_48 0 rfl ?_
  refine v_if_eq (tgt := 85) hX dX3_leastPart_50 (by decide) h (fun h => ?_) (fun h => ?_)
  · exact v_sub hX [1, 2, 3, 4, 5, 6] (by rfl) (wC_Paths_leastPart_85 hX hR H24 h)
  · refine v_aload_n hX dX3_leastPart_53 rfl 1 rfl ?_
    refine v_iload_n hX dX3_leastPart_54 rfl 2 rfl ?_
    refine v_iload_n hX dX3_leastPart_55 rfl 3 rfl ?_
    refine v_iload_n hX dX3_leastPart_56 rfl 4 rfl ?_
    refine v_iload hX dX3_leastPart_57 6 rfl ?_
    obtain ⟨p1, hp1, h⟩ := bsome h
    refine v_callVI (o := 41) hX (mC_Paths_comesBy hp1 l ad) kM_X3_comesBy kV_X3_comesBy km_3_139 (by decide) (fun _ => rfl) rfl rfl rfl (Nat.le_of_ble_eq_true rfl) (by decide) dX3_leastPart_59 ?_
    refine v_if_eq (tgt := 85) hX dX3_leastPart_62 (by decide) h (fun h => ?_) (fun h => ?_)
    · exact v_sub hX [1, 2, 3, 4, 5, 6] (by rfl) (wC_Paths_leastPart_85 hX hR H24 h)
    · refine v_aload_n hX dX3_leastPart_65 rfl 1 rfl ?_
      refine v_iload_n hX dX3_leastPart_66 rfl 2 rfl ?_
      refine v_iload_n hX dX3_leastPart_67 rfl 3 rfl ?_
      refine v_iload_n hX dX3_leastPart_68 rfl 4 rfl ?_
      refine v_iload hX dX3_leastPart_69 5 rfl ?_
      refine v_iload hX dX3_leastPart_71 6 rfl ?_
      refine v_iconst (v := (-1)) hX dX3_leastPart_73 (by decide) ?_
      refine v_ixor hX dX3_leastPart_74 ?_
      refine v_iand hX dX3_leastPart_75 ?_
      obtain ⟨p2, hp2, h⟩ := bsome h
      refine v_callVI (o := 41) hX (mC_Paths_comesBy hp2 l ad) kM_X3_comesBy kV_X3_comesBy km_3_139 (by decide) (fun _ => rfl) rfl rfl rfl (Nat.le_of_ble_eq_true rfl) (by decide) dX3_leastPart_76 ?_
      refine v_if_eq (tgt := 85) hX dX3_leastPart_79 (by decide) h (fun h => ?_) (fun h => ?_)
      · exact v_sub hX [1, 2, 3, 4, 5, 6] (by rfl) (wC_Paths_leastPart_85 hX hR H24 h)
      · refine v_iload hX dX3_leastPart_82 6 rfl ?_
        exact v_retI hR h dX3_leastPart_84
noncomputable def gC_Paths_leastPart_24 (N : Nat)  : Nat → Int32 → Int32 → Int32 → Int32 → Int32 → vSt → Option (Int32 × vSt)
  | 0, _, _, _, _, _, _ => none
  | n + 1, a1, a2, a3, a4, a5, s =>
    if a4 < a5 then
      some ((-1), s)
    else
      if (a5 &&& (a4 ^^^ (-1))) = 0 then
        gC_Paths_leastPart_46 N (gC_Paths_leastPart_24 N n) a1 a2 a3 a4 a5 1 s
      else
        gC_Paths_leastPart_46 N (gC_Paths_leastPart_24 N n) a1 a2 a3 a4 a5 0 s
set_option maxRecDepth 4000 in
theorem wC_Paths_leastPart_24 {P : vP} {l : Launch} {ad : Nat → Nat} {N : Nat} {r : Int32} {t1 : vSt} (hX : vOK P l shC ad (vR 4 98) cX3_leastPart RX3 7) (hR : (∀ pc lv, narrow .int (.int r) = .int r → decode cX3_leastPart pc = .ok (.ireturn, 1) → P t1 pc lv [.int r]))  : ∀ (n : Nat) (a1 : Int32) (a2 : Int32) (a3 : Int32) (a4 : Int32) (a5 : Int32) (s : vSt), gC_Paths_leastPart_24 N n a1 a2 a3 a4 a5 s = some (r, t1) → P s 24 [(0, .ref (ad 41)), (1, .int a1), (2, .int a2), (3, .int a3), (4, .int a4), (5, .int a5)] [] := by
  intro n
  induction n with
  | zero => intro a1 a2 a3 a4 a5 s h; cases h
  | succ n ih =>
    intro a1 a2 a3 a4 a5 s h
    unfold gC_Paths_leastPart_24 at h
    refine v_iload hX dX3_leastPart_24 5 rfl ?_
    refine v_iload hX dX3_leastPart_26 4 rfl ?_
    refine v_icmp_gt (tgt := 91) hX dX3_leastPart_28 (by decide) h (fun h => ?_) (fun h => ?_)
    · refine v_iconst (v := (-1)) hX dX3_leastPart_91 (by decide) ?_
      exact v_retI hR h dX3_leastPart_92
    · refine v_iload hX dX3_leastPart_31 5 rfl ?_
      refine v_iload hX dX3_leastPart_33 4 rfl ?_
      refine v_iconst (v := (-1)) hX dX3_leastPart_35 (by decide) ?_
      refine v_ixor hX dX3_leastPart_36 ?_
      refine v_iand hX dX3_leastPart_37 ?_
      refine v_if_ne (tgt := 45) hX dX3_leastPart_38 (by decide) h (fun h => ?_) (fun h => ?_)
      · refine v_iconst (v := 1) hX dX3_leastPart_41 (by decide) ?_
        refine v_goto (tgt := 46) hX dX3_leastPart_42 (by decide) ?_
        exact v_sub hX [0, 1, 2, 3, 4, 5] (by rfl) (wC_Paths_leastPart_46 hX hR ih h)
      · refine v_iconst (v := 0) hX dX3_leastPart_45 (by decide) ?_
        exact v_sub hX [0, 1, 2, 3, 4, 5] (by rfl) (wC_Paths_leastPart_46 hX hR ih h)
noncomputable def gC_Paths_leastPart_0 (N : Nat)  (a1 : Int32) (a2 : Int32) (a3 : Int32) (s : vSt) : Option (Int32 × vSt) :=
  (fC_Roads_everybody N s).bind fun p1 =>
  (some ((p1.1 &&& (((1 : Int32) <<< (a1 &&& 31)) ^^^ (-1))) &&& (((1 : Int32) <<< (a2 &&& 31)) ^^^ (-1)) : Int32)).bind fun v2 =>
  gC_Paths_leastPart_24 N N a1 a2 a3 v2 0 p1.2
set_option maxRecDepth 4000 in
theorem wC_Paths_leastPart_0 {P : vP} {l : Launch} {ad : Nat → Nat} {N : Nat} {r : Int32} {t1 : vSt} (hX : vOK P l shC ad (vR 4 98) cX3_leastPart RX3 7) (hR : (∀ pc lv, narrow .int (.int r) = .int r → decode cX3_leastPart pc = .ok (.ireturn, 1) → P t1 pc lv [.int r]))  {a1 : Int32} {a2 : Int32} {a3 : Int32} {s : vSt} (h : gC_Paths_leastPart_0 N a1 a2 a3 s = some (r, t1)) : P s 0 [(0, .ref (ad 41)), (1, .int a1), (2, .int a2), (3, .int a3)] [] := by
  unfold gC_Paths_leastPart_0 at h
  refine v_aload_n hX dX3_leastPart_0 rfl 0 rfl ?_
  refine gfC_41_3 hX kf_3_25 dX3_leastPart_1 ?_
  obtain ⟨p1, hp1, h⟩ := bsome h
  refine v_callVI (o := 9) hX (mC_Roads_everybody hp1 l ad) kM_X6_everybody kV_X6_everybody km_3_135 (by decide) (fun _ => rfl) rfl rfl rfl (Nat.le_of_ble_eq_true rfl) (by decide) dX3_leastPart_4 ?_
  refine v_iconst (v := 1) hX dX3_leastPart_7 (by decide) ?_
  refine v_iload_n hX dX3_leastPart_8 rfl 1 rfl ?_
  refine v_ishl hX dX3_leastPart_9 ?_
  refine v_iconst (v := (-1)) hX dX3_leastPart_10 (by decide) ?_
  refine v_ixor hX dX3_leastPart_11 ?_
  refine v_iand hX dX3_leastPart_12 ?_
  refine v_iconst (v := 1) hX dX3_leastPart_13 (by decide) ?_
  refine v_iload_n hX dX3_leastPart_14 rfl 2 rfl ?_
  refine v_ishl hX dX3_leastPart_15 ?_
  refine v_iconst (v := (-1)) hX dX3_leastPart_16 (by decide) ?_
  refine v_ixor hX dX3_leastPart_17 ?_
  refine v_iand hX dX3_leastPart_18 ?_
  refine v_nmI hX h (fun v2 h => ?_)
  refine v_istore (lv' := [(4, .int v2), (0, .ref (ad 41)), (1, .int a1), (2, .int a2), (3, .int a3)]) hX dX3_leastPart_19 (by decide) rfl ?_
  refine v_iconst (v := 0) hX dX3_leastPart_21 (by decide) ?_
  refine v_istore (lv' := [(5, .int 0), (4, .int v2), (0, .ref (ad 41)), (1, .int a1), (2, .int a2), (3, .int a3)]) hX dX3_leastPart_22 (by decide) rfl ?_
  exact v_sub hX [2, 3, 4, 5, 1, 0] (by rfl) (wC_Paths_leastPart_24 hX hR  N _ _ _ _ _ _ h)
noncomputable def fC_Paths_leastPart (N : Nat) (a1 : Int32) (a2 : Int32) (a3 : Int32) (s : vSt) : Option (Int32 × vSt) := gC_Paths_leastPart_0 N a1 a2 a3 s
theorem mC_Paths_leastPart {N : Nat} {a1 : Int32} {a2 : Int32} {a3 : Int32} {s : vSt} {r : Int32} {t1 : vSt} (h : fC_Paths_leastPart N a1 a2 a3 s = some (r, t1)) (l : Launch) (ad : Nat → Nat) : vMI l shC ad yX3_leastPart cX3_leastPart 7 .int 4 98 s [.ref (ad 41), .int a1, .int a2, .int a3] r t1 :=
  vMI_of (by decide +kernel) (Nat.le_of_ble_eq_true rfl) (fun P hX hR => wC_Paths_leastPart_0 hX hR h)
-- C_EachAddsALine_apart
noncomputable def gC_EachAddsALine_apart_0 (N : Nat)  (a1 : Int32) (a2 : Int32) (a3 : Int32) (s : vSt) : Option (Int32 × vSt) :=
  (fC_EachAddsALine_isTrip N a1 a2 a3 s).bind fun p1 =>
  if p1.1 = 0 then
    some ((-1), p1.2)
  else
    if a1 = a2 then
      some ((-1), p1.2)
    else
      (fC_Paths_leastPart N a1 a2 a3 p1.2).bind fun p2 =>
      (fC_Numbers_clear_row N p2.2).bind fun z3 =>
      if p2.1 = (-1) then
        some (0, z3)
      else
        (fC_Numbers_add_row N p2.1 z3).bind fun z4 =>
        some (1, z4)
set_option maxRecDepth 4000 in
theorem wC_EachAddsALine_apart_0 {P : vP} {l : Launch} {ad : Nat → Nat} {N : Nat} {r : Int32} {t1 : vSt} (hX : vOK P l shC ad (vR 5 124) cX11_apart RX11 5) (hR : (∀ pc lv, narrow .int (.int r) = .int r → decode cX11_apart pc = .ok (.ireturn, 1) → P t1 pc lv [.int r]))  {a1 : Int32} {a2 : Int32} {a3 : Int32} {s : vSt} (h : gC_EachAddsALine_apart_0 N a1 a2 a3 s = some (r, t1)) : P s 0 [(0, .ref (ad 0)), (1, .int a1), (2, .int a2), (3, .int a3)] [] := by
  unfold gC_EachAddsALine_apart_0 at h
  refine v_aload_n hX dX11_apart_0 rfl 0 rfl ?_
  refine v_iload_n hX dX11_apart_1 rfl 1 rfl ?_
  refine v_iload_n hX dX11_apart_2 rfl 2 rfl ?_
  refine v_iload_n hX dX11_apart_3 rfl 3 rfl ?_
  obtain ⟨p1, hp1, h⟩ := bsome h
  refine v_callVI (o := 0) hX (mC_EachAddsALine_isTrip hp1 l ad) kM_X11_isTrip kV_X11_isTrip km_11_201 (by decide) (fun _ => rfl) rfl rfl rfl (Nat.le_of_ble_eq_true rfl) (by decide) dX11_apart_4 ?_
  refine v_if_eq (tgt := 15) hX dX11_apart_7 (by decide) h (fun h => ?_) (fun h => ?_)
  · refine v_iconst (v := (-1)) hX dX11_apart_15 (by decide) ?_
    exact v_retI hR h dX11_apart_16
  · refine v_iload_n hX dX11_apart_10 rfl 1 rfl ?_
    refine v_iload_n hX dX11_apart_11 rfl 2 rfl ?_
    refine v_icmp_ne (tgt := 17) hX dX11_apart_12 (by decide) h (fun h => ?_) (fun h => ?_)
    · refine v_iconst (v := (-1)) hX dX11_apart_15 (by decide) ?_
      exact v_retI hR h dX11_apart_16
    · refine v_aload_n hX dX11_apart_17 rfl 0 rfl ?_
      refine gfC_0_7 hX kf_11_69 dX11_apart_18 ?_
      refine v_iload_n hX dX11_apart_21 rfl 1 rfl ?_
      refine v_iload_n hX dX11_apart_22 rfl 2 rfl ?_
      refine v_iload_n hX dX11_apart_23 rfl 3 rfl ?_
      obtain ⟨p2, hp2, h⟩ := bsome h
      refine v_callVI (o := 41) hX (mC_Paths_leastPart hp2 l ad) kM_X3_leastPart kV_X3_leastPart km_11_241 (by decide) (fun _ => rfl) rfl rfl rfl (Nat.le_of_ble_eq_true rfl) (by decide) dX11_apart_24 ?_
      refine v_istore (lv' := [(4, .int p2.1), (0, .ref (ad 0)), (1, .int a1), (2, .int a2), (3, .int a3)]) hX dX11_apart_27 (by decide) rfl ?_
      refine v_aload_n hX dX11_apart_29 rfl 1 rfl ?_
      refine gfC_0_1 hX kf_11_19 dX11_apart_30 ?_
      obtain ⟨z3, hz3, h⟩ := bsome h
      refine v_callVV (o := 3) hX (mC_Numbers_clear_row hz3 l ad) kM_X2_clear kV_X2_clear km_11_176 (by decide) (fun _ => rfl) rfl rfl rfl (Nat.le_of_ble_eq_true rfl) (by decide) dX11_apart_33 ?_
      refine v_iload hX dX11_apart_36 0 rfl ?_
      refine v_iconst (v := (-1)) hX dX11_apart_38 (by decide) ?_
      refine v_icmp_ne (tgt := 44) hX dX11_apart_39 (by decide) h (fun h => ?_) (fun h => ?_)
      · refine v_iconst (v := 0) hX dX11_apart_42 (by decide) ?_
        exact v_retI hR h dX11_apart_43
      · refine v_aload_n hX dX11_apart_44 rfl 1 rfl ?_
        refine gfC_0_1 hX kf_11_19 dX11_apart_45 ?_
        refine v_iload hX dX11_apart_48 0 rfl ?_
        obtain ⟨z4, hz4, h⟩ := bsome h
        refine v_callVV (o := 3) hX (mC_Numbers_add_row hz4 l ad) kM_X2_add kV_X2_add km_11_182 (by decide) (fun _ => rfl) rfl rfl rfl (Nat.le_of_ble_eq_true rfl) (by decide) dX11_apart_50 ?_
        refine v_iconst (v := 1) hX dX11_apart_53 (by decide) ?_
        exact v_retI hR h dX11_apart_54
noncomputable def fC_EachAddsALine_apart (N : Nat) (a1 : Int32) (a2 : Int32) (a3 : Int32) (s : vSt) : Option (Int32 × vSt) := gC_EachAddsALine_apart_0 N a1 a2 a3 s
theorem mC_EachAddsALine_apart {N : Nat} {a1 : Int32} {a2 : Int32} {a3 : Int32} {s : vSt} {r : Int32} {t1 : vSt} (h : fC_EachAddsALine_apart N a1 a2 a3 s = some (r, t1)) (l : Launch) (ad : Nat → Nat) : vMI l shC ad yX11_apart cX11_apart 5 .int 5 124 s [.ref (ad 0), .int a1, .int a2, .int a3] r t1 :=
  vMI_of (by decide +kernel) (Nat.le_of_ble_eq_true rfl) (fun P hX hR => wC_EachAddsALine_apart_0 hX hR h)
-- C_EachAddsALine_far
noncomputable def gC_EachAddsALine_far_95 (N : Nat) (r43 : Int32 → Int32 → Int32 → vSt → Option (Int32 × vSt)) (a1 : Int32) (a3 : Int32) (a4 : Int32) (s : vSt) : Option (Int32 × vSt) :=
  (some (a4 + 1 : Int32)).bind fun v1 =>
  r43 a1 a3 v1 s
set_option maxRecDepth 4000 in
theorem wC_EachAddsALine_far_95 {P : vP} {l : Launch} {ad : Nat → Nat} {N : Nat} {r43 : Int32 → Int32 → Int32 → vSt → Option (Int32 × vSt)} {r : Int32} {t1 : vSt} (hX : vOK P l shC ad (vR 3 74) cX11_far RX11 5) (hR : (∀ pc lv, narrow .int (.int r) = .int r → decode cX11_far pc = .ok (.ireturn, 1) → P t1 pc lv [.int r])) (H43 : ∀ (a1 : Int32) (a3 : Int32) (a4 : Int32) (s : vSt), r43 a1 a3 a4 s = some (r, t1) → P s 43 [(0, .ref (ad 0)), (1, .int a1), (3, .int a3), (4, .int a4)] []) {a1 : Int32} {a3 : Int32} {a4 : Int32} {s : vSt} (h : gC_EachAddsALine_far_95 N r43 a1 a3 a4 s = some (r, t1)) : P s 95 [(0, .ref (ad 0)), (1, .int a1), (3, .int a3), (4, .int a4)] [] := by
  unfold gC_EachAddsALine_far_95 at h
  refine v_iincN hX dX11_far_95 (j := 3) rfl (c := 1) (by decide) (by decide) h (fun v1 h => ?_)
  refine v_show (lv' := [(4, .int v1), (0, .ref (ad 0)), (1, .int a1), (3, .int a3)]) hX rfl ?_
  refine v_goto (tgt := 43) hX dX11_far_98 (by decide) ?_
  exact v_sub hX [1, 2, 3, 0] (by rfl) (H43 _ _ _ _ h)
noncomputable def gC_EachAddsALine_far_43 (N : Nat)  : Nat → Int32 → Int32 → Int32 → vSt → Option (Int32 × vSt)
  | 0, _, _, _, _ => none
  | n + 1, a1, a3, a4, s =>
    if (s.1 9 6) ≤ a4 then
      some (a3, s)
    else
      (ld s 42 9 a4).bind fun v1 =>
      (fC_Numbers_add_row N v1 s).bind fun z2 =>
      if a4 = a1 then
        gC_EachAddsALine_far_95 N (gC_EachAddsALine_far_43 N n) a1 a3 a4 z2
      else
        (ld z2 42 9 a4).bind fun v3 =>
        if v3 = (-1) then
          gC_EachAddsALine_far_95 N (gC_EachAddsALine_far_43 N n) a1 a3 a4 z2
        else
          (some (a3 + 1 : Int32)).bind fun v4 =>
          gC_EachAddsALine_far_95 N (gC_EachAddsALine_far_43 N n) a1 v4 a4 z2
set_option maxRecDepth 4000 in
theorem wC_EachAddsALine_far_43 {P : vP} {l : Launch} {ad : Nat → Nat} {N : Nat} {r : Int32} {t1 : vSt} (hX : vOK P l shC ad (vR 3 74) cX11_far RX11 5) (hR : (∀ pc lv, narrow .int (.int r) = .int r → decode cX11_far pc = .ok (.ireturn, 1) → P t1 pc lv [.int r]))  : ∀ (n : Nat) (a1 : Int32) (a3 : Int32) (a4 : Int32) (s : vSt), gC_EachAddsALine_far_43 N n a1 a3 a4 s = some (r, t1) → P s 43 [(0, .ref (ad 0)), (1, .int a1), (3, .int a3), (4, .int a4)] [] := by
  intro n
  induction n with
  | zero => intro a1 a3 a4 s h; cases h
  | succ n ih =>
    intro a1 a3 a4 s h
    unfold gC_EachAddsALine_far_43 at h
    refine v_iload hX dX11_far_43 3 rfl ?_
    refine v_aload_n hX dX11_far_45 rfl 0 rfl ?_
    refine gfC_0_2 hX kf_11_26 dX11_far_46 ?_
    refine gfC_9_6 hX kf_11_247 dX11_far_49 ?_
    refine v_icmp_ge (tgt := 101) hX dX11_far_52 (by decide) h (fun h => ?_) (fun h => ?_)
    · refine v_iload_n hX dX11_far_101 rfl 2 rfl ?_
      exact v_retI hR h dX11_far_102
    · refine v_aload_n hX dX11_far_55 rfl 0 rfl ?_
      refine gfC_0_1 hX kf_11_19 dX11_far_56 ?_
      refine v_aload_n hX dX11_far_59 rfl 0 rfl ?_
      refine gfC_0_7 hX kf_11_69 dX11_far_60 ?_
      refine gfC_41_0 hX kf_11_250 dX11_far_63 ?_
      refine v_iload hX dX11_far_66 3 rfl ?_
      refine alC_42 hX dX11_far_68 h (fun v1 h => ?_)
      obtain ⟨z2, hz2, h⟩ := bsome h
      refine v_callVV (o := 3) hX (mC_Numbers_add_row hz2 l ad) kM_X2_add kV_X2_add km_11_182 (by decide) (fun _ => rfl) rfl rfl rfl (Nat.le_of_ble_eq_true rfl) (by decide) dX11_far_69 ?_
      refine v_iload hX dX11_far_72 3 rfl ?_
      refine v_iload_n hX dX11_far_74 rfl 1 rfl ?_
      refine v_icmp_eq (tgt := 95) hX dX11_far_75 (by decide) h (fun h => ?_) (fun h => ?_)
      · exact v_sub hX [0, 1, 2, 3] (by rfl) (wC_EachAddsALine_far_95 hX hR ih h)
      · refine v_aload_n hX dX11_far_78 rfl 0 rfl ?_
        refine gfC_0_7 hX kf_11_69 dX11_far_79 ?_
        refine gfC_41_0 hX kf_11_250 dX11_far_82 ?_
        refine v_iload hX dX11_far_85 3 rfl ?_
        refine alC_42 hX dX11_far_87 h (fun v3 h => ?_)
        refine v_iconst (v := (-1)) hX dX11_far_88 (by decide) ?_
        refine v_icmp_eq (tgt := 95) hX dX11_far_89 (by decide) h (fun h => ?_) (fun h => ?_)
        · exact v_sub hX [0, 1, 2, 3] (by rfl) (wC_EachAddsALine_far_95 hX hR ih h)
        · refine v_iincN hX dX11_far_92 (j := 2) rfl (c := 1) (by decide) (by decide) h (fun v4 h => ?_)
          refine v_show (lv' := [(3, .int v4), (0, .ref (ad 0)), (1, .int a1), (4, .int a4)]) hX rfl ?_
          exact v_sub hX [1, 2, 0, 3] (by rfl) (wC_EachAddsALine_far_95 hX hR ih h)
noncomputable def gC_EachAddsALine_far_0 (N : Nat)  (a1 : Int32) (a2 : Int32) (s : vSt) : Option (Int32 × vSt) :=
  (fC_Roads_hasPerson N a1 s).bind fun p1 =>
  if p1.1 = 0 then
    some ((-1), p1.2)
  else
    (fC_EachAddsALine_isHour N a2 p1.2).bind fun p2 =>
    if p2.1 = 0 then
      some ((-1), p2.2)
    else
      (fC_Paths_spread N a1 a2 0 (-1) p2.2).bind fun z3 =>
      (fC_Numbers_clear_row N z3).bind fun z4 =>
      gC_EachAddsALine_far_43 N N a1 0 0 z4
set_option maxRecDepth 4000 in
theorem wC_EachAddsALine_far_0 {P : vP} {l : Launch} {ad : Nat → Nat} {N : Nat} {r : Int32} {t1 : vSt} (hX : vOK P l shC ad (vR 3 74) cX11_far RX11 5) (hR : (∀ pc lv, narrow .int (.int r) = .int r → decode cX11_far pc = .ok (.ireturn, 1) → P t1 pc lv [.int r]))  {a1 : Int32} {a2 : Int32} {s : vSt} (h : gC_EachAddsALine_far_0 N a1 a2 s = some (r, t1)) : P s 0 [(0, .ref (ad 0)), (1, .int a1), (2, .int a2)] [] := by
  unfold gC_EachAddsALine_far_0 at h
  refine v_aload_n hX dX11_far_0 rfl 0 rfl ?_
  refine gfC_0_2 hX kf_11_26 dX11_far_1 ?_
  refine v_iload_n hX dX11_far_4 rfl 1 rfl ?_
  obtain ⟨p1, hp1, h⟩ := bsome h
  refine v_callVI (o := 9) hX (mC_Roads_hasPerson hp1 l ad) kM_X6_hasPerson kV_X6_hasPerson km_11_114 (by decide) (fun _ => rfl) rfl rfl rfl (Nat.le_of_ble_eq_true rfl) (by decide) dX11_far_5 ?_
  refine v_if_eq (tgt := 18) hX dX11_far_8 (by decide) h (fun h => ?_) (fun h => ?_)
  · refine v_iconst (v := (-1)) hX dX11_far_18 (by decide) ?_
    exact v_retI hR h dX11_far_19
  · refine v_iload_n hX dX11_far_11 rfl 2 rfl ?_
    obtain ⟨p2, hp2, h⟩ := bsome h
    refine v_callSI hX (mC_EachAddsALine_isHour hp2 l ad) kM_X11_isHour kS_X11_isHour km_11_145 rfl rfl (Nat.le_of_ble_eq_true rfl) (by decide) dX11_far_12 ?_
    refine v_if_ne (tgt := 20) hX dX11_far_15 (by decide) h (fun h => ?_) (fun h => ?_)
    · refine v_iconst (v := (-1)) hX dX11_far_18 (by decide) ?_
      exact v_retI hR h dX11_far_19
    · refine v_aload_n hX dX11_far_20 rfl 0 rfl ?_
      refine gfC_0_7 hX kf_11_69 dX11_far_21 ?_
      refine v_iload_n hX dX11_far_24 rfl 1 rfl ?_
      refine v_iload_n hX dX11_far_25 rfl 2 rfl ?_
      refine v_iconst (v := 0) hX dX11_far_26 (by decide) ?_
      refine v_iconst (v := (-1)) hX dX11_far_27 (by decide) ?_
      obtain ⟨z3, hz3, h⟩ := bsome h
      refine v_callVV (o := 41) hX (mC_Paths_spread hz3 l ad) kM_X3_spread kV_X3_spread km_11_244 (by decide) (fun _ => rfl) rfl rfl rfl (Nat.le_of_ble_eq_true rfl) (by decide) dX11_far_28 ?_
      refine v_aload_n hX dX11_far_31 rfl 0 rfl ?_
      refine gfC_0_1 hX kf_11_19 dX11_far_32 ?_
      obtain ⟨z4, hz4, h⟩ := bsome h
      refine v_callVV (o := 3) hX (mC_Numbers_clear_row hz4 l ad) kM_X2_clear kV_X2_clear km_11_176 (by decide) (fun _ => rfl) rfl rfl rfl (Nat.le_of_ble_eq_true rfl) (by decide) dX11_far_35 ?_
      refine v_iconst (v := 0) hX dX11_far_38 (by decide) ?_
      refine v_istore_n (lv' := [(3, .int 0), (0, .ref (ad 0)), (1, .int a1), (2, .int a2)]) hX dX11_far_39 rfl (by decide) rfl ?_
      refine v_iconst (v := 0) hX dX11_far_40 (by decide) ?_
      refine v_istore (lv' := [(4, .int 0), (3, .int 0), (0, .ref (ad 0)), (1, .int a1), (2, .int a2)]) hX dX11_far_41 (by decide) rfl ?_
      exact v_sub hX [2, 3, 1, 0] (by rfl) (wC_EachAddsALine_far_43 hX hR  N _ _ _ _ h)
noncomputable def fC_EachAddsALine_far (N : Nat) (a1 : Int32) (a2 : Int32) (s : vSt) : Option (Int32 × vSt) := gC_EachAddsALine_far_0 N a1 a2 s
theorem mC_EachAddsALine_far {N : Nat} {a1 : Int32} {a2 : Int32} {s : vSt} {r : Int32} {t1 : vSt} (h : fC_EachAddsALine_far N a1 a2 s = some (r, t1)) (l : Launch) (ad : Nat → Nat) : vMI l shC ad yX11_far cX11_far 5 .int 3 74 s [.ref (ad 0), .int a1, .int a2] r t1 :=
  vMI_of (by decide +kernel) (Nat.le_of_ble_eq_true rfl) (fun P hX hR => wC_EachAddsALine_far_0 hX hR h)
-- C_Paths_worstLoss
noncomputable def gC_Paths_worstLoss_90 (N : Nat) (r31 : Int32 → Int32 → Int32 → Int32 → Int32 → Int32 → vSt → Option (Int32 × vSt)) (a1 : Int32) (a2 : Int32) (a3 : Int32) (a5 : Int32) (a6 : Int32) (a7 : Int32) (s : vSt) : Option (Int32 × vSt) :=
  (some (a7 + 1 : Int32)).bind fun v1 =>
  r31 a1 a2 a3 a5 a6 v1 s
set_option maxRecDepth 4000 in
theorem wC_Paths_worstLoss_90 {P : vP} {l : Launch} {ad : Nat → Nat} {N : Nat} {r31 : Int32 → Int32 → Int32 → Int32 → Int32 → Int32 → vSt → Option (Int32 × vSt)} {r : Int32} {t1 : vSt} (hX : vOK P l shC ad (vR 3 74) cX3_worstLoss RX3 9) (hR : (∀ pc lv, narrow .int (.int r) = .int r → decode cX3_worstLoss pc = .ok (.ireturn, 1) → P t1 pc lv [.int r])) (H31 : ∀ (a1 : Int32) (a2 : Int32) (a3 : Int32) (a5 : Int32) (a6 : Int32) (a7 : Int32) (s : vSt), r31 a1 a2 a3 a5 a6 a7 s = some (r, t1) → P s 31 [(0, .ref (ad 41)), (1, .int a1), (2, .int a2), (3, .int a3), (4, .ref (ad 3)), (5, .int a5), (6, .int a6), (7, .int a7)] []) {a1 : Int32} {a2 : Int32} {a3 : Int32} {a5 : Int32} {a6 : Int32} {a7 : Int32} {s : vSt} (h : gC_Paths_worstLoss_90 N r31 a1 a2 a3 a5 a6 a7 s = some (r, t1)) : P s 90 [(0, .ref (ad 41)), (1, .int a1), (2, .int a2), (3, .int a3), (4, .ref (ad 3)), (5, .int a5), (6, .int a6), (7, .int a7)] [] := by
  unfold gC_Paths_worstLoss_90 at h
  refine v_iincN hX dX3_worstLoss_90 (j := 7) rfl (c := 1) (by decide) (by decide) h (fun v1 h => ?_)
  refine v_show (lv' := [(7, .int v1), (0, .ref (ad 41)), (1, .int a1), (2, .int a2), (3, .int a3), (4, .ref (ad 3)), (5, .int a5), (6, .int a6)]) hX rfl ?_
  refine v_goto (tgt := 31) hX dX3_worstLoss_93 (by decide) ?_
  exact v_sub hX [1, 2, 3, 4, 5, 6, 7, 0] (by rfl) (H31 _ _ _ _ _ _ _ h)
noncomputable def gC_Paths_worstLoss_73 (N : Nat) (r31 : Int32 → Int32 → Int32 → Int32 → Int32 → Int32 → vSt → Option (Int32 × vSt)) (a1 : Int32) (a2 : Int32) (a3 : Int32) (a5 : Int32) (a6 : Int32) (a7 : Int32) (k0 : Int32) (s : vSt) : Option (Int32 × vSt) :=
  if k0 ≤ a6 then
    gC_Paths_worstLoss_90 N r31 a1 a2 a3 a5 a6 a7 s
  else
    gC_Paths_worstLoss_90 N r31 a1 a2 a3 a7 k0 a7 s
set_option maxRecDepth 4000 in
theorem wC_Paths_worstLoss_73 {P : vP} {l : Launch} {ad : Nat → Nat} {N : Nat} {r31 : Int32 → Int32 → Int32 → Int32 → Int32 → Int32 → vSt → Option (Int32 × vSt)} {r : Int32} {t1 : vSt} (hX : vOK P l shC ad (vR 3 74) cX3_worstLoss RX3 9) (hR : (∀ pc lv, narrow .int (.int r) = .int r → decode cX3_worstLoss pc = .ok (.ireturn, 1) → P t1 pc lv [.int r])) (H31 : ∀ (a1 : Int32) (a2 : Int32) (a3 : Int32) (a5 : Int32) (a6 : Int32) (a7 : Int32) (s : vSt), r31 a1 a2 a3 a5 a6 a7 s = some (r, t1) → P s 31 [(0, .ref (ad 41)), (1, .int a1), (2, .int a2), (3, .int a3), (4, .ref (ad 3)), (5, .int a5), (6, .int a6), (7, .int a7)] []) {a1 : Int32} {a2 : Int32} {a3 : Int32} {a5 : Int32} {a6 : Int32} {a7 : Int32} {k0 : Int32} {s : vSt} (h : gC_Paths_worstLoss_73 N r31 a1 a2 a3 a5 a6 a7 k0 s = some (r, t1)) : P s 73 [(0, .ref (ad 41)), (1, .int a1), (2, .int a2), (3, .int a3), (4, .ref (ad 3)), (5, .int a5), (6, .int a6), (7, .int a7)] [.int k0] := by
  unfold gC_Paths_worstLoss_73 at h
  refine v_istore (lv' := [(8, .int k0), (0, .ref (ad 41)), (1, .int a1), (2, .int a2), (3, .int a3), (4, .ref (ad 3)), (5, .int a5), (6, .int a6), (7, .int a7)]) hX dX3_worstLoss_73 (by decide) rfl ?_
  refine v_iload hX dX3_worstLoss_75 0 rfl ?_
  refine v_iload hX dX3_worstLoss_77 7 rfl ?_
  refine v_icmp_le (tgt := 90) hX dX3_worstLoss_79 (by decide) h (fun h => ?_) (fun h => ?_)
  · exact v_sub hX [1, 2, 3, 4, 5, 6, 7, 8] (by rfl) (wC_Paths_worstLoss_90 hX hR H31 h)
  · refine v_iload hX dX3_worstLoss_82 0 rfl ?_
    refine v_istore (lv' := [(6, .int k0), (8, .int k0), (0, .ref (ad 41)), (1, .int a1), (2, .int a2), (3, .int a3), (4, .ref (ad 3)), (5, .int a5), (7, .int a7)]) hX dX3_worstLoss_84 (by decide) rfl ?_
    refine v_iload hX dX3_worstLoss_86 8 rfl ?_
    refine v_istore (lv' := [(5, .int a7), (6, .int k0), (8, .int k0), (0, .ref (ad 41)), (1, .int a1), (2, .int a2), (3, .int a3), (4, .ref (ad 3)), (7, .int a7)]) hX dX3_worstLoss_88 (by decide) rfl ?_
    exact v_sub hX [3, 4, 5, 6, 7, 0, 1, 8] (by rfl) (wC_Paths_worstLoss_90 hX hR H31 h)
noncomputable def gC_Paths_worstLoss_31 (N : Nat)  : Nat → Int32 → Int32 → Int32 → Int32 → Int32 → Int32 → vSt → Option (Int32 × vSt)
  | 0, _, _, _, _, _, _, _ => none
  | n + 1, a1, a2, a3, a5, a6, a7, s =>
    if (s.1 9 7) ≤ a7 then
      (fC_Numbers_clear_row N s).bind fun z1 =>
      if a6 = 1048576 then
        (fC_Numbers_add_row N (-1) z1).bind fun z2 =>
        some (a5, z2)
      else
        (fC_Numbers_add_row N a6 z1).bind fun z3 =>
        some (a5, z3)
    else
      (fC_Paths_spread N a1 a3 0 a7 s).bind fun z4 =>
      (ld z4 42 9 a2).bind fun v5 =>
      if v5 = (-1) then
        gC_Paths_worstLoss_73 N (gC_Paths_worstLoss_31 N n) a1 a2 a3 a5 a6 a7 1048576 z4
      else
        (ld z4 42 9 a2).bind fun v6 =>
        gC_Paths_worstLoss_73 N (gC_Paths_worstLoss_31 N n) a1 a2 a3 a5 a6 a7 v6 z4
set_option maxRecDepth 4000 in
theorem wC_Paths_worstLoss_31 {P : vP} {l : Launch} {ad : Nat → Nat} {N : Nat} {r : Int32} {t1 : vSt} (hX : vOK P l shC ad (vR 3 74) cX3_worstLoss RX3 9) (hR : (∀ pc lv, narrow .int (.int r) = .int r → decode cX3_worstLoss pc = .ok (.ireturn, 1) → P t1 pc lv [.int r]))  : ∀ (n : Nat) (a1 : Int32) (a2 : Int32) (a3 : Int32) (a5 : Int32) (a6 : Int32) (a7 : Int32) (s : vSt), gC_Paths_worstLoss_31 N n a1 a2 a3 a5 a6 a7 s = some (r, t1) → P s 31 [(0, .ref (ad 41)), (1, .int a1), (2, .int a2), (3, .int a3), (4, .ref (ad 3)), (5, .int a5), (6, .int a6), (7, .int a7)] [] := by
  intro n
  induction n with
  | zero => intro a1 a2 a3 a5 a6 a7 s h; cases h
  | succ n ih =>
    intro a1 a2 a3 a5 a6 a7 s h
    unfold gC_Paths_worstLoss_31 at h
    refine v_iload hX dX3_worstLoss_31 7 rfl ?_
    refine v_aload_n hX dX3_worstLoss_33 rfl 0 rfl ?_
    refine gfC_41_3 hX kf_3_25 dX3_worstLoss_34 ?_
    refine gfC_9_7 hX kf_3_35 dX3_worstLoss_37 ?_
    refine v_icmp_ge (tgt := 96) hX dX3_worstLoss_40 (by decide) h (fun h => ?_) (fun h => ?_)
    · refine v_aload hX dX3_worstLoss_96 4 rfl ?_
      obtain ⟨z1, hz1, h⟩ := bsome h
      refine v_callVV (o := 3) hX (mC_Numbers_clear_row hz1 l ad) kM_X2_clear kV_X2_clear km_3_104 (by decide) (fun _ => rfl) rfl rfl rfl (Nat.le_of_ble_eq_true rfl) (by decide) dX3_worstLoss_98 ?_
      refine v_aload hX dX3_worstLoss_101 4 rfl ?_
      refine v_iload hX dX3_worstLoss_103 6 rfl ?_
      refine v_ldc hX kc_3_76 dX3_worstLoss_105 ?_
      refine v_icmp_ne (tgt := 114) hX dX3_worstLoss_107 (by decide) h (fun h => ?_) (fun h => ?_)
      · refine v_iconst (v := (-1)) hX dX3_worstLoss_110 (by decide) ?_
        refine v_goto (tgt := 116) hX dX3_worstLoss_111 (by decide) ?_
        obtain ⟨z2, hz2, h⟩ := bsome h
        refine v_callVV (o := 3) hX (mC_Numbers_add_row hz2 l ad) kM_X2_add kV_X2_add km_3_112 (by decide) (fun _ => rfl) rfl rfl rfl (Nat.le_of_ble_eq_true rfl) (by decide) dX3_worstLoss_116 ?_
        refine v_iload hX dX3_worstLoss_119 5 rfl ?_
        exact v_retI hR h dX3_worstLoss_121
      · refine v_iload hX dX3_worstLoss_114 6 rfl ?_
        obtain ⟨z3, hz3, h⟩ := bsome h
        refine v_callVV (o := 3) hX (mC_Numbers_add_row hz3 l ad) kM_X2_add kV_X2_add km_3_112 (by decide) (fun _ => rfl) rfl rfl rfl (Nat.le_of_ble_eq_true rfl) (by decide) dX3_worstLoss_116 ?_
        refine v_iload hX dX3_worstLoss_119 5 rfl ?_
        exact v_retI hR h dX3_worstLoss_121
    · refine v_aload_n hX dX3_worstLoss_43 rfl 0 rfl ?_
      refine v_iload_n hX dX3_worstLoss_44 rfl 1 rfl ?_
      refine v_iload_n hX dX3_worstLoss_45 rfl 3 rfl ?_
      refine v_iconst (v := 0) hX dX3_worstLoss_46 (by decide) ?_
      refine v_iload hX dX3_worstLoss_47 7 rfl ?_
      obtain ⟨z4, hz4, h⟩ := bsome h
      refine v_callVV (o := 41) hX (mC_Paths_spread hz4 l ad) kM_X3_spread kV_X3_spread km_3_132 (by decide) (fun _ => rfl) rfl rfl rfl (Nat.le_of_ble_eq_true rfl) (by decide) dX3_worstLoss_49 ?_
      refine v_aload_n hX dX3_worstLoss_52 rfl 0 rfl ?_
      refine gfC_41_0 hX kf_3_9 dX3_worstLoss_53 ?_
      refine v_iload_n hX dX3_worstLoss_56 rfl 2 rfl ?_
      refine alC_42 hX dX3_worstLoss_57 h (fun v5 h => ?_)
      refine v_iconst (v := (-1)) hX dX3_worstLoss_58 (by decide) ?_
      refine v_icmp_ne (tgt := 67) hX dX3_worstLoss_59 (by decide) h (fun h => ?_) (fun h => ?_)
      · refine v_ldc hX kc_3_76 dX3_worstLoss_62 ?_
        refine v_goto (tgt := 73) hX dX3_worstLoss_64 (by decide) ?_
        exact v_sub hX [0, 1, 2, 3, 4, 5, 6, 7] (by rfl) (wC_Paths_worstLoss_73 hX hR ih h)
      · refine v_aload_n hX dX3_worstLoss_67 rfl 0 rfl ?_
        refine gfC_41_0 hX kf_3_9 dX3_worstLoss_68 ?_
        refine v_iload_n hX dX3_worstLoss_71 rfl 2 rfl ?_
        refine alC_42 hX dX3_worstLoss_72 h (fun v6 h => ?_)
        exact v_sub hX [0, 1, 2, 3, 4, 5, 6, 7] (by rfl) (wC_Paths_worstLoss_73 hX hR ih h)
noncomputable def gC_Paths_worstLoss_0 (N : Nat)  (a1 : Int32) (a2 : Int32) (a3 : Int32) (s : vSt) : Option (Int32 × vSt) :=
  (fC_Paths_spread N a1 a3 0 (-1) s).bind fun z1 =>
  (ld z1 42 9 a2).bind fun v2 =>
  if v2 = (-1) then
    some ((-2), z1)
  else
    (some ((-2) : Int32)).bind fun v3 =>
    (some ((-1) : Int32)).bind fun v4 =>
    gC_Paths_worstLoss_31 N N a1 a2 a3 v3 v4 0 z1
set_option maxRecDepth 4000 in
theorem wC_Paths_worstLoss_0 {P : vP} {l : Launch} {ad : Nat → Nat} {N : Nat} {r : Int32} {t1 : vSt} (hX : vOK P l shC ad (vR 3 74) cX3_worstLoss RX3 9) (hR : (∀ pc lv, narrow .int (.int r) = .int r → decode cX3_worstLoss pc = .ok (.ireturn, 1) → P t1 pc lv [.int r]))  {a1 : Int32} {a2 : Int32} {a3 : Int32} {s : vSt} (h : gC_Paths_worstLoss_0 N a1 a2 a3 s = some (r, t1)) : P s 0 [(0, .ref (ad 41)), (1, .int a1), (2, .int a2), (3, .int a3), (4, .ref (ad 3))] [] := by
  unfold gC_Paths_worstLoss_0 at h
  refine v_aload_n hX dX3_worstLoss_0 rfl 0 rfl ?_
  refine v_iload_n hX dX3_worstLoss_1 rfl 1 rfl ?_
  refine v_iload_n hX dX3_worstLoss_2 rfl 3 rfl ?_
  refine v_iconst (v := 0) hX dX3_worstLoss_3 (by decide) ?_
  refine v_iconst (v := (-1)) hX dX3_worstLoss_4 (by decide) ?_
  obtain ⟨z1, hz1, h⟩ := bsome h
  refine v_callVV (o := 41) hX (mC_Paths_spread hz1 l ad) kM_X3_spread kV_X3_spread km_3_132 (by decide) (fun _ => rfl) rfl rfl rfl (Nat.le_of_ble_eq_true rfl) (by decide) dX3_worstLoss_5 ?_
  refine v_aload_n hX dX3_worstLoss_8 rfl 0 rfl ?_
  refine gfC_41_0 hX kf_3_9 dX3_worstLoss_9 ?_
  refine v_iload_n hX dX3_worstLoss_12 rfl 2 rfl ?_
  refine alC_42 hX dX3_worstLoss_13 h (fun v2 h => ?_)
  refine v_iconst (v := (-1)) hX dX3_worstLoss_14 (by decide) ?_
  refine v_icmp_ne (tgt := 21) hX dX3_worstLoss_15 (by decide) h (fun h => ?_) (fun h => ?_)
  · refine v_bipush (v := (-2)) hX dX3_worstLoss_18 (by decide) ?_
    exact v_retI hR h dX3_worstLoss_20
  · refine v_bipush (v := (-2)) hX dX3_worstLoss_21 (by decide) ?_
    refine v_nmI hX h (fun v3 h => ?_)
    refine v_istore (lv' := [(5, .int v3), (0, .ref (ad 41)), (1, .int a1), (2, .int a2), (3, .int a3), (4, .ref (ad 3))]) hX dX3_worstLoss_23 (by decide) rfl ?_
    refine v_iconst (v := (-1)) hX dX3_worstLoss_25 (by decide) ?_
    refine v_nmI hX h (fun v4 h => ?_)
    refine v_istore (lv' := [(6, .int v4), (5, .int v3), (0, .ref (ad 41)), (1, .int a1), (2, .int a2), (3, .int a3), (4, .ref (ad 3))]) hX dX3_worstLoss_26 (by decide) rfl ?_
    refine v_iconst (v := 0) hX dX3_worstLoss_28 (by decide) ?_
    refine v_istore (lv' := [(7, .int 0), (6, .int v4), (5, .int v3), (0, .ref (ad 41)), (1, .int a1), (2, .int a2), (3, .int a3), (4, .ref (ad 3))]) hX dX3_worstLoss_29 (by decide) rfl ?_
    exact v_sub hX [3, 4, 5, 6, 7, 2, 1, 0] (by rfl) (wC_Paths_worstLoss_31 hX hR  N _ _ _ _ _ _ _ h)
noncomputable def fC_Paths_worstLoss (N : Nat) (a1 : Int32) (a2 : Int32) (a3 : Int32) (s : vSt) : Option (Int32 × vSt) := gC_Paths_worstLoss_0 N a1 a2 a3 s
theorem mC_Paths_worstLoss {N : Nat} {a1 : Int32} {a2 : Int32} {a3 : Int32} {s : vSt} {r : Int32} {t1 : vSt} (h : fC_Paths_worstLoss N a1 a2 a3 s = some (r, t1)) (l : Launch) (ad : Nat → Nat) : vMI l shC ad yX3_worstLoss cX3_worstLoss 9 .int 3 74 s [.ref (ad 41), .int a1, .int a2, .int a3, .ref (ad 3)] r t1 :=
  vMI_of (by decide +kernel) (Nat.le_of_ble_eq_true rfl) (fun P hX hR => wC_Paths_worstLoss_0 hX hR h)
-- C_EachAddsALine_worst
noncomputable def gC_EachAddsALine_worst_0 (N : Nat)  (a1 : Int32) (a2 : Int32) (a3 : Int32) (s : vSt) : Option (Int32 × vSt) :=
  (fC_EachAddsALine_isTrip N a1 a2 a3 s).bind fun p1 =>
  if p1.1 = 0 then
    some ((-1), p1.2)
  else
    (fC_Paths_worstLoss N a1 a2 a3 p1.2).bind fun p2 =>
    some (p2.1, p2.2)
set_option maxRecDepth 4000 in
theorem wC_EachAddsALine_worst_0 {P : vP} {l : Launch} {ad : Nat → Nat} {N : Nat} {r : Int32} {t1 : vSt} (hX : vOK P l shC ad (vR 4 102) cX11_worst RX11 4) (hR : (∀ pc lv, narrow .int (.int r) = .int r → decode cX11_worst pc = .ok (.ireturn, 1) → P t1 pc lv [.int r]))  {a1 : Int32} {a2 : Int32} {a3 : Int32} {s : vSt} (h : gC_EachAddsALine_worst_0 N a1 a2 a3 s = some (r, t1)) : P s 0 [(0, .ref (ad 0)), (1, .int a1), (2, .int a2), (3, .int a3)] [] := by
  unfold gC_EachAddsALine_worst_0 at h
  refine v_aload_n hX dX11_worst_0 rfl 0 rfl ?_
  refine v_iload_n hX dX11_worst_1 rfl 1 rfl ?_
  refine v_iload_n hX dX11_worst_2 rfl 2 rfl ?_
  refine v_iload_n hX dX11_worst_3 rfl 3 rfl ?_
  obtain ⟨p1, hp1, h⟩ := bsome h
  refine v_callVI (o := 0) hX (mC_EachAddsALine_isTrip hp1 l ad) kM_X11_isTrip kV_X11_isTrip km_11_201 (by decide) (fun _ => rfl) rfl rfl rfl (Nat.le_of_ble_eq_true rfl) (by decide) dX11_worst_4 ?_
  refine v_if_eq (tgt := 27) hX dX11_worst_7 (by decide) h (fun h => ?_) (fun h => ?_)
  · refine v_iconst (v := (-1)) hX dX11_worst_27 (by decide) ?_
    exact v_retI hR h dX11_worst_28
  · refine v_aload_n hX dX11_worst_10 rfl 0 rfl ?_
    refine gfC_0_7 hX kf_11_69 dX11_worst_11 ?_
    refine v_iload_n hX dX11_worst_14 rfl 1 rfl ?_
    refine v_iload_n hX dX11_worst_15 rfl 2 rfl ?_
    refine v_iload_n hX dX11_worst_16 rfl 3 rfl ?_
    refine v_aload_n hX dX11_worst_17 rfl 0 rfl ?_
    refine gfC_0_1 hX kf_11_19 dX11_worst_18 ?_
    obtain ⟨p2, hp2, h⟩ := bsome h
    refine v_callVI (o := 41) hX (mC_Paths_worstLoss hp2 l ad) kM_X3_worstLoss kV_X3_worstLoss km_11_253 (by decide) (fun _ => rfl) rfl rfl rfl (Nat.le_of_ble_eq_true rfl) (by decide) dX11_worst_21 ?_
    refine v_goto (tgt := 28) hX dX11_worst_24 (by decide) ?_
    exact v_retI hR h dX11_worst_28
noncomputable def fC_EachAddsALine_worst (N : Nat) (a1 : Int32) (a2 : Int32) (a3 : Int32) (s : vSt) : Option (Int32 × vSt) := gC_EachAddsALine_worst_0 N a1 a2 a3 s
theorem mC_EachAddsALine_worst {N : Nat} {a1 : Int32} {a2 : Int32} {a3 : Int32} {s : vSt} {r : Int32} {t1 : vSt} (h : fC_EachAddsALine_worst N a1 a2 a3 s = some (r, t1)) (l : Launch) (ad : Nat → Nat) : vMI l shC ad yX11_worst cX11_worst 4 .int 4 102 s [.ref (ad 0), .int a1, .int a2, .int a3] r t1 :=
  vMI_of (by decide +kernel) (Nat.le_of_ble_eq_true rfl) (fun P hX hR => wC_EachAddsALine_worst_0 hX hR h)
-- C_EachAddsALine_wayFault
noncomputable def gC_EachAddsALine_wayFault_2 (N : Nat)  : Nat → Int32 → vSt → Option (Int32 × vSt)
  | 0, _, _ => none
  | n + 1, a1, s =>
    if (s.1 1 1) ≤ a1 then
      some ((-1), s)
    else
      if 30 ≤ a1 then
        some (a1, s)
      else
        (fC_Text_signAt N a1 s).bind fun p1 =>
        (fC_Roads_hasPerson N (p1.1 - 97) p1.2).bind fun p2 =>
        if p2.1 = 0 then
          some (a1, p2.2)
        else
          (some (a1 + 1 : Int32)).bind fun v3 =>
          gC_EachAddsALine_wayFault_2 N n v3 p2.2
set_option maxRecDepth 4000 in
theorem wC_EachAddsALine_wayFault_2 {P : vP} {l : Launch} {ad : Nat → Nat} {N : Nat} {r : Int32} {t1 : vSt} (hX : vOK P l shC ad (vR 1 21) cX11_wayFault RX11 2) (hR : (∀ pc lv, narrow .int (.int r) = .int r → decode cX11_wayFault pc = .ok (.ireturn, 1) → P t1 pc lv [.int r]))  : ∀ (n : Nat) (a1 : Int32) (s : vSt), gC_EachAddsALine_wayFault_2 N n a1 s = some (r, t1) → P s 2 [(0, .ref (ad 0)), (1, .int a1)] [] := by
  intro n
  induction n with
  | zero => intro a1 s h; cases h
  | succ n ih =>
    intro a1 s h
    unfold gC_EachAddsALine_wayFault_2 at h
    refine v_iload_n hX dX11_wayFault_2 rfl 1 rfl ?_
    refine v_aload_n hX dX11_wayFault_3 rfl 0 rfl ?_
    refine gfC_0_0 hX kf_11_12 dX11_wayFault_4 ?_
    refine gfC_1_1 hX kf_11_99 dX11_wayFault_7 ?_
    refine v_icmp_ge (tgt := 48) hX dX11_wayFault_10 (by decide) h (fun h => ?_) (fun h => ?_)
    · refine v_iconst (v := (-1)) hX dX11_wayFault_48 (by decide) ?_
      exact v_retI hR h dX11_wayFault_49
    · refine v_iload_n hX dX11_wayFault_13 rfl 1 rfl ?_
      refine v_bipush (v := 30) hX dX11_wayFault_14 (by decide) ?_
      refine v_icmp_ge (tgt := 40) hX dX11_wayFault_16 (by decide) h (fun h => ?_) (fun h => ?_)
      · refine v_iload_n hX dX11_wayFault_40 rfl 1 rfl ?_
        exact v_retI hR h dX11_wayFault_41
      · refine v_aload_n hX dX11_wayFault_19 rfl 0 rfl ?_
        refine gfC_0_2 hX kf_11_26 dX11_wayFault_20 ?_
        refine v_aload_n hX dX11_wayFault_23 rfl 0 rfl ?_
        refine gfC_0_0 hX kf_11_12 dX11_wayFault_24 ?_
        refine v_iload_n hX dX11_wayFault_27 rfl 1 rfl ?_
        obtain ⟨p1, hp1, h⟩ := bsome h
        refine v_callVI (o := 1) hX (mC_Text_signAt hp1 l ad) kM_X10_signAt kV_X10_signAt km_11_267 (by decide) (fun _ => rfl) rfl rfl rfl (Nat.le_of_ble_eq_true rfl) (by decide) dX11_wayFault_28 ?_
        refine v_bipush (v := 97) hX dX11_wayFault_31 (by decide) ?_
        refine v_isub hX dX11_wayFault_33 ?_
        obtain ⟨p2, hp2, h⟩ := bsome h
        refine v_callVI (o := 9) hX (mC_Roads_hasPerson hp2 l ad) kM_X6_hasPerson kV_X6_hasPerson km_11_114 (by decide) (fun _ => rfl) rfl rfl rfl (Nat.le_of_ble_eq_true rfl) (by decide) dX11_wayFault_34 ?_
        refine v_if_ne (tgt := 42) hX dX11_wayFault_37 (by decide) h (fun h => ?_) (fun h => ?_)
        · refine v_iload_n hX dX11_wayFault_40 rfl 1 rfl ?_
          exact v_retI hR h dX11_wayFault_41
        · refine v_iincN hX dX11_wayFault_42 (j := 1) rfl (c := 1) (by decide) (by decide) h (fun v3 h => ?_)
          refine v_show (lv' := [(1, .int v3), (0, .ref (ad 0))]) hX rfl ?_
          refine v_goto (tgt := 2) hX dX11_wayFault_45 (by decide) ?_
          exact v_sub hX [1, 0] (by rfl) (ih _ _ h)
noncomputable def gC_EachAddsALine_wayFault_0 (N : Nat)   (s : vSt) : Option (Int32 × vSt) :=
  gC_EachAddsALine_wayFault_2 N N 0 s
set_option maxRecDepth 4000 in
theorem wC_EachAddsALine_wayFault_0 {P : vP} {l : Launch} {ad : Nat → Nat} {N : Nat} {r : Int32} {t1 : vSt} (hX : vOK P l shC ad (vR 1 21) cX11_wayFault RX11 2) (hR : (∀ pc lv, narrow .int (.int r) = .int r → decode cX11_wayFault pc = .ok (.ireturn, 1) → P t1 pc lv [.int r]))   {s : vSt} (h : gC_EachAddsALine_wayFault_0 N s = some (r, t1)) : P s 0 [(0, .ref (ad 0))] [] := by
  unfold gC_EachAddsALine_wayFault_0 at h
  refine v_iconst (v := 0) hX dX11_wayFault_0 (by decide) ?_
  refine v_istore_n (lv' := [(1, .int 0), (0, .ref (ad 0))]) hX dX11_wayFault_1 rfl (by decide) rfl ?_
  exact v_sub hX [1, 0] (by rfl) (wC_EachAddsALine_wayFault_2 hX hR  N _ _ h)
noncomputable def fC_EachAddsALine_wayFault (N : Nat)  (s : vSt) : Option (Int32 × vSt) := gC_EachAddsALine_wayFault_0 N s
theorem mC_EachAddsALine_wayFault {N : Nat}  {s : vSt} {r : Int32} {t1 : vSt} (h : fC_EachAddsALine_wayFault N s = some (r, t1)) (l : Launch) (ad : Nat → Nat) : vMI l shC ad yX11_wayFault cX11_wayFault 2 .int 1 21 s [.ref (ad 0)] r t1 :=
  vMI_of (by decide +kernel) (Nat.le_of_ble_eq_true rfl) (fun P hX hR => wC_EachAddsALine_wayFault_0 hX hR h)
-- C_Paths_meetingOf
noncomputable def gC_Paths_meetingOf_77 (N : Nat) (r10 : Int32 → Int32 → Int32 → Int32 → vSt → Option (Int32 × vSt)) (a1 : Int32) (a2 : Int32) (a3 : Int32) (a4 : Int32) (s : vSt) : Option (Int32 × vSt) :=
  (some (a4 + 1 : Int32)).bind fun v1 =>
  r10 a1 a2 a3 v1 s
set_option maxRecDepth 4000 in
theorem wC_Paths_meetingOf_77 {P : vP} {l : Launch} {ad : Nat → Nat} {N : Nat} {r10 : Int32 → Int32 → Int32 → Int32 → vSt → Option (Int32 × vSt)} {r : Int32} {t1 : vSt} (hX : vOK P l shC ad (vR 1 22) cX3_meetingOf RX3 6) (hR : (∀ pc lv, narrow .int (.int r) = .int r → decode cX3_meetingOf pc = .ok (.ireturn, 1) → P t1 pc lv [.int r])) (H10 : ∀ (a1 : Int32) (a2 : Int32) (a3 : Int32) (a4 : Int32) (s : vSt), r10 a1 a2 a3 a4 s = some (r, t1) → P s 10 [(0, .ref (ad 41)), (1, .int a1), (2, .int a2), (3, .int a3), (4, .int a4)] []) {a1 : Int32} {a2 : Int32} {a3 : Int32} {a4 : Int32} {s : vSt} (h : gC_Paths_meetingOf_77 N r10 a1 a2 a3 a4 s = some (r, t1)) : P s 77 [(0, .ref (ad 41)), (1, .int a1), (2, .int a2), (3, .int a3), (4, .int a4)] [] := by
  unfold gC_Paths_meetingOf_77 at h
  refine v_iincN hX dX3_meetingOf_77 (j := 4) rfl (c := 1) (by decide) (by decide) h (fun v1 h => ?_)
  refine v_show (lv' := [(4, .int v1), (0, .ref (ad 41)), (1, .int a1), (2, .int a2), (3, .int a3)]) hX rfl ?_
  refine v_goto (tgt := 10) hX dX3_meetingOf_80 (by decide) ?_
  exact v_sub hX [1, 2, 3, 4, 0] (by rfl) (H10 _ _ _ _ _ h)
noncomputable def gC_Paths_meetingOf_10 (N : Nat)  : Nat → Int32 → Int32 → Int32 → Int32 → vSt → Option (Int32 × vSt)
  | 0, _, _, _, _, _ => none
  | n + 1, a1, a2, a3, a4, s =>
    if (s.1 9 7) ≤ a4 then
      some ((-1), s)
    else
      (ld s 15 20 a4).bind fun v1 =>
      (ld s 13 20 v1).bind fun v2 =>
      if v2 < a3 then
        gC_Paths_meetingOf_77 N (gC_Paths_meetingOf_10 N n) a1 a2 a3 a4 s
      else
        (fC_Roads_isAt N a1 v1 s).bind fun p3 =>
        if p3.1 = 0 then
          gC_Paths_meetingOf_77 N (gC_Paths_meetingOf_10 N n) a1 a2 a3 a4 p3.2
        else
          (fC_Roads_isAt N a2 v1 p3.2).bind fun p4 =>
          if p4.1 = 0 then
            gC_Paths_meetingOf_77 N (gC_Paths_meetingOf_10 N n) a1 a2 a3 a4 p4.2
          else
            some (v1, p4.2)
set_option maxRecDepth 4000 in
theorem wC_Paths_meetingOf_10 {P : vP} {l : Launch} {ad : Nat → Nat} {N : Nat} {r : Int32} {t1 : vSt} (hX : vOK P l shC ad (vR 1 22) cX3_meetingOf RX3 6) (hR : (∀ pc lv, narrow .int (.int r) = .int r → decode cX3_meetingOf pc = .ok (.ireturn, 1) → P t1 pc lv [.int r]))  : ∀ (n : Nat) (a1 : Int32) (a2 : Int32) (a3 : Int32) (a4 : Int32) (s : vSt), gC_Paths_meetingOf_10 N n a1 a2 a3 a4 s = some (r, t1) → P s 10 [(0, .ref (ad 41)), (1, .int a1), (2, .int a2), (3, .int a3), (4, .int a4)] [] := by
  intro n
  induction n with
  | zero => intro a1 a2 a3 a4 s h; cases h
  | succ n ih =>
    intro a1 a2 a3 a4 s h
    unfold gC_Paths_meetingOf_10 at h
    refine v_iload hX dX3_meetingOf_10 4 rfl ?_
    refine v_aload_n hX dX3_meetingOf_12 rfl 0 rfl ?_
    refine gfC_41_3 hX kf_3_25 dX3_meetingOf_13 ?_
    refine gfC_9_7 hX kf_3_35 dX3_meetingOf_16 ?_
    refine v_icmp_ge (tgt := 83) hX dX3_meetingOf_19 (by decide) h (fun h => ?_) (fun h => ?_)
    · refine v_iconst (v := (-1)) hX dX3_meetingOf_83 (by decide) ?_
      exact v_retI hR h dX3_meetingOf_84
    · refine v_aload_n hX dX3_meetingOf_22 rfl 0 rfl ?_
      refine gfC_41_3 hX kf_3_25 dX3_meetingOf_23 ?_
      refine gfC_9_5 hX kf_3_38 dX3_meetingOf_26 ?_
      refine v_iload hX dX3_meetingOf_29 4 rfl ?_
      refine alC_15 hX dX3_meetingOf_31 h (fun v1 h => ?_)
      refine v_istore (lv' := [(5, .int v1), (0, .ref (ad 41)), (1, .int a1), (2, .int a2), (3, .int a3), (4, .int a4)]) hX dX3_meetingOf_32 (by decide) rfl ?_
      refine v_aload_n hX dX3_meetingOf_34 rfl 1 rfl ?_
      refine gfC_41_3 hX kf_3_25 dX3_meetingOf_35 ?_
      refine gfC_9_3 hX kf_3_41 dX3_meetingOf_38 ?_
      refine v_iload hX dX3_meetingOf_41 0 rfl ?_
      refine alC_13 hX dX3_meetingOf_43 h (fun v2 h => ?_)
      refine v_iload_n hX dX3_meetingOf_44 rfl 4 rfl ?_
      refine v_icmp_lt (tgt := 77) hX dX3_meetingOf_45 (by decide) h (fun h => ?_) (fun h => ?_)
      · exact v_sub hX [1, 2, 3, 4, 5] (by rfl) (wC_Paths_meetingOf_77 hX hR ih h)
      · refine v_aload_n hX dX3_meetingOf_48 rfl 1 rfl ?_
        refine gfC_41_3 hX kf_3_25 dX3_meetingOf_49 ?_
        refine v_iload_n hX dX3_meetingOf_52 rfl 2 rfl ?_
        refine v_iload hX dX3_meetingOf_53 0 rfl ?_
        obtain ⟨p3, hp3, h⟩ := bsome h
        refine v_callVI (o := 9) hX (mC_Roads_isAt hp3 l ad) kM_X6_isAt kV_X6_isAt km_3_92 (by decide) (fun _ => rfl) rfl rfl rfl (Nat.le_of_ble_eq_true rfl) (by decide) dX3_meetingOf_55 ?_
        refine v_if_eq (tgt := 77) hX dX3_meetingOf_58 (by decide) h (fun h => ?_) (fun h => ?_)
        · exact v_sub hX [1, 2, 3, 4, 5] (by rfl) (wC_Paths_meetingOf_77 hX hR ih h)
        · refine v_aload_n hX dX3_meetingOf_61 rfl 1 rfl ?_
          refine gfC_41_3 hX kf_3_25 dX3_meetingOf_62 ?_
          refine v_iload_n hX dX3_meetingOf_65 rfl 3 rfl ?_
          refine v_iload hX dX3_meetingOf_66 0 rfl ?_
          obtain ⟨p4, hp4, h⟩ := bsome h
          refine v_callVI (o := 9) hX (mC_Roads_isAt hp4 l ad) kM_X6_isAt kV_X6_isAt km_3_92 (by decide) (fun _ => rfl) rfl rfl rfl (Nat.le_of_ble_eq_true rfl) (by decide) dX3_meetingOf_68 ?_
          refine v_if_eq (tgt := 77) hX dX3_meetingOf_71 (by decide) h (fun h => ?_) (fun h => ?_)
          · exact v_sub hX [1, 2, 3, 4, 5] (by rfl) (wC_Paths_meetingOf_77 hX hR ih h)
          · refine v_iload hX dX3_meetingOf_74 0 rfl ?_
            exact v_retI hR h dX3_meetingOf_76
noncomputable def gC_Paths_meetingOf_0 (N : Nat)  (a1 : Int32) (a2 : Int32) (a3 : Int32) (s : vSt) : Option (Int32 × vSt) :=
  if a1 = a2 then
    some ((-1), s)
  else
    gC_Paths_meetingOf_10 N N a1 a2 a3 0 s
set_option maxRecDepth 4000 in
theorem wC_Paths_meetingOf_0 {P : vP} {l : Launch} {ad : Nat → Nat} {N : Nat} {r : Int32} {t1 : vSt} (hX : vOK P l shC ad (vR 1 22) cX3_meetingOf RX3 6) (hR : (∀ pc lv, narrow .int (.int r) = .int r → decode cX3_meetingOf pc = .ok (.ireturn, 1) → P t1 pc lv [.int r]))  {a1 : Int32} {a2 : Int32} {a3 : Int32} {s : vSt} (h : gC_Paths_meetingOf_0 N a1 a2 a3 s = some (r, t1)) : P s 0 [(0, .ref (ad 41)), (1, .int a1), (2, .int a2), (3, .int a3)] [] := by
  unfold gC_Paths_meetingOf_0 at h
  refine v_iload_n hX dX3_meetingOf_0 rfl 1 rfl ?_
  refine v_iload_n hX dX3_meetingOf_1 rfl 2 rfl ?_
  refine v_icmp_ne (tgt := 7) hX dX3_meetingOf_2 (by decide) h (fun h => ?_) (fun h => ?_)
  · refine v_iconst (v := (-1)) hX dX3_meetingOf_5 (by decide) ?_
    exact v_retI hR h dX3_meetingOf_6
  · refine v_iconst (v := 0) hX dX3_meetingOf_7 (by decide) ?_
    refine v_istore (lv' := [(4, .int 0), (0, .ref (ad 41)), (1, .int a1), (2, .int a2), (3, .int a3)]) hX dX3_meetingOf_8 (by decide) rfl ?_
    exact v_sub hX [1, 2, 3, 4, 0] (by rfl) (wC_Paths_meetingOf_10 hX hR  N _ _ _ _ _ h)
noncomputable def fC_Paths_meetingOf (N : Nat) (a1 : Int32) (a2 : Int32) (a3 : Int32) (s : vSt) : Option (Int32 × vSt) := gC_Paths_meetingOf_0 N a1 a2 a3 s
theorem mC_Paths_meetingOf {N : Nat} {a1 : Int32} {a2 : Int32} {a3 : Int32} {s : vSt} {r : Int32} {t1 : vSt} (h : fC_Paths_meetingOf N a1 a2 a3 s = some (r, t1)) (l : Launch) (ad : Nat → Nat) : vMI l shC ad yX3_meetingOf cX3_meetingOf 6 .int 1 22 s [.ref (ad 41), .int a1, .int a2, .int a3] r t1 :=
  vMI_of (by decide +kernel) (Nat.le_of_ble_eq_true rfl) (fun P hX hR => wC_Paths_meetingOf_0 hX hR h)
-- C_Paths_tellFollowed
noncomputable def gC_Paths_tellFollowed_14 (N : Nat)  : Nat → Int32 → Int32 → Int32 → vSt → Option (vSt)
  | 0, _, _, _, _ => none
  | n + 1, a5, a6, a7, s =>
    if (s.1 1 1) ≤ a7 then
      some s
    else
      (fC_Text_signAt N a7 s).bind fun p1 =>
      (some (p1.1 - 97 : Int32)).bind fun v2 =>
      (fC_Paths_meetingOf N a5 v2 a6 p1.2).bind fun p3 =>
      if p3.1 = (-1) then
        some p3.2
      else
        (fC_Numbers_add_row N p3.1 p3.2).bind fun z4 =>
        (fC_Roads_placeOf N p3.1 v2 z4).bind fun p5 =>
        (fC_Roads_readyAt N p5.1 p5.2).bind fun p6 =>
        (some (a7 + 1 : Int32)).bind fun v7 =>
        gC_Paths_tellFollowed_14 N n v2 p6.1 v7 p6.2
set_option maxRecDepth 4000 in
theorem wC_Paths_tellFollowed_14 {P : vP} {l : Launch} {ad : Nat → Nat} {N : Nat} {t1 : vSt} (hX : vOK P l shC ad (vR 2 47) cX3_tellFollowed RX3 10) (hR : (∀ pc lv, decode cX3_tellFollowed pc = .ok (.return_, 1) → P t1 pc lv []))  : ∀ (n : Nat) (a5 : Int32) (a6 : Int32) (a7 : Int32) (s : vSt), gC_Paths_tellFollowed_14 N n a5 a6 a7 s = some t1 → P s 14 [(0, .ref (ad 41)), (1, .ref (ad 1)), (4, .ref (ad 3)), (5, .int a5), (6, .int a6), (7, .int a7)] [] := by
  intro n
  induction n with
  | zero => intro a5 a6 a7 s h; cases h
  | succ n ih =>
    intro a5 a6 a7 s h
    unfold gC_Paths_tellFollowed_14 at h
    refine v_iload hX dX3_tellFollowed_14 5 rfl ?_
    refine v_aload_n hX dX3_tellFollowed_16 rfl 1 rfl ?_
    refine gfC_1_1 hX kf_3_143 dX3_tellFollowed_17 ?_
    refine v_icmp_ge (tgt := 90) hX dX3_tellFollowed_20 (by decide) h (fun h => ?_) (fun h => ?_)
    · exact v_retV hR h dX3_tellFollowed_90
    · refine v_aload_n hX dX3_tellFollowed_23 rfl 1 rfl ?_
      refine v_iload hX dX3_tellFollowed_24 5 rfl ?_
      obtain ⟨p1, hp1, h⟩ := bsome h
      refine v_callVI (o := 1) hX (mC_Text_signAt hp1 l ad) kM_X10_signAt kV_X10_signAt km_3_148 (by decide) (fun _ => rfl) rfl rfl rfl (Nat.le_of_ble_eq_true rfl) (by decide) dX3_tellFollowed_26 ?_
      refine v_bipush (v := 97) hX dX3_tellFollowed_29 (by decide) ?_
      refine v_isub hX dX3_tellFollowed_31 ?_
      refine v_nmI hX h (fun v2 h => ?_)
      refine v_istore (lv' := [(8, .int v2), (0, .ref (ad 41)), (1, .ref (ad 1)), (4, .ref (ad 3)), (5, .int a5), (6, .int a6), (7, .int a7)]) hX dX3_tellFollowed_32 (by decide) rfl ?_
      refine v_aload_n hX dX3_tellFollowed_34 rfl 1 rfl ?_
      refine v_iload hX dX3_tellFollowed_35 4 rfl ?_
      refine v_iload hX dX3_tellFollowed_37 0 rfl ?_
      refine v_iload hX dX3_tellFollowed_39 5 rfl ?_
      obtain ⟨p3, hp3, h⟩ := bsome h
      refine v_callVI (o := 41) hX (mC_Paths_meetingOf hp3 l ad) kM_X3_meetingOf kV_X3_meetingOf km_3_151 (by decide) (fun _ => rfl) rfl rfl rfl (Nat.le_of_ble_eq_true rfl) (by decide) dX3_tellFollowed_41 ?_
      refine v_istore (lv' := [(9, .int p3.1), (8, .int v2), (0, .ref (ad 41)), (1, .ref (ad 1)), (4, .ref (ad 3)), (5, .int a5), (6, .int a6), (7, .int a7)]) hX dX3_tellFollowed_44 (by decide) rfl ?_
      refine v_iload hX dX3_tellFollowed_46 0 rfl ?_
      refine v_iconst (v := (-1)) hX dX3_tellFollowed_48 (by decide) ?_
      refine v_icmp_ne (tgt := 53) hX dX3_tellFollowed_49 (by decide) h (fun h => ?_) (fun h => ?_)
      · exact v_retV hR h dX3_tellFollowed_52
      · refine v_aload hX dX3_tellFollowed_53 4 rfl ?_
        refine v_iload hX dX3_tellFollowed_55 0 rfl ?_
        obtain ⟨z4, hz4, h⟩ := bsome h
        refine v_callVV (o := 3) hX (mC_Numbers_add_row hz4 l ad) kM_X2_add kV_X2_add km_3_112 (by decide) (fun _ => rfl) rfl rfl rfl (Nat.le_of_ble_eq_true rfl) (by decide) dX3_tellFollowed_57 ?_
        refine v_iload hX dX3_tellFollowed_60 1 rfl ?_
        refine v_istore (lv' := [(5, .int v2), (9, .int p3.1), (8, .int v2), (0, .ref (ad 41)), (1, .ref (ad 1)), (4, .ref (ad 3)), (6, .int a6), (7, .int a7)]) hX dX3_tellFollowed_62 (by decide) rfl ?_
        refine v_aload_n hX dX3_tellFollowed_64 rfl 3 rfl ?_
        refine gfC_41_3 hX kf_3_25 dX3_tellFollowed_65 ?_
        refine v_aload_n hX dX3_tellFollowed_68 rfl 3 rfl ?_
        refine gfC_41_3 hX kf_3_25 dX3_tellFollowed_69 ?_
        refine v_iload hX dX3_tellFollowed_72 1 rfl ?_
        refine v_iload hX dX3_tellFollowed_74 0 rfl ?_
        obtain ⟨p5, hp5, h⟩ := bsome h
        refine v_callVI (o := 9) hX (mC_Roads_placeOf hp5 l ad) kM_X6_placeOf kV_X6_placeOf km_3_95 (by decide) (fun _ => rfl) rfl rfl rfl (Nat.le_of_ble_eq_true rfl) (by decide) dX3_tellFollowed_76 ?_
        obtain ⟨p6, hp6, h⟩ := bsome h
        refine v_callVI (o := 9) hX (mC_Roads_readyAt hp6 l ad) kM_X6_readyAt kV_X6_readyAt km_3_77 (by decide) (fun _ => rfl) rfl rfl rfl (Nat.le_of_ble_eq_true rfl) (by decide) dX3_tellFollowed_79 ?_
        refine v_istore (lv' := [(6, .int p6.1), (5, .int v2), (9, .int p3.1), (8, .int v2), (0, .ref (ad 41)), (1, .ref (ad 1)), (4, .ref (ad 3)), (7, .int a7)]) hX dX3_tellFollowed_82 (by decide) rfl ?_
        refine v_iincN hX dX3_tellFollowed_84 (j := 7) rfl (c := 1) (by decide) (by decide) h (fun v7 h => ?_)
        refine v_show (lv' := [(7, .int v7), (6, .int p6.1), (5, .int v2), (9, .int p3.1), (8, .int v2), (0, .ref (ad 41)), (1, .ref (ad 1)), (4, .ref (ad 3))]) hX rfl ?_
        refine v_goto (tgt := 14) hX dX3_tellFollowed_87 (by decide) ?_
        exact v_sub hX [5, 6, 7, 2, 1, 0] (by rfl) (ih _ _ _ _ h)
noncomputable def gC_Paths_tellFollowed_0 (N : Nat)  (a2 : Int32) (a3 : Int32) (s : vSt) : Option (vSt) :=
  (fC_Numbers_clear_row N s).bind fun z1 =>
  gC_Paths_tellFollowed_14 N N a2 a3 0 z1
set_option maxRecDepth 4000 in
theorem wC_Paths_tellFollowed_0 {P : vP} {l : Launch} {ad : Nat → Nat} {N : Nat} {t1 : vSt} (hX : vOK P l shC ad (vR 2 47) cX3_tellFollowed RX3 10) (hR : (∀ pc lv, decode cX3_tellFollowed pc = .ok (.return_, 1) → P t1 pc lv []))  {a2 : Int32} {a3 : Int32} {s : vSt} (h : gC_Paths_tellFollowed_0 N a2 a3 s = some t1) : P s 0 [(0, .ref (ad 41)), (1, .ref (ad 1)), (2, .int a2), (3, .int a3), (4, .ref (ad 3))] [] := by
  unfold gC_Paths_tellFollowed_0 at h
  refine v_iload_n hX dX3_tellFollowed_0 rfl 2 rfl ?_
  refine v_istore (lv' := [(5, .int a2), (0, .ref (ad 41)), (1, .ref (ad 1)), (2, .int a2), (3, .int a3), (4, .ref (ad 3))]) hX dX3_tellFollowed_1 (by decide) rfl ?_
  refine v_iload_n hX dX3_tellFollowed_3 rfl 4 rfl ?_
  refine v_istore (lv' := [(6, .int a3), (5, .int a2), (0, .ref (ad 41)), (1, .ref (ad 1)), (2, .int a2), (3, .int a3), (4, .ref (ad 3))]) hX dX3_tellFollowed_4 (by decide) rfl ?_
  refine v_aload hX dX3_tellFollowed_6 6 rfl ?_
  obtain ⟨z1, hz1, h⟩ := bsome h
  refine v_callVV (o := 3) hX (mC_Numbers_clear_row hz1 l ad) kM_X2_clear kV_X2_clear km_3_104 (by decide) (fun _ => rfl) rfl rfl rfl (Nat.le_of_ble_eq_true rfl) (by decide) dX3_tellFollowed_8 ?_
  refine v_iconst (v := 0) hX dX3_tellFollowed_11 (by decide) ?_
  refine v_istore (lv' := [(7, .int 0), (6, .int a3), (5, .int a2), (0, .ref (ad 41)), (1, .ref (ad 1)), (2, .int a2), (3, .int a3), (4, .ref (ad 3))]) hX dX3_tellFollowed_12 (by decide) rfl ?_
  exact v_sub hX [3, 4, 7, 2, 1, 0] (by rfl) (wC_Paths_tellFollowed_14 hX hR  N _ _ _ _ h)
noncomputable def fC_Paths_tellFollowed (N : Nat) (a2 : Int32) (a3 : Int32) (s : vSt) : Option (vSt) := gC_Paths_tellFollowed_0 N a2 a3 s
theorem mC_Paths_tellFollowed {N : Nat} {a2 : Int32} {a3 : Int32} {s : vSt} {t1 : vSt} (h : fC_Paths_tellFollowed N a2 a3 s = some t1) (l : Launch) (ad : Nat → Nat) : vMV l shC ad yX3_tellFollowed cX3_tellFollowed 10 2 47 s [.ref (ad 41), .ref (ad 1), .int a2, .int a3, .ref (ad 3)] t1 :=
  vMV_of (by decide +kernel) (Nat.le_of_ble_eq_true rfl) (fun P hX hR => wC_Paths_tellFollowed_0 hX hR h)
-- C_Paths_follow
noncomputable def gC_Paths_follow_12 (N : Nat)  : Nat → Int32 → Int32 → Int32 → Int32 → Int32 → Int32 → vSt → Option (Int32 × vSt)
  | 0, _, _, _, _, _, _, _ => none
  | n + 1, a2, a3, a5, a6, a7, a8, s =>
    if (s.1 1 1) ≤ a8 then
      (fC_Paths_tellFollowed N a2 a3 s).bind fun z1 =>
      some (a7, z1)
    else
      (fC_Text_signAt N a8 s).bind fun p2 =>
      (fC_Paths_meetingOf N a5 (p2.1 - 97) a6 p2.2).bind fun p3 =>
      if p3.1 = (-1) then
        some (((-100) : Int32) - a8, p3.2)
      else
        (fC_Text_signAt N a8 p3.2).bind fun p4 =>
        (some (p4.1 - 97 : Int32)).bind fun v5 =>
        (ld p4.2 13 20 p3.1).bind fun v6 =>
        (fC_Roads_placeOf N p3.1 v5 p4.2).bind fun p7 =>
        (fC_Roads_readyAt N p7.1 p7.2).bind fun p8 =>
        (some (a8 + 1 : Int32)).bind fun v9 =>
        gC_Paths_follow_12 N n a2 a3 v5 p8.1 v6 v9 p8.2
set_option maxRecDepth 4000 in
theorem wC_Paths_follow_12 {P : vP} {l : Launch} {ad : Nat → Nat} {N : Nat} {r : Int32} {t1 : vSt} (hX : vOK P l shC ad (vR 3 76) cX3_follow RX3 10) (hR : (∀ pc lv, narrow .int (.int r) = .int r → decode cX3_follow pc = .ok (.ireturn, 1) → P t1 pc lv [.int r]))  : ∀ (n : Nat) (a2 : Int32) (a3 : Int32) (a5 : Int32) (a6 : Int32) (a7 : Int32) (a8 : Int32) (s : vSt), gC_Paths_follow_12 N n a2 a3 a5 a6 a7 a8 s = some (r, t1) → P s 12 [(0, .ref (ad 41)), (1, .ref (ad 1)), (2, .int a2), (3, .int a3), (4, .ref (ad 3)), (5, .int a5), (6, .int a6), (7, .int a7), (8, .int a8)] [] := by
  intro n
  induction n with
  | zero => intro a2 a3 a5 a6 a7 a8 s h; cases h
  | succ n ih =>
    intro a2 a3 a5 a6 a7 a8 s h
    unfold gC_Paths_follow_12 at h
    refine v_iload hX dX3_follow_12 8 rfl ?_
    refine v_aload_n hX dX3_follow_14 rfl 1 rfl ?_
    refine gfC_1_1 hX kf_3_143 dX3_follow_15 ?_
    refine v_icmp_ge (tgt := 101) hX dX3_follow_18 (by decide) h (fun h => ?_) (fun h => ?_)
    · refine v_aload_n hX dX3_follow_101 rfl 0 rfl ?_
      refine v_aload_n hX dX3_follow_102 rfl 1 rfl ?_
      refine v_iload_n hX dX3_follow_103 rfl 2 rfl ?_
      refine v_iload_n hX dX3_follow_104 rfl 3 rfl ?_
      refine v_aload hX dX3_follow_105 4 rfl ?_
      obtain ⟨z1, hz1, h⟩ := bsome h
      refine v_callVV (o := 41) hX (mC_Paths_tellFollowed hz1 l ad) kM_X3_tellFollowed kV_X3_tellFollowed km_3_154 (by decide) (fun _ => rfl) rfl rfl rfl (Nat.le_of_ble_eq_true rfl) (by decide) dX3_follow_107 ?_
      refine v_iload hX dX3_follow_110 7 rfl ?_
      exact v_retI hR h dX3_follow_112
    · refine v_aload_n hX dX3_follow_21 rfl 0 rfl ?_
      refine v_iload hX dX3_follow_22 5 rfl ?_
      refine v_aload_n hX dX3_follow_24 rfl 1 rfl ?_
      refine v_iload hX dX3_follow_25 8 rfl ?_
      obtain ⟨p2, hp2, h⟩ := bsome h
      refine v_callVI (o := 1) hX (mC_Text_signAt hp2 l ad) kM_X10_signAt kV_X10_signAt km_3_148 (by decide) (fun _ => rfl) rfl rfl rfl (Nat.le_of_ble_eq_true rfl) (by decide) dX3_follow_27 ?_
      refine v_bipush (v := 97) hX dX3_follow_30 (by decide) ?_
      refine v_isub hX dX3_follow_32 ?_
      refine v_iload hX dX3_follow_33 6 rfl ?_
      obtain ⟨p3, hp3, h⟩ := bsome h
      refine v_callVI (o := 41) hX (mC_Paths_meetingOf hp3 l ad) kM_X3_meetingOf kV_X3_meetingOf km_3_151 (by decide) (fun _ => rfl) rfl rfl rfl (Nat.le_of_ble_eq_true rfl) (by decide) dX3_follow_35 ?_
      refine v_istore (lv' := [(9, .int p3.1), (0, .ref (ad 41)), (1, .ref (ad 1)), (2, .int a2), (3, .int a3), (4, .ref (ad 3)), (5, .int a5), (6, .int a6), (7, .int a7), (8, .int a8)]) hX dX3_follow_38 (by decide) rfl ?_
      refine v_iload hX dX3_follow_40 0 rfl ?_
      refine v_iconst (v := (-1)) hX dX3_follow_42 (by decide) ?_
      refine v_icmp_ne (tgt := 52) hX dX3_follow_43 (by decide) h (fun h => ?_) (fun h => ?_)
      · refine v_bipush (v := (-100)) hX dX3_follow_46 (by decide) ?_
        refine v_iload hX dX3_follow_48 9 rfl ?_
        refine v_isub hX dX3_follow_50 ?_
        exact v_retI hR h dX3_follow_51
      · refine v_aload_n hX dX3_follow_52 rfl 2 rfl ?_
        refine v_iload hX dX3_follow_53 9 rfl ?_
        obtain ⟨p4, hp4, h⟩ := bsome h
        refine v_callVI (o := 1) hX (mC_Text_signAt hp4 l ad) kM_X10_signAt kV_X10_signAt km_3_148 (by decide) (fun _ => rfl) rfl rfl rfl (Nat.le_of_ble_eq_true rfl) (by decide) dX3_follow_55 ?_
        refine v_bipush (v := 97) hX dX3_follow_58 (by decide) ?_
        refine v_isub hX dX3_follow_60 ?_
        refine v_nmI hX h (fun v5 h => ?_)
        refine v_istore (lv' := [(5, .int v5), (9, .int p3.1), (0, .ref (ad 41)), (1, .ref (ad 1)), (2, .int a2), (3, .int a3), (4, .ref (ad 3)), (6, .int a6), (7, .int a7), (8, .int a8)]) hX dX3_follow_61 (by decide) rfl ?_
        refine v_aload_n hX dX3_follow_63 rfl 2 rfl ?_
        refine gfC_41_3 hX kf_3_25 dX3_follow_64 ?_
        refine gfC_9_3 hX kf_3_41 dX3_follow_67 ?_
        refine v_iload hX dX3_follow_70 1 rfl ?_
        refine alC_13 hX dX3_follow_72 h (fun v6 h => ?_)
        refine v_istore (lv' := [(7, .int v6), (5, .int v5), (9, .int p3.1), (0, .ref (ad 41)), (1, .ref (ad 1)), (2, .int a2), (3, .int a3), (4, .ref (ad 3)), (6, .int a6), (8, .int a8)]) hX dX3_follow_73 (by decide) rfl ?_
        refine v_aload_n hX dX3_follow_75 rfl 3 rfl ?_
        refine gfC_41_3 hX kf_3_25 dX3_follow_76 ?_
        refine v_aload_n hX dX3_follow_79 rfl 3 rfl ?_
        refine gfC_41_3 hX kf_3_25 dX3_follow_80 ?_
        refine v_iload hX dX3_follow_83 2 rfl ?_
        refine v_iload hX dX3_follow_85 1 rfl ?_
        obtain ⟨p7, hp7, h⟩ := bsome h
        refine v_callVI (o := 9) hX (mC_Roads_placeOf hp7 l ad) kM_X6_placeOf kV_X6_placeOf km_3_95 (by decide) (fun _ => rfl) rfl rfl rfl (Nat.le_of_ble_eq_true rfl) (by decide) dX3_follow_87 ?_
        obtain ⟨p8, hp8, h⟩ := bsome h
        refine v_callVI (o := 9) hX (mC_Roads_readyAt hp8 l ad) kM_X6_readyAt kV_X6_readyAt km_3_77 (by decide) (fun _ => rfl) rfl rfl rfl (Nat.le_of_ble_eq_true rfl) (by decide) dX3_follow_90 ?_
        refine v_istore (lv' := [(6, .int p8.1), (7, .int v6), (5, .int v5), (9, .int p3.1), (0, .ref (ad 41)), (1, .ref (ad 1)), (2, .int a2), (3, .int a3), (4, .ref (ad 3)), (8, .int a8)]) hX dX3_follow_93 (by decide) rfl ?_
        refine v_iincN hX dX3_follow_95 (j := 9) rfl (c := 1) (by decide) (by decide) h (fun v9 h => ?_)
        refine v_show (lv' := [(8, .int v9), (6, .int p8.1), (7, .int v6), (5, .int v5), (9, .int p3.1), (0, .ref (ad 41)), (1, .ref (ad 1)), (2, .int a2), (3, .int a3), (4, .ref (ad 3))]) hX rfl ?_
        refine v_goto (tgt := 12) hX dX3_follow_98 (by decide) ?_
        exact v_sub hX [5, 6, 7, 8, 9, 3, 1, 2, 0] (by rfl) (ih _ _ _ _ _ _ _ h)
noncomputable def gC_Paths_follow_0 (N : Nat)  (a2 : Int32) (a3 : Int32) (s : vSt) : Option (Int32 × vSt) :=
  gC_Paths_follow_12 N N a2 a3 a2 a3 a3 0 s
set_option maxRecDepth 4000 in
theorem wC_Paths_follow_0 {P : vP} {l : Launch} {ad : Nat → Nat} {N : Nat} {r : Int32} {t1 : vSt} (hX : vOK P l shC ad (vR 3 76) cX3_follow RX3 10) (hR : (∀ pc lv, narrow .int (.int r) = .int r → decode cX3_follow pc = .ok (.ireturn, 1) → P t1 pc lv [.int r]))  {a2 : Int32} {a3 : Int32} {s : vSt} (h : gC_Paths_follow_0 N a2 a3 s = some (r, t1)) : P s 0 [(0, .ref (ad 41)), (1, .ref (ad 1)), (2, .int a2), (3, .int a3), (4, .ref (ad 3))] [] := by
  unfold gC_Paths_follow_0 at h
  refine v_iload_n hX dX3_follow_0 rfl 2 rfl ?_
  refine v_istore (lv' := [(5, .int a2), (0, .ref (ad 41)), (1, .ref (ad 1)), (2, .int a2), (3, .int a3), (4, .ref (ad 3))]) hX dX3_follow_1 (by decide) rfl ?_
  refine v_iload_n hX dX3_follow_3 rfl 4 rfl ?_
  refine v_istore (lv' := [(6, .int a3), (5, .int a2), (0, .ref (ad 41)), (1, .ref (ad 1)), (2, .int a2), (3, .int a3), (4, .ref (ad 3))]) hX dX3_follow_4 (by decide) rfl ?_
  refine v_iload_n hX dX3_follow_6 rfl 5 rfl ?_
  refine v_istore (lv' := [(7, .int a3), (6, .int a3), (5, .int a2), (0, .ref (ad 41)), (1, .ref (ad 1)), (2, .int a2), (3, .int a3), (4, .ref (ad 3))]) hX dX3_follow_7 (by decide) rfl ?_
  refine v_iconst (v := 0) hX dX3_follow_9 (by decide) ?_
  refine v_istore (lv' := [(8, .int 0), (7, .int a3), (6, .int a3), (5, .int a2), (0, .ref (ad 41)), (1, .ref (ad 1)), (2, .int a2), (3, .int a3), (4, .ref (ad 3))]) hX dX3_follow_10 (by decide) rfl ?_
  exact v_sub hX [4, 5, 6, 7, 8, 3, 2, 1, 0] (by rfl) (wC_Paths_follow_12 hX hR  N _ _ _ _ _ _ _ h)
noncomputable def fC_Paths_follow (N : Nat) (a2 : Int32) (a3 : Int32) (s : vSt) : Option (Int32 × vSt) := gC_Paths_follow_0 N a2 a3 s
theorem mC_Paths_follow {N : Nat} {a2 : Int32} {a3 : Int32} {s : vSt} {r : Int32} {t1 : vSt} (h : fC_Paths_follow N a2 a3 s = some (r, t1)) (l : Launch) (ad : Nat → Nat) : vMI l shC ad yX3_follow cX3_follow 10 .int 3 76 s [.ref (ad 41), .ref (ad 1), .int a2, .int a3, .ref (ad 3)] r t1 :=
  vMI_of (by decide +kernel) (Nat.le_of_ble_eq_true rfl) (fun P hX hR => wC_Paths_follow_0 hX hR h)
-- C_EachAddsALine_way
noncomputable def gC_EachAddsALine_way_59 (N : Nat)  (a3 : Int32) (s : vSt) : Option (Int32 × vSt) :=
  (fC_Text_clear N s).bind fun z1 =>
  some (a3, z1)
set_option maxRecDepth 4000 in
theorem wC_EachAddsALine_way_59 {P : vP} {l : Launch} {ad : Nat → Nat} {N : Nat} {r : Int32} {t1 : vSt} (hX : vOK P l shC ad (vR 4 105) cX11_way RX11 5) (hR : (∀ pc lv, narrow .int (.int r) = .int r → decode cX11_way pc = .ok (.ireturn, 1) → P t1 pc lv [.int r]))  {a3 : Int32} {s : vSt} (h : gC_EachAddsALine_way_59 N a3 s = some (r, t1)) : P s 59 [(0, .ref (ad 0)), (3, .int a3)] [] := by
  unfold gC_EachAddsALine_way_59 at h
  refine v_aload_n hX dX11_way_59 rfl 0 rfl ?_
  refine gfC_0_0 hX kf_11_12 dX11_way_60 ?_
  obtain ⟨z1, hz1, h⟩ := bsome h
  refine v_callVV (o := 1) hX (mC_Text_clear hz1 l ad) kM_X10_clear kV_X10_clear km_11_110 (by decide) (fun _ => rfl) rfl rfl rfl (Nat.le_of_ble_eq_true rfl) (by decide) dX11_way_63 ?_
  refine v_iload_n hX dX11_way_66 rfl 1 rfl ?_
  exact v_retI hR h dX11_way_67
noncomputable def gC_EachAddsALine_way_58 (N : Nat)  (k0 : Int32) (s : vSt) : Option (Int32 × vSt) :=
  gC_EachAddsALine_way_59 N k0 s
set_option maxRecDepth 4000 in
theorem wC_EachAddsALine_way_58 {P : vP} {l : Launch} {ad : Nat → Nat} {N : Nat} {r : Int32} {t1 : vSt} (hX : vOK P l shC ad (vR 4 105) cX11_way RX11 5) (hR : (∀ pc lv, narrow .int (.int r) = .int r → decode cX11_way pc = .ok (.ireturn, 1) → P t1 pc lv [.int r]))  {k0 : Int32} {s : vSt} (h : gC_EachAddsALine_way_58 N k0 s = some (r, t1)) : P s 58 [(0, .ref (ad 0))] [.int k0] := by
  unfold gC_EachAddsALine_way_58 at h
  refine v_istore_n (lv' := [(3, .int k0), (0, .ref (ad 0))]) hX dX11_way_58 rfl (by decide) rfl ?_
  exact v_sub hX [1, 0] (by rfl) (wC_EachAddsALine_way_59 hX hR  h)
noncomputable def gC_EachAddsALine_way_0 (N : Nat)  (a1 : Int32) (a2 : Int32) (s : vSt) : Option (Int32 × vSt) :=
  (some ((-200) : Int32)).bind fun v1 =>
  (fC_Roads_hasPerson N a1 s).bind fun p2 =>
  if p2.1 = 0 then
    gC_EachAddsALine_way_59 N v1 p2.2
  else
    (fC_EachAddsALine_isHour N a2 p2.2).bind fun p3 =>
    if p3.1 = 0 then
      gC_EachAddsALine_way_59 N v1 p3.2
    else
      (fC_EachAddsALine_wayFault N p3.2).bind fun p4 =>
      if p4.1 = (-1) then
        (fC_Paths_follow N a1 a2 p4.2).bind fun p5 =>
        gC_EachAddsALine_way_58 N p5.1 p5.2
      else
        gC_EachAddsALine_way_58 N (((-1) : Int32) - p4.1) p4.2
set_option maxRecDepth 4000 in
theorem wC_EachAddsALine_way_0 {P : vP} {l : Launch} {ad : Nat → Nat} {N : Nat} {r : Int32} {t1 : vSt} (hX : vOK P l shC ad (vR 4 105) cX11_way RX11 5) (hR : (∀ pc lv, narrow .int (.int r) = .int r → decode cX11_way pc = .ok (.ireturn, 1) → P t1 pc lv [.int r]))  {a1 : Int32} {a2 : Int32} {s : vSt} (h : gC_EachAddsALine_way_0 N a1 a2 s = some (r, t1)) : P s 0 [(0, .ref (ad 0)), (1, .int a1), (2, .int a2)] [] := by
  unfold gC_EachAddsALine_way_0 at h
  refine v_sipush (v := (-200)) hX dX11_way_0 (by decide) ?_
  refine v_nmI hX h (fun v1 h => ?_)
  refine v_istore_n (lv' := [(3, .int v1), (0, .ref (ad 0)), (1, .int a1), (2, .int a2)]) hX dX11_way_3 rfl (by decide) rfl ?_
  refine v_aload_n hX dX11_way_4 rfl 1 rfl ?_
  refine gfC_0_2 hX kf_11_26 dX11_way_5 ?_
  refine v_iload_n hX dX11_way_8 rfl 2 rfl ?_
  obtain ⟨p2, hp2, h⟩ := bsome h
  refine v_callVI (o := 9) hX (mC_Roads_hasPerson hp2 l ad) kM_X6_hasPerson kV_X6_hasPerson km_11_114 (by decide) (fun _ => rfl) rfl rfl rfl (Nat.le_of_ble_eq_true rfl) (by decide) dX11_way_9 ?_
  refine v_if_eq (tgt := 59) hX dX11_way_12 (by decide) h (fun h => ?_) (fun h => ?_)
  · exact v_sub hX [1, 0] (by rfl) (wC_EachAddsALine_way_59 hX hR  h)
  · refine v_iload_n hX dX11_way_15 rfl 3 rfl ?_
    obtain ⟨p3, hp3, h⟩ := bsome h
    refine v_callSI hX (mC_EachAddsALine_isHour hp3 l ad) kM_X11_isHour kS_X11_isHour km_11_145 rfl rfl (Nat.le_of_ble_eq_true rfl) (by decide) dX11_way_16 ?_
    refine v_if_eq (tgt := 59) hX dX11_way_19 (by decide) h (fun h => ?_) (fun h => ?_)
    · exact v_sub hX [1, 0] (by rfl) (wC_EachAddsALine_way_59 hX hR  h)
    · refine v_aload_n hX dX11_way_22 rfl 1 rfl ?_
      obtain ⟨p4, hp4, h⟩ := bsome h
      refine v_callVI (o := 0) hX (mC_EachAddsALine_wayFault hp4 l ad) kM_X11_wayFault kV_X11_wayFault km_11_257 (by decide) (fun _ => rfl) rfl rfl rfl (Nat.le_of_ble_eq_true rfl) (by decide) dX11_way_23 ?_
      refine v_istore (lv' := [(4, .int p4.1), (3, .int v1), (0, .ref (ad 0)), (1, .int a1), (2, .int a2)]) hX dX11_way_26 (by decide) rfl ?_
      refine v_iload hX dX11_way_28 0 rfl ?_
      refine v_iconst (v := (-1)) hX dX11_way_30 (by decide) ?_
      refine v_icmp_ne (tgt := 54) hX dX11_way_31 (by decide) h (fun h => ?_) (fun h => ?_)
      · refine v_aload_n hX dX11_way_34 rfl 2 rfl ?_
        refine gfC_0_7 hX kf_11_69 dX11_way_35 ?_
        refine v_aload_n hX dX11_way_38 rfl 2 rfl ?_
        refine gfC_0_0 hX kf_11_12 dX11_way_39 ?_
        refine v_iload_n hX dX11_way_42 rfl 3 rfl ?_
        refine v_iload_n hX dX11_way_43 rfl 4 rfl ?_
        refine v_aload_n hX dX11_way_44 rfl 2 rfl ?_
        refine gfC_0_1 hX kf_11_19 dX11_way_45 ?_
        obtain ⟨p5, hp5, h⟩ := bsome h
        refine v_callVI (o := 41) hX (mC_Paths_follow hp5 l ad) kM_X3_follow kV_X3_follow km_11_260 (by decide) (fun _ => rfl) rfl rfl rfl (Nat.le_of_ble_eq_true rfl) (by decide) dX11_way_48 ?_
        refine v_goto (tgt := 58) hX dX11_way_51 (by decide) ?_
        exact v_sub hX [2] (by rfl) (wC_EachAddsALine_way_58 hX hR  h)
      · refine v_iconst (v := (-1)) hX dX11_way_54 (by decide) ?_
        refine v_iload hX dX11_way_55 0 rfl ?_
        refine v_isub hX dX11_way_57 ?_
        exact v_sub hX [2] (by rfl) (wC_EachAddsALine_way_58 hX hR  h)
noncomputable def fC_EachAddsALine_way (N : Nat) (a1 : Int32) (a2 : Int32) (s : vSt) : Option (Int32 × vSt) := gC_EachAddsALine_way_0 N a1 a2 s
theorem mC_EachAddsALine_way {N : Nat} {a1 : Int32} {a2 : Int32} {s : vSt} {r : Int32} {t1 : vSt} (h : fC_EachAddsALine_way N a1 a2 s = some (r, t1)) (l : Launch) (ad : Nat → Nat) : vMI l shC ad yX11_way cX11_way 5 .int 4 105 s [.ref (ad 0), .int a1, .int a2] r t1 :=
  vMI_of (by decide +kernel) (Nat.le_of_ble_eq_true rfl) (fun P hX hR => wC_EachAddsALine_way_0 hX hR h)
-- C_Numbers_add_told
noncomputable def gC_Numbers_add_told_0 (N : Nat)  (a1 : Int32) (s : vSt) : Option (vSt) :=
  if 12 ≤ (s.1 5 1) then
    some s
  else
    (sto s 6 12 (s.1 5 1) a1).bind fun z1 =>
    (some (s1 z1 5 1 ((z1.1 5 1) + 1))).bind fun z2 =>
    some z2
set_option maxRecDepth 4000 in
theorem wC_Numbers_add_told_0 {P : vP} {l : Launch} {ad : Nat → Nat} {N : Nat} {t1 : vSt} (hX : vOK P l shC ad (vR 0 0) cX2_add RX2 2) (hR : (∀ pc lv, decode cX2_add pc = .ok (.return_, 1) → P t1 pc lv []))  {a1 : Int32} {s : vSt} (h : gC_Numbers_add_told_0 N a1 s = some t1) : P s 0 [(0, .ref (ad 5)), (1, .int a1)] [] := by
  unfold gC_Numbers_add_told_0 at h
  refine v_aload_n hX dX2_add_0 rfl 0 rfl ?_
  refine gfC_5_1 hX kf_2_15 dX2_add_1 ?_
  refine v_bipush (v := 12) hX dX2_add_4 (by decide) ?_
  refine v_icmp_ge (tgt := 29) hX dX2_add_6 (by decide) h (fun h => ?_) (fun h => ?_)
  · exact v_retV hR h dX2_add_29
  · refine v_aload_n hX dX2_add_9 rfl 0 rfl ?_
    refine gfC_5_0 hX kf_2_9 dX2_add_10 ?_
    refine v_aload_n hX dX2_add_13 rfl 0 rfl ?_
    refine gfC_5_1 hX kf_2_15 dX2_add_14 ?_
    refine v_iload_n hX dX2_add_17 rfl 1 rfl ?_
    refine asC_6 hX dX2_add_18 h (fun z1 h => ?_)
    refine v_aload_n hX dX2_add_19 rfl 0 rfl ?_
    refine v_dup hX dX2_add_20 rfl ?_
    refine gfC_5_1 hX kf_2_15 dX2_add_21 ?_
    refine v_iconst (v := 1) hX dX2_add_24 (by decide) ?_
    refine v_iadd hX dX2_add_25 ?_
    refine pfC_5_1 hX kf_2_15 dX2_add_26 h (fun z2 h => ?_)
    exact v_retV hR h dX2_add_29
noncomputable def fC_Numbers_add_told (N : Nat) (a1 : Int32) (s : vSt) : Option (vSt) := gC_Numbers_add_told_0 N a1 s
theorem mC_Numbers_add_told {N : Nat} {a1 : Int32} {s : vSt} {t1 : vSt} (h : fC_Numbers_add_told N a1 s = some t1) (l : Launch) (ad : Nat → Nat) : vMV l shC ad yX2_add cX2_add 2 0 0 s [.ref (ad 5), .int a1] t1 :=
  vMV_of (by decide +kernel) (Nat.le_of_ble_eq_true rfl) (fun P hX hR => wC_Numbers_add_told_0 hX hR h)
-- C_EachAddsALine_taleFault
noncomputable def gC_EachAddsALine_taleFault_2 (N : Nat)  : Nat → Int32 → vSt → Option (Int32 × vSt)
  | 0, _, _ => none
  | n + 1, a1, s =>
    if (s.1 1 1) ≤ a1 then
      some ((-1), s)
    else
      if 12 ≤ a1 then
        some (a1, s)
      else
        (fC_Text_signAt N a1 s).bind fun p1 =>
        (fC_Text_isDigit N p1.1 p1.2).bind fun p2 =>
        if p2.1 = 0 then
          some (a1, p2.2)
        else
          (some (a1 + 1 : Int32)).bind fun v3 =>
          gC_EachAddsALine_taleFault_2 N n v3 p2.2
set_option maxRecDepth 4000 in
theorem wC_EachAddsALine_taleFault_2 {P : vP} {l : Launch} {ad : Nat → Nat} {N : Nat} {r : Int32} {t1 : vSt} (hX : vOK P l shC ad (vR 1 21) cX11_taleFault RX11 2) (hR : (∀ pc lv, narrow .int (.int r) = .int r → decode cX11_taleFault pc = .ok (.ireturn, 1) → P t1 pc lv [.int r]))  : ∀ (n : Nat) (a1 : Int32) (s : vSt), gC_EachAddsALine_taleFault_2 N n a1 s = some (r, t1) → P s 2 [(0, .ref (ad 0)), (1, .int a1)] [] := by
  intro n
  induction n with
  | zero => intro a1 s h; cases h
  | succ n ih =>
    intro a1 s h
    unfold gC_EachAddsALine_taleFault_2 at h
    refine v_iload_n hX dX11_taleFault_2 rfl 1 rfl ?_
    refine v_aload_n hX dX11_taleFault_3 rfl 0 rfl ?_
    refine gfC_0_0 hX kf_11_12 dX11_taleFault_4 ?_
    refine gfC_1_1 hX kf_11_99 dX11_taleFault_7 ?_
    refine v_icmp_ge (tgt := 41) hX dX11_taleFault_10 (by decide) h (fun h => ?_) (fun h => ?_)
    · refine v_iconst (v := (-1)) hX dX11_taleFault_41 (by decide) ?_
      exact v_retI hR h dX11_taleFault_42
    · refine v_iload_n hX dX11_taleFault_13 rfl 1 rfl ?_
      refine v_bipush (v := 12) hX dX11_taleFault_14 (by decide) ?_
      refine v_icmp_ge (tgt := 33) hX dX11_taleFault_16 (by decide) h (fun h => ?_) (fun h => ?_)
      · refine v_iload_n hX dX11_taleFault_33 rfl 1 rfl ?_
        exact v_retI hR h dX11_taleFault_34
      · refine v_aload_n hX dX11_taleFault_19 rfl 0 rfl ?_
        refine gfC_0_0 hX kf_11_12 dX11_taleFault_20 ?_
        refine v_iload_n hX dX11_taleFault_23 rfl 1 rfl ?_
        obtain ⟨p1, hp1, h⟩ := bsome h
        refine v_callVI (o := 1) hX (mC_Text_signAt hp1 l ad) kM_X10_signAt kV_X10_signAt km_11_267 (by decide) (fun _ => rfl) rfl rfl rfl (Nat.le_of_ble_eq_true rfl) (by decide) dX11_taleFault_24 ?_
        obtain ⟨p2, hp2, h⟩ := bsome h
        refine v_callSI hX (mC_Text_isDigit hp2 l ad) kM_X10_isDigit kS_X10_isDigit km_11_372 rfl rfl (Nat.le_of_ble_eq_true rfl) (by decide) dX11_taleFault_27 ?_
        refine v_if_ne (tgt := 35) hX dX11_taleFault_30 (by decide) h (fun h => ?_) (fun h => ?_)
        · refine v_iload_n hX dX11_taleFault_33 rfl 1 rfl ?_
          exact v_retI hR h dX11_taleFault_34
        · refine v_iincN hX dX11_taleFault_35 (j := 1) rfl (c := 1) (by decide) (by decide) h (fun v3 h => ?_)
          refine v_show (lv' := [(1, .int v3), (0, .ref (ad 0))]) hX rfl ?_
          refine v_goto (tgt := 2) hX dX11_taleFault_38 (by decide) ?_
          exact v_sub hX [1, 0] (by rfl) (ih _ _ h)
noncomputable def gC_EachAddsALine_taleFault_0 (N : Nat)   (s : vSt) : Option (Int32 × vSt) :=
  gC_EachAddsALine_taleFault_2 N N 0 s
set_option maxRecDepth 4000 in
theorem wC_EachAddsALine_taleFault_0 {P : vP} {l : Launch} {ad : Nat → Nat} {N : Nat} {r : Int32} {t1 : vSt} (hX : vOK P l shC ad (vR 1 21) cX11_taleFault RX11 2) (hR : (∀ pc lv, narrow .int (.int r) = .int r → decode cX11_taleFault pc = .ok (.ireturn, 1) → P t1 pc lv [.int r]))   {s : vSt} (h : gC_EachAddsALine_taleFault_0 N s = some (r, t1)) : P s 0 [(0, .ref (ad 0))] [] := by
  unfold gC_EachAddsALine_taleFault_0 at h
  refine v_iconst (v := 0) hX dX11_taleFault_0 (by decide) ?_
  refine v_istore_n (lv' := [(1, .int 0), (0, .ref (ad 0))]) hX dX11_taleFault_1 rfl (by decide) rfl ?_
  exact v_sub hX [1, 0] (by rfl) (wC_EachAddsALine_taleFault_2 hX hR  N _ _ h)
noncomputable def fC_EachAddsALine_taleFault (N : Nat)  (s : vSt) : Option (Int32 × vSt) := gC_EachAddsALine_taleFault_0 N s
theorem mC_EachAddsALine_taleFault {N : Nat}  {s : vSt} {r : Int32} {t1 : vSt} (h : fC_EachAddsALine_taleFault N s = some (r, t1)) (l : Launch) (ad : Nat → Nat) : vMI l shC ad yX11_taleFault cX11_taleFault 2 .int 1 21 s [.ref (ad 0)] r t1 :=
  vMI_of (by decide +kernel) (Nat.le_of_ble_eq_true rfl) (fun P hX hR => wC_EachAddsALine_taleFault_0 hX hR h)
-- C_Numbers_clear_told
noncomputable def gC_Numbers_clear_told_0 (N : Nat)   (s : vSt) : Option (vSt) :=
  (some (s1 s 5 1 0)).bind fun z1 =>
  some z1
set_option maxRecDepth 4000 in
theorem wC_Numbers_clear_told_0 {P : vP} {l : Launch} {ad : Nat → Nat} {N : Nat} {t1 : vSt} (hX : vOK P l shC ad (vR 0 0) cX2_clear RX2 1) (hR : (∀ pc lv, decode cX2_clear pc = .ok (.return_, 1) → P t1 pc lv []))   {s : vSt} (h : gC_Numbers_clear_told_0 N s = some t1) : P s 0 [(0, .ref (ad 5))] [] := by
  unfold gC_Numbers_clear_told_0 at h
  refine v_aload_n hX dX2_clear_0 rfl 0 rfl ?_
  refine v_iconst (v := 0) hX dX2_clear_1 (by decide) ?_
  refine pfC_5_1 hX kf_2_15 dX2_clear_2 h (fun z1 h => ?_)
  exact v_retV hR h dX2_clear_5
noncomputable def fC_Numbers_clear_told (N : Nat)  (s : vSt) : Option (vSt) := gC_Numbers_clear_told_0 N s
theorem mC_Numbers_clear_told {N : Nat}  {s : vSt} {t1 : vSt} (h : fC_Numbers_clear_told N s = some t1) (l : Launch) (ad : Nat → Nat) : vMV l shC ad yX2_clear cX2_clear 1 0 0 s [.ref (ad 5)] t1 :=
  vMV_of (by decide +kernel) (Nat.le_of_ble_eq_true rfl) (fun P hX hR => wC_Numbers_clear_told_0 hX hR h)
-- C_EachAddsALine_tale
noncomputable def gC_EachAddsALine_tale_66 (N : Nat)  (a2 : Int32) (s : vSt) : Option (Int32 × vSt) :=
  (fC_Text_clear N s).bind fun z1 =>
  some (a2, z1)
set_option maxRecDepth 4000 in
theorem wC_EachAddsALine_tale_66 {P : vP} {l : Launch} {ad : Nat → Nat} {N : Nat} {r : Int32} {t1 : vSt} (hX : vOK P l shC ad (vR 2 42) cX11_tale RX11 4) (hR : (∀ pc lv, narrow .int (.int r) = .int r → decode cX11_tale pc = .ok (.ireturn, 1) → P t1 pc lv [.int r]))  {a2 : Int32} {s : vSt} (h : gC_EachAddsALine_tale_66 N a2 s = some (r, t1)) : P s 66 [(0, .ref (ad 0)), (2, .int a2)] [] := by
  unfold gC_EachAddsALine_tale_66 at h
  refine v_aload_n hX dX11_tale_66 rfl 0 rfl ?_
  refine gfC_0_0 hX kf_11_12 dX11_tale_67 ?_
  obtain ⟨z1, hz1, h⟩ := bsome h
  refine v_callVV (o := 1) hX (mC_Text_clear hz1 l ad) kM_X10_clear kV_X10_clear km_11_110 (by decide) (fun _ => rfl) rfl rfl rfl (Nat.le_of_ble_eq_true rfl) (by decide) dX11_tale_70 ?_
  refine v_iload_n hX dX11_tale_73 rfl 1 rfl ?_
  exact v_retI hR h dX11_tale_74
noncomputable def gC_EachAddsALine_tale_23 (N : Nat)  : Nat → Int32 → vSt → Option (Int32 × vSt)
  | 0, _, _ => none
  | n + 1, a3, s =>
    if (s.1 1 1) ≤ a3 then
      (some (s.1 5 1 : Int32)).bind fun v1 =>
      gC_EachAddsALine_tale_66 N v1 s
    else
      (fC_Text_signAt N a3 s).bind fun p2 =>
      (fC_Numbers_add_told N (p2.1 - 48) p2.2).bind fun z3 =>
      (some (a3 + 1 : Int32)).bind fun v4 =>
      gC_EachAddsALine_tale_23 N n v4 z3
set_option maxRecDepth 4000 in
theorem wC_EachAddsALine_tale_23 {P : vP} {l : Launch} {ad : Nat → Nat} {N : Nat} {r : Int32} {t1 : vSt} (hX : vOK P l shC ad (vR 2 42) cX11_tale RX11 4) (hR : (∀ pc lv, narrow .int (.int r) = .int r → decode cX11_tale pc = .ok (.ireturn, 1) → P t1 pc lv [.int r]))  : ∀ (n : Nat) (a3 : Int32) (s : vSt), gC_EachAddsALine_tale_23 N n a3 s = some (r, t1) → P s 23 [(0, .ref (ad 0)), (3, .int a3)] [] := by
  intro n
  induction n with
  | zero => intro a3 s h; cases h
  | succ n ih =>
    intro a3 s h
    unfold gC_EachAddsALine_tale_23 at h
    refine v_iload_n hX dX11_tale_23 rfl 1 rfl ?_
    refine v_aload_n hX dX11_tale_24 rfl 0 rfl ?_
    refine gfC_0_0 hX kf_11_12 dX11_tale_25 ?_
    refine gfC_1_1 hX kf_11_99 dX11_tale_28 ?_
    refine v_icmp_ge (tgt := 58) hX dX11_tale_31 (by decide) h (fun h => ?_) (fun h => ?_)
    · refine v_aload_n hX dX11_tale_58 rfl 0 rfl ?_
      refine gfC_0_8 hX kf_11_73 dX11_tale_59 ?_
      refine gfC_5_1 hX kf_11_270 dX11_tale_62 ?_
      refine v_nmI hX h (fun v1 h => ?_)
      refine v_istore_n (lv' := [(2, .int v1), (0, .ref (ad 0)), (3, .int a3)]) hX dX11_tale_65 rfl (by decide) rfl ?_
      exact v_sub hX [1, 0] (by rfl) (wC_EachAddsALine_tale_66 hX hR  h)
    · refine v_aload_n hX dX11_tale_34 rfl 0 rfl ?_
      refine gfC_0_8 hX kf_11_73 dX11_tale_35 ?_
      refine v_aload_n hX dX11_tale_38 rfl 0 rfl ?_
      refine gfC_0_0 hX kf_11_12 dX11_tale_39 ?_
      refine v_iload_n hX dX11_tale_42 rfl 1 rfl ?_
      obtain ⟨p2, hp2, h⟩ := bsome h
      refine v_callVI (o := 1) hX (mC_Text_signAt hp2 l ad) kM_X10_signAt kV_X10_signAt km_11_267 (by decide) (fun _ => rfl) rfl rfl rfl (Nat.le_of_ble_eq_true rfl) (by decide) dX11_tale_43 ?_
      refine v_bipush (v := 48) hX dX11_tale_46 (by decide) ?_
      refine v_isub hX dX11_tale_48 ?_
      obtain ⟨z3, hz3, h⟩ := bsome h
      refine v_callVV (o := 5) hX (mC_Numbers_add_told hz3 l ad) kM_X2_add kV_X2_add km_11_182 (by decide) (fun _ => rfl) rfl rfl rfl (Nat.le_of_ble_eq_true rfl) (by decide) dX11_tale_49 ?_
      refine v_iincN hX dX11_tale_52 (j := 1) rfl (c := 1) (by decide) (by decide) h (fun v4 h => ?_)
      refine v_show (lv' := [(3, .int v4), (0, .ref (ad 0))]) hX rfl ?_
      refine v_goto (tgt := 23) hX dX11_tale_55 (by decide) ?_
      exact v_sub hX [1, 0] (by rfl) (ih _ _ h)
noncomputable def gC_EachAddsALine_tale_0 (N : Nat)   (s : vSt) : Option (Int32 × vSt) :=
  (fC_EachAddsALine_taleFault N s).bind fun p1 =>
  (some (((-1) : Int32) - p1.1 : Int32)).bind fun v2 =>
  if p1.1 = (-1) then
    (fC_Numbers_clear_told N p1.2).bind fun z3 =>
    gC_EachAddsALine_tale_23 N N 0 z3
  else
    gC_EachAddsALine_tale_66 N v2 p1.2
set_option maxRecDepth 4000 in
theorem wC_EachAddsALine_tale_0 {P : vP} {l : Launch} {ad : Nat → Nat} {N : Nat} {r : Int32} {t1 : vSt} (hX : vOK P l shC ad (vR 2 42) cX11_tale RX11 4) (hR : (∀ pc lv, narrow .int (.int r) = .int r → decode cX11_tale pc = .ok (.ireturn, 1) → P t1 pc lv [.int r]))   {s : vSt} (h : gC_EachAddsALine_tale_0 N s = some (r, t1)) : P s 0 [(0, .ref (ad 0))] [] := by
  unfold gC_EachAddsALine_tale_0 at h
  refine v_aload_n hX dX11_tale_0 rfl 0 rfl ?_
  obtain ⟨p1, hp1, h⟩ := bsome h
  refine v_callVI (o := 0) hX (mC_EachAddsALine_taleFault hp1 l ad) kM_X11_taleFault kV_X11_taleFault km_11_264 (by decide) (fun _ => rfl) rfl rfl rfl (Nat.le_of_ble_eq_true rfl) (by decide) dX11_tale_1 ?_
  refine v_istore_n (lv' := [(1, .int p1.1), (0, .ref (ad 0))]) hX dX11_tale_4 rfl (by decide) rfl ?_
  refine v_iconst (v := (-1)) hX dX11_tale_5 (by decide) ?_
  refine v_iload_n hX dX11_tale_6 rfl 0 rfl ?_
  refine v_isub hX dX11_tale_7 ?_
  refine v_nmI hX h (fun v2 h => ?_)
  refine v_istore_n (lv' := [(2, .int v2), (1, .int p1.1), (0, .ref (ad 0))]) hX dX11_tale_8 rfl (by decide) rfl ?_
  refine v_iload_n hX dX11_tale_9 rfl 1 rfl ?_
  refine v_iconst (v := (-1)) hX dX11_tale_10 (by decide) ?_
  refine v_icmp_ne (tgt := 66) hX dX11_tale_11 (by decide) h (fun h => ?_) (fun h => ?_)
  · refine v_aload_n hX dX11_tale_14 rfl 2 rfl ?_
    refine gfC_0_8 hX kf_11_73 dX11_tale_15 ?_
    obtain ⟨z3, hz3, h⟩ := bsome h
    refine v_callVV (o := 5) hX (mC_Numbers_clear_told hz3 l ad) kM_X2_clear kV_X2_clear km_11_176 (by decide) (fun _ => rfl) rfl rfl rfl (Nat.le_of_ble_eq_true rfl) (by decide) dX11_tale_18 ?_
    refine v_iconst (v := 0) hX dX11_tale_21 (by decide) ?_
    refine v_istore_n (lv' := [(3, .int 0), (2, .int v2), (1, .int p1.1), (0, .ref (ad 0))]) hX dX11_tale_22 rfl (by decide) rfl ?_
    exact v_sub hX [3, 0] (by rfl) (wC_EachAddsALine_tale_23 hX hR  N _ _ h)
  · exact v_sub hX [2, 0] (by rfl) (wC_EachAddsALine_tale_66 hX hR  h)
noncomputable def fC_EachAddsALine_tale (N : Nat)  (s : vSt) : Option (Int32 × vSt) := gC_EachAddsALine_tale_0 N s
theorem mC_EachAddsALine_tale {N : Nat}  {s : vSt} {r : Int32} {t1 : vSt} (h : fC_EachAddsALine_tale N s = some (r, t1)) (l : Launch) (ad : Nat → Nat) : vMI l shC ad yX11_tale cX11_tale 4 .int 2 42 s [.ref (ad 0)] r t1 :=
  vMI_of (by decide +kernel) (Nat.le_of_ble_eq_true rfl) (fun P hX hR => wC_EachAddsALine_tale_0 hX hR h)
-- C_Post_firstFalse
noncomputable def gC_Post_firstFalse_2 (N : Nat)  : Nat → Int32 → Int32 → vSt → Option (Int32 × vSt)
  | 0, _, _, _ => none
  | n + 1, a1, a2, s =>
    (ld s 27 3 a1).bind fun v1 =>
    if v1 ≤ a2 then
      some ((-2), s)
    else
      (fC_Post_putAhead N a1 a2 s).bind fun z2 =>
      (fC_Letters_holderAt N a1 (a2 - 1) z2).bind fun p3 =>
      (fC_Letters_holderAt N a1 a2 p3.2).bind fun p4 =>
      (fC_Letters_sinceAt N a1 a2 p4.2).bind fun p5 =>
      (fC_Rule_lineBy N p4.1 p3.1 p5.1 p5.2).bind fun p6 =>
      (fC_Letters_lineAt N a1 a2 p6.2).bind fun p7 =>
      if p6.1 = p7.1 then
        (some (a2 + 1 : Int32)).bind fun v8 =>
        gC_Post_firstFalse_2 N n a1 v8 p7.2
      else
        some (a2, p7.2)
set_option maxRecDepth 4000 in
theorem wC_Post_firstFalse_2 {P : vP} {l : Launch} {ad : Nat → Nat} {N : Nat} {r : Int32} {t1 : vSt} (hX : vOK P l shC ad (vR 3 69) cX4_firstFalse RX4 5) (hR : (∀ pc lv, narrow .int (.int r) = .int r → decode cX4_firstFalse pc = .ok (.ireturn, 1) → P t1 pc lv [.int r]))  : ∀ (n : Nat) (a1 : Int32) (a2 : Int32) (s : vSt), gC_Post_firstFalse_2 N n a1 a2 s = some (r, t1) → P s 2 [(0, .ref (ad 23)), (1, .int a1), (2, .int a2)] [] := by
  intro n
  induction n with
  | zero => intro a1 a2 s h; cases h
  | succ n ih =>
    intro a1 a2 s h
    unfold gC_Post_firstFalse_2 at h
    refine v_iload_n hX dX4_firstFalse_2 rfl 2 rfl ?_
    refine v_aload_n hX dX4_firstFalse_3 rfl 0 rfl ?_
    refine gfC_23_0 hX kf_4_12 dX4_firstFalse_4 ?_
    refine gfC_26_0 hX kf_4_38 dX4_firstFalse_7 ?_
    refine v_iload_n hX dX4_firstFalse_10 rfl 1 rfl ?_
    refine alC_27 hX dX4_firstFalse_11 h (fun v1 h => ?_)
    refine v_icmp_ge (tgt := 83) hX dX4_firstFalse_12 (by decide) h (fun h => ?_) (fun h => ?_)
    · refine v_bipush (v := (-2)) hX dX4_firstFalse_83 (by decide) ?_
      exact v_retI hR h dX4_firstFalse_85
    · refine v_aload_n hX dX4_firstFalse_15 rfl 0 rfl ?_
      refine v_iload_n hX dX4_firstFalse_16 rfl 1 rfl ?_
      refine v_iload_n hX dX4_firstFalse_17 rfl 2 rfl ?_
      obtain ⟨z2, hz2, h⟩ := bsome h
      refine v_callVV (o := 23) hX (mC_Post_putAhead hz2 l ad) kM_X4_putAhead kV_X4_putAhead km_4_62 (by decide) (fun _ => rfl) rfl rfl rfl (Nat.le_of_ble_eq_true rfl) (by decide) dX4_firstFalse_18 ?_
      refine v_aload_n hX dX4_firstFalse_21 rfl 0 rfl ?_
      refine gfC_23_0 hX kf_4_12 dX4_firstFalse_22 ?_
      refine v_iload_n hX dX4_firstFalse_25 rfl 1 rfl ?_
      refine v_iload_n hX dX4_firstFalse_26 rfl 2 rfl ?_
      refine v_iconst (v := 1) hX dX4_firstFalse_27 (by decide) ?_
      refine v_isub hX dX4_firstFalse_28 ?_
      obtain ⟨p3, hp3, h⟩ := bsome h
      refine v_callVI (o := 26) hX (mC_Letters_holderAt hp3 l ad) kM_X1_holderAt kV_X1_holderAt km_4_42 (by decide) (fun _ => rfl) rfl rfl rfl (Nat.le_of_ble_eq_true rfl) (by decide) dX4_firstFalse_29 ?_
      refine v_istore_n (lv' := [(3, .int p3.1), (0, .ref (ad 23)), (1, .int a1), (2, .int a2)]) hX dX4_firstFalse_32 rfl (by decide) rfl ?_
      refine v_aload_n hX dX4_firstFalse_33 rfl 1 rfl ?_
      refine gfC_23_2 hX kf_4_30 dX4_firstFalse_34 ?_
      refine v_aload_n hX dX4_firstFalse_37 rfl 1 rfl ?_
      refine gfC_23_0 hX kf_4_12 dX4_firstFalse_38 ?_
      refine v_iload_n hX dX4_firstFalse_41 rfl 2 rfl ?_
      refine v_iload_n hX dX4_firstFalse_42 rfl 3 rfl ?_
      obtain ⟨p4, hp4, h⟩ := bsome h
      refine v_callVI (o := 26) hX (mC_Letters_holderAt hp4 l ad) kM_X1_holderAt kV_X1_holderAt km_4_42 (by decide) (fun _ => rfl) rfl rfl rfl (Nat.le_of_ble_eq_true rfl) (by decide) dX4_firstFalse_43 ?_
      refine v_iload_n hX dX4_firstFalse_46 rfl 0 rfl ?_
      refine v_aload_n hX dX4_firstFalse_47 rfl 1 rfl ?_
      refine gfC_23_0 hX kf_4_12 dX4_firstFalse_48 ?_
      refine v_iload_n hX dX4_firstFalse_51 rfl 2 rfl ?_
      refine v_iload_n hX dX4_firstFalse_52 rfl 3 rfl ?_
      obtain ⟨p5, hp5, h⟩ := bsome h
      refine v_callVI (o := 26) hX (mC_Letters_sinceAt hp5 l ad) kM_X1_sinceAt kV_X1_sinceAt km_4_89 (by decide) (fun _ => rfl) rfl rfl rfl (Nat.le_of_ble_eq_true rfl) (by decide) dX4_firstFalse_53 ?_
      obtain ⟨p6, hp6, h⟩ := bsome h
      refine v_callVI (o := 17) hX (mC_Rule_lineBy hp6 l ad) kM_X7_lineBy kV_X7_lineBy km_4_66 (by decide) (fun _ => rfl) rfl rfl rfl (Nat.le_of_ble_eq_true rfl) (by decide) dX4_firstFalse_56 ?_
      refine v_istore (lv' := [(4, .int p6.1), (3, .int p3.1), (0, .ref (ad 23)), (1, .int a1), (2, .int a2)]) hX dX4_firstFalse_59 (by decide) rfl ?_
      refine v_iload hX dX4_firstFalse_61 0 rfl ?_
      refine v_aload_n hX dX4_firstFalse_63 rfl 2 rfl ?_
      refine gfC_23_0 hX kf_4_12 dX4_firstFalse_64 ?_
      refine v_iload_n hX dX4_firstFalse_67 rfl 3 rfl ?_
      refine v_iload_n hX dX4_firstFalse_68 rfl 4 rfl ?_
      obtain ⟨p7, hp7, h⟩ := bsome h
      refine v_callVI (o := 26) hX (mC_Letters_lineAt hp7 l ad) kM_X1_lineAt kV_X1_lineAt km_4_92 (by decide) (fun _ => rfl) rfl rfl rfl (Nat.le_of_ble_eq_true rfl) (by decide) dX4_firstFalse_69 ?_
      refine v_icmp_eq (tgt := 77) hX dX4_firstFalse_72 (by decide) h (fun h => ?_) (fun h => ?_)
      · refine v_iincN hX dX4_firstFalse_77 (j := 4) rfl (c := 1) (by decide) (by decide) h (fun v8 h => ?_)
        refine v_show (lv' := [(2, .int v8), (4, .int p6.1), (3, .int p3.1), (0, .ref (ad 23)), (1, .int a1)]) hX rfl ?_
        refine v_goto (tgt := 2) hX dX4_firstFalse_80 (by decide) ?_
        exact v_sub hX [3, 4, 0] (by rfl) (ih _ _ _ h)
      · refine v_iload_n hX dX4_firstFalse_75 rfl 4 rfl ?_
        exact v_retI hR h dX4_firstFalse_76
noncomputable def gC_Post_firstFalse_0 (N : Nat)  (a1 : Int32) (s : vSt) : Option (Int32 × vSt) :=
  gC_Post_firstFalse_2 N N a1 1 s
set_option maxRecDepth 4000 in
theorem wC_Post_firstFalse_0 {P : vP} {l : Launch} {ad : Nat → Nat} {N : Nat} {r : Int32} {t1 : vSt} (hX : vOK P l shC ad (vR 3 69) cX4_firstFalse RX4 5) (hR : (∀ pc lv, narrow .int (.int r) = .int r → decode cX4_firstFalse pc = .ok (.ireturn, 1) → P t1 pc lv [.int r]))  {a1 : Int32} {s : vSt} (h : gC_Post_firstFalse_0 N a1 s = some (r, t1)) : P s 0 [(0, .ref (ad 23)), (1, .int a1)] [] := by
  unfold gC_Post_firstFalse_0 at h
  refine v_iconst (v := 1) hX dX4_firstFalse_0 (by decide) ?_
  refine v_istore_n (lv' := [(2, .int 1), (0, .ref (ad 23)), (1, .int a1)]) hX dX4_firstFalse_1 rfl (by decide) rfl ?_
  exact v_sub hX [1, 2, 0] (by rfl) (wC_Post_firstFalse_2 hX hR  N _ _ _ h)
noncomputable def fC_Post_firstFalse (N : Nat) (a1 : Int32) (s : vSt) : Option (Int32 × vSt) := gC_Post_firstFalse_0 N a1 s
theorem mC_Post_firstFalse {N : Nat} {a1 : Int32} {s : vSt} {r : Int32} {t1 : vSt} (h : fC_Post_firstFalse N a1 s = some (r, t1)) (l : Launch) (ad : Nat → Nat) : vMI l shC ad yX4_firstFalse cX4_firstFalse 5 .int 3 69 s [.ref (ad 23), .int a1] r t1 :=
  vMI_of (by decide +kernel) (Nat.le_of_ble_eq_true rfl) (fun P hX hR => wC_Post_firstFalse_0 hX hR h)
-- C_EachAddsALine_check
noncomputable def gC_EachAddsALine_check_0 (N : Nat)  (a1 : Int32) (s : vSt) : Option (Int32 × vSt) :=
  (fC_Letters_isThere N a1 s).bind fun p1 =>
  if p1.1 = 0 then
    some ((-1), p1.2)
  else
    (fC_Post_firstFalse N a1 p1.2).bind fun p2 =>
    some (p2.1, p2.2)
set_option maxRecDepth 4000 in
theorem wC_EachAddsALine_check_0 {P : vP} {l : Launch} {ad : Nat → Nat} {N : Nat} {r : Int32} {t1 : vSt} (hX : vOK P l shC ad (vR 4 93) cX11_check RX11 2) (hR : (∀ pc lv, narrow .int (.int r) = .int r → decode cX11_check pc = .ok (.ireturn, 1) → P t1 pc lv [.int r]))  {a1 : Int32} {s : vSt} (h : gC_EachAddsALine_check_0 N a1 s = some (r, t1)) : P s 0 [(0, .ref (ad 0)), (1, .int a1)] [] := by
  unfold gC_EachAddsALine_check_0 at h
  refine v_aload_n hX dX11_check_0 rfl 0 rfl ?_
  refine gfC_0_6 hX kf_11_60 dX11_check_1 ?_
  refine gfC_23_0 hX kf_11_156 dX11_check_4 ?_
  refine v_iload_n hX dX11_check_7 rfl 1 rfl ?_
  obtain ⟨p1, hp1, h⟩ := bsome h
  refine v_callVI (o := 26) hX (mC_Letters_isThere hp1 l ad) kM_X1_isThere kV_X1_isThere km_11_166 (by decide) (fun _ => rfl) rfl rfl rfl (Nat.le_of_ble_eq_true rfl) (by decide) dX11_check_8 ?_
  refine v_if_eq (tgt := 25) hX dX11_check_11 (by decide) h (fun h => ?_) (fun h => ?_)
  · refine v_iconst (v := (-1)) hX dX11_check_25 (by decide) ?_
    exact v_retI hR h dX11_check_26
  · refine v_aload_n hX dX11_check_14 rfl 0 rfl ?_
    refine gfC_0_6 hX kf_11_60 dX11_check_15 ?_
    refine v_iload_n hX dX11_check_18 rfl 1 rfl ?_
    obtain ⟨p2, hp2, h⟩ := bsome h
    refine v_callVI (o := 23) hX (mC_Post_firstFalse hp2 l ad) kM_X4_firstFalse kV_X4_firstFalse km_11_273 (by decide) (fun _ => rfl) rfl rfl rfl (Nat.le_of_ble_eq_true rfl) (by decide) dX11_check_19 ?_
    refine v_goto (tgt := 26) hX dX11_check_22 (by decide) ?_
    exact v_retI hR h dX11_check_26
noncomputable def fC_EachAddsALine_check (N : Nat) (a1 : Int32) (s : vSt) : Option (Int32 × vSt) := gC_EachAddsALine_check_0 N a1 s
theorem mC_EachAddsALine_check {N : Nat} {a1 : Int32} {s : vSt} {r : Int32} {t1 : vSt} (h : fC_EachAddsALine_check N a1 s = some (r, t1)) (l : Launch) (ad : Nat → Nat) : vMI l shC ad yX11_check cX11_check 2 .int 4 93 s [.ref (ad 0), .int a1] r t1 :=
  vMI_of (by decide +kernel) (Nat.le_of_ble_eq_true rfl) (fun P hX hR => wC_EachAddsALine_check_0 hX hR h)
-- C_EachAddsALine_copy
noncomputable def gC_EachAddsALine_copy_25 (N : Nat)  : Nat → Int32 → Int32 → vSt → Option (Int32 × vSt)
  | 0, _, _, _ => none
  | n + 1, a1, a2, s =>
    (ld s 27 3 a1).bind fun v1 =>
    if v1 ≤ a2 then
      some (s.1 5 1, s)
    else
      (fC_Letters_lineAt N a1 a2 s).bind fun p2 =>
      (fC_Numbers_add_told N p2.1 p2.2).bind fun z3 =>
      (some (a2 + 1 : Int32)).bind fun v4 =>
      gC_EachAddsALine_copy_25 N n a1 v4 z3
set_option maxRecDepth 4000 in
theorem wC_EachAddsALine_copy_25 {P : vP} {l : Launch} {ad : Nat → Nat} {N : Nat} {r : Int32} {t1 : vSt} (hX : vOK P l shC ad (vR 1 22) cX11_copy RX11 3) (hR : (∀ pc lv, narrow .int (.int r) = .int r → decode cX11_copy pc = .ok (.ireturn, 1) → P t1 pc lv [.int r]))  : ∀ (n : Nat) (a1 : Int32) (a2 : Int32) (s : vSt), gC_EachAddsALine_copy_25 N n a1 a2 s = some (r, t1) → P s 25 [(0, .ref (ad 0)), (1, .int a1), (2, .int a2)] [] := by
  intro n
  induction n with
  | zero => intro a1 a2 s h; cases h
  | succ n ih =>
    intro a1 a2 s h
    unfold gC_EachAddsALine_copy_25 at h
    refine v_iload_n hX dX11_copy_25 rfl 2 rfl ?_
    refine v_aload_n hX dX11_copy_26 rfl 0 rfl ?_
    refine gfC_0_6 hX kf_11_60 dX11_copy_27 ?_
    refine gfC_23_0 hX kf_11_156 dX11_copy_30 ?_
    refine gfC_26_0 hX kf_11_177 dX11_copy_33 ?_
    refine v_iload_n hX dX11_copy_36 rfl 1 rfl ?_
    refine alC_27 hX dX11_copy_37 h (fun v1 h => ?_)
    refine v_icmp_ge (tgt := 66) hX dX11_copy_38 (by decide) h (fun h => ?_) (fun h => ?_)
    · refine v_aload_n hX dX11_copy_66 rfl 0 rfl ?_
      refine gfC_0_8 hX kf_11_73 dX11_copy_67 ?_
      refine gfC_5_1 hX kf_11_270 dX11_copy_70 ?_
      exact v_retI hR h dX11_copy_73
    · refine v_aload_n hX dX11_copy_41 rfl 0 rfl ?_
      refine gfC_0_8 hX kf_11_73 dX11_copy_42 ?_
      refine v_aload_n hX dX11_copy_45 rfl 0 rfl ?_
      refine gfC_0_6 hX kf_11_60 dX11_copy_46 ?_
      refine gfC_23_0 hX kf_11_156 dX11_copy_49 ?_
      refine v_iload_n hX dX11_copy_52 rfl 1 rfl ?_
      refine v_iload_n hX dX11_copy_53 rfl 2 rfl ?_
      obtain ⟨p2, hp2, h⟩ := bsome h
      refine v_callVI (o := 26) hX (mC_Letters_lineAt hp2 l ad) kM_X1_lineAt kV_X1_lineAt km_11_179 (by decide) (fun _ => rfl) rfl rfl rfl (Nat.le_of_ble_eq_true rfl) (by decide) dX11_copy_54 ?_
      obtain ⟨z3, hz3, h⟩ := bsome h
      refine v_callVV (o := 5) hX (mC_Numbers_add_told hz3 l ad) kM_X2_add kV_X2_add km_11_182 (by decide) (fun _ => rfl) rfl rfl rfl (Nat.le_of_ble_eq_true rfl) (by decide) dX11_copy_57 ?_
      refine v_iincN hX dX11_copy_60 (j := 2) rfl (c := 1) (by decide) (by decide) h (fun v4 h => ?_)
      refine v_show (lv' := [(2, .int v4), (0, .ref (ad 0)), (1, .int a1)]) hX rfl ?_
      refine v_goto (tgt := 25) hX dX11_copy_63 (by decide) ?_
      exact v_sub hX [1, 2, 0] (by rfl) (ih _ _ _ h)
noncomputable def gC_EachAddsALine_copy_0 (N : Nat)  (a1 : Int32) (s : vSt) : Option (Int32 × vSt) :=
  (fC_Letters_isThere N a1 s).bind fun p1 =>
  if p1.1 = 0 then
    some ((-1), p1.2)
  else
    (fC_Numbers_clear_told N p1.2).bind fun z2 =>
    gC_EachAddsALine_copy_25 N N a1 0 z2
set_option maxRecDepth 4000 in
theorem wC_EachAddsALine_copy_0 {P : vP} {l : Launch} {ad : Nat → Nat} {N : Nat} {r : Int32} {t1 : vSt} (hX : vOK P l shC ad (vR 1 22) cX11_copy RX11 3) (hR : (∀ pc lv, narrow .int (.int r) = .int r → decode cX11_copy pc = .ok (.ireturn, 1) → P t1 pc lv [.int r]))  {a1 : Int32} {s : vSt} (h : gC_EachAddsALine_copy_0 N a1 s = some (r, t1)) : P s 0 [(0, .ref (ad 0)), (1, .int a1)] [] := by
  unfold gC_EachAddsALine_copy_0 at h
  refine v_aload_n hX dX11_copy_0 rfl 0 rfl ?_
  refine gfC_0_6 hX kf_11_60 dX11_copy_1 ?_
  refine gfC_23_0 hX kf_11_156 dX11_copy_4 ?_
  refine v_iload_n hX dX11_copy_7 rfl 1 rfl ?_
  obtain ⟨p1, hp1, h⟩ := bsome h
  refine v_callVI (o := 26) hX (mC_Letters_isThere hp1 l ad) kM_X1_isThere kV_X1_isThere km_11_166 (by decide) (fun _ => rfl) rfl rfl rfl (Nat.le_of_ble_eq_true rfl) (by decide) dX11_copy_8 ?_
  refine v_if_ne (tgt := 16) hX dX11_copy_11 (by decide) h (fun h => ?_) (fun h => ?_)
  · refine v_iconst (v := (-1)) hX dX11_copy_14 (by decide) ?_
    exact v_retI hR h dX11_copy_15
  · refine v_aload_n hX dX11_copy_16 rfl 0 rfl ?_
    refine gfC_0_8 hX kf_11_73 dX11_copy_17 ?_
    obtain ⟨z2, hz2, h⟩ := bsome h
    refine v_callVV (o := 5) hX (mC_Numbers_clear_told hz2 l ad) kM_X2_clear kV_X2_clear km_11_176 (by decide) (fun _ => rfl) rfl rfl rfl (Nat.le_of_ble_eq_true rfl) (by decide) dX11_copy_20 ?_
    refine v_iconst (v := 0) hX dX11_copy_23 (by decide) ?_
    refine v_istore_n (lv' := [(2, .int 0), (0, .ref (ad 0)), (1, .int a1)]) hX dX11_copy_24 rfl (by decide) rfl ?_
    exact v_sub hX [1, 2, 0] (by rfl) (wC_EachAddsALine_copy_25 hX hR  N _ _ _ h)
noncomputable def fC_EachAddsALine_copy (N : Nat) (a1 : Int32) (s : vSt) : Option (Int32 × vSt) := gC_EachAddsALine_copy_0 N a1 s
theorem mC_EachAddsALine_copy {N : Nat} {a1 : Int32} {s : vSt} {r : Int32} {t1 : vSt} (h : fC_EachAddsALine_copy N a1 s = some (r, t1)) (l : Launch) (ad : Nat → Nat) : vMI l shC ad yX11_copy cX11_copy 3 .int 1 22 s [.ref (ad 0), .int a1] r t1 :=
  vMI_of (by decide +kernel) (Nat.le_of_ble_eq_true rfl) (fun P hX hR => wC_EachAddsALine_copy_0 hX hR h)
-- C_Tales_isRight
noncomputable def gC_Tales_isRight_26 (N : Nat)   (s : vSt) : Option (Int32 × vSt) :=
  some (0, s)
set_option maxRecDepth 4000 in
theorem wC_Tales_isRight_26 {P : vP} {l : Launch} {ad : Nat → Nat} {N : Nat} {r : Int32} {t1 : vSt} (hX : vOK P l shC ad (vR 0 0) cX9_isRight RX9 3) (hR : (∀ pc lv, narrow .boolean (.int r) = .int r → decode cX9_isRight pc = .ok (.ireturn, 1) → P t1 pc lv [.int r]))   {s : vSt} (h : gC_Tales_isRight_26 N s = some (r, t1)) : P s 26 [] [] := by
  unfold gC_Tales_isRight_26 at h
  refine v_iconst (v := 0) hX dX9_isRight_26 (by decide) ?_
  exact v_retZ0 hR h dX9_isRight_27
noncomputable def gC_Tales_isRight_0 (N : Nat)  (a1 : Int32) (a2 : Int32) (s : vSt) : Option (Int32 × vSt) :=
  if (s.1 46 9) ≤ a1 then
    gC_Tales_isRight_26 N s
  else
    (ld s 47 480 ((a1 * 40) + a2)).bind fun v1 =>
    if v1 = 0 then
      gC_Tales_isRight_26 N s
    else
      some (1, s)
set_option maxRecDepth 4000 in
theorem wC_Tales_isRight_0 {P : vP} {l : Launch} {ad : Nat → Nat} {N : Nat} {r : Int32} {t1 : vSt} (hX : vOK P l shC ad (vR 0 0) cX9_isRight RX9 3) (hR : (∀ pc lv, narrow .boolean (.int r) = .int r → decode cX9_isRight pc = .ok (.ireturn, 1) → P t1 pc lv [.int r]))  {a1 : Int32} {a2 : Int32} {s : vSt} (h : gC_Tales_isRight_0 N a1 a2 s = some (r, t1)) : P s 0 [(0, .ref (ad 46)), (1, .int a1), (2, .int a2)] [] := by
  unfold gC_Tales_isRight_0 at h
  refine v_iload_n hX dX9_isRight_0 rfl 1 rfl ?_
  refine v_aload_n hX dX9_isRight_1 rfl 0 rfl ?_
  refine gfC_46_9 hX kf_9_37 dX9_isRight_2 ?_
  refine v_icmp_ge (tgt := 26) hX dX9_isRight_5 (by decide) h (fun h => ?_) (fun h => ?_)
  · exact v_sub hX [] (by rfl) (wC_Tales_isRight_26 hX hR  h)
  · refine v_aload_n hX dX9_isRight_8 rfl 0 rfl ?_
    refine gfC_46_4 hX kf_9_9 dX9_isRight_9 ?_
    refine v_iload_n hX dX9_isRight_12 rfl 1 rfl ?_
    refine v_bipush (v := 40) hX dX9_isRight_13 (by decide) ?_
    refine v_imul hX dX9_isRight_15 ?_
    refine v_iload_n hX dX9_isRight_16 rfl 2 rfl ?_
    refine v_iadd hX dX9_isRight_17 ?_
    refine alC_47 hX dX9_isRight_18 h (fun v1 h => ?_)
    refine v_if_eq (tgt := 26) hX dX9_isRight_19 (by decide) h (fun h => ?_) (fun h => ?_)
    · exact v_sub hX [] (by rfl) (wC_Tales_isRight_26 hX hR  h)
    · refine v_iconst (v := 1) hX dX9_isRight_22 (by decide) ?_
      refine v_goto (tgt := 27) hX dX9_isRight_23 (by decide) ?_
      exact v_retZ1 hR h dX9_isRight_27
noncomputable def fC_Tales_isRight (N : Nat) (a1 : Int32) (a2 : Int32) (s : vSt) : Option (Int32 × vSt) := gC_Tales_isRight_0 N a1 a2 s
theorem mC_Tales_isRight {N : Nat} {a1 : Int32} {a2 : Int32} {s : vSt} {r : Int32} {t1 : vSt} (h : fC_Tales_isRight N a1 a2 s = some (r, t1)) (l : Launch) (ad : Nat → Nat) : vMI l shC ad yX9_isRight cX9_isRight 3 .boolean 0 0 s [.ref (ad 46), .int a1, .int a2] r t1 :=
  vMI_of (by decide +kernel) (Nat.le_of_ble_eq_true rfl) (fun P hX hR => wC_Tales_isRight_0 hX hR h)
-- C_Tales_nextOf
noncomputable def gC_Tales_nextOf_84 (N : Nat)   (s : vSt) : Option (Int32 × vSt) :=
  some ((-1), s)
set_option maxRecDepth 4000 in
theorem wC_Tales_nextOf_84 {P : vP} {l : Launch} {ad : Nat → Nat} {N : Nat} {r : Int32} {t1 : vSt} (hX : vOK P l shC ad (vR 1 22) cX9_nextOf RX9 6) (hR : (∀ pc lv, narrow .int (.int r) = .int r → decode cX9_nextOf pc = .ok (.ireturn, 1) → P t1 pc lv [.int r]))   {s : vSt} (h : gC_Tales_nextOf_84 N s = some (r, t1)) : P s 84 [] [] := by
  unfold gC_Tales_nextOf_84 at h
  refine v_iconst (v := (-1)) hX dX9_nextOf_84 (by decide) ?_
  exact v_retI hR h dX9_nextOf_85
noncomputable def gC_Tales_nextOf_0 (N : Nat)  (a1 : Int32) (a2 : Int32) (a3 : Int32) (a4 : Int32) (s : vSt) : Option (Int32 × vSt) :=
  (fC_Roads_isAt N a2 a1 s).bind fun p1 =>
  if p1.1 = 0 then
    some ((-1), p1.2)
  else
    (ld p1.2 13 20 a1).bind fun v2 =>
    if a3 ≤ v2 then
      (fC_Roads_otherAt N a1 a2 p1.2).bind fun p3 =>
      (fC_Roads_placeOf N a1 p3.1 p3.2).bind fun p4 =>
      if (p4.2.1 46 9) ≤ a4 then
        gC_Tales_nextOf_84 N p4.2
      else
        (ldL p4.2 48 480 ((a4 * 40) + p4.1)).bind fun v5 =>
        if (lg_cmp v5 0) ≤ 0 then
          gC_Tales_nextOf_84 N p4.2
        else
          some ((a4 * 40) + p4.1, p4.2)
    else
      some ((-1), p1.2)
set_option maxRecDepth 4000 in
theorem wC_Tales_nextOf_0 {P : vP} {l : Launch} {ad : Nat → Nat} {N : Nat} {r : Int32} {t1 : vSt} (hX : vOK P l shC ad (vR 1 22) cX9_nextOf RX9 6) (hR : (∀ pc lv, narrow .int (.int r) = .int r → decode cX9_nextOf pc = .ok (.ireturn, 1) → P t1 pc lv [.int r]))  {a1 : Int32} {a2 : Int32} {a3 : Int32} {a4 : Int32} {s : vSt} (h : gC_Tales_nextOf_0 N a1 a2 a3 a4 s = some (r, t1)) : P s 0 [(0, .ref (ad 46)), (1, .int a1), (2, .int a2), (3, .int a3), (4, .int a4)] [] := by
  unfold gC_Tales_nextOf_0 at h
  refine v_aload_n hX dX9_nextOf_0 rfl 0 rfl ?_
  refine gfC_46_2 hX kf_9_29 dX9_nextOf_1 ?_
  refine v_iload_n hX dX9_nextOf_4 rfl 2 rfl ?_
  refine v_iload_n hX dX9_nextOf_5 rfl 1 rfl ?_
  obtain ⟨p1, hp1, h⟩ := bsome h
  refine v_callVI (o := 9) hX (mC_Roads_isAt hp1 l ad) kM_X6_isAt kV_X6_isAt km_9_101 (by decide) (fun _ => rfl) rfl rfl rfl (Nat.le_of_ble_eq_true rfl) (by decide) dX9_nextOf_6 ?_
  refine v_if_eq (tgt := 25) hX dX9_nextOf_9 (by decide) h (fun h => ?_) (fun h => ?_)
  · refine v_iconst (v := (-1)) hX dX9_nextOf_25 (by decide) ?_
    exact v_retI hR h dX9_nextOf_26
  · refine v_aload_n hX dX9_nextOf_12 rfl 0 rfl ?_
    refine gfC_46_2 hX kf_9_29 dX9_nextOf_13 ?_
    refine gfC_9_3 hX kf_9_71 dX9_nextOf_16 ?_
    refine v_iload_n hX dX9_nextOf_19 rfl 1 rfl ?_
    refine alC_13 hX dX9_nextOf_20 h (fun v2 h => ?_)
    refine v_iload_n hX dX9_nextOf_21 rfl 3 rfl ?_
    refine v_icmp_ge (tgt := 27) hX dX9_nextOf_22 (by decide) h (fun h => ?_) (fun h => ?_)
    · refine v_aload_n hX dX9_nextOf_27 rfl 0 rfl ?_
      refine gfC_46_2 hX kf_9_29 dX9_nextOf_28 ?_
      refine v_iload_n hX dX9_nextOf_31 rfl 1 rfl ?_
      refine v_aload_n hX dX9_nextOf_32 rfl 0 rfl ?_
      refine gfC_46_2 hX kf_9_29 dX9_nextOf_33 ?_
      refine v_iload_n hX dX9_nextOf_36 rfl 1 rfl ?_
      refine v_iload_n hX dX9_nextOf_37 rfl 2 rfl ?_
      obtain ⟨p3, hp3, h⟩ := bsome h
      refine v_callVI (o := 9) hX (mC_Roads_otherAt hp3 l ad) kM_X6_otherAt kV_X6_otherAt km_9_67 (by decide) (fun _ => rfl) rfl rfl rfl (Nat.le_of_ble_eq_true rfl) (by decide) dX9_nextOf_38 ?_
      obtain ⟨p4, hp4, h⟩ := bsome h
      refine v_callVI (o := 9) hX (mC_Roads_placeOf hp4 l ad) kM_X6_placeOf kV_X6_placeOf km_9_104 (by decide) (fun _ => rfl) rfl rfl rfl (Nat.le_of_ble_eq_true rfl) (by decide) dX9_nextOf_41 ?_
      refine v_istore (lv' := [(5, .int p4.1), (0, .ref (ad 46)), (1, .int a1), (2, .int a2), (3, .int a3), (4, .int a4)]) hX dX9_nextOf_44 (by decide) rfl ?_
      refine v_iload hX dX9_nextOf_46 5 rfl ?_
      refine v_aload_n hX dX9_nextOf_48 rfl 1 rfl ?_
      refine gfC_46_9 hX kf_9_37 dX9_nextOf_49 ?_
      refine v_icmp_ge (tgt := 84) hX dX9_nextOf_52 (by decide) h (fun h => ?_) (fun h => ?_)
      · exact v_sub hX [] (by rfl) (wC_Tales_nextOf_84 hX hR  h)
      · refine v_aload_n hX dX9_nextOf_55 rfl 1 rfl ?_
        refine gfC_46_5 hX kf_9_15 dX9_nextOf_56 ?_
        refine v_iload hX dX9_nextOf_59 5 rfl ?_
        refine v_bipush (v := 40) hX dX9_nextOf_61 (by decide) ?_
        refine v_imul hX dX9_nextOf_63 ?_
        refine v_iload hX dX9_nextOf_64 0 rfl ?_
        refine v_iadd hX dX9_nextOf_66 ?_
        refine alC_48 hX dX9_nextOf_67 h (fun v5 h => ?_)
        refine v_lconst (v := 0) hX dX9_nextOf_68 (by decide) ?_
        refine v_lcmp hX dX9_nextOf_69 ?_
        refine v_if_le (tgt := 84) hX dX9_nextOf_70 (by decide) h (fun h => ?_) (fun h => ?_)
        · exact v_sub hX [] (by rfl) (wC_Tales_nextOf_84 hX hR  h)
        · refine v_iload hX dX9_nextOf_73 5 rfl ?_
          refine v_bipush (v := 40) hX dX9_nextOf_75 (by decide) ?_
          refine v_imul hX dX9_nextOf_77 ?_
          refine v_iload hX dX9_nextOf_78 0 rfl ?_
          refine v_iadd hX dX9_nextOf_80 ?_
          refine v_goto (tgt := 85) hX dX9_nextOf_81 (by decide) ?_
          exact v_retI hR h dX9_nextOf_85
    · refine v_iconst (v := (-1)) hX dX9_nextOf_25 (by decide) ?_
      exact v_retI hR h dX9_nextOf_26
noncomputable def fC_Tales_nextOf (N : Nat) (a1 : Int32) (a2 : Int32) (a3 : Int32) (a4 : Int32) (s : vSt) : Option (Int32 × vSt) := gC_Tales_nextOf_0 N a1 a2 a3 a4 s
theorem mC_Tales_nextOf {N : Nat} {a1 : Int32} {a2 : Int32} {a3 : Int32} {a4 : Int32} {s : vSt} {r : Int32} {t1 : vSt} (h : fC_Tales_nextOf N a1 a2 a3 a4 s = some (r, t1)) (l : Launch) (ad : Nat → Nat) : vMI l shC ad yX9_nextOf cX9_nextOf 6 .int 1 22 s [.ref (ad 46), .int a1, .int a2, .int a3, .int a4] r t1 :=
  vMI_of (by decide +kernel) (Nat.le_of_ble_eq_true rfl) (fun P hX hR => wC_Tales_nextOf_0 hX hR h)
-- C_Tales_waysOn
noncomputable def gC_Tales_waysOn_47 (N : Nat) (r6 : Int32 → Int32 → Int32 → Int64 → Int32 → vSt → Option (Int64 × vSt)) (a1 : Int32) (a2 : Int32) (a3 : Int32) (a4 : Int64) (a6 : Int32) (s : vSt) : Option (Int64 × vSt) :=
  (some (a6 + 1 : Int32)).bind fun v1 =>
  r6 a1 a2 a3 a4 v1 s
set_option maxRecDepth 4000 in
theorem wC_Tales_waysOn_47 {P : vP} {l : Launch} {ad : Nat → Nat} {N : Nat} {r6 : Int32 → Int32 → Int32 → Int64 → Int32 → vSt → Option (Int64 × vSt)} {r : Int64} {t1 : vSt} (hX : vOK P l shC ad (vR 2 47) cX9_waysOn RX9 8) (hR : (∀ pc lv, decode cX9_waysOn pc = .ok (.lreturn, 1) → P t1 pc lv [.long r])) (H6 : ∀ (a1 : Int32) (a2 : Int32) (a3 : Int32) (a4 : Int64) (a6 : Int32) (s : vSt), r6 a1 a2 a3 a4 a6 s = some (r, t1) → P s 6 [(0, .ref (ad 46)), (1, .int a1), (2, .int a2), (3, .int a3), (4, .long a4), (6, .int a6)] []) {a1 : Int32} {a2 : Int32} {a3 : Int32} {a4 : Int64} {a6 : Int32} {s : vSt} (h : gC_Tales_waysOn_47 N r6 a1 a2 a3 a4 a6 s = some (r, t1)) : P s 47 [(0, .ref (ad 46)), (1, .int a1), (2, .int a2), (3, .int a3), (4, .long a4), (6, .int a6)] [] := by
  unfold gC_Tales_waysOn_47 at h
  refine v_iincN hX dX9_waysOn_47 (j := 5) rfl (c := 1) (by decide) (by decide) h (fun v1 h => ?_)
  refine v_show (lv' := [(6, .int v1), (0, .ref (ad 46)), (1, .int a1), (2, .int a2), (3, .int a3), (4, .long a4)]) hX rfl ?_
  refine v_goto (tgt := 6) hX dX9_waysOn_50 (by decide) ?_
  exact v_sub hX [1, 2, 3, 4, 5, 0] (by rfl) (H6 _ _ _ _ _ _ h)
noncomputable def gC_Tales_waysOn_6 (N : Nat)  : Nat → Int32 → Int32 → Int32 → Int64 → Int32 → vSt → Option (Int64 × vSt)
  | 0, _, _, _, _, _, _ => none
  | n + 1, a1, a2, a3, a4, a6, s =>
    if (s.1 9 7) ≤ a6 then
      some (a4, s)
    else
      (fC_Tales_nextOf N a6 a1 a2 a3 s).bind fun p1 =>
      if p1.1 = (-1) then
        gC_Tales_waysOn_47 N (gC_Tales_waysOn_6 N n) a1 a2 a3 a4 a6 p1.2
      else
        (ldL p1.2 48 480 p1.1).bind fun v2 =>
        (some (a4 + v2 : Int64)).bind fun v3 =>
        gC_Tales_waysOn_47 N (gC_Tales_waysOn_6 N n) a1 a2 a3 v3 a6 p1.2
set_option maxRecDepth 4000 in
theorem wC_Tales_waysOn_6 {P : vP} {l : Launch} {ad : Nat → Nat} {N : Nat} {r : Int64} {t1 : vSt} (hX : vOK P l shC ad (vR 2 47) cX9_waysOn RX9 8) (hR : (∀ pc lv, decode cX9_waysOn pc = .ok (.lreturn, 1) → P t1 pc lv [.long r]))  : ∀ (n : Nat) (a1 : Int32) (a2 : Int32) (a3 : Int32) (a4 : Int64) (a6 : Int32) (s : vSt), gC_Tales_waysOn_6 N n a1 a2 a3 a4 a6 s = some (r, t1) → P s 6 [(0, .ref (ad 46)), (1, .int a1), (2, .int a2), (3, .int a3), (4, .long a4), (6, .int a6)] [] := by
  intro n
  induction n with
  | zero => intro a1 a2 a3 a4 a6 s h; cases h
  | succ n ih =>
    intro a1 a2 a3 a4 a6 s h
    unfold gC_Tales_waysOn_6 at h
    refine v_iload hX dX9_waysOn_6 5 rfl ?_
    refine v_aload_n hX dX9_waysOn_8 rfl 0 rfl ?_
    refine gfC_46_2 hX kf_9_29 dX9_waysOn_9 ?_
    refine gfC_9_7 hX kf_9_58 dX9_waysOn_12 ?_
    refine v_icmp_ge (tgt := 53) hX dX9_waysOn_15 (by decide) h (fun h => ?_) (fun h => ?_)
    · refine v_lload hX dX9_waysOn_53 4 rfl ?_
      exact v_retL hR h dX9_waysOn_55
    · refine v_aload_n hX dX9_waysOn_18 rfl 0 rfl ?_
      refine v_iload hX dX9_waysOn_19 5 rfl ?_
      refine v_iload_n hX dX9_waysOn_21 rfl 1 rfl ?_
      refine v_iload_n hX dX9_waysOn_22 rfl 2 rfl ?_
      refine v_iload_n hX dX9_waysOn_23 rfl 3 rfl ?_
      obtain ⟨p1, hp1, h⟩ := bsome h
      refine v_callVI (o := 46) hX (mC_Tales_nextOf hp1 l ad) kM_X9_nextOf kV_X9_nextOf km_9_97 (by decide) (fun _ => rfl) rfl rfl rfl (Nat.le_of_ble_eq_true rfl) (by decide) dX9_waysOn_24 ?_
      refine v_istore (lv' := [(7, .int p1.1), (0, .ref (ad 46)), (1, .int a1), (2, .int a2), (3, .int a3), (4, .long a4), (6, .int a6)]) hX dX9_waysOn_27 (by decide) rfl ?_
      refine v_iload hX dX9_waysOn_29 0 rfl ?_
      refine v_iconst (v := (-1)) hX dX9_waysOn_31 (by decide) ?_
      refine v_icmp_eq (tgt := 47) hX dX9_waysOn_32 (by decide) h (fun h => ?_) (fun h => ?_)
      · exact v_sub hX [1, 2, 3, 4, 5, 6] (by rfl) (wC_Tales_waysOn_47 hX hR ih h)
      · refine v_lload hX dX9_waysOn_35 5 rfl ?_
        refine v_aload_n hX dX9_waysOn_37 rfl 1 rfl ?_
        refine gfC_46_5 hX kf_9_15 dX9_waysOn_38 ?_
        refine v_iload hX dX9_waysOn_41 0 rfl ?_
        refine alC_48 hX dX9_waysOn_43 h (fun v2 h => ?_)
        refine v_ladd hX dX9_waysOn_44 ?_
        refine v_nmL hX h (fun v3 h => ?_)
        refine v_lstore (lv' := [(4, .long v3), (7, .int p1.1), (0, .ref (ad 46)), (1, .int a1), (2, .int a2), (3, .int a3), (6, .int a6)]) hX dX9_waysOn_45 (by decide) rfl ?_
        exact v_sub hX [2, 3, 4, 5, 0, 6] (by rfl) (wC_Tales_waysOn_47 hX hR ih h)
noncomputable def gC_Tales_waysOn_0 (N : Nat)  (a1 : Int32) (a2 : Int32) (a3 : Int32) (s : vSt) : Option (Int64 × vSt) :=
  gC_Tales_waysOn_6 N N a1 a2 a3 0 0 s
set_option maxRecDepth 4000 in
theorem wC_Tales_waysOn_0 {P : vP} {l : Launch} {ad : Nat → Nat} {N : Nat} {r : Int64} {t1 : vSt} (hX : vOK P l shC ad (vR 2 47) cX9_waysOn RX9 8) (hR : (∀ pc lv, decode cX9_waysOn pc = .ok (.lreturn, 1) → P t1 pc lv [.long r]))  {a1 : Int32} {a2 : Int32} {a3 : Int32} {s : vSt} (h : gC_Tales_waysOn_0 N a1 a2 a3 s = some (r, t1)) : P s 0 [(0, .ref (ad 46)), (1, .int a1), (2, .int a2), (3, .int a3)] [] := by
  unfold gC_Tales_waysOn_0 at h
  refine v_lconst (v := 0) hX dX9_waysOn_0 (by decide) ?_
  refine v_lstore (lv' := [(4, .long 0), (0, .ref (ad 46)), (1, .int a1), (2, .int a2), (3, .int a3)]) hX dX9_waysOn_1 (by decide) rfl ?_
  refine v_iconst (v := 0) hX dX9_waysOn_3 (by decide) ?_
  refine v_istore (lv' := [(6, .int 0), (4, .long 0), (0, .ref (ad 46)), (1, .int a1), (2, .int a2), (3, .int a3)]) hX dX9_waysOn_4 (by decide) rfl ?_
  exact v_sub hX [2, 3, 4, 5, 1, 0] (by rfl) (wC_Tales_waysOn_6 hX hR  N _ _ _ _ _ _ h)
noncomputable def fC_Tales_waysOn (N : Nat) (a1 : Int32) (a2 : Int32) (a3 : Int32) (s : vSt) : Option (Int64 × vSt) := gC_Tales_waysOn_0 N a1 a2 a3 s
theorem mC_Tales_waysOn {N : Nat} {a1 : Int32} {a2 : Int32} {a3 : Int32} {s : vSt} {r : Int64} {t1 : vSt} (h : fC_Tales_waysOn N a1 a2 a3 s = some (r, t1)) (l : Launch) (ad : Nat → Nat) : vML l shC ad yX9_waysOn cX9_waysOn 8 2 47 s [.ref (ad 46), .int a1, .int a2, .int a3] r t1 :=
  vML_of (by decide +kernel) (Nat.le_of_ble_eq_true rfl) (fun P hX hR => wC_Tales_waysOn_0 hX hR h)
-- C_Tales_numberAt
noncomputable def gC_Tales_numberAt_0 (N : Nat)  (a1 : Int32) (a2 : Int32) (s : vSt) : Option (Int64 × vSt) :=
  (fC_Roads_getterAt N a2 s).bind fun p1 =>
  if a1 = ((p1.2.1 46 9) - 1) then
    if p1.1 = (p1.2.1 46 10) then
      some (1, p1.2)
    else
      some (0, p1.2)
  else
    (fC_Roads_readyAt N a2 p1.2).bind fun p2 =>
    (fC_Tales_waysOn N p1.1 p2.1 (a1 + 1) p2.2).bind fun p3 =>
    some (p3.1, p3.2)
set_option maxRecDepth 4000 in
theorem wC_Tales_numberAt_0 {P : vP} {l : Launch} {ad : Nat → Nat} {N : Nat} {r : Int64} {t1 : vSt} (hX : vOK P l shC ad (vR 3 74) cX9_numberAt RX9 4) (hR : (∀ pc lv, decode cX9_numberAt pc = .ok (.lreturn, 1) → P t1 pc lv [.long r]))  {a1 : Int32} {a2 : Int32} {s : vSt} (h : gC_Tales_numberAt_0 N a1 a2 s = some (r, t1)) : P s 0 [(0, .ref (ad 46)), (1, .int a1), (2, .int a2)] [] := by
  unfold gC_Tales_numberAt_0 at h
  refine v_aload_n hX dX9_numberAt_0 rfl 0 rfl ?_
  refine gfC_46_2 hX kf_9_29 dX9_numberAt_1 ?_
  refine v_iload_n hX dX9_numberAt_4 rfl 2 rfl ?_
  obtain ⟨p1, hp1, h⟩ := bsome h
  refine v_callVI (o := 9) hX (mC_Roads_getterAt hp1 l ad) kM_X6_getterAt kV_X6_getterAt km_9_63 (by decide) (fun _ => rfl) rfl rfl rfl (Nat.le_of_ble_eq_true rfl) (by decide) dX9_numberAt_5 ?_
  refine v_istore_n (lv' := [(3, .int p1.1), (0, .ref (ad 46)), (1, .int a1), (2, .int a2)]) hX dX9_numberAt_8 rfl (by decide) rfl ?_
  refine v_iload_n hX dX9_numberAt_9 rfl 2 rfl ?_
  refine v_aload_n hX dX9_numberAt_10 rfl 1 rfl ?_
  refine gfC_46_9 hX kf_9_37 dX9_numberAt_11 ?_
  refine v_iconst (v := 1) hX dX9_numberAt_14 (by decide) ?_
  refine v_isub hX dX9_numberAt_15 ?_
  refine v_icmp_ne (tgt := 33) hX dX9_numberAt_16 (by decide) h (fun h => ?_) (fun h => ?_)
  · refine v_iload_n hX dX9_numberAt_19 rfl 0 rfl ?_
    refine v_aload_n hX dX9_numberAt_20 rfl 1 rfl ?_
    refine gfC_46_10 hX kf_9_46 dX9_numberAt_21 ?_
    refine v_icmp_ne (tgt := 31) hX dX9_numberAt_24 (by decide) h (fun h => ?_) (fun h => ?_)
    · refine v_lconst (v := 1) hX dX9_numberAt_27 (by decide) ?_
      refine v_goto (tgt := 32) hX dX9_numberAt_28 (by decide) ?_
      exact v_retL hR h dX9_numberAt_32
    · refine v_lconst (v := 0) hX dX9_numberAt_31 (by decide) ?_
      exact v_retL hR h dX9_numberAt_32
  · refine v_aload_n hX dX9_numberAt_33 rfl 1 rfl ?_
    refine v_iload_n hX dX9_numberAt_34 rfl 0 rfl ?_
    refine v_aload_n hX dX9_numberAt_35 rfl 1 rfl ?_
    refine gfC_46_2 hX kf_9_29 dX9_numberAt_36 ?_
    refine v_iload_n hX dX9_numberAt_39 rfl 3 rfl ?_
    obtain ⟨p2, hp2, h⟩ := bsome h
    refine v_callVI (o := 9) hX (mC_Roads_readyAt hp2 l ad) kM_X6_readyAt kV_X6_readyAt km_9_90 (by decide) (fun _ => rfl) rfl rfl rfl (Nat.le_of_ble_eq_true rfl) (by decide) dX9_numberAt_40 ?_
    refine v_iload_n hX dX9_numberAt_43 rfl 2 rfl ?_
    refine v_iconst (v := 1) hX dX9_numberAt_44 (by decide) ?_
    refine v_iadd hX dX9_numberAt_45 ?_
    obtain ⟨p3, hp3, h⟩ := bsome h
    refine v_callVL (o := 46) hX (mC_Tales_waysOn hp3 l ad) kM_X9_waysOn kV_X9_waysOn km_9_93 (by decide) (fun _ => rfl) rfl rfl rfl (Nat.le_of_ble_eq_true rfl) (by decide) dX9_numberAt_46 ?_
    exact v_retL hR h dX9_numberAt_49
noncomputable def fC_Tales_numberAt (N : Nat) (a1 : Int32) (a2 : Int32) (s : vSt) : Option (Int64 × vSt) := gC_Tales_numberAt_0 N a1 a2 s
theorem mC_Tales_numberAt {N : Nat} {a1 : Int32} {a2 : Int32} {s : vSt} {r : Int64} {t1 : vSt} (h : fC_Tales_numberAt N a1 a2 s = some (r, t1)) (l : Launch) (ad : Nat → Nat) : vML l shC ad yX9_numberAt cX9_numberAt 4 3 74 s [.ref (ad 46), .int a1, .int a2] r t1 :=
  vML_of (by decide +kernel) (Nat.le_of_ble_eq_true rfl) (fun P hX hR => wC_Tales_numberAt_0 hX hR h)
-- C_Tales_judge_told
noncomputable def gC_Tales_judge_told_159 (N : Nat) (r67 : Int32 → Int32 → Int32 → vSt → Option (vSt)) (a3 : Int32) (a4 : Int32) (a5 : Int32) (k1 : Int32) (k2 : Int32) (s : vSt) : Option (vSt) :=
  (sto s 47 480 k1 (vp_nar .boolean k2)).bind fun z1 =>
  (some (a5 + 1 : Int32)).bind fun v2 =>
  r67 a3 a4 v2 z1
set_option maxRecDepth 4000 in
theorem wC_Tales_judge_told_159 {P : vP} {l : Launch} {ad : Nat → Nat} {N : Nat} {r67 : Int32 → Int32 → Int32 → vSt → Option (vSt)} {t1 : vSt} (hX : vOK P l shC ad (vR 3 69) cX9_judge RX9 9) (hR : (∀ pc lv, decode cX9_judge pc = .ok (.return_, 1) → P t1 pc lv [])) (H67 : ∀ (a3 : Int32) (a4 : Int32) (a5 : Int32) (s : vSt), r67 a3 a4 a5 s = some t1 → P s 67 [(0, .ref (ad 46)), (1, .ref (ad 5)), (3, .int a3), (4, .int a4), (5, .int a5)] []) {a3 : Int32} {a4 : Int32} {a5 : Int32} {k1 : Int32} {k2 : Int32} {s : vSt} (h : gC_Tales_judge_told_159 N r67 a3 a4 a5 k1 k2 s = some t1) : P s 159 [(0, .ref (ad 46)), (1, .ref (ad 5)), (3, .int a3), (4, .int a4), (5, .int a5)] [.int k2, .int k1, .ref (ad 47)] := by
  unfold gC_Tales_judge_told_159 at h
  refine asC_47 hX dX9_judge_159 h (fun z1 h => ?_)
  refine v_iincN hX dX9_judge_160 (j := 4) rfl (c := 1) (by decide) (by decide) h (fun v2 h => ?_)
  refine v_show (lv' := [(5, .int v2), (0, .ref (ad 46)), (1, .ref (ad 5)), (3, .int a3), (4, .int a4)]) hX rfl ?_
  refine v_goto (tgt := 67) hX dX9_judge_163 (by decide) ?_
  exact v_sub hX [1, 2, 3, 4, 0] (by rfl) (H67 _ _ _ _ h)
noncomputable def gC_Tales_judge_told_67 (N : Nat) (r18 : Int32 → Int32 → vSt → Option (vSt)) : Nat → Int32 → Int32 → Int32 → vSt → Option (vSt)
  | 0, _, _, _, _ => none
  | n + 1, a3, a4, a5, s =>
    if ((2 : Int32) * (s.1 9 7)) ≤ a5 then
      (some (a4 + 1 : Int32)).bind fun v1 =>
      r18 a3 v1 s
    else
      (some (a5 >>> (1 &&& 31) : Int32)).bind fun v2 =>
      (fC_Roads_getterAt N a5 s).bind fun p3 =>
      (fC_Roads_otherAt N v2 p3.1 p3.2).bind fun p4 =>
      (ld p4.2 13 20 v2).bind fun v5 =>
      (fC_Rule_lineBy N p3.1 p4.1 v5 p4.2).bind fun p6 =>
      (ld p6.2 6 12 a4).bind fun v7 =>
      if p6.1 = v7 then
        gC_Tales_judge_told_159 N (gC_Tales_judge_told_67 N r18 n) a3 a4 a5 ((a4 * 40) + a5) 1 p6.2
      else
        gC_Tales_judge_told_159 N (gC_Tales_judge_told_67 N r18 n) a3 a4 a5 ((a4 * 40) + a5) 0 p6.2
set_option maxRecDepth 4000 in
theorem wC_Tales_judge_told_67 {P : vP} {l : Launch} {ad : Nat → Nat} {N : Nat} {r18 : Int32 → Int32 → vSt → Option (vSt)} {t1 : vSt} (hX : vOK P l shC ad (vR 3 69) cX9_judge RX9 9) (hR : (∀ pc lv, decode cX9_judge pc = .ok (.return_, 1) → P t1 pc lv [])) (H18 : ∀ (a3 : Int32) (a4 : Int32) (s : vSt), r18 a3 a4 s = some t1 → P s 18 [(0, .ref (ad 46)), (1, .ref (ad 5)), (3, .int a3), (4, .int a4)] []) : ∀ (n : Nat) (a3 : Int32) (a4 : Int32) (a5 : Int32) (s : vSt), gC_Tales_judge_told_67 N r18 n a3 a4 a5 s = some t1 → P s 67 [(0, .ref (ad 46)), (1, .ref (ad 5)), (3, .int a3), (4, .int a4), (5, .int a5)] [] := by
  intro n
  induction n with
  | zero => intro a3 a4 a5 s h; cases h
  | succ n ih =>
    intro a3 a4 a5 s h
    unfold gC_Tales_judge_told_67 at h
    refine v_iload hX dX9_judge_67 4 rfl ?_
    refine v_iconst (v := 2) hX dX9_judge_69 (by decide) ?_
    refine v_aload_n hX dX9_judge_70 rfl 0 rfl ?_
    refine gfC_46_2 hX kf_9_29 dX9_judge_71 ?_
    refine gfC_9_7 hX kf_9_58 dX9_judge_74 ?_
    refine v_imul hX dX9_judge_77 ?_
    refine v_icmp_ge (tgt := 166) hX dX9_judge_78 (by decide) h (fun h => ?_) (fun h => ?_)
    · refine v_iincN hX dX9_judge_166 (j := 3) rfl (c := 1) (by decide) (by decide) h (fun v1 h => ?_)
      refine v_show (lv' := [(4, .int v1), (0, .ref (ad 46)), (1, .ref (ad 5)), (3, .int a3), (5, .int a5)]) hX rfl ?_
      refine v_goto (tgt := 18) hX dX9_judge_169 (by decide) ?_
      exact v_sub hX [1, 2, 3, 0] (by rfl) (H18 _ _ _ h)
    · refine v_iload hX dX9_judge_81 4 rfl ?_
      refine v_iconst (v := 1) hX dX9_judge_83 (by decide) ?_
      refine v_ishr hX dX9_judge_84 ?_
      refine v_nmI hX h (fun v2 h => ?_)
      refine v_istore (lv' := [(6, .int v2), (0, .ref (ad 46)), (1, .ref (ad 5)), (3, .int a3), (4, .int a4), (5, .int a5)]) hX dX9_judge_85 (by decide) rfl ?_
      refine v_aload_n hX dX9_judge_87 rfl 1 rfl ?_
      refine gfC_46_2 hX kf_9_29 dX9_judge_88 ?_
      refine v_iload hX dX9_judge_91 5 rfl ?_
      obtain ⟨p3, hp3, h⟩ := bsome h
      refine v_callVI (o := 9) hX (mC_Roads_getterAt hp3 l ad) kM_X6_getterAt kV_X6_getterAt km_9_63 (by decide) (fun _ => rfl) rfl rfl rfl (Nat.le_of_ble_eq_true rfl) (by decide) dX9_judge_93 ?_
      refine v_istore (lv' := [(7, .int p3.1), (6, .int v2), (0, .ref (ad 46)), (1, .ref (ad 5)), (3, .int a3), (4, .int a4), (5, .int a5)]) hX dX9_judge_96 (by decide) rfl ?_
      refine v_aload_n hX dX9_judge_98 rfl 2 rfl ?_
      refine gfC_46_3 hX kf_9_33 dX9_judge_99 ?_
      refine v_iload hX dX9_judge_102 0 rfl ?_
      refine v_aload_n hX dX9_judge_104 rfl 2 rfl ?_
      refine gfC_46_2 hX kf_9_29 dX9_judge_105 ?_
      refine v_iload hX dX9_judge_108 1 rfl ?_
      refine v_iload hX dX9_judge_110 0 rfl ?_
      obtain ⟨p4, hp4, h⟩ := bsome h
      refine v_callVI (o := 9) hX (mC_Roads_otherAt hp4 l ad) kM_X6_otherAt kV_X6_otherAt km_9_67 (by decide) (fun _ => rfl) rfl rfl rfl (Nat.le_of_ble_eq_true rfl) (by decide) dX9_judge_112 ?_
      refine v_aload_n hX dX9_judge_115 rfl 2 rfl ?_
      refine gfC_46_2 hX kf_9_29 dX9_judge_116 ?_
      refine gfC_9_3 hX kf_9_71 dX9_judge_119 ?_
      refine v_iload hX dX9_judge_122 1 rfl ?_
      refine alC_13 hX dX9_judge_124 h (fun v5 h => ?_)
      obtain ⟨p6, hp6, h⟩ := bsome h
      refine v_callVI (o := 17) hX (mC_Rule_lineBy hp6 l ad) kM_X7_lineBy kV_X7_lineBy km_9_74 (by decide) (fun _ => rfl) rfl rfl rfl (Nat.le_of_ble_eq_true rfl) (by decide) dX9_judge_125 ?_
      refine v_istore (lv' := [(8, .int p6.1), (7, .int p3.1), (6, .int v2), (0, .ref (ad 46)), (1, .ref (ad 5)), (3, .int a3), (4, .int a4), (5, .int a5)]) hX dX9_judge_128 (by decide) rfl ?_
      refine v_aload_n hX dX9_judge_130 rfl 3 rfl ?_
      refine gfC_46_4 hX kf_9_9 dX9_judge_131 ?_
      refine v_iload hX dX9_judge_134 6 rfl ?_
      refine v_bipush (v := 40) hX dX9_judge_136 (by decide) ?_
      refine v_imul hX dX9_judge_138 ?_
      refine v_iload hX dX9_judge_139 7 rfl ?_
      refine v_iadd hX dX9_judge_141 ?_
      refine v_iload hX dX9_judge_142 0 rfl ?_
      refine v_aload_n hX dX9_judge_144 rfl 4 rfl ?_
      refine gfC_5_0 hX kf_9_49 dX9_judge_145 ?_
      refine v_iload hX dX9_judge_148 6 rfl ?_
      refine alC_6 hX dX9_judge_150 h (fun v7 h => ?_)
      refine v_icmp_ne (tgt := 158) hX dX9_judge_151 (by decide) h (fun h => ?_) (fun h => ?_)
      · refine v_iconst (v := 1) hX dX9_judge_154 (by decide) ?_
        refine v_goto (tgt := 159) hX dX9_judge_155 (by decide) ?_
        exact v_sub hX [3, 4, 5, 6, 7] (by rfl) (wC_Tales_judge_told_159 hX hR ih h)
      · refine v_iconst (v := 0) hX dX9_judge_158 (by decide) ?_
        exact v_sub hX [3, 4, 5, 6, 7] (by rfl) (wC_Tales_judge_told_159 hX hR ih h)
noncomputable def gC_Tales_judge_told_18 (N : Nat)  : Nat → Int32 → Int32 → vSt → Option (vSt)
  | 0, _, _, _ => none
  | n + 1, a3, a4, s =>
    if (s.1 46 9) ≤ a4 then
      some s
    else
      (ld s 6 12 (a4 - 1)).bind fun v1 =>
      (some (a3 + v1 : Int32)).bind fun v2 =>
      (ld s 6 12 0).bind fun v3 =>
      (ld s 6 12 (a4 - 1)).bind fun v4 =>
      (fC_Rule_putAhead N a4 v3 v4 v2 s).bind fun z5 =>
      gC_Tales_judge_told_67 N (gC_Tales_judge_told_18 N n) N v2 a4 0 z5
set_option maxRecDepth 4000 in
theorem wC_Tales_judge_told_18 {P : vP} {l : Launch} {ad : Nat → Nat} {N : Nat} {t1 : vSt} (hX : vOK P l shC ad (vR 3 69) cX9_judge RX9 9) (hR : (∀ pc lv, decode cX9_judge pc = .ok (.return_, 1) → P t1 pc lv []))  : ∀ (n : Nat) (a3 : Int32) (a4 : Int32) (s : vSt), gC_Tales_judge_told_18 N n a3 a4 s = some t1 → P s 18 [(0, .ref (ad 46)), (1, .ref (ad 5)), (3, .int a3), (4, .int a4)] [] := by
  intro n
  induction n with
  | zero => intro a3 a4 s h; cases h
  | succ n ih =>
    intro a3 a4 s h
    unfold gC_Tales_judge_told_18 at h
    refine v_iload hX dX9_judge_18 3 rfl ?_
    refine v_aload_n hX dX9_judge_20 rfl 0 rfl ?_
    refine gfC_46_9 hX kf_9_37 dX9_judge_21 ?_
    refine v_icmp_ge (tgt := 172) hX dX9_judge_24 (by decide) h (fun h => ?_) (fun h => ?_)
    · exact v_retV hR h dX9_judge_172
    · refine v_iload_n hX dX9_judge_27 rfl 2 rfl ?_
      refine v_aload_n hX dX9_judge_28 rfl 1 rfl ?_
      refine gfC_5_0 hX kf_9_49 dX9_judge_29 ?_
      refine v_iload hX dX9_judge_32 3 rfl ?_
      refine v_iconst (v := 1) hX dX9_judge_34 (by decide) ?_
      refine v_isub hX dX9_judge_35 ?_
      refine alC_6 hX dX9_judge_36 h (fun v1 h => ?_)
      refine v_iadd hX dX9_judge_37 ?_
      refine v_nmI hX h (fun v2 h => ?_)
      refine v_istore_n (lv' := [(3, .int v2), (0, .ref (ad 46)), (1, .ref (ad 5)), (4, .int a4)]) hX dX9_judge_38 rfl (by decide) rfl ?_
      refine v_aload_n hX dX9_judge_39 rfl 1 rfl ?_
      refine gfC_46_3 hX kf_9_33 dX9_judge_40 ?_
      refine v_iload hX dX9_judge_43 3 rfl ?_
      refine v_aload_n hX dX9_judge_45 rfl 2 rfl ?_
      refine gfC_5_0 hX kf_9_49 dX9_judge_46 ?_
      refine v_iconst (v := 0) hX dX9_judge_49 (by decide) ?_
      refine alC_6 hX dX9_judge_50 h (fun v3 h => ?_)
      refine v_aload_n hX dX9_judge_51 rfl 2 rfl ?_
      refine gfC_5_0 hX kf_9_49 dX9_judge_52 ?_
      refine v_iload hX dX9_judge_55 3 rfl ?_
      refine v_iconst (v := 1) hX dX9_judge_57 (by decide) ?_
      refine v_isub hX dX9_judge_58 ?_
      refine alC_6 hX dX9_judge_59 h (fun v4 h => ?_)
      refine v_iload_n hX dX9_judge_60 rfl 0 rfl ?_
      obtain ⟨z5, hz5, h⟩ := bsome h
      refine v_callVV (o := 17) hX (mC_Rule_putAhead hz5 l ad) kM_X7_putAhead kV_X7_putAhead km_9_52 (by decide) (fun _ => rfl) rfl rfl rfl (Nat.le_of_ble_eq_true rfl) (by decide) dX9_judge_61 ?_
      refine v_iconst (v := 0) hX dX9_judge_64 (by decide) ?_
      refine v_istore (lv' := [(5, .int 0), (3, .int v2), (0, .ref (ad 46)), (1, .ref (ad 5)), (4, .int a4)]) hX dX9_judge_65 (by decide) rfl ?_
      exact v_sub hX [2, 3, 1, 4, 0] (by rfl) (wC_Tales_judge_told_67 hX hR ih N _ _ _ _ h)
noncomputable def gC_Tales_judge_told_0 (N : Nat)  (a2 : Int32) (s : vSt) : Option (vSt) :=
  (some (s1 s 46 9 (s.1 5 1))).bind fun z1 =>
  (some (s1 z1 46 10 a2)).bind fun z2 =>
  gC_Tales_judge_told_18 N N 0 1 z2
set_option maxRecDepth 4000 in
theorem wC_Tales_judge_told_0 {P : vP} {l : Launch} {ad : Nat → Nat} {N : Nat} {t1 : vSt} (hX : vOK P l shC ad (vR 3 69) cX9_judge RX9 9) (hR : (∀ pc lv, decode cX9_judge pc = .ok (.return_, 1) → P t1 pc lv []))  {a2 : Int32} {s : vSt} (h : gC_Tales_judge_told_0 N a2 s = some t1) : P s 0 [(0, .ref (ad 46)), (1, .ref (ad 5)), (2, .int a2)] [] := by
  unfold gC_Tales_judge_told_0 at h
  refine v_aload_n hX dX9_judge_0 rfl 0 rfl ?_
  refine v_aload_n hX dX9_judge_1 rfl 1 rfl ?_
  refine gfC_5_1 hX kf_9_41 dX9_judge_2 ?_
  refine pfC_46_9 hX kf_9_37 dX9_judge_5 h (fun z1 h => ?_)
  refine v_aload_n hX dX9_judge_8 rfl 0 rfl ?_
  refine v_iload_n hX dX9_judge_9 rfl 2 rfl ?_
  refine pfC_46_10 hX kf_9_46 dX9_judge_10 h (fun z2 h => ?_)
  refine v_iconst (v := 0) hX dX9_judge_13 (by decide) ?_
  refine v_istore_n (lv' := [(3, .int 0), (0, .ref (ad 46)), (1, .ref (ad 5)), (2, .int a2)]) hX dX9_judge_14 rfl (by decide) rfl ?_
  refine v_iconst (v := 1) hX dX9_judge_15 (by decide) ?_
  refine v_istore (lv' := [(4, .int 1), (3, .int 0), (0, .ref (ad 46)), (1, .ref (ad 5)), (2, .int a2)]) hX dX9_judge_16 (by decide) rfl ?_
  exact v_sub hX [2, 3, 1, 0] (by rfl) (wC_Tales_judge_told_18 hX hR  N _ _ _ h)
noncomputable def fC_Tales_judge_told (N : Nat) (a2 : Int32) (s : vSt) : Option (vSt) := gC_Tales_judge_told_0 N a2 s
theorem mC_Tales_judge_told {N : Nat} {a2 : Int32} {s : vSt} {t1 : vSt} (h : fC_Tales_judge_told N a2 s = some t1) (l : Launch) (ad : Nat → Nat) : vMV l shC ad yX9_judge cX9_judge 9 3 69 s [.ref (ad 46), .ref (ad 5), .int a2] t1 :=
  vMV_of (by decide +kernel) (Nat.le_of_ble_eq_true rfl) (fun P hX hR => wC_Tales_judge_told_0 hX hR h)
