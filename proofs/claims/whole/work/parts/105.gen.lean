-- C_EachAddsALine_lies
noncomputable def gC_EachAddsALine_lies_0 (N : Nat)  (a1 : Int32) (a2 : Int32) (a3 : Int32) (s : vSt) : Option (Int32 × vSt) :=
  (fC_EachAddsALine_isTrip N a1 a2 a3 s).bind fun p1 =>
  if p1.1 = 0 then
    some ((-1), p1.2)
  else
    if (p1.2.1 5 1) = 0 then
      some ((-2), p1.2)
    else
      (fC_Tales_weighLies_told N a2 p1.2).bind fun z2 =>
      (fC_Tales_traceLies N a1 a3 z2).bind fun p3 =>
      some (p3.1, p3.2)
set_option maxRecDepth 4000 in
theorem wC_EachAddsALine_lies_0 {P : vP} {l : Launch} {ad : Nat → Nat} {N : Nat} {r : Int32} {t1 : vSt} (hX : vOK P l shC ad (vR 5 121) cX11_lies RX11 4) (hR : (∀ pc lv, narrow .int (.int r) = .int r → decode cX11_lies pc = .ok (.ireturn, 1) → P t1 pc lv [.int r]))  {a1 : Int32} {a2 : Int32} {a3 : Int32} {s : vSt} (h : gC_EachAddsALine_lies_0 N a1 a2 a3 s = some (r, t1)) : P s 0 [(0, .ref (ad 0)), (1, .int a1), (2, .int a2), (3, .int a3)] [] := by
  unfold gC_EachAddsALine_lies_0 at h
  refine v_aload_n hX dX11_lies_0 rfl 0 rfl ?_
  refine v_iload_n hX dX11_lies_1 rfl 1 rfl ?_
  refine v_iload_n hX dX11_lies_2 rfl 2 rfl ?_
  refine v_iload_n hX dX11_lies_3 rfl 3 rfl ?_
  obtain ⟨p1, hp1, h⟩ := bsome h
  refine v_callVI (o := 0) hX (mC_EachAddsALine_isTrip hp1 l ad) kM_X11_isTrip kV_X11_isTrip km_11_201 (by decide) (fun _ => rfl) rfl rfl rfl (Nat.le_of_ble_eq_true rfl) (by decide) dX11_lies_4 ?_
  refine v_if_ne (tgt := 12) hX dX11_lies_7 (by decide) h (fun h => ?_) (fun h => ?_)
  · refine v_iconst (v := (-1)) hX dX11_lies_10 (by decide) ?_
    exact v_retI hR h dX11_lies_11
  · refine v_aload_n hX dX11_lies_12 rfl 0 rfl ?_
    refine gfC_0_8 hX kf_11_73 dX11_lies_13 ?_
    refine gfC_5_1 hX kf_11_270 dX11_lies_16 ?_
    refine v_if_ne (tgt := 25) hX dX11_lies_19 (by decide) h (fun h => ?_) (fun h => ?_)
    · refine v_bipush (v := (-2)) hX dX11_lies_22 (by decide) ?_
      exact v_retI hR h dX11_lies_24
    · refine v_aload_n hX dX11_lies_25 rfl 0 rfl ?_
      refine gfC_0_10 hX kf_11_82 dX11_lies_26 ?_
      refine v_aload_n hX dX11_lies_29 rfl 0 rfl ?_
      refine gfC_0_8 hX kf_11_73 dX11_lies_30 ?_
      refine v_iload_n hX dX11_lies_33 rfl 2 rfl ?_
      obtain ⟨z2, hz2, h⟩ := bsome h
      refine v_callVV (o := 46) hX (mC_Tales_weighLies_told hz2 l ad) kM_X9_weighLies kV_X9_weighLies km_11_310 (by decide) (fun _ => rfl) rfl rfl rfl (Nat.le_of_ble_eq_true rfl) (by decide) dX11_lies_34 ?_
      refine v_aload_n hX dX11_lies_37 rfl 0 rfl ?_
      refine gfC_0_10 hX kf_11_82 dX11_lies_38 ?_
      refine v_iload_n hX dX11_lies_41 rfl 1 rfl ?_
      refine v_iload_n hX dX11_lies_42 rfl 3 rfl ?_
      refine v_aload_n hX dX11_lies_43 rfl 0 rfl ?_
      refine gfC_0_1 hX kf_11_19 dX11_lies_44 ?_
      obtain ⟨p3, hp3, h⟩ := bsome h
      refine v_callVI (o := 46) hX (mC_Tales_traceLies hp3 l ad) kM_X9_traceLies kV_X9_traceLies km_11_313 (by decide) (fun _ => rfl) rfl rfl rfl (Nat.le_of_ble_eq_true rfl) (by decide) dX11_lies_47 ?_
      exact v_retI hR h dX11_lies_50
noncomputable def fC_EachAddsALine_lies (N : Nat) (a1 : Int32) (a2 : Int32) (a3 : Int32) (s : vSt) : Option (Int32 × vSt) := gC_EachAddsALine_lies_0 N a1 a2 a3 s
theorem mC_EachAddsALine_lies {N : Nat} {a1 : Int32} {a2 : Int32} {a3 : Int32} {s : vSt} {r : Int32} {t1 : vSt} (h : fC_EachAddsALine_lies N a1 a2 a3 s = some (r, t1)) (l : Launch) (ad : Nat → Nat) : vMI l shC ad yX11_lies cX11_lies 4 .int 5 121 s [.ref (ad 0), .int a1, .int a2, .int a3] r t1 :=
  vMI_of (by decide +kernel) (Nat.le_of_ble_eq_true rfl) (fun P hX hR => wC_EachAddsALine_lies_0 hX hR h)
-- C_Numbers_take_laid_told
noncomputable def gC_Numbers_take_laid_told_0 (N : Nat)   (s : vSt) : Option (vSt) :=
  (scpy s 6 8 12 12 12).bind fun z1 =>
  (some (s1 z1 7 1 (z1.1 5 1))).bind fun z2 =>
  some z2
set_option maxRecDepth 4000 in
theorem wC_Numbers_take_laid_told_0 {P : vP} {l : Launch} {ad : Nat → Nat} {N : Nat} {t1 : vSt} (hX : vOK P l shC ad (vR 1 40) cX2_take RX2 2) (hR : (∀ pc lv, decode cX2_take pc = .ok (.return_, 1) → P t1 pc lv []))   {s : vSt} (h : gC_Numbers_take_laid_told_0 N s = some t1) : P s 0 [(0, .ref (ad 7)), (1, .ref (ad 5))] [] := by
  unfold gC_Numbers_take_laid_told_0 at h
  refine v_aload_n hX dX2_take_0 rfl 1 rfl ?_
  refine gfC_5_0 hX kf_2_9 dX2_take_1 ?_
  refine v_iconst (v := 0) hX dX2_take_4 (by decide) ?_
  refine v_aload_n hX dX2_take_5 rfl 0 rfl ?_
  refine gfC_7_0 hX kf_2_9 dX2_take_6 ?_
  refine v_iconst (v := 0) hX dX2_take_9 (by decide) ?_
  refine v_bipush (v := 12) hX dX2_take_10 (by decide) ?_
  refine v_copy hX kAc_2_19 kAcN kAcS kI_System (by decide) (Nat.le_of_ble_eq_true rfl) (by decide) (by decide) (fun _ _ _ => rfl) (fun _ _ _ => rfl) dX2_take_12 h (fun z1 _ h => ?_)
  refine v_aload_n hX dX2_take_15 rfl 0 rfl ?_
  refine v_aload_n hX dX2_take_16 rfl 1 rfl ?_
  refine gfC_5_1 hX kf_2_15 dX2_take_17 ?_
  refine pfC_7_1 hX kf_2_15 dX2_take_20 h (fun z2 h => ?_)
  exact v_retV hR h dX2_take_23
noncomputable def fC_Numbers_take_laid_told (N : Nat)  (s : vSt) : Option (vSt) := gC_Numbers_take_laid_told_0 N s
theorem mC_Numbers_take_laid_told {N : Nat}  {s : vSt} {t1 : vSt} (h : fC_Numbers_take_laid_told N s = some t1) (l : Launch) (ad : Nat → Nat) : vMV l shC ad yX2_take cX2_take 2 1 40 s [.ref (ad 7), .ref (ad 5)] t1 :=
  vMV_of (by decide +kernel) (Nat.le_of_ble_eq_true rfl) (fun P hX hR => wC_Numbers_take_laid_told_0 hX hR h)
-- C_EachAddsALine_lay
noncomputable def gC_EachAddsALine_lay_0 (N : Nat)   (s : vSt) : Option (Int32 × vSt) :=
  (fC_Numbers_take_laid_told N s).bind fun z1 =>
  some (1, z1)
set_option maxRecDepth 4000 in
theorem wC_EachAddsALine_lay_0 {P : vP} {l : Launch} {ad : Nat → Nat} {N : Nat} {r : Int32} {t1 : vSt} (hX : vOK P l shC ad (vR 2 61) cX11_lay RX11 1) (hR : (∀ pc lv, narrow .boolean (.int r) = .int r → decode cX11_lay pc = .ok (.ireturn, 1) → P t1 pc lv [.int r]))   {s : vSt} (h : gC_EachAddsALine_lay_0 N s = some (r, t1)) : P s 0 [(0, .ref (ad 0))] [] := by
  unfold gC_EachAddsALine_lay_0 at h
  refine v_aload_n hX dX11_lay_0 rfl 0 rfl ?_
  refine gfC_0_9 hX kf_11_76 dX11_lay_1 ?_
  refine v_aload_n hX dX11_lay_4 rfl 0 rfl ?_
  refine gfC_0_8 hX kf_11_73 dX11_lay_5 ?_
  obtain ⟨z1, hz1, h⟩ := bsome h
  refine v_callVV (o := 7) hX (mC_Numbers_take_laid_told hz1 l ad) kM_X2_take kV_X2_take km_11_316 (by decide) (fun _ => rfl) rfl rfl rfl (Nat.le_of_ble_eq_true rfl) (by decide) dX11_lay_8 ?_
  refine v_iconst (v := 1) hX dX11_lay_11 (by decide) ?_
  exact v_retZ1 hR h dX11_lay_12
noncomputable def fC_EachAddsALine_lay (N : Nat)  (s : vSt) : Option (Int32 × vSt) := gC_EachAddsALine_lay_0 N s
theorem mC_EachAddsALine_lay {N : Nat}  {s : vSt} {r : Int32} {t1 : vSt} (h : fC_EachAddsALine_lay N s = some (r, t1)) (l : Launch) (ad : Nat → Nat) : vMI l shC ad yX11_lay cX11_lay 1 .boolean 2 61 s [.ref (ad 0)] r t1 :=
  vMI_of (by decide +kernel) (Nat.le_of_ble_eq_true rfl) (fun P hX hR => wC_EachAddsALine_lay_0 hX hR h)
-- C_Tales_latestStart
noncomputable def gC_Tales_latestStart_64 (N : Nat) (r27 : Int32 → Int32 → Int32 → vSt → Option (Int32 × vSt)) (a1 : Int32) (a2 : Int32) (a3 : Int32) (s : vSt) : Option (Int32 × vSt) :=
  (some (a3 + 1 : Int32)).bind fun v1 =>
  r27 a1 a2 v1 s
set_option maxRecDepth 4000 in
theorem wC_Tales_latestStart_64 {P : vP} {l : Launch} {ad : Nat → Nat} {N : Nat} {r27 : Int32 → Int32 → Int32 → vSt → Option (Int32 × vSt)} {r : Int32} {t1 : vSt} (hX : vOK P l shC ad (vR 2 47) cX9_latestStart RX9 4) (hR : (∀ pc lv, narrow .int (.int r) = .int r → decode cX9_latestStart pc = .ok (.ireturn, 1) → P t1 pc lv [.int r])) (H27 : ∀ (a1 : Int32) (a2 : Int32) (a3 : Int32) (s : vSt), r27 a1 a2 a3 s = some (r, t1) → P s 27 [(0, .ref (ad 46)), (1, .int a1), (2, .int a2), (3, .int a3)] []) {a1 : Int32} {a2 : Int32} {a3 : Int32} {s : vSt} (h : gC_Tales_latestStart_64 N r27 a1 a2 a3 s = some (r, t1)) : P s 64 [(0, .ref (ad 46)), (1, .int a1), (2, .int a2), (3, .int a3)] [] := by
  unfold gC_Tales_latestStart_64 at h
  refine v_iincN hX dX9_latestStart_64 (j := 3) rfl (c := 1) (by decide) (by decide) h (fun v1 h => ?_)
  refine v_show (lv' := [(3, .int v1), (0, .ref (ad 46)), (1, .int a1), (2, .int a2)]) hX rfl ?_
  refine v_goto (tgt := 27) hX dX9_latestStart_67 (by decide) ?_
  exact v_sub hX [1, 2, 3, 0] (by rfl) (H27 _ _ _ _ h)
noncomputable def gC_Tales_latestStart_27 (N : Nat)  : Nat → Int32 → Int32 → Int32 → vSt → Option (Int32 × vSt)
  | 0, _, _, _, _ => none
  | n + 1, a1, a2, a3, s =>
    if (s.1 9 7) ≤ a3 then
      some (a2, s)
    else
      (fC_Tales_nextOf N a3 a1 0 1 s).bind fun p1 =>
      if p1.1 = (-1) then
        gC_Tales_latestStart_64 N (gC_Tales_latestStart_27 N n) a1 a2 a3 p1.2
      else
        (ld p1.2 13 20 a3).bind fun v2 =>
        (some (if a2 < v2 then v2 else a2 : Int32)).bind fun v3 =>
        gC_Tales_latestStart_64 N (gC_Tales_latestStart_27 N n) a1 v3 a3 p1.2
set_option maxRecDepth 4000 in
theorem wC_Tales_latestStart_27 {P : vP} {l : Launch} {ad : Nat → Nat} {N : Nat} {r : Int32} {t1 : vSt} (hX : vOK P l shC ad (vR 2 47) cX9_latestStart RX9 4) (hR : (∀ pc lv, narrow .int (.int r) = .int r → decode cX9_latestStart pc = .ok (.ireturn, 1) → P t1 pc lv [.int r]))  : ∀ (n : Nat) (a1 : Int32) (a2 : Int32) (a3 : Int32) (s : vSt), gC_Tales_latestStart_27 N n a1 a2 a3 s = some (r, t1) → P s 27 [(0, .ref (ad 46)), (1, .int a1), (2, .int a2), (3, .int a3)] [] := by
  intro n
  induction n with
  | zero => intro a1 a2 a3 s h; cases h
  | succ n ih =>
    intro a1 a2 a3 s h
    unfold gC_Tales_latestStart_27 at h
    refine v_iload_n hX dX9_latestStart_27 rfl 3 rfl ?_
    refine v_aload_n hX dX9_latestStart_28 rfl 0 rfl ?_
    refine gfC_46_2 hX kf_9_29 dX9_latestStart_29 ?_
    refine gfC_9_7 hX kf_9_58 dX9_latestStart_32 ?_
    refine v_icmp_ge (tgt := 70) hX dX9_latestStart_35 (by decide) h (fun h => ?_) (fun h => ?_)
    · refine v_iload_n hX dX9_latestStart_70 rfl 2 rfl ?_
      exact v_retI hR h dX9_latestStart_71
    · refine v_aload_n hX dX9_latestStart_38 rfl 0 rfl ?_
      refine v_iload_n hX dX9_latestStart_39 rfl 3 rfl ?_
      refine v_iload_n hX dX9_latestStart_40 rfl 1 rfl ?_
      refine v_iconst (v := 0) hX dX9_latestStart_41 (by decide) ?_
      refine v_iconst (v := 1) hX dX9_latestStart_42 (by decide) ?_
      obtain ⟨p1, hp1, h⟩ := bsome h
      refine v_callVI (o := 46) hX (mC_Tales_nextOf hp1 l ad) kM_X9_nextOf kV_X9_nextOf km_9_97 (by decide) (fun _ => rfl) rfl rfl rfl (Nat.le_of_ble_eq_true rfl) (by decide) dX9_latestStart_43 ?_
      refine v_iconst (v := (-1)) hX dX9_latestStart_46 (by decide) ?_
      refine v_icmp_eq (tgt := 64) hX dX9_latestStart_47 (by decide) h (fun h => ?_) (fun h => ?_)
      · exact v_sub hX [0, 1, 2, 3] (by rfl) (wC_Tales_latestStart_64 hX hR ih h)
      · refine v_iload_n hX dX9_latestStart_50 rfl 2 rfl ?_
        refine v_aload_n hX dX9_latestStart_51 rfl 0 rfl ?_
        refine gfC_46_2 hX kf_9_29 dX9_latestStart_52 ?_
        refine gfC_9_3 hX kf_9_71 dX9_latestStart_55 ?_
        refine v_iload_n hX dX9_latestStart_58 rfl 3 rfl ?_
        refine alC_13 hX dX9_latestStart_59 h (fun v2 h => ?_)
        refine v_max hX km_9_134 kS_J9_max_7cf53 kI_Math kC_max (Nat.le_of_ble_eq_true rfl) (Nat.le_of_ble_eq_true rfl) dX9_latestStart_60 ?_
        refine v_nmI hX h (fun v3 h => ?_)
        refine v_istore_n (lv' := [(2, .int v3), (0, .ref (ad 46)), (1, .int a1), (3, .int a3)]) hX dX9_latestStart_63 rfl (by decide) rfl ?_
        exact v_sub hX [1, 2, 0, 3] (by rfl) (wC_Tales_latestStart_64 hX hR ih h)
noncomputable def gC_Tales_latestStart_0 (N : Nat)  (a1 : Int32) (s : vSt) : Option (Int32 × vSt) :=
  if (s.1 46 9) = 1 then
    if a1 = (s.1 46 10) then
      some (99, s)
    else
      some ((-1), s)
  else
    (some ((-1) : Int32)).bind fun v1 =>
    gC_Tales_latestStart_27 N N a1 v1 0 s
set_option maxRecDepth 4000 in
theorem wC_Tales_latestStart_0 {P : vP} {l : Launch} {ad : Nat → Nat} {N : Nat} {r : Int32} {t1 : vSt} (hX : vOK P l shC ad (vR 2 47) cX9_latestStart RX9 4) (hR : (∀ pc lv, narrow .int (.int r) = .int r → decode cX9_latestStart pc = .ok (.ireturn, 1) → P t1 pc lv [.int r]))  {a1 : Int32} {s : vSt} (h : gC_Tales_latestStart_0 N a1 s = some (r, t1)) : P s 0 [(0, .ref (ad 46)), (1, .int a1)] [] := by
  unfold gC_Tales_latestStart_0 at h
  refine v_aload_n hX dX9_latestStart_0 rfl 0 rfl ?_
  refine gfC_46_9 hX kf_9_37 dX9_latestStart_1 ?_
  refine v_iconst (v := 1) hX dX9_latestStart_4 (by decide) ?_
  refine v_icmp_ne (tgt := 23) hX dX9_latestStart_5 (by decide) h (fun h => ?_) (fun h => ?_)
  · refine v_iload_n hX dX9_latestStart_8 rfl 1 rfl ?_
    refine v_aload_n hX dX9_latestStart_9 rfl 0 rfl ?_
    refine gfC_46_10 hX kf_9_46 dX9_latestStart_10 ?_
    refine v_icmp_ne (tgt := 21) hX dX9_latestStart_13 (by decide) h (fun h => ?_) (fun h => ?_)
    · refine v_bipush (v := 99) hX dX9_latestStart_16 (by decide) ?_
      refine v_goto (tgt := 22) hX dX9_latestStart_18 (by decide) ?_
      exact v_retI hR h dX9_latestStart_22
    · refine v_iconst (v := (-1)) hX dX9_latestStart_21 (by decide) ?_
      exact v_retI hR h dX9_latestStart_22
  · refine v_iconst (v := (-1)) hX dX9_latestStart_23 (by decide) ?_
    refine v_nmI hX h (fun v1 h => ?_)
    refine v_istore_n (lv' := [(2, .int v1), (0, .ref (ad 46)), (1, .int a1)]) hX dX9_latestStart_24 rfl (by decide) rfl ?_
    refine v_iconst (v := 0) hX dX9_latestStart_25 (by decide) ?_
    refine v_istore_n (lv' := [(3, .int 0), (2, .int v1), (0, .ref (ad 46)), (1, .int a1)]) hX dX9_latestStart_26 rfl (by decide) rfl ?_
    exact v_sub hX [2, 3, 1, 0] (by rfl) (wC_Tales_latestStart_27 hX hR  N _ _ _ _ h)
noncomputable def fC_Tales_latestStart (N : Nat) (a1 : Int32) (s : vSt) : Option (Int32 × vSt) := gC_Tales_latestStart_0 N a1 s
theorem mC_Tales_latestStart {N : Nat} {a1 : Int32} {s : vSt} {r : Int32} {t1 : vSt} (h : fC_Tales_latestStart N a1 s = some (r, t1)) (l : Launch) (ad : Nat → Nat) : vMI l shC ad yX9_latestStart cX9_latestStart 4 .int 2 47 s [.ref (ad 46), .int a1] r t1 :=
  vMI_of (by decide +kernel) (Nat.le_of_ble_eq_true rfl) (fun P hX hR => wC_Tales_latestStart_0 hX hR h)
-- C_Tales_judge_laid
noncomputable def gC_Tales_judge_laid_159 (N : Nat) (r67 : Int32 → Int32 → Int32 → vSt → Option (vSt)) (a3 : Int32) (a4 : Int32) (a5 : Int32) (k1 : Int32) (k2 : Int32) (s : vSt) : Option (vSt) :=
  (sto s 47 480 k1 (vp_nar .boolean k2)).bind fun z1 =>
  (some (a5 + 1 : Int32)).bind fun v2 =>
  r67 a3 a4 v2 z1
set_option maxRecDepth 4000 in
theorem wC_Tales_judge_laid_159 {P : vP} {l : Launch} {ad : Nat → Nat} {N : Nat} {r67 : Int32 → Int32 → Int32 → vSt → Option (vSt)} {t1 : vSt} (hX : vOK P l shC ad (vR 3 69) cX9_judge RX9 9) (hR : (∀ pc lv, decode cX9_judge pc = .ok (.return_, 1) → P t1 pc lv [])) (H67 : ∀ (a3 : Int32) (a4 : Int32) (a5 : Int32) (s : vSt), r67 a3 a4 a5 s = some t1 → P s 67 [(0, .ref (ad 46)), (1, .ref (ad 7)), (3, .int a3), (4, .int a4), (5, .int a5)] []) {a3 : Int32} {a4 : Int32} {a5 : Int32} {k1 : Int32} {k2 : Int32} {s : vSt} (h : gC_Tales_judge_laid_159 N r67 a3 a4 a5 k1 k2 s = some t1) : P s 159 [(0, .ref (ad 46)), (1, .ref (ad 7)), (3, .int a3), (4, .int a4), (5, .int a5)] [.int k2, .int k1, .ref (ad 47)] := by
  unfold gC_Tales_judge_laid_159 at h
  refine asC_47 hX dX9_judge_159 h (fun z1 h => ?_)
  refine v_iincN hX dX9_judge_160 (j := 4) rfl (c := 1) (by decide) (by decide) h (fun v2 h => ?_)
  refine v_show (lv' := [(5, .int v2), (0, .ref (ad 46)), (1, .ref (ad 7)), (3, .int a3), (4, .int a4)]) hX rfl ?_
  refine v_goto (tgt := 67) hX dX9_judge_163 (by decide) ?_
  exact v_sub hX [1, 2, 3, 4, 0] (by rfl) (H67 _ _ _ _ h)
noncomputable def gC_Tales_judge_laid_67 (N : Nat) (r18 : Int32 → Int32 → vSt → Option (vSt)) : Nat → Int32 → Int32 → Int32 → vSt → Option (vSt)
  | 0, _, _, _, _ => none
  | n + 1, a3, a4, a5, s =>
    if ((2 : Int32) * (s.1 9 7)) ≤ a5 then
      (some (a4 + 1 : Int32)).bind fun v1 =>
      r18 a3 v1 s
    else
      (some (a5 >>> (1 &&& 31) : Int32)).bind fun v2 =>
      (fC_Roads_getterAt N a5 s).bind fun p3 =>
      (fC_Roads_otherAt N v2 p3.1 p3.2).bind fun p4 =>
      (ld p4.2 13 20 v2).bind fun v5 =>
      (fC_Rule_lineBy N p3.1 p4.1 v5 p4.2).bind fun p6 =>
      (ld p6.2 8 12 a4).bind fun v7 =>
      if p6.1 = v7 then
        gC_Tales_judge_laid_159 N (gC_Tales_judge_laid_67 N r18 n) a3 a4 a5 ((a4 * 40) + a5) 1 p6.2
      else
        gC_Tales_judge_laid_159 N (gC_Tales_judge_laid_67 N r18 n) a3 a4 a5 ((a4 * 40) + a5) 0 p6.2
set_option maxRecDepth 4000 in
theorem wC_Tales_judge_laid_67 {P : vP} {l : Launch} {ad : Nat → Nat} {N : Nat} {r18 : Int32 → Int32 → vSt → Option (vSt)} {t1 : vSt} (hX : vOK P l shC ad (vR 3 69) cX9_judge RX9 9) (hR : (∀ pc lv, decode cX9_judge pc = .ok (.return_, 1) → P t1 pc lv [])) (H18 : ∀ (a3 : Int32) (a4 : Int32) (s : vSt), r18 a3 a4 s = some t1 → P s 18 [(0, .ref (ad 46)), (1, .ref (ad 7)), (3, .int a3), (4, .int a4)] []) : ∀ (n : Nat) (a3 : Int32) (a4 : Int32) (a5 : Int32) (s : vSt), gC_Tales_judge_laid_67 N r18 n a3 a4 a5 s = some t1 → P s 67 [(0, .ref (ad 46)), (1, .ref (ad 7)), (3, .int a3), (4, .int a4), (5, .int a5)] [] := by
  intro n
  induction n with
  | zero => intro a3 a4 a5 s h; cases h
  | succ n ih =>
    intro a3 a4 a5 s h
    unfold gC_Tales_judge_laid_67 at h
    refine v_iload hX dX9_judge_67 4 rfl ?_
    refine v_iconst (v := 2) hX dX9_judge_69 (by decide) ?_
    refine v_aload_n hX dX9_judge_70 rfl 0 rfl ?_
    refine gfC_46_2 hX kf_9_29 dX9_judge_71 ?_
    refine gfC_9_7 hX kf_9_58 dX9_judge_74 ?_
    refine v_imul hX dX9_judge_77 ?_
    refine v_icmp_ge (tgt := 166) hX dX9_judge_78 (by decide) h (fun h => ?_) (fun h => ?_)
    · refine v_iincN hX dX9_judge_166 (j := 3) rfl (c := 1) (by decide) (by decide) h (fun v1 h => ?_)
      refine v_show (lv' := [(4, .int v1), (0, .ref (ad 46)), (1, .ref (ad 7)), (3, .int a3), (5, .int a5)]) hX rfl ?_
      refine v_goto (tgt := 18) hX dX9_judge_169 (by decide) ?_
      exact v_sub hX [1, 2, 3, 0] (by rfl) (H18 _ _ _ h)
    · refine v_iload hX dX9_judge_81 4 rfl ?_
      refine v_iconst (v := 1) hX dX9_judge_83 (by decide) ?_
      refine v_ishr hX dX9_judge_84 ?_
      refine v_nmI hX h (fun v2 h => ?_)
      refine v_istore (lv' := [(6, .int v2), (0, .ref (ad 46)), (1, .ref (ad 7)), (3, .int a3), (4, .int a4), (5, .int a5)]) hX dX9_judge_85 (by decide) rfl ?_
      refine v_aload_n hX dX9_judge_87 rfl 1 rfl ?_
      refine gfC_46_2 hX kf_9_29 dX9_judge_88 ?_
      refine v_iload hX dX9_judge_91 5 rfl ?_
      obtain ⟨p3, hp3, h⟩ := bsome h
      refine v_callVI (o := 9) hX (mC_Roads_getterAt hp3 l ad) kM_X6_getterAt kV_X6_getterAt km_9_63 (by decide) (fun _ => rfl) rfl rfl rfl (Nat.le_of_ble_eq_true rfl) (by decide) dX9_judge_93 ?_
      refine v_istore (lv' := [(7, .int p3.1), (6, .int v2), (0, .ref (ad 46)), (1, .ref (ad 7)), (3, .int a3), (4, .int a4), (5, .int a5)]) hX dX9_judge_96 (by decide) rfl ?_
      refine v_aload_n hX dX9_judge_98 rfl 2 rfl ?_
      refine gfC_46_3 hX kf_9_33 dX9_judge_99 ?_
      refine v_iload hX dX9_judge_102 0 rfl ?_
      refine v_aload_n hX dX9_judge_104 rfl 2 rfl ?_
      refine gfC_46_2 hX kf_9_29 dX9_judge_105 ?_
      refine v_iload hX dX9_judge_108 1 rfl ?_
      refine v_iload hX dX9_judge_110 0 rfl ?_
      obtain ⟨p4, hp4, h⟩ := bsome h
      refine v_callVI (o := 9) hX (mC_Roads_otherAt hp4 l ad) kM_X6_otherAt kV_X6_otherAt km_9_67 (by decide) (fun _ => rfl) rfl rfl rfl (Nat.le_of_ble_eq_true rfl) (by decide) dX9_judge_112 ?_
      refine v_aload_n hX dX9_judge_115 rfl 2 rfl ?_
      refine gfC_46_2 hX kf_9_29 dX9_judge_116 ?_
      refine gfC_9_3 hX kf_9_71 dX9_judge_119 ?_
      refine v_iload hX dX9_judge_122 1 rfl ?_
      refine alC_13 hX dX9_judge_124 h (fun v5 h => ?_)
      obtain ⟨p6, hp6, h⟩ := bsome h
      refine v_callVI (o := 17) hX (mC_Rule_lineBy hp6 l ad) kM_X7_lineBy kV_X7_lineBy km_9_74 (by decide) (fun _ => rfl) rfl rfl rfl (Nat.le_of_ble_eq_true rfl) (by decide) dX9_judge_125 ?_
      refine v_istore (lv' := [(8, .int p6.1), (7, .int p3.1), (6, .int v2), (0, .ref (ad 46)), (1, .ref (ad 7)), (3, .int a3), (4, .int a4), (5, .int a5)]) hX dX9_judge_128 (by decide) rfl ?_
      refine v_aload_n hX dX9_judge_130 rfl 3 rfl ?_
      refine gfC_46_4 hX kf_9_9 dX9_judge_131 ?_
      refine v_iload hX dX9_judge_134 6 rfl ?_
      refine v_bipush (v := 40) hX dX9_judge_136 (by decide) ?_
      refine v_imul hX dX9_judge_138 ?_
      refine v_iload hX dX9_judge_139 7 rfl ?_
      refine v_iadd hX dX9_judge_141 ?_
      refine v_iload hX dX9_judge_142 0 rfl ?_
      refine v_aload_n hX dX9_judge_144 rfl 4 rfl ?_
      refine gfC_7_0 hX kf_9_49 dX9_judge_145 ?_
      refine v_iload hX dX9_judge_148 6 rfl ?_
      refine alC_8 hX dX9_judge_150 h (fun v7 h => ?_)
      refine v_icmp_ne (tgt := 158) hX dX9_judge_151 (by decide) h (fun h => ?_) (fun h => ?_)
      · refine v_iconst (v := 1) hX dX9_judge_154 (by decide) ?_
        refine v_goto (tgt := 159) hX dX9_judge_155 (by decide) ?_
        exact v_sub hX [3, 4, 5, 6, 7] (by rfl) (wC_Tales_judge_laid_159 hX hR ih h)
      · refine v_iconst (v := 0) hX dX9_judge_158 (by decide) ?_
        exact v_sub hX [3, 4, 5, 6, 7] (by rfl) (wC_Tales_judge_laid_159 hX hR ih h)
noncomputable def gC_Tales_judge_laid_18 (N : Nat)  : Nat → Int32 → Int32 → vSt → Option (vSt)
  | 0, _, _, _ => none
  | n + 1, a3, a4, s =>
    if (s.1 46 9) ≤ a4 then
      some s
    else
      (ld s 8 12 (a4 - 1)).bind fun v1 =>
      (some (a3 + v1 : Int32)).bind fun v2 =>
      (ld s 8 12 0).bind fun v3 =>
      (ld s 8 12 (a4 - 1)).bind fun v4 =>
      (fC_Rule_putAhead N a4 v3 v4 v2 s).bind fun z5 =>
      gC_Tales_judge_laid_67 N (gC_Tales_judge_laid_18 N n) N v2 a4 0 z5
set_option maxRecDepth 4000 in
theorem wC_Tales_judge_laid_18 {P : vP} {l : Launch} {ad : Nat → Nat} {N : Nat} {t1 : vSt} (hX : vOK P l shC ad (vR 3 69) cX9_judge RX9 9) (hR : (∀ pc lv, decode cX9_judge pc = .ok (.return_, 1) → P t1 pc lv []))  : ∀ (n : Nat) (a3 : Int32) (a4 : Int32) (s : vSt), gC_Tales_judge_laid_18 N n a3 a4 s = some t1 → P s 18 [(0, .ref (ad 46)), (1, .ref (ad 7)), (3, .int a3), (4, .int a4)] [] := by
  intro n
  induction n with
  | zero => intro a3 a4 s h; cases h
  | succ n ih =>
    intro a3 a4 s h
    unfold gC_Tales_judge_laid_18 at h
    refine v_iload hX dX9_judge_18 3 rfl ?_
    refine v_aload_n hX dX9_judge_20 rfl 0 rfl ?_
    refine gfC_46_9 hX kf_9_37 dX9_judge_21 ?_
    refine v_icmp_ge (tgt := 172) hX dX9_judge_24 (by decide) h (fun h => ?_) (fun h => ?_)
    · exact v_retV hR h dX9_judge_172
    · refine v_iload_n hX dX9_judge_27 rfl 2 rfl ?_
      refine v_aload_n hX dX9_judge_28 rfl 1 rfl ?_
      refine gfC_7_0 hX kf_9_49 dX9_judge_29 ?_
      refine v_iload hX dX9_judge_32 3 rfl ?_
      refine v_iconst (v := 1) hX dX9_judge_34 (by decide) ?_
      refine v_isub hX dX9_judge_35 ?_
      refine alC_8 hX dX9_judge_36 h (fun v1 h => ?_)
      refine v_iadd hX dX9_judge_37 ?_
      refine v_nmI hX h (fun v2 h => ?_)
      refine v_istore_n (lv' := [(3, .int v2), (0, .ref (ad 46)), (1, .ref (ad 7)), (4, .int a4)]) hX dX9_judge_38 rfl (by decide) rfl ?_
      refine v_aload_n hX dX9_judge_39 rfl 1 rfl ?_
      refine gfC_46_3 hX kf_9_33 dX9_judge_40 ?_
      refine v_iload hX dX9_judge_43 3 rfl ?_
      refine v_aload_n hX dX9_judge_45 rfl 2 rfl ?_
      refine gfC_7_0 hX kf_9_49 dX9_judge_46 ?_
      refine v_iconst (v := 0) hX dX9_judge_49 (by decide) ?_
      refine alC_8 hX dX9_judge_50 h (fun v3 h => ?_)
      refine v_aload_n hX dX9_judge_51 rfl 2 rfl ?_
      refine gfC_7_0 hX kf_9_49 dX9_judge_52 ?_
      refine v_iload hX dX9_judge_55 3 rfl ?_
      refine v_iconst (v := 1) hX dX9_judge_57 (by decide) ?_
      refine v_isub hX dX9_judge_58 ?_
      refine alC_8 hX dX9_judge_59 h (fun v4 h => ?_)
      refine v_iload_n hX dX9_judge_60 rfl 0 rfl ?_
      obtain ⟨z5, hz5, h⟩ := bsome h
      refine v_callVV (o := 17) hX (mC_Rule_putAhead hz5 l ad) kM_X7_putAhead kV_X7_putAhead km_9_52 (by decide) (fun _ => rfl) rfl rfl rfl (Nat.le_of_ble_eq_true rfl) (by decide) dX9_judge_61 ?_
      refine v_iconst (v := 0) hX dX9_judge_64 (by decide) ?_
      refine v_istore (lv' := [(5, .int 0), (3, .int v2), (0, .ref (ad 46)), (1, .ref (ad 7)), (4, .int a4)]) hX dX9_judge_65 (by decide) rfl ?_
      exact v_sub hX [2, 3, 1, 4, 0] (by rfl) (wC_Tales_judge_laid_67 hX hR ih N _ _ _ _ h)
noncomputable def gC_Tales_judge_laid_0 (N : Nat)  (a2 : Int32) (s : vSt) : Option (vSt) :=
  (some (s1 s 46 9 (s.1 7 1))).bind fun z1 =>
  (some (s1 z1 46 10 a2)).bind fun z2 =>
  gC_Tales_judge_laid_18 N N 0 1 z2
set_option maxRecDepth 4000 in
theorem wC_Tales_judge_laid_0 {P : vP} {l : Launch} {ad : Nat → Nat} {N : Nat} {t1 : vSt} (hX : vOK P l shC ad (vR 3 69) cX9_judge RX9 9) (hR : (∀ pc lv, decode cX9_judge pc = .ok (.return_, 1) → P t1 pc lv []))  {a2 : Int32} {s : vSt} (h : gC_Tales_judge_laid_0 N a2 s = some t1) : P s 0 [(0, .ref (ad 46)), (1, .ref (ad 7)), (2, .int a2)] [] := by
  unfold gC_Tales_judge_laid_0 at h
  refine v_aload_n hX dX9_judge_0 rfl 0 rfl ?_
  refine v_aload_n hX dX9_judge_1 rfl 1 rfl ?_
  refine gfC_7_1 hX kf_9_41 dX9_judge_2 ?_
  refine pfC_46_9 hX kf_9_37 dX9_judge_5 h (fun z1 h => ?_)
  refine v_aload_n hX dX9_judge_8 rfl 0 rfl ?_
  refine v_iload_n hX dX9_judge_9 rfl 2 rfl ?_
  refine pfC_46_10 hX kf_9_46 dX9_judge_10 h (fun z2 h => ?_)
  refine v_iconst (v := 0) hX dX9_judge_13 (by decide) ?_
  refine v_istore_n (lv' := [(3, .int 0), (0, .ref (ad 46)), (1, .ref (ad 7)), (2, .int a2)]) hX dX9_judge_14 rfl (by decide) rfl ?_
  refine v_iconst (v := 1) hX dX9_judge_15 (by decide) ?_
  refine v_istore (lv' := [(4, .int 1), (3, .int 0), (0, .ref (ad 46)), (1, .ref (ad 7)), (2, .int a2)]) hX dX9_judge_16 (by decide) rfl ?_
  exact v_sub hX [2, 3, 1, 0] (by rfl) (wC_Tales_judge_laid_18 hX hR  N _ _ _ h)
noncomputable def fC_Tales_judge_laid (N : Nat) (a2 : Int32) (s : vSt) : Option (vSt) := gC_Tales_judge_laid_0 N a2 s
theorem mC_Tales_judge_laid {N : Nat} {a2 : Int32} {s : vSt} {t1 : vSt} (h : fC_Tales_judge_laid N a2 s = some t1) (l : Launch) (ad : Nat → Nat) : vMV l shC ad yX9_judge cX9_judge 9 3 69 s [.ref (ad 46), .ref (ad 7), .int a2] t1 :=
  vMV_of (by decide +kernel) (Nat.le_of_ble_eq_true rfl) (fun P hX hR => wC_Tales_judge_laid_0 hX hR h)
-- C_Tales_countFits_laid
noncomputable def gC_Tales_countFits_laid_67 (N : Nat) (r21 : Int32 → Int32 → vSt → Option (vSt)) (a3 : Int32) (a4 : Int32) (k1 : Int32) (k2 : Int64) (s : vSt) : Option (vSt) :=
  (stoL s 48 480 k1 k2).bind fun z1 =>
  (some (a4 + 1 : Int32)).bind fun v2 =>
  r21 a3 v2 z1
set_option maxRecDepth 4000 in
theorem wC_Tales_countFits_laid_67 {P : vP} {l : Launch} {ad : Nat → Nat} {N : Nat} {r21 : Int32 → Int32 → vSt → Option (vSt)} {t1 : vSt} (hX : vOK P l shC ad (vR 4 97) cX9_countFits RX9 5) (hR : (∀ pc lv, decode cX9_countFits pc = .ok (.return_, 1) → P t1 pc lv [])) (H21 : ∀ (a3 : Int32) (a4 : Int32) (s : vSt), r21 a3 a4 s = some t1 → P s 21 [(0, .ref (ad 46)), (3, .int a3), (4, .int a4)] []) {a3 : Int32} {a4 : Int32} {k1 : Int32} {k2 : Int64} {s : vSt} (h : gC_Tales_countFits_laid_67 N r21 a3 a4 k1 k2 s = some t1) : P s 67 [(0, .ref (ad 46)), (3, .int a3), (4, .int a4)] [.long k2, .int k1, .ref (ad 48)] := by
  unfold gC_Tales_countFits_laid_67 at h
  refine asC_48 hX dX9_countFits_67 h (fun z1 h => ?_)
  refine v_iincN hX dX9_countFits_68 (j := 2) rfl (c := 1) (by decide) (by decide) h (fun v2 h => ?_)
  refine v_show (lv' := [(4, .int v2), (0, .ref (ad 46)), (3, .int a3)]) hX rfl ?_
  refine v_goto (tgt := 21) hX dX9_countFits_71 (by decide) ?_
  exact v_sub hX [1, 2, 0] (by rfl) (H21 _ _ _ h)
noncomputable def gC_Tales_countFits_laid_21 (N : Nat) (r13 : Int32 → vSt → Option (vSt)) : Nat → Int32 → Int32 → vSt → Option (vSt)
  | 0, _, _, _ => none
  | n + 1, a3, a4, s =>
    if ((2 : Int32) * (s.1 9 7)) ≤ a4 then
      (some (a3 + (-1) : Int32)).bind fun v1 =>
      r13 v1 s
    else
      (fC_Tales_isRight N a3 a4 s).bind fun p2 =>
      if p2.1 = 0 then
        gC_Tales_countFits_laid_67 N (gC_Tales_countFits_laid_21 N r13 n) a3 a4 ((a3 * 40) + a4) 0 p2.2
      else
        (fC_Tales_numberAt N a3 a4 p2.2).bind fun p3 =>
        gC_Tales_countFits_laid_67 N (gC_Tales_countFits_laid_21 N r13 n) a3 a4 ((a3 * 40) + a4) p3.1 p3.2
set_option maxRecDepth 4000 in
theorem wC_Tales_countFits_laid_21 {P : vP} {l : Launch} {ad : Nat → Nat} {N : Nat} {r13 : Int32 → vSt → Option (vSt)} {t1 : vSt} (hX : vOK P l shC ad (vR 4 97) cX9_countFits RX9 5) (hR : (∀ pc lv, decode cX9_countFits pc = .ok (.return_, 1) → P t1 pc lv [])) (H13 : ∀ (a3 : Int32) (s : vSt), r13 a3 s = some t1 → P s 13 [(0, .ref (ad 46)), (3, .int a3)] []) : ∀ (n : Nat) (a3 : Int32) (a4 : Int32) (s : vSt), gC_Tales_countFits_laid_21 N r13 n a3 a4 s = some t1 → P s 21 [(0, .ref (ad 46)), (3, .int a3), (4, .int a4)] [] := by
  intro n
  induction n with
  | zero => intro a3 a4 s h; cases h
  | succ n ih =>
    intro a3 a4 s h
    unfold gC_Tales_countFits_laid_21 at h
    refine v_iload hX dX9_countFits_21 2 rfl ?_
    refine v_iconst (v := 2) hX dX9_countFits_23 (by decide) ?_
    refine v_aload_n hX dX9_countFits_24 rfl 0 rfl ?_
    refine gfC_46_2 hX kf_9_29 dX9_countFits_25 ?_
    refine gfC_9_7 hX kf_9_58 dX9_countFits_28 ?_
    refine v_imul hX dX9_countFits_31 ?_
    refine v_icmp_ge (tgt := 74) hX dX9_countFits_32 (by decide) h (fun h => ?_) (fun h => ?_)
    · refine v_iincN hX dX9_countFits_74 (j := 1) rfl (c := (-1)) (by decide) (by decide) h (fun v1 h => ?_)
      refine v_show (lv' := [(3, .int v1), (0, .ref (ad 46)), (4, .int a4)]) hX rfl ?_
      refine v_goto (tgt := 13) hX dX9_countFits_77 (by decide) ?_
      exact v_sub hX [1, 0] (by rfl) (H13 _ _ h)
    · refine v_aload_n hX dX9_countFits_35 rfl 0 rfl ?_
      refine gfC_46_5 hX kf_9_15 dX9_countFits_36 ?_
      refine v_iload_n hX dX9_countFits_39 rfl 1 rfl ?_
      refine v_bipush (v := 40) hX dX9_countFits_40 (by decide) ?_
      refine v_imul hX dX9_countFits_42 ?_
      refine v_iload hX dX9_countFits_43 2 rfl ?_
      refine v_iadd hX dX9_countFits_45 ?_
      refine v_aload_n hX dX9_countFits_46 rfl 0 rfl ?_
      refine v_iload_n hX dX9_countFits_47 rfl 1 rfl ?_
      refine v_iload hX dX9_countFits_48 2 rfl ?_
      obtain ⟨p2, hp2, h⟩ := bsome h
      refine v_callVI (o := 46) hX (mC_Tales_isRight hp2 l ad) kM_X9_isRight kV_X9_isRight km_9_82 (by decide) (fun _ => rfl) rfl rfl rfl (Nat.le_of_ble_eq_true rfl) (by decide) dX9_countFits_50 ?_
      refine v_if_eq (tgt := 66) hX dX9_countFits_53 (by decide) h (fun h => ?_) (fun h => ?_)
      · refine v_lconst (v := 0) hX dX9_countFits_66 (by decide) ?_
        exact v_sub hX [0, 1, 2] (by rfl) (wC_Tales_countFits_laid_67 hX hR ih h)
      · refine v_aload_n hX dX9_countFits_56 rfl 0 rfl ?_
        refine v_iload_n hX dX9_countFits_57 rfl 1 rfl ?_
        refine v_iload hX dX9_countFits_58 2 rfl ?_
        obtain ⟨p3, hp3, h⟩ := bsome h
        refine v_callVL (o := 46) hX (mC_Tales_numberAt hp3 l ad) kM_X9_numberAt kV_X9_numberAt km_9_86 (by decide) (fun _ => rfl) rfl rfl rfl (Nat.le_of_ble_eq_true rfl) (by decide) dX9_countFits_60 ?_
        refine v_goto (tgt := 67) hX dX9_countFits_63 (by decide) ?_
        exact v_sub hX [0, 1, 2] (by rfl) (wC_Tales_countFits_laid_67 hX hR ih h)
noncomputable def gC_Tales_countFits_laid_13 (N : Nat)  : Nat → Int32 → vSt → Option (vSt)
  | 0, _, _ => none
  | n + 1, a3, s =>
    if a3 < 1 then
      some s
    else
      gC_Tales_countFits_laid_21 N (gC_Tales_countFits_laid_13 N n) N a3 0 s
set_option maxRecDepth 4000 in
theorem wC_Tales_countFits_laid_13 {P : vP} {l : Launch} {ad : Nat → Nat} {N : Nat} {t1 : vSt} (hX : vOK P l shC ad (vR 4 97) cX9_countFits RX9 5) (hR : (∀ pc lv, decode cX9_countFits pc = .ok (.return_, 1) → P t1 pc lv []))  : ∀ (n : Nat) (a3 : Int32) (s : vSt), gC_Tales_countFits_laid_13 N n a3 s = some t1 → P s 13 [(0, .ref (ad 46)), (3, .int a3)] [] := by
  intro n
  induction n with
  | zero => intro a3 s h; cases h
  | succ n ih =>
    intro a3 s h
    unfold gC_Tales_countFits_laid_13 at h
    refine v_iload_n hX dX9_countFits_13 rfl 1 rfl ?_
    refine v_iconst (v := 1) hX dX9_countFits_14 (by decide) ?_
    refine v_icmp_lt (tgt := 80) hX dX9_countFits_15 (by decide) h (fun h => ?_) (fun h => ?_)
    · exact v_retV hR h dX9_countFits_80
    · refine v_iconst (v := 0) hX dX9_countFits_18 (by decide) ?_
      refine v_istore (lv' := [(4, .int 0), (0, .ref (ad 46)), (3, .int a3)]) hX dX9_countFits_19 (by decide) rfl ?_
      exact v_sub hX [1, 2, 0] (by rfl) (wC_Tales_countFits_laid_21 hX hR ih N _ _ _ h)
noncomputable def gC_Tales_countFits_laid_0 (N : Nat)  (a2 : Int32) (s : vSt) : Option (vSt) :=
  (fC_Tales_judge_laid N a2 s).bind fun z1 =>
  (some ((z1.1 46 9) - 1 : Int32)).bind fun v2 =>
  gC_Tales_countFits_laid_13 N N v2 z1
set_option maxRecDepth 4000 in
theorem wC_Tales_countFits_laid_0 {P : vP} {l : Launch} {ad : Nat → Nat} {N : Nat} {t1 : vSt} (hX : vOK P l shC ad (vR 4 97) cX9_countFits RX9 5) (hR : (∀ pc lv, decode cX9_countFits pc = .ok (.return_, 1) → P t1 pc lv []))  {a2 : Int32} {s : vSt} (h : gC_Tales_countFits_laid_0 N a2 s = some t1) : P s 0 [(0, .ref (ad 46)), (1, .ref (ad 7)), (2, .int a2)] [] := by
  unfold gC_Tales_countFits_laid_0 at h
  refine v_aload_n hX dX9_countFits_0 rfl 0 rfl ?_
  refine v_aload_n hX dX9_countFits_1 rfl 1 rfl ?_
  refine v_iload_n hX dX9_countFits_2 rfl 2 rfl ?_
  obtain ⟨z1, hz1, h⟩ := bsome h
  refine v_callVV (o := 46) hX (mC_Tales_judge_laid hz1 l ad) kM_X9_judge kV_X9_judge km_9_78 (by decide) (fun _ => rfl) rfl rfl rfl (Nat.le_of_ble_eq_true rfl) (by decide) dX9_countFits_3 ?_
  refine v_aload_n hX dX9_countFits_6 rfl 0 rfl ?_
  refine gfC_46_9 hX kf_9_37 dX9_countFits_7 ?_
  refine v_iconst (v := 1) hX dX9_countFits_10 (by decide) ?_
  refine v_isub hX dX9_countFits_11 ?_
  refine v_nmI hX h (fun v2 h => ?_)
  refine v_istore_n (lv' := [(3, .int v2), (0, .ref (ad 46)), (1, .ref (ad 7)), (2, .int a2)]) hX dX9_countFits_12 rfl (by decide) rfl ?_
  exact v_sub hX [1, 0] (by rfl) (wC_Tales_countFits_laid_13 hX hR  N _ _ h)
noncomputable def fC_Tales_countFits_laid (N : Nat) (a2 : Int32) (s : vSt) : Option (vSt) := gC_Tales_countFits_laid_0 N a2 s
theorem mC_Tales_countFits_laid {N : Nat} {a2 : Int32} {s : vSt} {t1 : vSt} (h : fC_Tales_countFits_laid N a2 s = some t1) (l : Launch) (ad : Nat → Nat) : vMV l shC ad yX9_countFits cX9_countFits 5 4 97 s [.ref (ad 46), .ref (ad 7), .int a2] t1 :=
  vMV_of (by decide +kernel) (Nat.le_of_ble_eq_true rfl) (fun P hX hR => wC_Tales_countFits_laid_0 hX hR h)
-- C_EachAddsALine_tellHours
noncomputable def gC_EachAddsALine_tellHours_0 (N : Nat)  (a1 : Int32) (s : vSt) : Option (Int32 × vSt) :=
  (fC_Numbers_clear_row N s).bind fun z1 =>
  if a1 = (-1) then
    some (0, z1)
  else
    (fC_Numbers_add_row N 0 z1).bind fun z2 =>
    (fC_Numbers_add_row N a1 z2).bind fun z3 =>
    some (a1 + 1, z3)
set_option maxRecDepth 4000 in
theorem wC_EachAddsALine_tellHours_0 {P : vP} {l : Launch} {ad : Nat → Nat} {N : Nat} {r : Int32} {t1 : vSt} (hX : vOK P l shC ad (vR 1 21) cX11_tellHours RX11 2) (hR : (∀ pc lv, narrow .int (.int r) = .int r → decode cX11_tellHours pc = .ok (.ireturn, 1) → P t1 pc lv [.int r]))  {a1 : Int32} {s : vSt} (h : gC_EachAddsALine_tellHours_0 N a1 s = some (r, t1)) : P s 0 [(0, .ref (ad 0)), (1, .int a1)] [] := by
  unfold gC_EachAddsALine_tellHours_0 at h
  refine v_aload_n hX dX11_tellHours_0 rfl 0 rfl ?_
  refine gfC_0_1 hX kf_11_19 dX11_tellHours_1 ?_
  obtain ⟨z1, hz1, h⟩ := bsome h
  refine v_callVV (o := 3) hX (mC_Numbers_clear_row hz1 l ad) kM_X2_clear kV_X2_clear km_11_176 (by decide) (fun _ => rfl) rfl rfl rfl (Nat.le_of_ble_eq_true rfl) (by decide) dX11_tellHours_4 ?_
  refine v_iload_n hX dX11_tellHours_7 rfl 1 rfl ?_
  refine v_iconst (v := (-1)) hX dX11_tellHours_8 (by decide) ?_
  refine v_icmp_ne (tgt := 14) hX dX11_tellHours_9 (by decide) h (fun h => ?_) (fun h => ?_)
  · refine v_iconst (v := 0) hX dX11_tellHours_12 (by decide) ?_
    exact v_retI hR h dX11_tellHours_13
  · refine v_aload_n hX dX11_tellHours_14 rfl 0 rfl ?_
    refine gfC_0_1 hX kf_11_19 dX11_tellHours_15 ?_
    refine v_iconst (v := 0) hX dX11_tellHours_18 (by decide) ?_
    obtain ⟨z2, hz2, h⟩ := bsome h
    refine v_callVV (o := 3) hX (mC_Numbers_add_row hz2 l ad) kM_X2_add kV_X2_add km_11_182 (by decide) (fun _ => rfl) rfl rfl rfl (Nat.le_of_ble_eq_true rfl) (by decide) dX11_tellHours_19 ?_
    refine v_aload_n hX dX11_tellHours_22 rfl 0 rfl ?_
    refine gfC_0_1 hX kf_11_19 dX11_tellHours_23 ?_
    refine v_iload_n hX dX11_tellHours_26 rfl 1 rfl ?_
    obtain ⟨z3, hz3, h⟩ := bsome h
    refine v_callVV (o := 3) hX (mC_Numbers_add_row hz3 l ad) kM_X2_add kV_X2_add km_11_182 (by decide) (fun _ => rfl) rfl rfl rfl (Nat.le_of_ble_eq_true rfl) (by decide) dX11_tellHours_27 ?_
    refine v_iload_n hX dX11_tellHours_30 rfl 1 rfl ?_
    refine v_iconst (v := 1) hX dX11_tellHours_31 (by decide) ?_
    refine v_iadd hX dX11_tellHours_32 ?_
    exact v_retI hR h dX11_tellHours_33
noncomputable def fC_EachAddsALine_tellHours (N : Nat) (a1 : Int32) (s : vSt) : Option (Int32 × vSt) := gC_EachAddsALine_tellHours_0 N a1 s
theorem mC_EachAddsALine_tellHours {N : Nat} {a1 : Int32} {s : vSt} {r : Int32} {t1 : vSt} (h : fC_EachAddsALine_tellHours N a1 s = some (r, t1)) (l : Launch) (ad : Nat → Nat) : vMI l shC ad yX11_tellHours cX11_tellHours 2 .int 1 21 s [.ref (ad 0), .int a1] r t1 :=
  vMI_of (by decide +kernel) (Nat.le_of_ble_eq_true rfl) (fun P hX hR => wC_EachAddsALine_tellHours_0 hX hR h)
-- C_EachAddsALine_copies
noncomputable def gC_EachAddsALine_copies_0 (N : Nat)  (a1 : Int32) (a2 : Int32) (a3 : Int32) (s : vSt) : Option (Int32 × vSt) :=
  (fC_EachAddsALine_isTrip N a1 a2 0 s).bind fun p1 =>
  if p1.1 = 0 then
    some ((-1), p1.2)
  else
    (fC_Roads_hasPerson N a3 p1.2).bind fun p2 =>
    if p2.1 = 0 then
      some ((-1), p2.2)
    else
      if (p2.2.1 5 1) = 0 then
        some ((-2), p2.2)
      else
        if (p2.2.1 7 1) = 0 then
          some ((-2), p2.2)
        else
          (some ((-1) : Int32)).bind fun v3 =>
          (ld p2.2 6 12 0).bind fun v4 =>
          (ld p2.2 8 12 0).bind fun v5 =>
          if v4 = v5 then
            (fC_Tales_countFits_told N a2 p2.2).bind fun z6 =>
            (fC_Tales_latestStart N a1 z6).bind fun p7 =>
            (fC_Tales_countFits_laid N a3 p7.2).bind fun z8 =>
            (fC_Tales_latestStart N a1 z8).bind fun p9 =>
            (some (if p7.1 > p9.1 then p9.1 else p7.1 : Int32)).bind fun v10 =>
            (fC_EachAddsALine_tellHours N v10 p9.2).bind fun p11 =>
            some (p11.1, p11.2)
          else
            (fC_EachAddsALine_tellHours N v3 p2.2).bind fun p12 =>
            some (p12.1, p12.2)
set_option maxRecDepth 4000 in
theorem wC_EachAddsALine_copies_0 {P : vP} {l : Launch} {ad : Nat → Nat} {N : Nat} {r : Int32} {t1 : vSt} (hX : vOK P l shC ad (vR 5 121) cX11_copies RX11 5) (hR : (∀ pc lv, narrow .int (.int r) = .int r → decode cX11_copies pc = .ok (.ireturn, 1) → P t1 pc lv [.int r]))  {a1 : Int32} {a2 : Int32} {a3 : Int32} {s : vSt} (h : gC_EachAddsALine_copies_0 N a1 a2 a3 s = some (r, t1)) : P s 0 [(0, .ref (ad 0)), (1, .int a1), (2, .int a2), (3, .int a3)] [] := by
  unfold gC_EachAddsALine_copies_0 at h
  refine v_aload_n hX dX11_copies_0 rfl 0 rfl ?_
  refine v_iload_n hX dX11_copies_1 rfl 1 rfl ?_
  refine v_iload_n hX dX11_copies_2 rfl 2 rfl ?_
  refine v_iconst (v := 0) hX dX11_copies_3 (by decide) ?_
  obtain ⟨p1, hp1, h⟩ := bsome h
  refine v_callVI (o := 0) hX (mC_EachAddsALine_isTrip hp1 l ad) kM_X11_isTrip kV_X11_isTrip km_11_201 (by decide) (fun _ => rfl) rfl rfl rfl (Nat.le_of_ble_eq_true rfl) (by decide) dX11_copies_4 ?_
  refine v_if_eq (tgt := 21) hX dX11_copies_7 (by decide) h (fun h => ?_) (fun h => ?_)
  · refine v_iconst (v := (-1)) hX dX11_copies_21 (by decide) ?_
    exact v_retI hR h dX11_copies_22
  · refine v_aload_n hX dX11_copies_10 rfl 0 rfl ?_
    refine gfC_0_2 hX kf_11_26 dX11_copies_11 ?_
    refine v_iload_n hX dX11_copies_14 rfl 3 rfl ?_
    obtain ⟨p2, hp2, h⟩ := bsome h
    refine v_callVI (o := 9) hX (mC_Roads_hasPerson hp2 l ad) kM_X6_hasPerson kV_X6_hasPerson km_11_114 (by decide) (fun _ => rfl) rfl rfl rfl (Nat.le_of_ble_eq_true rfl) (by decide) dX11_copies_15 ?_
    refine v_if_ne (tgt := 23) hX dX11_copies_18 (by decide) h (fun h => ?_) (fun h => ?_)
    · refine v_iconst (v := (-1)) hX dX11_copies_21 (by decide) ?_
      exact v_retI hR h dX11_copies_22
    · refine v_aload_n hX dX11_copies_23 rfl 0 rfl ?_
      refine gfC_0_8 hX kf_11_73 dX11_copies_24 ?_
      refine gfC_5_1 hX kf_11_270 dX11_copies_27 ?_
      refine v_if_eq (tgt := 43) hX dX11_copies_30 (by decide) h (fun h => ?_) (fun h => ?_)
      · refine v_bipush (v := (-2)) hX dX11_copies_43 (by decide) ?_
        exact v_retI hR h dX11_copies_45
      · refine v_aload_n hX dX11_copies_33 rfl 0 rfl ?_
        refine gfC_0_9 hX kf_11_76 dX11_copies_34 ?_
        refine gfC_7_1 hX kf_11_270 dX11_copies_37 ?_
        refine v_if_ne (tgt := 46) hX dX11_copies_40 (by decide) h (fun h => ?_) (fun h => ?_)
        · refine v_bipush (v := (-2)) hX dX11_copies_43 (by decide) ?_
          exact v_retI hR h dX11_copies_45
        · refine v_iconst (v := (-1)) hX dX11_copies_46 (by decide) ?_
          refine v_nmI hX h (fun v3 h => ?_)
          refine v_istore (lv' := [(4, .int v3), (0, .ref (ad 0)), (1, .int a1), (2, .int a2), (3, .int a3)]) hX dX11_copies_47 (by decide) rfl ?_
          refine v_aload_n hX dX11_copies_49 rfl 1 rfl ?_
          refine gfC_0_8 hX kf_11_73 dX11_copies_50 ?_
          refine gfC_5_0 hX kf_11_320 dX11_copies_53 ?_
          refine v_iconst (v := 0) hX dX11_copies_56 (by decide) ?_
          refine alC_6 hX dX11_copies_57 h (fun v4 h => ?_)
          refine v_aload_n hX dX11_copies_58 rfl 1 rfl ?_
          refine gfC_0_9 hX kf_11_76 dX11_copies_59 ?_
          refine gfC_7_0 hX kf_11_320 dX11_copies_62 ?_
          refine v_iconst (v := 0) hX dX11_copies_65 (by decide) ?_
          refine alC_8 hX dX11_copies_66 h (fun v5 h => ?_)
          refine v_icmp_ne (tgt := 119) hX dX11_copies_67 (by decide) h (fun h => ?_) (fun h => ?_)
          · refine v_aload_n hX dX11_copies_70 rfl 1 rfl ?_
            refine gfC_0_10 hX kf_11_82 dX11_copies_71 ?_
            refine v_aload_n hX dX11_copies_74 rfl 1 rfl ?_
            refine gfC_0_8 hX kf_11_73 dX11_copies_75 ?_
            refine v_iload_n hX dX11_copies_78 rfl 3 rfl ?_
            obtain ⟨z6, hz6, h⟩ := bsome h
            refine v_callVV (o := 46) hX (mC_Tales_countFits_told hz6 l ad) kM_X9_countFits kV_X9_countFits km_11_278 (by decide) (fun _ => rfl) rfl rfl rfl (Nat.le_of_ble_eq_true rfl) (by decide) dX11_copies_79 ?_
            refine v_aload_n hX dX11_copies_82 rfl 1 rfl ?_
            refine gfC_0_10 hX kf_11_82 dX11_copies_83 ?_
            refine v_iload_n hX dX11_copies_86 rfl 2 rfl ?_
            obtain ⟨p7, hp7, h⟩ := bsome h
            refine v_callVI (o := 46) hX (mC_Tales_latestStart hp7 l ad) kM_X9_latestStart kV_X9_latestStart km_11_323 (by decide) (fun _ => rfl) rfl rfl rfl (Nat.le_of_ble_eq_true rfl) (by decide) dX11_copies_87 ?_
            refine v_istore (lv' := [(4, .int p7.1), (0, .ref (ad 0)), (1, .int a1), (2, .int a2), (3, .int a3)]) hX dX11_copies_90 (by decide) rfl ?_
            refine v_aload_n hX dX11_copies_92 rfl 1 rfl ?_
            refine gfC_0_10 hX kf_11_82 dX11_copies_93 ?_
            refine v_aload_n hX dX11_copies_96 rfl 1 rfl ?_
            refine gfC_0_9 hX kf_11_76 dX11_copies_97 ?_
            refine v_iload_n hX dX11_copies_100 rfl 4 rfl ?_
            obtain ⟨z8, hz8, h⟩ := bsome h
            refine v_callVV (o := 46) hX (mC_Tales_countFits_laid hz8 l ad) kM_X9_countFits kV_X9_countFits km_11_278 (by decide) (fun _ => rfl) rfl rfl rfl (Nat.le_of_ble_eq_true rfl) (by decide) dX11_copies_101 ?_
            refine v_iload hX dX11_copies_104 0 rfl ?_
            refine v_aload_n hX dX11_copies_106 rfl 1 rfl ?_
            refine gfC_0_10 hX kf_11_82 dX11_copies_107 ?_
            refine v_iload_n hX dX11_copies_110 rfl 2 rfl ?_
            obtain ⟨p9, hp9, h⟩ := bsome h
            refine v_callVI (o := 46) hX (mC_Tales_latestStart hp9 l ad) kM_X9_latestStart kV_X9_latestStart km_11_323 (by decide) (fun _ => rfl) rfl rfl rfl (Nat.le_of_ble_eq_true rfl) (by decide) dX11_copies_111 ?_
            refine v_min hX km_11_325 kS_J9_min_7cf53 kI_Math kC_min (Nat.le_of_ble_eq_true rfl) (Nat.le_of_ble_eq_true rfl) dX11_copies_114 ?_
            refine v_nmI hX h (fun v10 h => ?_)
            refine v_istore (lv' := [(4, .int v10), (0, .ref (ad 0)), (1, .int a1), (2, .int a2), (3, .int a3)]) hX dX11_copies_117 (by decide) rfl ?_
            refine v_aload_n hX dX11_copies_119 rfl 1 rfl ?_
            refine v_iload hX dX11_copies_120 0 rfl ?_
            obtain ⟨p11, hp11, h⟩ := bsome h
            refine v_callVI (o := 0) hX (mC_EachAddsALine_tellHours hp11 l ad) kM_X11_tellHours kV_X11_tellHours km_11_330 (by decide) (fun _ => rfl) rfl rfl rfl (Nat.le_of_ble_eq_true rfl) (by decide) dX11_copies_122 ?_
            exact v_retI hR h dX11_copies_125
          · refine v_aload_n hX dX11_copies_119 rfl 1 rfl ?_
            refine v_iload hX dX11_copies_120 0 rfl ?_
            obtain ⟨p12, hp12, h⟩ := bsome h
            refine v_callVI (o := 0) hX (mC_EachAddsALine_tellHours hp12 l ad) kM_X11_tellHours kV_X11_tellHours km_11_330 (by decide) (fun _ => rfl) rfl rfl rfl (Nat.le_of_ble_eq_true rfl) (by decide) dX11_copies_122 ?_
            exact v_retI hR h dX11_copies_125
noncomputable def fC_EachAddsALine_copies (N : Nat) (a1 : Int32) (a2 : Int32) (a3 : Int32) (s : vSt) : Option (Int32 × vSt) := gC_EachAddsALine_copies_0 N a1 a2 a3 s
theorem mC_EachAddsALine_copies {N : Nat} {a1 : Int32} {a2 : Int32} {a3 : Int32} {s : vSt} {r : Int32} {t1 : vSt} (h : fC_EachAddsALine_copies N a1 a2 a3 s = some (r, t1)) (l : Launch) (ad : Nat → Nat) : vMI l shC ad yX11_copies cX11_copies 5 .int 5 121 s [.ref (ad 0), .int a1, .int a2, .int a3] r t1 :=
  vMI_of (by decide +kernel) (Nat.le_of_ble_eq_true rfl) (fun P hX hR => wC_EachAddsALine_copies_0 hX hR h)
-- C_EachAddsALine_when
noncomputable def gC_EachAddsALine_when_0 (N : Nat)  (a1 : Int32) (a2 : Int32) (s : vSt) : Option (Int32 × vSt) :=
  (fC_EachAddsALine_isTrip N a1 a2 0 s).bind fun p1 =>
  if p1.1 = 0 then
    some ((-1), p1.2)
  else
    if (p1.2.1 5 1) = 0 then
      some ((-2), p1.2)
    else
      (fC_Tales_countFits_told N a2 p1.2).bind fun z2 =>
      (fC_Tales_latestStart N a1 z2).bind fun p3 =>
      (fC_EachAddsALine_tellHours N p3.1 p3.2).bind fun p4 =>
      some (p4.1, p4.2)
set_option maxRecDepth 4000 in
theorem wC_EachAddsALine_when_0 {P : vP} {l : Launch} {ad : Nat → Nat} {N : Nat} {r : Int32} {t1 : vSt} (hX : vOK P l shC ad (vR 5 121) cX11_when RX11 3) (hR : (∀ pc lv, narrow .int (.int r) = .int r → decode cX11_when pc = .ok (.ireturn, 1) → P t1 pc lv [.int r]))  {a1 : Int32} {a2 : Int32} {s : vSt} (h : gC_EachAddsALine_when_0 N a1 a2 s = some (r, t1)) : P s 0 [(0, .ref (ad 0)), (1, .int a1), (2, .int a2)] [] := by
  unfold gC_EachAddsALine_when_0 at h
  refine v_aload_n hX dX11_when_0 rfl 0 rfl ?_
  refine v_iload_n hX dX11_when_1 rfl 1 rfl ?_
  refine v_iload_n hX dX11_when_2 rfl 2 rfl ?_
  refine v_iconst (v := 0) hX dX11_when_3 (by decide) ?_
  obtain ⟨p1, hp1, h⟩ := bsome h
  refine v_callVI (o := 0) hX (mC_EachAddsALine_isTrip hp1 l ad) kM_X11_isTrip kV_X11_isTrip km_11_201 (by decide) (fun _ => rfl) rfl rfl rfl (Nat.le_of_ble_eq_true rfl) (by decide) dX11_when_4 ?_
  refine v_if_ne (tgt := 12) hX dX11_when_7 (by decide) h (fun h => ?_) (fun h => ?_)
  · refine v_iconst (v := (-1)) hX dX11_when_10 (by decide) ?_
    exact v_retI hR h dX11_when_11
  · refine v_aload_n hX dX11_when_12 rfl 0 rfl ?_
    refine gfC_0_8 hX kf_11_73 dX11_when_13 ?_
    refine gfC_5_1 hX kf_11_270 dX11_when_16 ?_
    refine v_if_ne (tgt := 25) hX dX11_when_19 (by decide) h (fun h => ?_) (fun h => ?_)
    · refine v_bipush (v := (-2)) hX dX11_when_22 (by decide) ?_
      exact v_retI hR h dX11_when_24
    · refine v_aload_n hX dX11_when_25 rfl 0 rfl ?_
      refine gfC_0_10 hX kf_11_82 dX11_when_26 ?_
      refine v_aload_n hX dX11_when_29 rfl 0 rfl ?_
      refine gfC_0_8 hX kf_11_73 dX11_when_30 ?_
      refine v_iload_n hX dX11_when_33 rfl 2 rfl ?_
      obtain ⟨z2, hz2, h⟩ := bsome h
      refine v_callVV (o := 46) hX (mC_Tales_countFits_told hz2 l ad) kM_X9_countFits kV_X9_countFits km_11_278 (by decide) (fun _ => rfl) rfl rfl rfl (Nat.le_of_ble_eq_true rfl) (by decide) dX11_when_34 ?_
      refine v_aload_n hX dX11_when_37 rfl 0 rfl ?_
      refine v_aload_n hX dX11_when_38 rfl 0 rfl ?_
      refine gfC_0_10 hX kf_11_82 dX11_when_39 ?_
      refine v_iload_n hX dX11_when_42 rfl 1 rfl ?_
      obtain ⟨p3, hp3, h⟩ := bsome h
      refine v_callVI (o := 46) hX (mC_Tales_latestStart hp3 l ad) kM_X9_latestStart kV_X9_latestStart km_11_323 (by decide) (fun _ => rfl) rfl rfl rfl (Nat.le_of_ble_eq_true rfl) (by decide) dX11_when_43 ?_
      obtain ⟨p4, hp4, h⟩ := bsome h
      refine v_callVI (o := 0) hX (mC_EachAddsALine_tellHours hp4 l ad) kM_X11_tellHours kV_X11_tellHours km_11_330 (by decide) (fun _ => rfl) rfl rfl rfl (Nat.le_of_ble_eq_true rfl) (by decide) dX11_when_46 ?_
      exact v_retI hR h dX11_when_49
noncomputable def fC_EachAddsALine_when (N : Nat) (a1 : Int32) (a2 : Int32) (s : vSt) : Option (Int32 × vSt) := gC_EachAddsALine_when_0 N a1 a2 s
theorem mC_EachAddsALine_when {N : Nat} {a1 : Int32} {a2 : Int32} {s : vSt} {r : Int32} {t1 : vSt} (h : fC_EachAddsALine_when N a1 a2 s = some (r, t1)) (l : Launch) (ad : Nat → Nat) : vMI l shC ad yX11_when cX11_when 3 .int 5 121 s [.ref (ad 0), .int a1, .int a2] r t1 :=
  vMI_of (by decide +kernel) (Nat.le_of_ble_eq_true rfl) (fun P hX hR => wC_EachAddsALine_when_0 hX hR h)
-- C_Paths_answerHour
noncomputable def gC_Paths_answerHour_0 (N : Nat)  (a1 : Int32) (a2 : Int32) (a3 : Int32) (s : vSt) : Option (Int32 × vSt) :=
  (fC_Paths_spread N a1 a3 0 (-1) s).bind fun z1 =>
  (ld z1 42 9 a2).bind fun v2 =>
  if v2 = (-1) then
    some ((-1), z1)
  else
    (some (s1 z1 41 1 v2)).bind fun z3 =>
    (ld z3 10 9 a2).bind fun v4 =>
    (fC_Paths_spread N a2 (v2 + v4) 0 (-1) z3).bind fun z5 =>
    (ld z5 42 9 a1).bind fun v6 =>
    some (v6, z5)
set_option maxRecDepth 4000 in
theorem wC_Paths_answerHour_0 {P : vP} {l : Launch} {ad : Nat → Nat} {N : Nat} {r : Int32} {t1 : vSt} (hX : vOK P l shC ad (vR 3 74) cX3_answerHour RX3 5) (hR : (∀ pc lv, narrow .int (.int r) = .int r → decode cX3_answerHour pc = .ok (.ireturn, 1) → P t1 pc lv [.int r]))  {a1 : Int32} {a2 : Int32} {a3 : Int32} {s : vSt} (h : gC_Paths_answerHour_0 N a1 a2 a3 s = some (r, t1)) : P s 0 [(0, .ref (ad 41)), (1, .int a1), (2, .int a2), (3, .int a3)] [] := by
  unfold gC_Paths_answerHour_0 at h
  refine v_aload_n hX dX3_answerHour_0 rfl 0 rfl ?_
  refine v_iload_n hX dX3_answerHour_1 rfl 1 rfl ?_
  refine v_iload_n hX dX3_answerHour_2 rfl 3 rfl ?_
  refine v_iconst (v := 0) hX dX3_answerHour_3 (by decide) ?_
  refine v_iconst (v := (-1)) hX dX3_answerHour_4 (by decide) ?_
  obtain ⟨z1, hz1, h⟩ := bsome h
  refine v_callVV (o := 41) hX (mC_Paths_spread hz1 l ad) kM_X3_spread kV_X3_spread km_3_132 (by decide) (fun _ => rfl) rfl rfl rfl (Nat.le_of_ble_eq_true rfl) (by decide) dX3_answerHour_5 ?_
  refine v_aload_n hX dX3_answerHour_8 rfl 0 rfl ?_
  refine gfC_41_0 hX kf_3_9 dX3_answerHour_9 ?_
  refine v_iload_n hX dX3_answerHour_12 rfl 2 rfl ?_
  refine alC_42 hX dX3_answerHour_13 h (fun v2 h => ?_)
  refine v_istore (lv' := [(4, .int v2), (0, .ref (ad 41)), (1, .int a1), (2, .int a2), (3, .int a3)]) hX dX3_answerHour_14 (by decide) rfl ?_
  refine v_iload hX dX3_answerHour_16 0 rfl ?_
  refine v_iconst (v := (-1)) hX dX3_answerHour_18 (by decide) ?_
  refine v_icmp_ne (tgt := 24) hX dX3_answerHour_19 (by decide) h (fun h => ?_) (fun h => ?_)
  · refine v_iconst (v := (-1)) hX dX3_answerHour_22 (by decide) ?_
    exact v_retI hR h dX3_answerHour_23
  · refine v_aload_n hX dX3_answerHour_24 rfl 1 rfl ?_
    refine v_iload hX dX3_answerHour_25 0 rfl ?_
    refine pfC_41_1 hX kf_3_158 dX3_answerHour_27 h (fun z3 h => ?_)
    refine v_aload_n hX dX3_answerHour_30 rfl 1 rfl ?_
    refine v_iload_n hX dX3_answerHour_31 rfl 3 rfl ?_
    refine v_iload hX dX3_answerHour_32 0 rfl ?_
    refine v_aload_n hX dX3_answerHour_34 rfl 1 rfl ?_
    refine gfC_41_3 hX kf_3_25 dX3_answerHour_35 ?_
    refine gfC_9_0 hX kf_3_62 dX3_answerHour_38 ?_
    refine v_iload_n hX dX3_answerHour_41 rfl 3 rfl ?_
    refine alC_10 hX dX3_answerHour_42 h (fun v4 h => ?_)
    refine v_iadd hX dX3_answerHour_43 ?_
    refine v_iconst (v := 0) hX dX3_answerHour_44 (by decide) ?_
    refine v_iconst (v := (-1)) hX dX3_answerHour_45 (by decide) ?_
    obtain ⟨z5, hz5, h⟩ := bsome h
    refine v_callVV (o := 41) hX (mC_Paths_spread hz5 l ad) kM_X3_spread kV_X3_spread km_3_132 (by decide) (fun _ => rfl) rfl rfl rfl (Nat.le_of_ble_eq_true rfl) (by decide) dX3_answerHour_46 ?_
    refine v_aload_n hX dX3_answerHour_49 rfl 1 rfl ?_
    refine gfC_41_0 hX kf_3_9 dX3_answerHour_50 ?_
    refine v_iload_n hX dX3_answerHour_53 rfl 2 rfl ?_
    refine alC_42 hX dX3_answerHour_54 h (fun v6 h => ?_)
    exact v_retI hR h dX3_answerHour_55
noncomputable def fC_Paths_answerHour (N : Nat) (a1 : Int32) (a2 : Int32) (a3 : Int32) (s : vSt) : Option (Int32 × vSt) := gC_Paths_answerHour_0 N a1 a2 a3 s
theorem mC_Paths_answerHour {N : Nat} {a1 : Int32} {a2 : Int32} {a3 : Int32} {s : vSt} {r : Int32} {t1 : vSt} (h : fC_Paths_answerHour N a1 a2 a3 s = some (r, t1)) (l : Launch) (ad : Nat → Nat) : vMI l shC ad yX3_answerHour cX3_answerHour 5 .int 3 74 s [.ref (ad 41), .int a1, .int a2, .int a3] r t1 :=
  vMI_of (by decide +kernel) (Nat.le_of_ble_eq_true rfl) (fun P hX hR => wC_Paths_answerHour_0 hX hR h)
-- C_EachAddsALine_answer
noncomputable def gC_EachAddsALine_answer_0 (N : Nat)  (a1 : Int32) (a2 : Int32) (a3 : Int32) (s : vSt) : Option (Int32 × vSt) :=
  (fC_EachAddsALine_isTrip N a1 a2 a3 s).bind fun p1 =>
  if p1.1 = 0 then
    some ((-1), p1.2)
  else
    if a1 = a2 then
      some ((-1), p1.2)
    else
      (fC_Paths_answerHour N a1 a2 a3 p1.2).bind fun p2 =>
      if p2.1 = (-1) then
        some ((-2), p2.2)
      else
        (fC_Numbers_clear_row N p2.2).bind fun z3 =>
        (fC_Numbers_add_row N (z3.1 41 1) z3).bind fun z4 =>
        some (p2.1, z4)
set_option maxRecDepth 4000 in
theorem wC_EachAddsALine_answer_0 {P : vP} {l : Launch} {ad : Nat → Nat} {N : Nat} {r : Int32} {t1 : vSt} (hX : vOK P l shC ad (vR 4 98) cX11_answer RX11 5) (hR : (∀ pc lv, narrow .int (.int r) = .int r → decode cX11_answer pc = .ok (.ireturn, 1) → P t1 pc lv [.int r]))  {a1 : Int32} {a2 : Int32} {a3 : Int32} {s : vSt} (h : gC_EachAddsALine_answer_0 N a1 a2 a3 s = some (r, t1)) : P s 0 [(0, .ref (ad 0)), (1, .int a1), (2, .int a2), (3, .int a3)] [] := by
  unfold gC_EachAddsALine_answer_0 at h
  refine v_aload_n hX dX11_answer_0 rfl 0 rfl ?_
  refine v_iload_n hX dX11_answer_1 rfl 1 rfl ?_
  refine v_iload_n hX dX11_answer_2 rfl 2 rfl ?_
  refine v_iload_n hX dX11_answer_3 rfl 3 rfl ?_
  obtain ⟨p1, hp1, h⟩ := bsome h
  refine v_callVI (o := 0) hX (mC_EachAddsALine_isTrip hp1 l ad) kM_X11_isTrip kV_X11_isTrip km_11_201 (by decide) (fun _ => rfl) rfl rfl rfl (Nat.le_of_ble_eq_true rfl) (by decide) dX11_answer_4 ?_
  refine v_if_eq (tgt := 15) hX dX11_answer_7 (by decide) h (fun h => ?_) (fun h => ?_)
  · refine v_iconst (v := (-1)) hX dX11_answer_15 (by decide) ?_
    exact v_retI hR h dX11_answer_16
  · refine v_iload_n hX dX11_answer_10 rfl 1 rfl ?_
    refine v_iload_n hX dX11_answer_11 rfl 2 rfl ?_
    refine v_icmp_ne (tgt := 17) hX dX11_answer_12 (by decide) h (fun h => ?_) (fun h => ?_)
    · refine v_iconst (v := (-1)) hX dX11_answer_15 (by decide) ?_
      exact v_retI hR h dX11_answer_16
    · refine v_aload_n hX dX11_answer_17 rfl 0 rfl ?_
      refine gfC_0_7 hX kf_11_69 dX11_answer_18 ?_
      refine v_iload_n hX dX11_answer_21 rfl 1 rfl ?_
      refine v_iload_n hX dX11_answer_22 rfl 2 rfl ?_
      refine v_iload_n hX dX11_answer_23 rfl 3 rfl ?_
      obtain ⟨p2, hp2, h⟩ := bsome h
      refine v_callVI (o := 41) hX (mC_Paths_answerHour hp2 l ad) kM_X3_answerHour kV_X3_answerHour km_11_333 (by decide) (fun _ => rfl) rfl rfl rfl (Nat.le_of_ble_eq_true rfl) (by decide) dX11_answer_24 ?_
      refine v_istore (lv' := [(4, .int p2.1), (0, .ref (ad 0)), (1, .int a1), (2, .int a2), (3, .int a3)]) hX dX11_answer_27 (by decide) rfl ?_
      refine v_iload hX dX11_answer_29 0 rfl ?_
      refine v_iconst (v := (-1)) hX dX11_answer_31 (by decide) ?_
      refine v_icmp_ne (tgt := 38) hX dX11_answer_32 (by decide) h (fun h => ?_) (fun h => ?_)
      · refine v_bipush (v := (-2)) hX dX11_answer_35 (by decide) ?_
        exact v_retI hR h dX11_answer_37
      · refine v_aload_n hX dX11_answer_38 rfl 1 rfl ?_
        refine gfC_0_1 hX kf_11_19 dX11_answer_39 ?_
        obtain ⟨z3, hz3, h⟩ := bsome h
        refine v_callVV (o := 3) hX (mC_Numbers_clear_row hz3 l ad) kM_X2_clear kV_X2_clear km_11_176 (by decide) (fun _ => rfl) rfl rfl rfl (Nat.le_of_ble_eq_true rfl) (by decide) dX11_answer_42 ?_
        refine v_aload_n hX dX11_answer_45 rfl 1 rfl ?_
        refine gfC_0_1 hX kf_11_19 dX11_answer_46 ?_
        refine v_aload_n hX dX11_answer_49 rfl 1 rfl ?_
        refine gfC_0_7 hX kf_11_69 dX11_answer_50 ?_
        refine gfC_41_1 hX kf_11_336 dX11_answer_53 ?_
        obtain ⟨z4, hz4, h⟩ := bsome h
        refine v_callVV (o := 3) hX (mC_Numbers_add_row hz4 l ad) kM_X2_add kV_X2_add km_11_182 (by decide) (fun _ => rfl) rfl rfl rfl (Nat.le_of_ble_eq_true rfl) (by decide) dX11_answer_56 ?_
        refine v_iload hX dX11_answer_59 0 rfl ?_
        exact v_retI hR h dX11_answer_61
noncomputable def fC_EachAddsALine_answer (N : Nat) (a1 : Int32) (a2 : Int32) (a3 : Int32) (s : vSt) : Option (Int32 × vSt) := gC_EachAddsALine_answer_0 N a1 a2 a3 s
theorem mC_EachAddsALine_answer {N : Nat} {a1 : Int32} {a2 : Int32} {a3 : Int32} {s : vSt} {r : Int32} {t1 : vSt} (h : fC_EachAddsALine_answer N a1 a2 a3 s = some (r, t1)) (l : Launch) (ad : Nat → Nat) : vMI l shC ad yX11_answer cX11_answer 5 .int 4 98 s [.ref (ad 0), .int a1, .int a2, .int a3] r t1 :=
  vMI_of (by decide +kernel) (Nat.le_of_ble_eq_true rfl) (fun P hX hR => wC_EachAddsALine_answer_0 hX hR h)
-- C_EachAddsALine_ask
noncomputable def gC_EachAddsALine_ask_86 (N : Nat) (r31 : Int32 → Int32 → Int32 → Int32 → Int32 → vSt → Option (Int32 × vSt)) (a1 : Int32) (a2 : Int32) (a3 : Int32) (a4 : Int32) (a5 : Int32) (s : vSt) : Option (Int32 × vSt) :=
  (some (a5 + 1 : Int32)).bind fun v1 =>
  r31 a1 a2 a3 a4 v1 s
set_option maxRecDepth 4000 in
theorem wC_EachAddsALine_ask_86 {P : vP} {l : Launch} {ad : Nat → Nat} {N : Nat} {r31 : Int32 → Int32 → Int32 → Int32 → Int32 → vSt → Option (Int32 × vSt)} {r : Int32} {t1 : vSt} (hX : vOK P l shC ad (vR 4 98) cX11_ask RX11 7) (hR : (∀ pc lv, narrow .int (.int r) = .int r → decode cX11_ask pc = .ok (.ireturn, 1) → P t1 pc lv [.int r])) (H31 : ∀ (a1 : Int32) (a2 : Int32) (a3 : Int32) (a4 : Int32) (a5 : Int32) (s : vSt), r31 a1 a2 a3 a4 a5 s = some (r, t1) → P s 31 [(0, .ref (ad 0)), (1, .int a1), (2, .int a2), (3, .int a3), (4, .int a4), (5, .int a5)] []) {a1 : Int32} {a2 : Int32} {a3 : Int32} {a4 : Int32} {a5 : Int32} {s : vSt} (h : gC_EachAddsALine_ask_86 N r31 a1 a2 a3 a4 a5 s = some (r, t1)) : P s 86 [(0, .ref (ad 0)), (1, .int a1), (2, .int a2), (3, .int a3), (4, .int a4), (5, .int a5)] [] := by
  unfold gC_EachAddsALine_ask_86 at h
  refine v_iincN hX dX11_ask_86 (j := 5) rfl (c := 1) (by decide) (by decide) h (fun v1 h => ?_)
  refine v_show (lv' := [(5, .int v1), (0, .ref (ad 0)), (1, .int a1), (2, .int a2), (3, .int a3), (4, .int a4)]) hX rfl ?_
  refine v_goto (tgt := 31) hX dX11_ask_89 (by decide) ?_
  exact v_sub hX [1, 2, 3, 4, 5, 0] (by rfl) (H31 _ _ _ _ _ _ h)
noncomputable def gC_EachAddsALine_ask_64 (N : Nat) (r31 : Int32 → Int32 → Int32 → Int32 → Int32 → vSt → Option (Int32 × vSt)) (a1 : Int32) (a2 : Int32) (a3 : Int32) (a4 : Int32) (a5 : Int32) (k0 : Int32) (s : vSt) : Option (Int32 × vSt) :=
  if k0 = (-1) then
    gC_EachAddsALine_ask_86 N r31 a1 a2 a3 a4 a5 s
  else
    if a4 ≤ k0 then
      gC_EachAddsALine_ask_86 N r31 a1 a2 a3 a4 a5 s
    else
      gC_EachAddsALine_ask_86 N r31 a1 a2 a5 k0 a5 s
set_option maxRecDepth 4000 in
theorem wC_EachAddsALine_ask_64 {P : vP} {l : Launch} {ad : Nat → Nat} {N : Nat} {r31 : Int32 → Int32 → Int32 → Int32 → Int32 → vSt → Option (Int32 × vSt)} {r : Int32} {t1 : vSt} (hX : vOK P l shC ad (vR 4 98) cX11_ask RX11 7) (hR : (∀ pc lv, narrow .int (.int r) = .int r → decode cX11_ask pc = .ok (.ireturn, 1) → P t1 pc lv [.int r])) (H31 : ∀ (a1 : Int32) (a2 : Int32) (a3 : Int32) (a4 : Int32) (a5 : Int32) (s : vSt), r31 a1 a2 a3 a4 a5 s = some (r, t1) → P s 31 [(0, .ref (ad 0)), (1, .int a1), (2, .int a2), (3, .int a3), (4, .int a4), (5, .int a5)] []) {a1 : Int32} {a2 : Int32} {a3 : Int32} {a4 : Int32} {a5 : Int32} {k0 : Int32} {s : vSt} (h : gC_EachAddsALine_ask_64 N r31 a1 a2 a3 a4 a5 k0 s = some (r, t1)) : P s 64 [(0, .ref (ad 0)), (1, .int a1), (2, .int a2), (3, .int a3), (4, .int a4), (5, .int a5)] [.int k0] := by
  unfold gC_EachAddsALine_ask_64 at h
  refine v_istore (lv' := [(6, .int k0), (0, .ref (ad 0)), (1, .int a1), (2, .int a2), (3, .int a3), (4, .int a4), (5, .int a5)]) hX dX11_ask_64 (by decide) rfl ?_
  refine v_iload hX dX11_ask_66 0 rfl ?_
  refine v_iconst (v := (-1)) hX dX11_ask_68 (by decide) ?_
  refine v_icmp_eq (tgt := 86) hX dX11_ask_69 (by decide) h (fun h => ?_) (fun h => ?_)
  · exact v_sub hX [1, 2, 3, 4, 5, 6] (by rfl) (wC_EachAddsALine_ask_86 hX hR H31 h)
  · refine v_iload hX dX11_ask_72 0 rfl ?_
    refine v_iload hX dX11_ask_74 5 rfl ?_
    refine v_icmp_ge (tgt := 86) hX dX11_ask_76 (by decide) h (fun h => ?_) (fun h => ?_)
    · exact v_sub hX [1, 2, 3, 4, 5, 6] (by rfl) (wC_EachAddsALine_ask_86 hX hR H31 h)
    · refine v_iload hX dX11_ask_79 6 rfl ?_
      refine v_istore_n (lv' := [(3, .int a5), (6, .int k0), (0, .ref (ad 0)), (1, .int a1), (2, .int a2), (4, .int a4), (5, .int a5)]) hX dX11_ask_81 rfl (by decide) rfl ?_
      refine v_iload hX dX11_ask_82 1 rfl ?_
      refine v_istore (lv' := [(4, .int k0), (3, .int a5), (6, .int k0), (0, .ref (ad 0)), (1, .int a1), (2, .int a2), (5, .int a5)]) hX dX11_ask_84 (by decide) rfl ?_
      exact v_sub hX [3, 4, 5, 1, 0, 6] (by rfl) (wC_EachAddsALine_ask_86 hX hR H31 h)
noncomputable def gC_EachAddsALine_ask_31 (N : Nat)  : Nat → Int32 → Int32 → Int32 → Int32 → Int32 → vSt → Option (Int32 × vSt)
  | 0, _, _, _, _, _, _ => none
  | n + 1, a1, a2, a3, a4, a5, s =>
    if (s.1 9 6) ≤ a5 then
      if a3 = (-2) then
        some (a3, s)
      else
        (fC_Numbers_clear_row N s).bind fun z1 =>
        (fC_Numbers_add_row N a4 z1).bind fun z2 =>
        some (a3, z2)
    else
      if a5 = a1 then
        gC_EachAddsALine_ask_64 N (gC_EachAddsALine_ask_31 N n) a1 a2 a3 a4 a5 (-1) s
      else
        (fC_Paths_answerHour N a1 a5 a2 s).bind fun p3 =>
        gC_EachAddsALine_ask_64 N (gC_EachAddsALine_ask_31 N n) a1 a2 a3 a4 a5 p3.1 p3.2
set_option maxRecDepth 4000 in
theorem wC_EachAddsALine_ask_31 {P : vP} {l : Launch} {ad : Nat → Nat} {N : Nat} {r : Int32} {t1 : vSt} (hX : vOK P l shC ad (vR 4 98) cX11_ask RX11 7) (hR : (∀ pc lv, narrow .int (.int r) = .int r → decode cX11_ask pc = .ok (.ireturn, 1) → P t1 pc lv [.int r]))  : ∀ (n : Nat) (a1 : Int32) (a2 : Int32) (a3 : Int32) (a4 : Int32) (a5 : Int32) (s : vSt), gC_EachAddsALine_ask_31 N n a1 a2 a3 a4 a5 s = some (r, t1) → P s 31 [(0, .ref (ad 0)), (1, .int a1), (2, .int a2), (3, .int a3), (4, .int a4), (5, .int a5)] [] := by
  intro n
  induction n with
  | zero => intro a1 a2 a3 a4 a5 s h; cases h
  | succ n ih =>
    intro a1 a2 a3 a4 a5 s h
    unfold gC_EachAddsALine_ask_31 at h
    refine v_iload hX dX11_ask_31 5 rfl ?_
    refine v_aload_n hX dX11_ask_33 rfl 0 rfl ?_
    refine gfC_0_2 hX kf_11_26 dX11_ask_34 ?_
    refine gfC_9_6 hX kf_11_247 dX11_ask_37 ?_
    refine v_icmp_ge (tgt := 92) hX dX11_ask_40 (by decide) h (fun h => ?_) (fun h => ?_)
    · refine v_iload_n hX dX11_ask_92 rfl 3 rfl ?_
      refine v_bipush (v := (-2)) hX dX11_ask_93 (by decide) ?_
      refine v_icmp_eq (tgt := 114) hX dX11_ask_95 (by decide) h (fun h => ?_) (fun h => ?_)
      · refine v_iload_n hX dX11_ask_114 rfl 3 rfl ?_
        exact v_retI hR h dX11_ask_115
      · refine v_aload_n hX dX11_ask_98 rfl 0 rfl ?_
        refine gfC_0_1 hX kf_11_19 dX11_ask_99 ?_
        obtain ⟨z1, hz1, h⟩ := bsome h
        refine v_callVV (o := 3) hX (mC_Numbers_clear_row hz1 l ad) kM_X2_clear kV_X2_clear km_11_176 (by decide) (fun _ => rfl) rfl rfl rfl (Nat.le_of_ble_eq_true rfl) (by decide) dX11_ask_102 ?_
        refine v_aload_n hX dX11_ask_105 rfl 0 rfl ?_
        refine gfC_0_1 hX kf_11_19 dX11_ask_106 ?_
        refine v_iload hX dX11_ask_109 4 rfl ?_
        obtain ⟨z2, hz2, h⟩ := bsome h
        refine v_callVV (o := 3) hX (mC_Numbers_add_row hz2 l ad) kM_X2_add kV_X2_add km_11_182 (by decide) (fun _ => rfl) rfl rfl rfl (Nat.le_of_ble_eq_true rfl) (by decide) dX11_ask_111 ?_
        refine v_iload_n hX dX11_ask_114 rfl 3 rfl ?_
        exact v_retI hR h dX11_ask_115
    · refine v_iload hX dX11_ask_43 5 rfl ?_
      refine v_iload_n hX dX11_ask_45 rfl 1 rfl ?_
      refine v_icmp_ne (tgt := 53) hX dX11_ask_46 (by decide) h (fun h => ?_) (fun h => ?_)
      · refine v_iconst (v := (-1)) hX dX11_ask_49 (by decide) ?_
        refine v_goto (tgt := 64) hX dX11_ask_50 (by decide) ?_
        exact v_sub hX [0, 1, 2, 3, 4, 5] (by rfl) (wC_EachAddsALine_ask_64 hX hR ih h)
      · refine v_aload_n hX dX11_ask_53 rfl 0 rfl ?_
        refine gfC_0_7 hX kf_11_69 dX11_ask_54 ?_
        refine v_iload_n hX dX11_ask_57 rfl 1 rfl ?_
        refine v_iload hX dX11_ask_58 5 rfl ?_
        refine v_iload_n hX dX11_ask_60 rfl 2 rfl ?_
        obtain ⟨p3, hp3, h⟩ := bsome h
        refine v_callVI (o := 41) hX (mC_Paths_answerHour hp3 l ad) kM_X3_answerHour kV_X3_answerHour km_11_333 (by decide) (fun _ => rfl) rfl rfl rfl (Nat.le_of_ble_eq_true rfl) (by decide) dX11_ask_61 ?_
        exact v_sub hX [0, 1, 2, 3, 4, 5] (by rfl) (wC_EachAddsALine_ask_64 hX hR ih h)
noncomputable def gC_EachAddsALine_ask_0 (N : Nat)  (a1 : Int32) (a2 : Int32) (s : vSt) : Option (Int32 × vSt) :=
  (fC_Roads_hasPerson N a1 s).bind fun p1 =>
  if p1.1 = 0 then
    some ((-1), p1.2)
  else
    (fC_EachAddsALine_isHour N a2 p1.2).bind fun p2 =>
    if p2.1 = 0 then
      some ((-1), p2.2)
    else
      (some ((-2) : Int32)).bind fun v3 =>
      gC_EachAddsALine_ask_31 N N a1 a2 v3 1048576 0 p2.2
set_option maxRecDepth 4000 in
theorem wC_EachAddsALine_ask_0 {P : vP} {l : Launch} {ad : Nat → Nat} {N : Nat} {r : Int32} {t1 : vSt} (hX : vOK P l shC ad (vR 4 98) cX11_ask RX11 7) (hR : (∀ pc lv, narrow .int (.int r) = .int r → decode cX11_ask pc = .ok (.ireturn, 1) → P t1 pc lv [.int r]))  {a1 : Int32} {a2 : Int32} {s : vSt} (h : gC_EachAddsALine_ask_0 N a1 a2 s = some (r, t1)) : P s 0 [(0, .ref (ad 0)), (1, .int a1), (2, .int a2)] [] := by
  unfold gC_EachAddsALine_ask_0 at h
  refine v_aload_n hX dX11_ask_0 rfl 0 rfl ?_
  refine gfC_0_2 hX kf_11_26 dX11_ask_1 ?_
  refine v_iload_n hX dX11_ask_4 rfl 1 rfl ?_
  obtain ⟨p1, hp1, h⟩ := bsome h
  refine v_callVI (o := 9) hX (mC_Roads_hasPerson hp1 l ad) kM_X6_hasPerson kV_X6_hasPerson km_11_114 (by decide) (fun _ => rfl) rfl rfl rfl (Nat.le_of_ble_eq_true rfl) (by decide) dX11_ask_5 ?_
  refine v_if_eq (tgt := 18) hX dX11_ask_8 (by decide) h (fun h => ?_) (fun h => ?_)
  · refine v_iconst (v := (-1)) hX dX11_ask_18 (by decide) ?_
    exact v_retI hR h dX11_ask_19
  · refine v_iload_n hX dX11_ask_11 rfl 2 rfl ?_
    obtain ⟨p2, hp2, h⟩ := bsome h
    refine v_callSI hX (mC_EachAddsALine_isHour hp2 l ad) kM_X11_isHour kS_X11_isHour km_11_145 rfl rfl (Nat.le_of_ble_eq_true rfl) (by decide) dX11_ask_12 ?_
    refine v_if_ne (tgt := 20) hX dX11_ask_15 (by decide) h (fun h => ?_) (fun h => ?_)
    · refine v_iconst (v := (-1)) hX dX11_ask_18 (by decide) ?_
      exact v_retI hR h dX11_ask_19
    · refine v_bipush (v := (-2)) hX dX11_ask_20 (by decide) ?_
      refine v_nmI hX h (fun v3 h => ?_)
      refine v_istore_n (lv' := [(3, .int v3), (0, .ref (ad 0)), (1, .int a1), (2, .int a2)]) hX dX11_ask_22 rfl (by decide) rfl ?_
      refine v_ldcw hX kc_11_339 dX11_ask_23 ?_
      refine v_istore (lv' := [(4, .int 1048576), (3, .int v3), (0, .ref (ad 0)), (1, .int a1), (2, .int a2)]) hX dX11_ask_26 (by decide) rfl ?_
      refine v_iconst (v := 0) hX dX11_ask_28 (by decide) ?_
      refine v_istore (lv' := [(5, .int 0), (4, .int 1048576), (3, .int v3), (0, .ref (ad 0)), (1, .int a1), (2, .int a2)]) hX dX11_ask_29 (by decide) rfl ?_
      exact v_sub hX [3, 4, 5, 2, 1, 0] (by rfl) (wC_EachAddsALine_ask_31 hX hR  N _ _ _ _ _ _ h)
noncomputable def fC_EachAddsALine_ask (N : Nat) (a1 : Int32) (a2 : Int32) (s : vSt) : Option (Int32 × vSt) := gC_EachAddsALine_ask_0 N a1 a2 s
theorem mC_EachAddsALine_ask {N : Nat} {a1 : Int32} {a2 : Int32} {s : vSt} {r : Int32} {t1 : vSt} (h : fC_EachAddsALine_ask N a1 a2 s = some (r, t1)) (l : Launch) (ad : Nat → Nat) : vMI l shC ad yX11_ask cX11_ask 7 .int 4 98 s [.ref (ad 0), .int a1, .int a2] r t1 :=
  vMI_of (by decide +kernel) (Nat.le_of_ble_eq_true rfl) (fun P hX hR => wC_EachAddsALine_ask_0 hX hR h)
-- C_EachAddsALine_isSpan
noncomputable def gC_EachAddsALine_isSpan_22 (N : Nat)   (s : vSt) : Option (Int32 × vSt) :=
  some (0, s)
set_option maxRecDepth 4000 in
theorem wC_EachAddsALine_isSpan_22 {P : vP} {l : Launch} {ad : Nat → Nat} {N : Nat} {r : Int32} {t1 : vSt} (hX : vOK P l shC ad (vR 1 20) cX11_isSpan RX11 2) (hR : (∀ pc lv, narrow .boolean (.int r) = .int r → decode cX11_isSpan pc = .ok (.ireturn, 1) → P t1 pc lv [.int r]))   {s : vSt} (h : gC_EachAddsALine_isSpan_22 N s = some (r, t1)) : P s 22 [] [] := by
  unfold gC_EachAddsALine_isSpan_22 at h
  refine v_iconst (v := 0) hX dX11_isSpan_22 (by decide) ?_
  exact v_retZ0 hR h dX11_isSpan_23
noncomputable def gC_EachAddsALine_isSpan_0 (N : Nat)  (a0 : Int32) (a1 : Int32) (s : vSt) : Option (Int32 × vSt) :=
  (fC_EachAddsALine_isHour N a0 s).bind fun p1 =>
  if p1.1 = 0 then
    gC_EachAddsALine_isSpan_22 N p1.2
  else
    if a1 < a0 then
      gC_EachAddsALine_isSpan_22 N p1.2
    else
      if 99 < a1 then
        gC_EachAddsALine_isSpan_22 N p1.2
      else
        some (1, p1.2)
set_option maxRecDepth 4000 in
theorem wC_EachAddsALine_isSpan_0 {P : vP} {l : Launch} {ad : Nat → Nat} {N : Nat} {r : Int32} {t1 : vSt} (hX : vOK P l shC ad (vR 1 20) cX11_isSpan RX11 2) (hR : (∀ pc lv, narrow .boolean (.int r) = .int r → decode cX11_isSpan pc = .ok (.ireturn, 1) → P t1 pc lv [.int r]))  {a0 : Int32} {a1 : Int32} {s : vSt} (h : gC_EachAddsALine_isSpan_0 N a0 a1 s = some (r, t1)) : P s 0 [(0, .int a0), (1, .int a1)] [] := by
  unfold gC_EachAddsALine_isSpan_0 at h
  refine v_iload_n hX dX11_isSpan_0 rfl 0 rfl ?_
  obtain ⟨p1, hp1, h⟩ := bsome h
  refine v_callSI hX (mC_EachAddsALine_isHour hp1 l ad) kM_X11_isHour kS_X11_isHour km_11_145 rfl rfl (Nat.le_of_ble_eq_true rfl) (by decide) dX11_isSpan_1 ?_
  refine v_if_eq (tgt := 22) hX dX11_isSpan_4 (by decide) h (fun h => ?_) (fun h => ?_)
  · exact v_sub hX [] (by rfl) (wC_EachAddsALine_isSpan_22 hX hR  h)
  · refine v_iload_n hX dX11_isSpan_7 rfl 1 rfl ?_
    refine v_iload_n hX dX11_isSpan_8 rfl 0 rfl ?_
    refine v_icmp_lt (tgt := 22) hX dX11_isSpan_9 (by decide) h (fun h => ?_) (fun h => ?_)
    · exact v_sub hX [] (by rfl) (wC_EachAddsALine_isSpan_22 hX hR  h)
    · refine v_iload_n hX dX11_isSpan_12 rfl 1 rfl ?_
      refine v_bipush (v := 99) hX dX11_isSpan_13 (by decide) ?_
      refine v_icmp_gt (tgt := 22) hX dX11_isSpan_15 (by decide) h (fun h => ?_) (fun h => ?_)
      · exact v_sub hX [] (by rfl) (wC_EachAddsALine_isSpan_22 hX hR  h)
      · refine v_iconst (v := 1) hX dX11_isSpan_18 (by decide) ?_
        refine v_goto (tgt := 23) hX dX11_isSpan_19 (by decide) ?_
        exact v_retZ1 hR h dX11_isSpan_23
noncomputable def fC_EachAddsALine_isSpan (N : Nat) (a0 : Int32) (a1 : Int32) (s : vSt) : Option (Int32 × vSt) := gC_EachAddsALine_isSpan_0 N a0 a1 s
theorem mC_EachAddsALine_isSpan {N : Nat} {a0 : Int32} {a1 : Int32} {s : vSt} {r : Int32} {t1 : vSt} (h : fC_EachAddsALine_isSpan N a0 a1 s = some (r, t1)) (l : Launch) (ad : Nat → Nat) : vMI l shC ad yX11_isSpan cX11_isSpan 2 .boolean 1 20 s [.int a0, .int a1] r t1 :=
  vMI_of (by decide +kernel) (Nat.le_of_ble_eq_true rfl) (fun P hX hR => wC_EachAddsALine_isSpan_0 hX hR h)
-- C_Paths_knowers
noncomputable def gC_Paths_knowers_88 (N : Nat) (r21 : Int32 → Int32 → Int32 → Int32 → vSt → Option (Int32 × vSt)) (a1 : Int32) (a3 : Int32) (a4 : Int32) (a5 : Int32) (s : vSt) : Option (Int32 × vSt) :=
  (some (a5 + 1 : Int32)).bind fun v1 =>
  r21 a1 a3 a4 v1 s
set_option maxRecDepth 4000 in
theorem wC_Paths_knowers_88 {P : vP} {l : Launch} {ad : Nat → Nat} {N : Nat} {r21 : Int32 → Int32 → Int32 → Int32 → vSt → Option (Int32 × vSt)} {r : Int32} {t1 : vSt} (hX : vOK P l shC ad (vR 3 74) cX3_knowers RX3 6) (hR : (∀ pc lv, narrow .int (.int r) = .int r → decode cX3_knowers pc = .ok (.ireturn, 1) → P t1 pc lv [.int r])) (H21 : ∀ (a1 : Int32) (a3 : Int32) (a4 : Int32) (a5 : Int32) (s : vSt), r21 a1 a3 a4 a5 s = some (r, t1) → P s 21 [(0, .ref (ad 41)), (1, .int a1), (3, .int a3), (4, .int a4), (5, .int a5)] []) {a1 : Int32} {a3 : Int32} {a4 : Int32} {a5 : Int32} {s : vSt} (h : gC_Paths_knowers_88 N r21 a1 a3 a4 a5 s = some (r, t1)) : P s 88 [(0, .ref (ad 41)), (1, .int a1), (3, .int a3), (4, .int a4), (5, .int a5)] [] := by
  unfold gC_Paths_knowers_88 at h
  refine v_iincN hX dX3_knowers_88 (j := 4) rfl (c := 1) (by decide) (by decide) h (fun v1 h => ?_)
  refine v_show (lv' := [(5, .int v1), (0, .ref (ad 41)), (1, .int a1), (3, .int a3), (4, .int a4)]) hX rfl ?_
  refine v_goto (tgt := 21) hX dX3_knowers_91 (by decide) ?_
  exact v_sub hX [1, 2, 3, 4, 0] (by rfl) (H21 _ _ _ _ _ h)
noncomputable def gC_Paths_knowers_21 (N : Nat)  : Nat → Int32 → Int32 → Int32 → Int32 → vSt → Option (Int32 × vSt)
  | 0, _, _, _, _, _ => none
  | n + 1, a1, a3, a4, a5, s =>
    if (s.1 9 6) ≤ a5 then
      some (a4, s)
    else
      if a5 = a1 then
        gC_Paths_knowers_88 N (gC_Paths_knowers_21 N n) a1 a3 a4 a5 s
      else
        (ld s 42 9 a5).bind fun v1 =>
        if v1 = (-1) then
          gC_Paths_knowers_88 N (gC_Paths_knowers_21 N n) a1 a3 a4 a5 s
        else
          (ld s 42 9 a5).bind fun v2 =>
          if a3 < v2 then
            gC_Paths_knowers_88 N (gC_Paths_knowers_21 N n) a1 a3 a4 a5 s
          else
            (some (a4 ||| ((1 : Int32) <<< (a5 &&& 31)) : Int32)).bind fun v3 =>
            (ld s 42 9 a5).bind fun v4 =>
            (some (s1 s 41 2 (if (s.1 41 2) < v4 then v4 else (s.1 41 2)))).bind fun z5 =>
            gC_Paths_knowers_88 N (gC_Paths_knowers_21 N n) a1 a3 v3 a5 z5
set_option maxRecDepth 4000 in
theorem wC_Paths_knowers_21 {P : vP} {l : Launch} {ad : Nat → Nat} {N : Nat} {r : Int32} {t1 : vSt} (hX : vOK P l shC ad (vR 3 74) cX3_knowers RX3 6) (hR : (∀ pc lv, narrow .int (.int r) = .int r → decode cX3_knowers pc = .ok (.ireturn, 1) → P t1 pc lv [.int r]))  : ∀ (n : Nat) (a1 : Int32) (a3 : Int32) (a4 : Int32) (a5 : Int32) (s : vSt), gC_Paths_knowers_21 N n a1 a3 a4 a5 s = some (r, t1) → P s 21 [(0, .ref (ad 41)), (1, .int a1), (3, .int a3), (4, .int a4), (5, .int a5)] [] := by
  intro n
  induction n with
  | zero => intro a1 a3 a4 a5 s h; cases h
  | succ n ih =>
    intro a1 a3 a4 a5 s h
    unfold gC_Paths_knowers_21 at h
    refine v_iload hX dX3_knowers_21 4 rfl ?_
    refine v_aload_n hX dX3_knowers_23 rfl 0 rfl ?_
    refine gfC_41_3 hX kf_3_25 dX3_knowers_24 ?_
    refine gfC_9_6 hX kf_3_29 dX3_knowers_27 ?_
    refine v_icmp_ge (tgt := 94) hX dX3_knowers_30 (by decide) h (fun h => ?_) (fun h => ?_)
    · refine v_iload hX dX3_knowers_94 3 rfl ?_
      exact v_retI hR h dX3_knowers_96
    · refine v_iload hX dX3_knowers_33 4 rfl ?_
      refine v_iload_n hX dX3_knowers_35 rfl 1 rfl ?_
      refine v_icmp_eq (tgt := 88) hX dX3_knowers_36 (by decide) h (fun h => ?_) (fun h => ?_)
      · exact v_sub hX [0, 1, 2, 3, 4] (by rfl) (wC_Paths_knowers_88 hX hR ih h)
      · refine v_aload_n hX dX3_knowers_39 rfl 0 rfl ?_
        refine gfC_41_0 hX kf_3_9 dX3_knowers_40 ?_
        refine v_iload hX dX3_knowers_43 4 rfl ?_
        refine alC_42 hX dX3_knowers_45 h (fun v1 h => ?_)
        refine v_iconst (v := (-1)) hX dX3_knowers_46 (by decide) ?_
        refine v_icmp_eq (tgt := 88) hX dX3_knowers_47 (by decide) h (fun h => ?_) (fun h => ?_)
        · exact v_sub hX [0, 1, 2, 3, 4] (by rfl) (wC_Paths_knowers_88 hX hR ih h)
        · refine v_aload_n hX dX3_knowers_50 rfl 0 rfl ?_
          refine gfC_41_0 hX kf_3_9 dX3_knowers_51 ?_
          refine v_iload hX dX3_knowers_54 4 rfl ?_
          refine alC_42 hX dX3_knowers_56 h (fun v2 h => ?_)
          refine v_iload_n hX dX3_knowers_57 rfl 2 rfl ?_
          refine v_icmp_gt (tgt := 88) hX dX3_knowers_58 (by decide) h (fun h => ?_) (fun h => ?_)
          · exact v_sub hX [0, 1, 2, 3, 4] (by rfl) (wC_Paths_knowers_88 hX hR ih h)
          · refine v_iload hX dX3_knowers_61 3 rfl ?_
            refine v_iconst (v := 1) hX dX3_knowers_63 (by decide) ?_
            refine v_iload hX dX3_knowers_64 4 rfl ?_
            refine v_ishl hX dX3_knowers_66 ?_
            refine v_ior hX dX3_knowers_67 ?_
            refine v_nmI hX h (fun v3 h => ?_)
            refine v_istore (lv' := [(4, .int v3), (0, .ref (ad 41)), (1, .int a1), (3, .int a3), (5, .int a5)]) hX dX3_knowers_68 (by decide) rfl ?_
            refine v_aload_n hX dX3_knowers_70 rfl 1 rfl ?_
            refine v_aload_n hX dX3_knowers_71 rfl 1 rfl ?_
            refine gfC_41_2 hX kf_3_161 dX3_knowers_72 ?_
            refine v_aload_n hX dX3_knowers_75 rfl 1 rfl ?_
            refine gfC_41_0 hX kf_3_9 dX3_knowers_76 ?_
            refine v_iload hX dX3_knowers_79 4 rfl ?_
            refine alC_42 hX dX3_knowers_81 h (fun v4 h => ?_)
            refine v_max hX km_3_122 kS_J9_max_7cf53 kI_Math kC_max (Nat.le_of_ble_eq_true rfl) (Nat.le_of_ble_eq_true rfl) dX3_knowers_82 ?_
            refine pfC_41_2 hX kf_3_161 dX3_knowers_85 h (fun z5 h => ?_)
            exact v_sub hX [1, 2, 3, 0, 4] (by rfl) (wC_Paths_knowers_88 hX hR ih h)
noncomputable def gC_Paths_knowers_0 (N : Nat)  (a1 : Int32) (a2 : Int32) (a3 : Int32) (s : vSt) : Option (Int32 × vSt) :=
  (fC_Paths_spread N a1 a2 0 (-1) s).bind fun z1 =>
  (some ((1 : Int32) <<< (a1 &&& 31) : Int32)).bind fun v2 =>
  (some (s1 z1 41 2 a2)).bind fun z3 =>
  gC_Paths_knowers_21 N N a1 a3 v2 0 z3
set_option maxRecDepth 4000 in
theorem wC_Paths_knowers_0 {P : vP} {l : Launch} {ad : Nat → Nat} {N : Nat} {r : Int32} {t1 : vSt} (hX : vOK P l shC ad (vR 3 74) cX3_knowers RX3 6) (hR : (∀ pc lv, narrow .int (.int r) = .int r → decode cX3_knowers pc = .ok (.ireturn, 1) → P t1 pc lv [.int r]))  {a1 : Int32} {a2 : Int32} {a3 : Int32} {s : vSt} (h : gC_Paths_knowers_0 N a1 a2 a3 s = some (r, t1)) : P s 0 [(0, .ref (ad 41)), (1, .int a1), (2, .int a2), (3, .int a3)] [] := by
  unfold gC_Paths_knowers_0 at h
  refine v_aload_n hX dX3_knowers_0 rfl 0 rfl ?_
  refine v_iload_n hX dX3_knowers_1 rfl 1 rfl ?_
  refine v_iload_n hX dX3_knowers_2 rfl 2 rfl ?_
  refine v_iconst (v := 0) hX dX3_knowers_3 (by decide) ?_
  refine v_iconst (v := (-1)) hX dX3_knowers_4 (by decide) ?_
  obtain ⟨z1, hz1, h⟩ := bsome h
  refine v_callVV (o := 41) hX (mC_Paths_spread hz1 l ad) kM_X3_spread kV_X3_spread km_3_132 (by decide) (fun _ => rfl) rfl rfl rfl (Nat.le_of_ble_eq_true rfl) (by decide) dX3_knowers_5 ?_
  refine v_iconst (v := 1) hX dX3_knowers_8 (by decide) ?_
  refine v_iload_n hX dX3_knowers_9 rfl 1 rfl ?_
  refine v_ishl hX dX3_knowers_10 ?_
  refine v_nmI hX h (fun v2 h => ?_)
  refine v_istore (lv' := [(4, .int v2), (0, .ref (ad 41)), (1, .int a1), (2, .int a2), (3, .int a3)]) hX dX3_knowers_11 (by decide) rfl ?_
  refine v_aload_n hX dX3_knowers_13 rfl 1 rfl ?_
  refine v_iload_n hX dX3_knowers_14 rfl 3 rfl ?_
  refine pfC_41_2 hX kf_3_161 dX3_knowers_15 h (fun z3 h => ?_)
  refine v_iconst (v := 0) hX dX3_knowers_18 (by decide) ?_
  refine v_istore (lv' := [(5, .int 0), (4, .int v2), (0, .ref (ad 41)), (1, .int a1), (2, .int a2), (3, .int a3)]) hX dX3_knowers_19 (by decide) rfl ?_
  exact v_sub hX [2, 3, 5, 1, 0] (by rfl) (wC_Paths_knowers_21 hX hR  N _ _ _ _ _ h)
noncomputable def fC_Paths_knowers (N : Nat) (a1 : Int32) (a2 : Int32) (a3 : Int32) (s : vSt) : Option (Int32 × vSt) := gC_Paths_knowers_0 N a1 a2 a3 s
theorem mC_Paths_knowers {N : Nat} {a1 : Int32} {a2 : Int32} {a3 : Int32} {s : vSt} {r : Int32} {t1 : vSt} (h : fC_Paths_knowers N a1 a2 a3 s = some (r, t1)) (l : Launch) (ad : Nat → Nat) : vMI l shC ad yX3_knowers cX3_knowers 6 .int 3 74 s [.ref (ad 41), .int a1, .int a2, .int a3] r t1 :=
  vMI_of (by decide +kernel) (Nat.le_of_ble_eq_true rfl) (fun P hX hR => wC_Paths_knowers_0 hX hR h)
-- C_EachAddsALine_gossip
noncomputable def gC_EachAddsALine_gossip_0 (N : Nat)  (a1 : Int32) (a2 : Int32) (a3 : Int32) (s : vSt) : Option (Int32 × vSt) :=
  (fC_Roads_hasPerson N a1 s).bind fun p1 =>
  if p1.1 = 0 then
    some ((-1), p1.2)
  else
    (fC_EachAddsALine_isSpan N a2 a3 p1.2).bind fun p2 =>
    if p2.1 = 0 then
      some ((-1), p2.2)
    else
      (fC_Paths_knowers N a1 a2 a3 p2.2).bind fun p3 =>
      (fC_Numbers_clear_row N p3.2).bind fun z4 =>
      (fC_Numbers_add_row N (z4.1 41 2) z4).bind fun z5 =>
      some (p3.1, z5)
set_option maxRecDepth 4000 in
theorem wC_EachAddsALine_gossip_0 {P : vP} {l : Launch} {ad : Nat → Nat} {N : Nat} {r : Int32} {t1 : vSt} (hX : vOK P l shC ad (vR 4 99) cX11_gossip RX11 5) (hR : (∀ pc lv, narrow .int (.int r) = .int r → decode cX11_gossip pc = .ok (.ireturn, 1) → P t1 pc lv [.int r]))  {a1 : Int32} {a2 : Int32} {a3 : Int32} {s : vSt} (h : gC_EachAddsALine_gossip_0 N a1 a2 a3 s = some (r, t1)) : P s 0 [(0, .ref (ad 0)), (1, .int a1), (2, .int a2), (3, .int a3)] [] := by
  unfold gC_EachAddsALine_gossip_0 at h
  refine v_aload_n hX dX11_gossip_0 rfl 0 rfl ?_
  refine gfC_0_2 hX kf_11_26 dX11_gossip_1 ?_
  refine v_iload_n hX dX11_gossip_4 rfl 1 rfl ?_
  obtain ⟨p1, hp1, h⟩ := bsome h
  refine v_callVI (o := 9) hX (mC_Roads_hasPerson hp1 l ad) kM_X6_hasPerson kV_X6_hasPerson km_11_114 (by decide) (fun _ => rfl) rfl rfl rfl (Nat.le_of_ble_eq_true rfl) (by decide) dX11_gossip_5 ?_
  refine v_if_eq (tgt := 19) hX dX11_gossip_8 (by decide) h (fun h => ?_) (fun h => ?_)
  · refine v_iconst (v := (-1)) hX dX11_gossip_19 (by decide) ?_
    exact v_retI hR h dX11_gossip_20
  · refine v_iload_n hX dX11_gossip_11 rfl 2 rfl ?_
    refine v_iload_n hX dX11_gossip_12 rfl 3 rfl ?_
    obtain ⟨p2, hp2, h⟩ := bsome h
    refine v_callSI hX (mC_EachAddsALine_isSpan hp2 l ad) kM_X11_isSpan kS_X11_isSpan km_11_340 rfl rfl (Nat.le_of_ble_eq_true rfl) (by decide) dX11_gossip_13 ?_
    refine v_if_ne (tgt := 21) hX dX11_gossip_16 (by decide) h (fun h => ?_) (fun h => ?_)
    · refine v_iconst (v := (-1)) hX dX11_gossip_19 (by decide) ?_
      exact v_retI hR h dX11_gossip_20
    · refine v_aload_n hX dX11_gossip_21 rfl 0 rfl ?_
      refine gfC_0_7 hX kf_11_69 dX11_gossip_22 ?_
      refine v_iload_n hX dX11_gossip_25 rfl 1 rfl ?_
      refine v_iload_n hX dX11_gossip_26 rfl 2 rfl ?_
      refine v_iload_n hX dX11_gossip_27 rfl 3 rfl ?_
      obtain ⟨p3, hp3, h⟩ := bsome h
      refine v_callVI (o := 41) hX (mC_Paths_knowers hp3 l ad) kM_X3_knowers kV_X3_knowers km_11_344 (by decide) (fun _ => rfl) rfl rfl rfl (Nat.le_of_ble_eq_true rfl) (by decide) dX11_gossip_28 ?_
      refine v_istore (lv' := [(4, .int p3.1), (0, .ref (ad 0)), (1, .int a1), (2, .int a2), (3, .int a3)]) hX dX11_gossip_31 (by decide) rfl ?_
      refine v_aload_n hX dX11_gossip_33 rfl 1 rfl ?_
      refine gfC_0_1 hX kf_11_19 dX11_gossip_34 ?_
      obtain ⟨z4, hz4, h⟩ := bsome h
      refine v_callVV (o := 3) hX (mC_Numbers_clear_row hz4 l ad) kM_X2_clear kV_X2_clear km_11_176 (by decide) (fun _ => rfl) rfl rfl rfl (Nat.le_of_ble_eq_true rfl) (by decide) dX11_gossip_37 ?_
      refine v_aload_n hX dX11_gossip_40 rfl 1 rfl ?_
      refine gfC_0_1 hX kf_11_19 dX11_gossip_41 ?_
      refine v_aload_n hX dX11_gossip_44 rfl 1 rfl ?_
      refine gfC_0_7 hX kf_11_69 dX11_gossip_45 ?_
      refine gfC_41_2 hX kf_11_347 dX11_gossip_48 ?_
      obtain ⟨z5, hz5, h⟩ := bsome h
      refine v_callVV (o := 3) hX (mC_Numbers_add_row hz5 l ad) kM_X2_add kV_X2_add km_11_182 (by decide) (fun _ => rfl) rfl rfl rfl (Nat.le_of_ble_eq_true rfl) (by decide) dX11_gossip_51 ?_
      refine v_iload hX dX11_gossip_54 0 rfl ?_
      exact v_retI hR h dX11_gossip_56
noncomputable def fC_EachAddsALine_gossip (N : Nat) (a1 : Int32) (a2 : Int32) (a3 : Int32) (s : vSt) : Option (Int32 × vSt) := gC_EachAddsALine_gossip_0 N a1 a2 a3 s
theorem mC_EachAddsALine_gossip {N : Nat} {a1 : Int32} {a2 : Int32} {a3 : Int32} {s : vSt} {r : Int32} {t1 : vSt} (h : fC_EachAddsALine_gossip N a1 a2 a3 s = some (r, t1)) (l : Launch) (ad : Nat → Nat) : vMI l shC ad yX11_gossip cX11_gossip 5 .int 4 99 s [.ref (ad 0), .int a1, .int a2, .int a3] r t1 :=
  vMI_of (by decide +kernel) (Nat.le_of_ble_eq_true rfl) (fun P hX hR => wC_EachAddsALine_gossip_0 hX hR h)
-- C_Integer_bitCount
noncomputable def gC_Integer_bitCount_0 (N : Nat)  (a0 : Int32) (s : vSt) : Option (Int32 × vSt) :=
  (some (a0 - ((((a0 : Int32).toUInt32 >>> ((1 : Int32).toUInt32 &&& Int32.toUInt32 31)).toInt32) &&& 1431655765) : Int32)).bind fun v1 =>
  (some ((v1 &&& 858993459) + ((((v1 : Int32).toUInt32 >>> ((2 : Int32).toUInt32 &&& Int32.toUInt32 31)).toInt32) &&& 858993459) : Int32)).bind fun v2 =>
  (some ((v2 + (((v2 : Int32).toUInt32 >>> ((4 : Int32).toUInt32 &&& Int32.toUInt32 31)).toInt32)) &&& 252645135 : Int32)).bind fun v3 =>
  (some (v3 + (((v3 : Int32).toUInt32 >>> ((8 : Int32).toUInt32 &&& Int32.toUInt32 31)).toInt32) : Int32)).bind fun v4 =>
  (some (v4 + (((v4 : Int32).toUInt32 >>> ((16 : Int32).toUInt32 &&& Int32.toUInt32 31)).toInt32) : Int32)).bind fun v5 =>
  some (v5 &&& 63, s)
set_option maxRecDepth 4000 in
theorem wC_Integer_bitCount_0 {P : vP} {l : Launch} {ad : Nat → Nat} {N : Nat} {r : Int32} {t1 : vSt} (hX : vOK P l shC ad (vR 0 0) cJ6_bitCount_0f7a4 RJ6 1) (hR : (∀ pc lv, narrow .int (.int r) = .int r → decode cJ6_bitCount_0f7a4 pc = .ok (.ireturn, 1) → P t1 pc lv [.int r]))  {a0 : Int32} {s : vSt} (h : gC_Integer_bitCount_0 N a0 s = some (r, t1)) : P s 0 [(0, .int a0)] [] := by
  unfold gC_Integer_bitCount_0 at h
  refine v_iload_n hX dJ6_bitCount_0f7a4_0 rfl 0 rfl ?_
  refine v_iload_n hX dJ6_bitCount_0f7a4_1 rfl 0 rfl ?_
  refine v_iconst (v := 1) hX dJ6_bitCount_0f7a4_2 (by decide) ?_
  refine v_iushr hX dJ6_bitCount_0f7a4_3 ?_
  refine v_ldcw hX kc_J6_265 dJ6_bitCount_0f7a4_4 ?_
  refine v_iand hX dJ6_bitCount_0f7a4_7 ?_
  refine v_isub hX dJ6_bitCount_0f7a4_8 ?_
  refine v_nmI hX h (fun v1 h => ?_)
  refine v_istore_n (lv' := [(0, .int v1)]) hX dJ6_bitCount_0f7a4_9 rfl (by decide) rfl ?_
  refine v_iload_n hX dJ6_bitCount_0f7a4_10 rfl 0 rfl ?_
  refine v_ldcw hX kc_J6_266 dJ6_bitCount_0f7a4_11 ?_
  refine v_iand hX dJ6_bitCount_0f7a4_14 ?_
  refine v_iload_n hX dJ6_bitCount_0f7a4_15 rfl 0 rfl ?_
  refine v_iconst (v := 2) hX dJ6_bitCount_0f7a4_16 (by decide) ?_
  refine v_iushr hX dJ6_bitCount_0f7a4_17 ?_
  refine v_ldcw hX kc_J6_266 dJ6_bitCount_0f7a4_18 ?_
  refine v_iand hX dJ6_bitCount_0f7a4_21 ?_
  refine v_iadd hX dJ6_bitCount_0f7a4_22 ?_
  refine v_nmI hX h (fun v2 h => ?_)
  refine v_istore_n (lv' := [(0, .int v2)]) hX dJ6_bitCount_0f7a4_23 rfl (by decide) rfl ?_
  refine v_iload_n hX dJ6_bitCount_0f7a4_24 rfl 0 rfl ?_
  refine v_iload_n hX dJ6_bitCount_0f7a4_25 rfl 0 rfl ?_
  refine v_iconst (v := 4) hX dJ6_bitCount_0f7a4_26 (by decide) ?_
  refine v_iushr hX dJ6_bitCount_0f7a4_27 ?_
  refine v_iadd hX dJ6_bitCount_0f7a4_28 ?_
  refine v_ldcw hX kc_J6_267 dJ6_bitCount_0f7a4_29 ?_
  refine v_iand hX dJ6_bitCount_0f7a4_32 ?_
  refine v_nmI hX h (fun v3 h => ?_)
  refine v_istore_n (lv' := [(0, .int v3)]) hX dJ6_bitCount_0f7a4_33 rfl (by decide) rfl ?_
  refine v_iload_n hX dJ6_bitCount_0f7a4_34 rfl 0 rfl ?_
  refine v_iload_n hX dJ6_bitCount_0f7a4_35 rfl 0 rfl ?_
  refine v_bipush (v := 8) hX dJ6_bitCount_0f7a4_36 (by decide) ?_
  refine v_iushr hX dJ6_bitCount_0f7a4_38 ?_
  refine v_iadd hX dJ6_bitCount_0f7a4_39 ?_
  refine v_nmI hX h (fun v4 h => ?_)
  refine v_istore_n (lv' := [(0, .int v4)]) hX dJ6_bitCount_0f7a4_40 rfl (by decide) rfl ?_
  refine v_iload_n hX dJ6_bitCount_0f7a4_41 rfl 0 rfl ?_
  refine v_iload_n hX dJ6_bitCount_0f7a4_42 rfl 0 rfl ?_
  refine v_bipush (v := 16) hX dJ6_bitCount_0f7a4_43 (by decide) ?_
  refine v_iushr hX dJ6_bitCount_0f7a4_45 ?_
  refine v_iadd hX dJ6_bitCount_0f7a4_46 ?_
  refine v_nmI hX h (fun v5 h => ?_)
  refine v_istore_n (lv' := [(0, .int v5)]) hX dJ6_bitCount_0f7a4_47 rfl (by decide) rfl ?_
  refine v_iload_n hX dJ6_bitCount_0f7a4_48 rfl 0 rfl ?_
  refine v_bipush (v := 63) hX dJ6_bitCount_0f7a4_49 (by decide) ?_
  refine v_iand hX dJ6_bitCount_0f7a4_51 ?_
  exact v_retI hR h dJ6_bitCount_0f7a4_52
noncomputable def fC_Integer_bitCount (N : Nat) (a0 : Int32) (s : vSt) : Option (Int32 × vSt) := gC_Integer_bitCount_0 N a0 s
theorem mC_Integer_bitCount {N : Nat} {a0 : Int32} {s : vSt} {r : Int32} {t1 : vSt} (h : fC_Integer_bitCount N a0 s = some (r, t1)) (l : Launch) (ad : Nat → Nat) : vMI l shC ad yJ6_bitCount_0f7a4 cJ6_bitCount_0f7a4 1 .int 0 0 s [.int a0] r t1 :=
  vMI_of (by decide +kernel) (Nat.le_of_ble_eq_true rfl) (fun P hX hR => wC_Integer_bitCount_0 hX hR h)
-- C_EachAddsALine_postman
noncomputable def gC_EachAddsALine_postman_61 (N : Nat) (r19 : Int32 → Int32 → Int32 → Int32 → Int32 → vSt → Option (Int32 × vSt)) (a1 : Int32) (a2 : Int32) (a3 : Int32) (a4 : Int32) (a5 : Int32) (s : vSt) : Option (Int32 × vSt) :=
  (some (a5 + 1 : Int32)).bind fun v1 =>
  r19 a1 a2 a3 a4 v1 s
set_option maxRecDepth 4000 in
theorem wC_EachAddsALine_postman_61 {P : vP} {l : Launch} {ad : Nat → Nat} {N : Nat} {r19 : Int32 → Int32 → Int32 → Int32 → Int32 → vSt → Option (Int32 × vSt)} {r : Int32} {t1 : vSt} (hX : vOK P l shC ad (vR 4 99) cX11_postman RX11 7) (hR : (∀ pc lv, narrow .int (.int r) = .int r → decode cX11_postman pc = .ok (.ireturn, 1) → P t1 pc lv [.int r])) (H19 : ∀ (a1 : Int32) (a2 : Int32) (a3 : Int32) (a4 : Int32) (a5 : Int32) (s : vSt), r19 a1 a2 a3 a4 a5 s = some (r, t1) → P s 19 [(0, .ref (ad 0)), (1, .int a1), (2, .int a2), (3, .int a3), (4, .int a4), (5, .int a5)] []) {a1 : Int32} {a2 : Int32} {a3 : Int32} {a4 : Int32} {a5 : Int32} {s : vSt} (h : gC_EachAddsALine_postman_61 N r19 a1 a2 a3 a4 a5 s = some (r, t1)) : P s 61 [(0, .ref (ad 0)), (1, .int a1), (2, .int a2), (3, .int a3), (4, .int a4), (5, .int a5)] [] := by
  unfold gC_EachAddsALine_postman_61 at h
  refine v_iincN hX dX11_postman_61 (j := 5) rfl (c := 1) (by decide) (by decide) h (fun v1 h => ?_)
  refine v_show (lv' := [(5, .int v1), (0, .ref (ad 0)), (1, .int a1), (2, .int a2), (3, .int a3), (4, .int a4)]) hX rfl ?_
  refine v_goto (tgt := 19) hX dX11_postman_64 (by decide) ?_
  exact v_sub hX [1, 2, 3, 4, 5, 0] (by rfl) (H19 _ _ _ _ _ _ h)
noncomputable def gC_EachAddsALine_postman_19 (N : Nat)  : Nat → Int32 → Int32 → Int32 → Int32 → Int32 → vSt → Option (Int32 × vSt)
  | 0, _, _, _, _, _, _ => none
  | n + 1, a1, a2, a3, a4, a5, s =>
    if (s.1 9 6) ≤ a5 then
      if a3 = (-2) then
        some (a3, s)
      else
        (fC_Numbers_clear_row N s).bind fun z1 =>
        (fC_Numbers_add_row N a4 z1).bind fun z2 =>
        some (a3, z2)
    else
      (fC_Paths_knowers N a5 a1 a2 s).bind fun p3 =>
      (fC_Integer_bitCount N p3.1 p3.2).bind fun p4 =>
      if p4.1 ≤ a4 then
        gC_EachAddsALine_postman_61 N (gC_EachAddsALine_postman_19 N n) a1 a2 a3 a4 a5 p4.2
      else
        gC_EachAddsALine_postman_61 N (gC_EachAddsALine_postman_19 N n) a1 a2 a5 p4.1 a5 p4.2
set_option maxRecDepth 4000 in
theorem wC_EachAddsALine_postman_19 {P : vP} {l : Launch} {ad : Nat → Nat} {N : Nat} {r : Int32} {t1 : vSt} (hX : vOK P l shC ad (vR 4 99) cX11_postman RX11 7) (hR : (∀ pc lv, narrow .int (.int r) = .int r → decode cX11_postman pc = .ok (.ireturn, 1) → P t1 pc lv [.int r]))  : ∀ (n : Nat) (a1 : Int32) (a2 : Int32) (a3 : Int32) (a4 : Int32) (a5 : Int32) (s : vSt), gC_EachAddsALine_postman_19 N n a1 a2 a3 a4 a5 s = some (r, t1) → P s 19 [(0, .ref (ad 0)), (1, .int a1), (2, .int a2), (3, .int a3), (4, .int a4), (5, .int a5)] [] := by
  intro n
  induction n with
  | zero => intro a1 a2 a3 a4 a5 s h; cases h
  | succ n ih =>
    intro a1 a2 a3 a4 a5 s h
    unfold gC_EachAddsALine_postman_19 at h
    refine v_iload hX dX11_postman_19 5 rfl ?_
    refine v_aload_n hX dX11_postman_21 rfl 0 rfl ?_
    refine gfC_0_2 hX kf_11_26 dX11_postman_22 ?_
    refine gfC_9_6 hX kf_11_247 dX11_postman_25 ?_
    refine v_icmp_ge (tgt := 67) hX dX11_postman_28 (by decide) h (fun h => ?_) (fun h => ?_)
    · refine v_iload_n hX dX11_postman_67 rfl 3 rfl ?_
      refine v_bipush (v := (-2)) hX dX11_postman_68 (by decide) ?_
      refine v_icmp_eq (tgt := 89) hX dX11_postman_70 (by decide) h (fun h => ?_) (fun h => ?_)
      · refine v_iload_n hX dX11_postman_89 rfl 3 rfl ?_
        exact v_retI hR h dX11_postman_90
      · refine v_aload_n hX dX11_postman_73 rfl 0 rfl ?_
        refine gfC_0_1 hX kf_11_19 dX11_postman_74 ?_
        obtain ⟨z1, hz1, h⟩ := bsome h
        refine v_callVV (o := 3) hX (mC_Numbers_clear_row hz1 l ad) kM_X2_clear kV_X2_clear km_11_176 (by decide) (fun _ => rfl) rfl rfl rfl (Nat.le_of_ble_eq_true rfl) (by decide) dX11_postman_77 ?_
        refine v_aload_n hX dX11_postman_80 rfl 0 rfl ?_
        refine gfC_0_1 hX kf_11_19 dX11_postman_81 ?_
        refine v_iload hX dX11_postman_84 4 rfl ?_
        obtain ⟨z2, hz2, h⟩ := bsome h
        refine v_callVV (o := 3) hX (mC_Numbers_add_row hz2 l ad) kM_X2_add kV_X2_add km_11_182 (by decide) (fun _ => rfl) rfl rfl rfl (Nat.le_of_ble_eq_true rfl) (by decide) dX11_postman_86 ?_
        refine v_iload_n hX dX11_postman_89 rfl 3 rfl ?_
        exact v_retI hR h dX11_postman_90
    · refine v_aload_n hX dX11_postman_31 rfl 0 rfl ?_
      refine gfC_0_7 hX kf_11_69 dX11_postman_32 ?_
      refine v_iload hX dX11_postman_35 5 rfl ?_
      refine v_iload_n hX dX11_postman_37 rfl 1 rfl ?_
      refine v_iload_n hX dX11_postman_38 rfl 2 rfl ?_
      obtain ⟨p3, hp3, h⟩ := bsome h
      refine v_callVI (o := 41) hX (mC_Paths_knowers hp3 l ad) kM_X3_knowers kV_X3_knowers km_11_344 (by decide) (fun _ => rfl) rfl rfl rfl (Nat.le_of_ble_eq_true rfl) (by decide) dX11_postman_39 ?_
      obtain ⟨p4, hp4, h⟩ := bsome h
      refine v_callSI hX (mC_Integer_bitCount hp4 l ad) kM_J6_bitCount_0f7a4 kS_J6_bitCount_0f7a4 km_11_350 rfl rfl (Nat.le_of_ble_eq_true rfl) (by decide) dX11_postman_42 ?_
      refine v_istore (lv' := [(6, .int p4.1), (0, .ref (ad 0)), (1, .int a1), (2, .int a2), (3, .int a3), (4, .int a4), (5, .int a5)]) hX dX11_postman_45 (by decide) rfl ?_
      refine v_iload hX dX11_postman_47 0 rfl ?_
      refine v_iload hX dX11_postman_49 5 rfl ?_
      refine v_icmp_le (tgt := 61) hX dX11_postman_51 (by decide) h (fun h => ?_) (fun h => ?_)
      · exact v_sub hX [1, 2, 3, 4, 5, 6] (by rfl) (wC_EachAddsALine_postman_61 hX hR ih h)
      · refine v_iload hX dX11_postman_54 6 rfl ?_
        refine v_istore_n (lv' := [(3, .int a5), (6, .int p4.1), (0, .ref (ad 0)), (1, .int a1), (2, .int a2), (4, .int a4), (5, .int a5)]) hX dX11_postman_56 rfl (by decide) rfl ?_
        refine v_iload hX dX11_postman_57 1 rfl ?_
        refine v_istore (lv' := [(4, .int p4.1), (3, .int a5), (6, .int p4.1), (0, .ref (ad 0)), (1, .int a1), (2, .int a2), (5, .int a5)]) hX dX11_postman_59 (by decide) rfl ?_
        exact v_sub hX [3, 4, 5, 1, 0, 6] (by rfl) (wC_EachAddsALine_postman_61 hX hR ih h)
noncomputable def gC_EachAddsALine_postman_0 (N : Nat)  (a1 : Int32) (a2 : Int32) (s : vSt) : Option (Int32 × vSt) :=
  (fC_EachAddsALine_isSpan N a1 a2 s).bind fun p1 =>
  if p1.1 = 0 then
    some ((-1), p1.2)
  else
    (some ((-2) : Int32)).bind fun v2 =>
    gC_EachAddsALine_postman_19 N N a1 a2 v2 0 0 p1.2
set_option maxRecDepth 4000 in
theorem wC_EachAddsALine_postman_0 {P : vP} {l : Launch} {ad : Nat → Nat} {N : Nat} {r : Int32} {t1 : vSt} (hX : vOK P l shC ad (vR 4 99) cX11_postman RX11 7) (hR : (∀ pc lv, narrow .int (.int r) = .int r → decode cX11_postman pc = .ok (.ireturn, 1) → P t1 pc lv [.int r]))  {a1 : Int32} {a2 : Int32} {s : vSt} (h : gC_EachAddsALine_postman_0 N a1 a2 s = some (r, t1)) : P s 0 [(0, .ref (ad 0)), (1, .int a1), (2, .int a2)] [] := by
  unfold gC_EachAddsALine_postman_0 at h
  refine v_iload_n hX dX11_postman_0 rfl 1 rfl ?_
  refine v_iload_n hX dX11_postman_1 rfl 2 rfl ?_
  obtain ⟨p1, hp1, h⟩ := bsome h
  refine v_callSI hX (mC_EachAddsALine_isSpan hp1 l ad) kM_X11_isSpan kS_X11_isSpan km_11_340 rfl rfl (Nat.le_of_ble_eq_true rfl) (by decide) dX11_postman_2 ?_
  refine v_if_ne (tgt := 10) hX dX11_postman_5 (by decide) h (fun h => ?_) (fun h => ?_)
  · refine v_iconst (v := (-1)) hX dX11_postman_8 (by decide) ?_
    exact v_retI hR h dX11_postman_9
  · refine v_bipush (v := (-2)) hX dX11_postman_10 (by decide) ?_
    refine v_nmI hX h (fun v2 h => ?_)
    refine v_istore_n (lv' := [(3, .int v2), (0, .ref (ad 0)), (1, .int a1), (2, .int a2)]) hX dX11_postman_12 rfl (by decide) rfl ?_
    refine v_iconst (v := 0) hX dX11_postman_13 (by decide) ?_
    refine v_istore (lv' := [(4, .int 0), (3, .int v2), (0, .ref (ad 0)), (1, .int a1), (2, .int a2)]) hX dX11_postman_14 (by decide) rfl ?_
    refine v_iconst (v := 0) hX dX11_postman_16 (by decide) ?_
    refine v_istore (lv' := [(5, .int 0), (4, .int 0), (3, .int v2), (0, .ref (ad 0)), (1, .int a1), (2, .int a2)]) hX dX11_postman_17 (by decide) rfl ?_
    exact v_sub hX [3, 4, 5, 2, 1, 0] (by rfl) (wC_EachAddsALine_postman_19 hX hR  N _ _ _ _ _ _ h)
noncomputable def fC_EachAddsALine_postman (N : Nat) (a1 : Int32) (a2 : Int32) (s : vSt) : Option (Int32 × vSt) := gC_EachAddsALine_postman_0 N a1 a2 s
theorem mC_EachAddsALine_postman {N : Nat} {a1 : Int32} {a2 : Int32} {s : vSt} {r : Int32} {t1 : vSt} (h : fC_EachAddsALine_postman N a1 a2 s = some (r, t1)) (l : Launch) (ad : Nat → Nat) : vMI l shC ad yX11_postman cX11_postman 7 .int 4 99 s [.ref (ad 0), .int a1, .int a2] r t1 :=
  vMI_of (by decide +kernel) (Nat.le_of_ble_eq_true rfl) (fun P hX hR => wC_EachAddsALine_postman_0 hX hR h)
-- C_Paths_knownFrom
noncomputable def gC_Paths_knownFrom_32 (N : Nat) (r4 : Int32 → Int32 → Int32 → vSt → Option (Int32 × vSt)) (a1 : Int32) (a2 : Int32) (a3 : Int32) (s : vSt) : Option (Int32 × vSt) :=
  (some (a3 + 1 : Int32)).bind fun v1 =>
  r4 a1 a2 v1 s
set_option maxRecDepth 4000 in
theorem wC_Paths_knownFrom_32 {P : vP} {l : Launch} {ad : Nat → Nat} {N : Nat} {r4 : Int32 → Int32 → Int32 → vSt → Option (Int32 × vSt)} {r : Int32} {t1 : vSt} (hX : vOK P l shC ad (vR 0 0) cX3_knownFrom RX3 4) (hR : (∀ pc lv, narrow .int (.int r) = .int r → decode cX3_knownFrom pc = .ok (.ireturn, 1) → P t1 pc lv [.int r])) (H4 : ∀ (a1 : Int32) (a2 : Int32) (a3 : Int32) (s : vSt), r4 a1 a2 a3 s = some (r, t1) → P s 4 [(0, .ref (ad 41)), (1, .int a1), (2, .int a2), (3, .int a3)] []) {a1 : Int32} {a2 : Int32} {a3 : Int32} {s : vSt} (h : gC_Paths_knownFrom_32 N r4 a1 a2 a3 s = some (r, t1)) : P s 32 [(0, .ref (ad 41)), (1, .int a1), (2, .int a2), (3, .int a3)] [] := by
  unfold gC_Paths_knownFrom_32 at h
  refine v_iincN hX dX3_knownFrom_32 (j := 3) rfl (c := 1) (by decide) (by decide) h (fun v1 h => ?_)
  refine v_show (lv' := [(3, .int v1), (0, .ref (ad 41)), (1, .int a1), (2, .int a2)]) hX rfl ?_
  refine v_goto (tgt := 4) hX dX3_knownFrom_35 (by decide) ?_
  exact v_sub hX [1, 2, 3, 0] (by rfl) (H4 _ _ _ _ h)
noncomputable def gC_Paths_knownFrom_4 (N : Nat)  : Nat → Int32 → Int32 → Int32 → vSt → Option (Int32 × vSt)
  | 0, _, _, _, _ => none
  | n + 1, a1, a2, a3, s =>
    if (s.1 9 6) ≤ a3 then
      some (a2, s)
    else
      if (a1 &&& ((1 : Int32) <<< (a3 &&& 31))) = 0 then
        gC_Paths_knownFrom_32 N (gC_Paths_knownFrom_4 N n) a1 a2 a3 s
      else
        (ld s 45 9 a3).bind fun v1 =>
        (some (a2 ||| v1 : Int32)).bind fun v2 =>
        gC_Paths_knownFrom_32 N (gC_Paths_knownFrom_4 N n) a1 v2 a3 s
set_option maxRecDepth 4000 in
theorem wC_Paths_knownFrom_4 {P : vP} {l : Launch} {ad : Nat → Nat} {N : Nat} {r : Int32} {t1 : vSt} (hX : vOK P l shC ad (vR 0 0) cX3_knownFrom RX3 4) (hR : (∀ pc lv, narrow .int (.int r) = .int r → decode cX3_knownFrom pc = .ok (.ireturn, 1) → P t1 pc lv [.int r]))  : ∀ (n : Nat) (a1 : Int32) (a2 : Int32) (a3 : Int32) (s : vSt), gC_Paths_knownFrom_4 N n a1 a2 a3 s = some (r, t1) → P s 4 [(0, .ref (ad 41)), (1, .int a1), (2, .int a2), (3, .int a3)] [] := by
  intro n
  induction n with
  | zero => intro a1 a2 a3 s h; cases h
  | succ n ih =>
    intro a1 a2 a3 s h
    unfold gC_Paths_knownFrom_4 at h
    refine v_iload_n hX dX3_knownFrom_4 rfl 3 rfl ?_
    refine v_aload_n hX dX3_knownFrom_5 rfl 0 rfl ?_
    refine gfC_41_3 hX kf_3_25 dX3_knownFrom_6 ?_
    refine gfC_9_6 hX kf_3_29 dX3_knownFrom_9 ?_
    refine v_icmp_ge (tgt := 38) hX dX3_knownFrom_12 (by decide) h (fun h => ?_) (fun h => ?_)
    · refine v_iload_n hX dX3_knownFrom_38 rfl 2 rfl ?_
      exact v_retI hR h dX3_knownFrom_39
    · refine v_iload_n hX dX3_knownFrom_15 rfl 1 rfl ?_
      refine v_iconst (v := 1) hX dX3_knownFrom_16 (by decide) ?_
      refine v_iload_n hX dX3_knownFrom_17 rfl 3 rfl ?_
      refine v_ishl hX dX3_knownFrom_18 ?_
      refine v_iand hX dX3_knownFrom_19 ?_
      refine v_if_eq (tgt := 32) hX dX3_knownFrom_20 (by decide) h (fun h => ?_) (fun h => ?_)
      · exact v_sub hX [0, 1, 2, 3] (by rfl) (wC_Paths_knownFrom_32 hX hR ih h)
      · refine v_iload_n hX dX3_knownFrom_23 rfl 2 rfl ?_
        refine v_aload_n hX dX3_knownFrom_24 rfl 0 rfl ?_
        refine gfC_41_6 hX kf_3_22 dX3_knownFrom_25 ?_
        refine v_iload_n hX dX3_knownFrom_28 rfl 3 rfl ?_
        refine alC_45 hX dX3_knownFrom_29 h (fun v1 h => ?_)
        refine v_ior hX dX3_knownFrom_30 ?_
        refine v_nmI hX h (fun v2 h => ?_)
        refine v_istore_n (lv' := [(2, .int v2), (0, .ref (ad 41)), (1, .int a1), (3, .int a3)]) hX dX3_knownFrom_31 rfl (by decide) rfl ?_
        exact v_sub hX [1, 2, 0, 3] (by rfl) (wC_Paths_knownFrom_32 hX hR ih h)
noncomputable def gC_Paths_knownFrom_0 (N : Nat)  (a1 : Int32) (s : vSt) : Option (Int32 × vSt) :=
  gC_Paths_knownFrom_4 N N a1 0 0 s
set_option maxRecDepth 4000 in
theorem wC_Paths_knownFrom_0 {P : vP} {l : Launch} {ad : Nat → Nat} {N : Nat} {r : Int32} {t1 : vSt} (hX : vOK P l shC ad (vR 0 0) cX3_knownFrom RX3 4) (hR : (∀ pc lv, narrow .int (.int r) = .int r → decode cX3_knownFrom pc = .ok (.ireturn, 1) → P t1 pc lv [.int r]))  {a1 : Int32} {s : vSt} (h : gC_Paths_knownFrom_0 N a1 s = some (r, t1)) : P s 0 [(0, .ref (ad 41)), (1, .int a1)] [] := by
  unfold gC_Paths_knownFrom_0 at h
  refine v_iconst (v := 0) hX dX3_knownFrom_0 (by decide) ?_
  refine v_istore_n (lv' := [(2, .int 0), (0, .ref (ad 41)), (1, .int a1)]) hX dX3_knownFrom_1 rfl (by decide) rfl ?_
  refine v_iconst (v := 0) hX dX3_knownFrom_2 (by decide) ?_
  refine v_istore_n (lv' := [(3, .int 0), (2, .int 0), (0, .ref (ad 41)), (1, .int a1)]) hX dX3_knownFrom_3 rfl (by decide) rfl ?_
  exact v_sub hX [2, 3, 1, 0] (by rfl) (wC_Paths_knownFrom_4 hX hR  N _ _ _ _ h)
noncomputable def fC_Paths_knownFrom (N : Nat) (a1 : Int32) (s : vSt) : Option (Int32 × vSt) := gC_Paths_knownFrom_0 N a1 s
theorem mC_Paths_knownFrom {N : Nat} {a1 : Int32} {s : vSt} {r : Int32} {t1 : vSt} (h : fC_Paths_knownFrom N a1 s = some (r, t1)) (l : Launch) (ad : Nat → Nat) : vMI l shC ad yX3_knownFrom cX3_knownFrom 4 .int 0 0 s [.ref (ad 41), .int a1] r t1 :=
  vMI_of (by decide +kernel) (Nat.le_of_ble_eq_true rfl) (fun P hX hR => wC_Paths_knownFrom_0 hX hR h)
-- C_Paths_fewestHeralds
noncomputable def gC_Paths_fewestHeralds_86 (N : Nat) (r43 : Int32 → Int32 → vSt → Option (Int32 × vSt)) (a3 : Int32) (a4 : Int32) (s : vSt) : Option (Int32 × vSt) :=
  (some (a4 + 1 : Int32)).bind fun v1 =>
  r43 a3 v1 s
set_option maxRecDepth 4000 in
theorem wC_Paths_fewestHeralds_86 {P : vP} {l : Launch} {ad : Nat → Nat} {N : Nat} {r43 : Int32 → Int32 → vSt → Option (Int32 × vSt)} {r : Int32} {t1 : vSt} (hX : vOK P l shC ad (vR 4 99) cX3_fewestHeralds RX3 5) (hR : (∀ pc lv, narrow .int (.int r) = .int r → decode cX3_fewestHeralds pc = .ok (.ireturn, 1) → P t1 pc lv [.int r])) (H43 : ∀ (a3 : Int32) (a4 : Int32) (s : vSt), r43 a3 a4 s = some (r, t1) → P s 43 [(0, .ref (ad 41)), (3, .int a3), (4, .int a4)] []) {a3 : Int32} {a4 : Int32} {s : vSt} (h : gC_Paths_fewestHeralds_86 N r43 a3 a4 s = some (r, t1)) : P s 86 [(0, .ref (ad 41)), (3, .int a3), (4, .int a4)] [] := by
  unfold gC_Paths_fewestHeralds_86 at h
  refine v_iincN hX dX3_fewestHeralds_86 (j := 2) rfl (c := 1) (by decide) (by decide) h (fun v1 h => ?_)
  refine v_show (lv' := [(4, .int v1), (0, .ref (ad 41)), (3, .int a3)]) hX rfl ?_
  refine v_goto (tgt := 43) hX dX3_fewestHeralds_89 (by decide) ?_
  exact v_sub hX [1, 2, 0] (by rfl) (H43 _ _ _ h)
noncomputable def gC_Paths_fewestHeralds_43 (N : Nat)  : Nat → Int32 → Int32 → vSt → Option (Int32 × vSt)
  | 0, _, _, _ => none
  | n + 1, a3, a4, s =>
    (fC_Roads_everybody N s).bind fun p1 =>
    if p1.1 ≤ a4 then
      some (a3, p1.2)
    else
      (fC_Integer_bitCount N a4 p1.2).bind fun p2 =>
      (fC_Integer_bitCount N a3 p2.2).bind fun p3 =>
      if p3.1 ≤ p2.1 then
        gC_Paths_fewestHeralds_86 N (gC_Paths_fewestHeralds_43 N n) a3 a4 p3.2
      else
        (fC_Paths_knownFrom N a4 p3.2).bind fun p4 =>
        (fC_Roads_everybody N p4.2).bind fun p5 =>
        if p4.1 = p5.1 then
          gC_Paths_fewestHeralds_86 N (gC_Paths_fewestHeralds_43 N n) a4 a4 p5.2
        else
          gC_Paths_fewestHeralds_86 N (gC_Paths_fewestHeralds_43 N n) a3 a4 p5.2
set_option maxRecDepth 4000 in
theorem wC_Paths_fewestHeralds_43 {P : vP} {l : Launch} {ad : Nat → Nat} {N : Nat} {r : Int32} {t1 : vSt} (hX : vOK P l shC ad (vR 4 99) cX3_fewestHeralds RX3 5) (hR : (∀ pc lv, narrow .int (.int r) = .int r → decode cX3_fewestHeralds pc = .ok (.ireturn, 1) → P t1 pc lv [.int r]))  : ∀ (n : Nat) (a3 : Int32) (a4 : Int32) (s : vSt), gC_Paths_fewestHeralds_43 N n a3 a4 s = some (r, t1) → P s 43 [(0, .ref (ad 41)), (3, .int a3), (4, .int a4)] [] := by
  intro n
  induction n with
  | zero => intro a3 a4 s h; cases h
  | succ n ih =>
    intro a3 a4 s h
    unfold gC_Paths_fewestHeralds_43 at h
    refine v_iload hX dX3_fewestHeralds_43 2 rfl ?_
    refine v_aload_n hX dX3_fewestHeralds_45 rfl 0 rfl ?_
    refine gfC_41_3 hX kf_3_25 dX3_fewestHeralds_46 ?_
    obtain ⟨p1, hp1, h⟩ := bsome h
    refine v_callVI (o := 9) hX (mC_Roads_everybody hp1 l ad) kM_X6_everybody kV_X6_everybody km_3_135 (by decide) (fun _ => rfl) rfl rfl rfl (Nat.le_of_ble_eq_true rfl) (by decide) dX3_fewestHeralds_49 ?_
    refine v_icmp_ge (tgt := 92) hX dX3_fewestHeralds_52 (by decide) h (fun h => ?_) (fun h => ?_)
    · refine v_iload_n hX dX3_fewestHeralds_92 rfl 1 rfl ?_
      exact v_retI hR h dX3_fewestHeralds_93
    · refine v_iload hX dX3_fewestHeralds_55 2 rfl ?_
      obtain ⟨p2, hp2, h⟩ := bsome h
      refine v_callSI hX (mC_Integer_bitCount hp2 l ad) kM_J6_bitCount_0f7a4 kS_J6_bitCount_0f7a4 km_3_167 rfl rfl (Nat.le_of_ble_eq_true rfl) (by decide) dX3_fewestHeralds_57 ?_
      refine v_iload_n hX dX3_fewestHeralds_60 rfl 1 rfl ?_
      obtain ⟨p3, hp3, h⟩ := bsome h
      refine v_callSI hX (mC_Integer_bitCount hp3 l ad) kM_J6_bitCount_0f7a4 kS_J6_bitCount_0f7a4 km_3_167 rfl rfl (Nat.le_of_ble_eq_true rfl) (by decide) dX3_fewestHeralds_61 ?_
      refine v_icmp_ge (tgt := 86) hX dX3_fewestHeralds_64 (by decide) h (fun h => ?_) (fun h => ?_)
      · exact v_sub hX [0, 1, 2] (by rfl) (wC_Paths_fewestHeralds_86 hX hR ih h)
      · refine v_aload_n hX dX3_fewestHeralds_67 rfl 0 rfl ?_
        refine v_iload hX dX3_fewestHeralds_68 2 rfl ?_
        obtain ⟨p4, hp4, h⟩ := bsome h
        refine v_callVI (o := 41) hX (mC_Paths_knownFrom hp4 l ad) kM_X3_knownFrom kV_X3_knownFrom km_3_172 (by decide) (fun _ => rfl) rfl rfl rfl (Nat.le_of_ble_eq_true rfl) (by decide) dX3_fewestHeralds_70 ?_
        refine v_aload_n hX dX3_fewestHeralds_73 rfl 0 rfl ?_
        refine gfC_41_3 hX kf_3_25 dX3_fewestHeralds_74 ?_
        obtain ⟨p5, hp5, h⟩ := bsome h
        refine v_callVI (o := 9) hX (mC_Roads_everybody hp5 l ad) kM_X6_everybody kV_X6_everybody km_3_135 (by decide) (fun _ => rfl) rfl rfl rfl (Nat.le_of_ble_eq_true rfl) (by decide) dX3_fewestHeralds_77 ?_
        refine v_icmp_ne (tgt := 86) hX dX3_fewestHeralds_80 (by decide) h (fun h => ?_) (fun h => ?_)
        · refine v_iload hX dX3_fewestHeralds_83 2 rfl ?_
          refine v_istore_n (lv' := [(3, .int a4), (0, .ref (ad 41)), (4, .int a4)]) hX dX3_fewestHeralds_85 rfl (by decide) rfl ?_
          exact v_sub hX [1, 0, 2] (by rfl) (wC_Paths_fewestHeralds_86 hX hR ih h)
        · exact v_sub hX [0, 1, 2] (by rfl) (wC_Paths_fewestHeralds_86 hX hR ih h)
noncomputable def gC_Paths_fewestHeralds_2 (N : Nat)  : Nat → Int32 → Int32 → Int32 → vSt → Option (Int32 × vSt)
  | 0, _, _, _, _ => none
  | n + 1, a1, a2, a3, s =>
    if (s.1 9 6) ≤ a3 then
      (fC_Roads_everybody N s).bind fun p1 =>
      gC_Paths_fewestHeralds_43 N N p1.1 0 p1.2
    else
      (fC_Paths_knowers N a3 a1 a2 s).bind fun p2 =>
      (sto p2.2 45 9 a3 p2.1).bind fun z3 =>
      (some (a3 + 1 : Int32)).bind fun v4 =>
      gC_Paths_fewestHeralds_2 N n a1 a2 v4 z3
set_option maxRecDepth 4000 in
theorem wC_Paths_fewestHeralds_2 {P : vP} {l : Launch} {ad : Nat → Nat} {N : Nat} {r : Int32} {t1 : vSt} (hX : vOK P l shC ad (vR 4 99) cX3_fewestHeralds RX3 5) (hR : (∀ pc lv, narrow .int (.int r) = .int r → decode cX3_fewestHeralds pc = .ok (.ireturn, 1) → P t1 pc lv [.int r]))  : ∀ (n : Nat) (a1 : Int32) (a2 : Int32) (a3 : Int32) (s : vSt), gC_Paths_fewestHeralds_2 N n a1 a2 a3 s = some (r, t1) → P s 2 [(0, .ref (ad 41)), (1, .int a1), (2, .int a2), (3, .int a3)] [] := by
  intro n
  induction n with
  | zero => intro a1 a2 a3 s h; cases h
  | succ n ih =>
    intro a1 a2 a3 s h
    unfold gC_Paths_fewestHeralds_2 at h
    refine v_iload_n hX dX3_fewestHeralds_2 rfl 3 rfl ?_
    refine v_aload_n hX dX3_fewestHeralds_3 rfl 0 rfl ?_
    refine gfC_41_3 hX kf_3_25 dX3_fewestHeralds_4 ?_
    refine gfC_9_6 hX kf_3_29 dX3_fewestHeralds_7 ?_
    refine v_icmp_ge (tgt := 32) hX dX3_fewestHeralds_10 (by decide) h (fun h => ?_) (fun h => ?_)
    · refine v_aload_n hX dX3_fewestHeralds_32 rfl 0 rfl ?_
      refine gfC_41_3 hX kf_3_25 dX3_fewestHeralds_33 ?_
      obtain ⟨p1, hp1, h⟩ := bsome h
      refine v_callVI (o := 9) hX (mC_Roads_everybody hp1 l ad) kM_X6_everybody kV_X6_everybody km_3_135 (by decide) (fun _ => rfl) rfl rfl rfl (Nat.le_of_ble_eq_true rfl) (by decide) dX3_fewestHeralds_36 ?_
      refine v_istore_n (lv' := [(3, .int p1.1), (0, .ref (ad 41)), (1, .int a1), (2, .int a2)]) hX dX3_fewestHeralds_39 rfl (by decide) rfl ?_
      refine v_iconst (v := 0) hX dX3_fewestHeralds_40 (by decide) ?_
      refine v_istore (lv' := [(4, .int 0), (3, .int p1.1), (0, .ref (ad 41)), (1, .int a1), (2, .int a2)]) hX dX3_fewestHeralds_41 (by decide) rfl ?_
      exact v_sub hX [2, 1, 0] (by rfl) (wC_Paths_fewestHeralds_43 hX hR  N _ _ _ h)
    · refine v_aload_n hX dX3_fewestHeralds_13 rfl 0 rfl ?_
      refine gfC_41_6 hX kf_3_22 dX3_fewestHeralds_14 ?_
      refine v_iload_n hX dX3_fewestHeralds_17 rfl 3 rfl ?_
      refine v_aload_n hX dX3_fewestHeralds_18 rfl 0 rfl ?_
      refine v_iload_n hX dX3_fewestHeralds_19 rfl 3 rfl ?_
      refine v_iload_n hX dX3_fewestHeralds_20 rfl 1 rfl ?_
      refine v_iload_n hX dX3_fewestHeralds_21 rfl 2 rfl ?_
      obtain ⟨p2, hp2, h⟩ := bsome h
      refine v_callVI (o := 41) hX (mC_Paths_knowers hp2 l ad) kM_X3_knowers kV_X3_knowers km_3_164 (by decide) (fun _ => rfl) rfl rfl rfl (Nat.le_of_ble_eq_true rfl) (by decide) dX3_fewestHeralds_22 ?_
      refine asC_45 hX dX3_fewestHeralds_25 h (fun z3 h => ?_)
      refine v_iincN hX dX3_fewestHeralds_26 (j := 3) rfl (c := 1) (by decide) (by decide) h (fun v4 h => ?_)
      refine v_show (lv' := [(3, .int v4), (0, .ref (ad 41)), (1, .int a1), (2, .int a2)]) hX rfl ?_
      refine v_goto (tgt := 2) hX dX3_fewestHeralds_29 (by decide) ?_
      exact v_sub hX [1, 2, 3, 0] (by rfl) (ih _ _ _ _ h)
noncomputable def gC_Paths_fewestHeralds_0 (N : Nat)  (a1 : Int32) (a2 : Int32) (s : vSt) : Option (Int32 × vSt) :=
  gC_Paths_fewestHeralds_2 N N a1 a2 0 s
set_option maxRecDepth 4000 in
theorem wC_Paths_fewestHeralds_0 {P : vP} {l : Launch} {ad : Nat → Nat} {N : Nat} {r : Int32} {t1 : vSt} (hX : vOK P l shC ad (vR 4 99) cX3_fewestHeralds RX3 5) (hR : (∀ pc lv, narrow .int (.int r) = .int r → decode cX3_fewestHeralds pc = .ok (.ireturn, 1) → P t1 pc lv [.int r]))  {a1 : Int32} {a2 : Int32} {s : vSt} (h : gC_Paths_fewestHeralds_0 N a1 a2 s = some (r, t1)) : P s 0 [(0, .ref (ad 41)), (1, .int a1), (2, .int a2)] [] := by
  unfold gC_Paths_fewestHeralds_0 at h
  refine v_iconst (v := 0) hX dX3_fewestHeralds_0 (by decide) ?_
  refine v_istore_n (lv' := [(3, .int 0), (0, .ref (ad 41)), (1, .int a1), (2, .int a2)]) hX dX3_fewestHeralds_1 rfl (by decide) rfl ?_
  exact v_sub hX [1, 2, 3, 0] (by rfl) (wC_Paths_fewestHeralds_2 hX hR  N _ _ _ _ h)
noncomputable def fC_Paths_fewestHeralds (N : Nat) (a1 : Int32) (a2 : Int32) (s : vSt) : Option (Int32 × vSt) := gC_Paths_fewestHeralds_0 N a1 a2 s
theorem mC_Paths_fewestHeralds {N : Nat} {a1 : Int32} {a2 : Int32} {s : vSt} {r : Int32} {t1 : vSt} (h : fC_Paths_fewestHeralds N a1 a2 s = some (r, t1)) (l : Launch) (ad : Nat → Nat) : vMI l shC ad yX3_fewestHeralds cX3_fewestHeralds 5 .int 4 99 s [.ref (ad 41), .int a1, .int a2] r t1 :=
  vMI_of (by decide +kernel) (Nat.le_of_ble_eq_true rfl) (fun P hX hR => wC_Paths_fewestHeralds_0 hX hR h)
-- C_EachAddsALine_heralds
noncomputable def gC_EachAddsALine_heralds_0 (N : Nat)  (a1 : Int32) (a2 : Int32) (s : vSt) : Option (Int32 × vSt) :=
  (fC_EachAddsALine_isSpan N a1 a2 s).bind fun p1 =>
  if p1.1 = 0 then
    some ((-1), p1.2)
  else
    (fC_Paths_fewestHeralds N a1 a2 p1.2).bind fun p2 =>
    (fC_Numbers_clear_row N p2.2).bind fun z3 =>
    (fC_Numbers_add_row N p2.1 z3).bind fun z4 =>
    (fC_Integer_bitCount N p2.1 z4).bind fun p5 =>
    some (p5.1, p5.2)
set_option maxRecDepth 4000 in
theorem wC_EachAddsALine_heralds_0 {P : vP} {l : Launch} {ad : Nat → Nat} {N : Nat} {r : Int32} {t1 : vSt} (hX : vOK P l shC ad (vR 5 123) cX11_heralds RX11 4) (hR : (∀ pc lv, narrow .int (.int r) = .int r → decode cX11_heralds pc = .ok (.ireturn, 1) → P t1 pc lv [.int r]))  {a1 : Int32} {a2 : Int32} {s : vSt} (h : gC_EachAddsALine_heralds_0 N a1 a2 s = some (r, t1)) : P s 0 [(0, .ref (ad 0)), (1, .int a1), (2, .int a2)] [] := by
  unfold gC_EachAddsALine_heralds_0 at h
  refine v_iload_n hX dX11_heralds_0 rfl 1 rfl ?_
  refine v_iload_n hX dX11_heralds_1 rfl 2 rfl ?_
  obtain ⟨p1, hp1, h⟩ := bsome h
  refine v_callSI hX (mC_EachAddsALine_isSpan hp1 l ad) kM_X11_isSpan kS_X11_isSpan km_11_340 rfl rfl (Nat.le_of_ble_eq_true rfl) (by decide) dX11_heralds_2 ?_
  refine v_if_ne (tgt := 10) hX dX11_heralds_5 (by decide) h (fun h => ?_) (fun h => ?_)
  · refine v_iconst (v := (-1)) hX dX11_heralds_8 (by decide) ?_
    exact v_retI hR h dX11_heralds_9
  · refine v_aload_n hX dX11_heralds_10 rfl 0 rfl ?_
    refine gfC_0_7 hX kf_11_69 dX11_heralds_11 ?_
    refine v_iload_n hX dX11_heralds_14 rfl 1 rfl ?_
    refine v_iload_n hX dX11_heralds_15 rfl 2 rfl ?_
    obtain ⟨p2, hp2, h⟩ := bsome h
    refine v_callVI (o := 41) hX (mC_Paths_fewestHeralds hp2 l ad) kM_X3_fewestHeralds kV_X3_fewestHeralds km_11_355 (by decide) (fun _ => rfl) rfl rfl rfl (Nat.le_of_ble_eq_true rfl) (by decide) dX11_heralds_16 ?_
    refine v_istore_n (lv' := [(3, .int p2.1), (0, .ref (ad 0)), (1, .int a1), (2, .int a2)]) hX dX11_heralds_19 rfl (by decide) rfl ?_
    refine v_aload_n hX dX11_heralds_20 rfl 1 rfl ?_
    refine gfC_0_1 hX kf_11_19 dX11_heralds_21 ?_
    obtain ⟨z3, hz3, h⟩ := bsome h
    refine v_callVV (o := 3) hX (mC_Numbers_clear_row hz3 l ad) kM_X2_clear kV_X2_clear km_11_176 (by decide) (fun _ => rfl) rfl rfl rfl (Nat.le_of_ble_eq_true rfl) (by decide) dX11_heralds_24 ?_
    refine v_aload_n hX dX11_heralds_27 rfl 1 rfl ?_
    refine gfC_0_1 hX kf_11_19 dX11_heralds_28 ?_
    refine v_iload_n hX dX11_heralds_31 rfl 0 rfl ?_
    obtain ⟨z4, hz4, h⟩ := bsome h
    refine v_callVV (o := 3) hX (mC_Numbers_add_row hz4 l ad) kM_X2_add kV_X2_add km_11_182 (by decide) (fun _ => rfl) rfl rfl rfl (Nat.le_of_ble_eq_true rfl) (by decide) dX11_heralds_32 ?_
    refine v_iload_n hX dX11_heralds_35 rfl 0 rfl ?_
    obtain ⟨p5, hp5, h⟩ := bsome h
    refine v_callSI hX (mC_Integer_bitCount hp5 l ad) kM_J6_bitCount_0f7a4 kS_J6_bitCount_0f7a4 km_11_350 rfl rfl (Nat.le_of_ble_eq_true rfl) (by decide) dX11_heralds_36 ?_
    exact v_retI hR h dX11_heralds_39
noncomputable def fC_EachAddsALine_heralds (N : Nat) (a1 : Int32) (a2 : Int32) (s : vSt) : Option (Int32 × vSt) := gC_EachAddsALine_heralds_0 N a1 a2 s
theorem mC_EachAddsALine_heralds {N : Nat} {a1 : Int32} {a2 : Int32} {s : vSt} {r : Int32} {t1 : vSt} (h : fC_EachAddsALine_heralds N a1 a2 s = some (r, t1)) (l : Launch) (ad : Nat → Nat) : vMI l shC ad yX11_heralds cX11_heralds 4 .int 5 123 s [.ref (ad 0), .int a1, .int a2] r t1 :=
  vMI_of (by decide +kernel) (Nat.le_of_ble_eq_true rfl) (fun P hX hR => wC_EachAddsALine_heralds_0 hX hR h)
-- C_Letters_take_kept0_letters
noncomputable def gC_Letters_take_kept0_letters_0 (N : Nat)   (s : vSt) : Option (vSt) :=
  (scpy s 27 32 3 3 3).bind fun z1 =>
  (scpy z1 28 33 90 90 90).bind fun z2 =>
  (scpy z2 29 34 90 90 90).bind fun z3 =>
  (scpy z3 30 35 90 90 90).bind fun z4 =>
  some z4
set_option maxRecDepth 4000 in
theorem wC_Letters_take_kept0_letters_0 {P : vP} {l : Launch} {ad : Nat → Nat} {N : Nat} {t1 : vSt} (hX : vOK P l shC ad (vR 1 40) cX1_take RX1 2) (hR : (∀ pc lv, decode cX1_take pc = .ok (.return_, 1) → P t1 pc lv []))   {s : vSt} (h : gC_Letters_take_kept0_letters_0 N s = some t1) : P s 0 [(0, .ref (ad 31)), (1, .ref (ad 26))] [] := by
  unfold gC_Letters_take_kept0_letters_0 at h
  refine v_aload_n hX dX1_take_0 rfl 1 rfl ?_
  refine gfC_26_0 hX kf_1_9 dX1_take_1 ?_
  refine v_iconst (v := 0) hX dX1_take_4 (by decide) ?_
  refine v_aload_n hX dX1_take_5 rfl 0 rfl ?_
  refine gfC_31_0 hX kf_1_9 dX1_take_6 ?_
  refine v_iconst (v := 0) hX dX1_take_9 (by decide) ?_
  refine v_aload_n hX dX1_take_10 rfl 0 rfl ?_
  refine gfC_31_0 hX kf_1_9 dX1_take_11 ?_
  refine v_alen (o := 32) (n := 3) (ct := 0) (v := 3) hX (by decide) (fun _ => rfl) (fun _ => rfl) (by decide) dX1_take_14 ?_
  refine v_copy hX kAc_1_32 kAcN kAcS kI_System (by decide) (Nat.le_of_ble_eq_true rfl) (by decide) (by decide) (fun _ _ _ => rfl) (fun _ _ _ => rfl) dX1_take_15 h (fun z1 _ h => ?_)
  refine v_aload_n hX dX1_take_18 rfl 1 rfl ?_
  refine gfC_26_1 hX kf_1_15 dX1_take_19 ?_
  refine v_iconst (v := 0) hX dX1_take_22 (by decide) ?_
  refine v_aload_n hX dX1_take_23 rfl 0 rfl ?_
  refine gfC_31_1 hX kf_1_15 dX1_take_24 ?_
  refine v_iconst (v := 0) hX dX1_take_27 (by decide) ?_
  refine v_aload_n hX dX1_take_28 rfl 0 rfl ?_
  refine gfC_31_1 hX kf_1_15 dX1_take_29 ?_
  refine v_alen (o := 33) (n := 90) (ct := 0) (v := 90) hX (by decide) (fun _ => rfl) (fun _ => rfl) (by decide) dX1_take_32 ?_
  refine v_copy hX kAc_1_32 kAcN kAcS kI_System (by decide) (Nat.le_of_ble_eq_true rfl) (by decide) (by decide) (fun _ _ _ => rfl) (fun _ _ _ => rfl) dX1_take_33 h (fun z2 _ h => ?_)
  refine v_aload_n hX dX1_take_36 rfl 1 rfl ?_
  refine gfC_26_2 hX kf_1_18 dX1_take_37 ?_
  refine v_iconst (v := 0) hX dX1_take_40 (by decide) ?_
  refine v_aload_n hX dX1_take_41 rfl 0 rfl ?_
  refine gfC_31_2 hX kf_1_18 dX1_take_42 ?_
  refine v_iconst (v := 0) hX dX1_take_45 (by decide) ?_
  refine v_aload_n hX dX1_take_46 rfl 0 rfl ?_
  refine gfC_31_2 hX kf_1_18 dX1_take_47 ?_
  refine v_alen (o := 34) (n := 90) (ct := 0) (v := 90) hX (by decide) (fun _ => rfl) (fun _ => rfl) (by decide) dX1_take_50 ?_
  refine v_copy hX kAc_1_32 kAcN kAcS kI_System (by decide) (Nat.le_of_ble_eq_true rfl) (by decide) (by decide) (fun _ _ _ => rfl) (fun _ _ _ => rfl) dX1_take_51 h (fun z3 _ h => ?_)
  refine v_aload_n hX dX1_take_54 rfl 1 rfl ?_
  refine gfC_26_3 hX kf_1_21 dX1_take_55 ?_
  refine v_iconst (v := 0) hX dX1_take_58 (by decide) ?_
  refine v_aload_n hX dX1_take_59 rfl 0 rfl ?_
  refine gfC_31_3 hX kf_1_21 dX1_take_60 ?_
  refine v_iconst (v := 0) hX dX1_take_63 (by decide) ?_
  refine v_aload_n hX dX1_take_64 rfl 0 rfl ?_
  refine gfC_31_3 hX kf_1_21 dX1_take_65 ?_
  refine v_alen (o := 35) (n := 90) (ct := 0) (v := 90) hX (by decide) (fun _ => rfl) (fun _ => rfl) (by decide) dX1_take_68 ?_
  refine v_copy hX kAc_1_32 kAcN kAcS kI_System (by decide) (Nat.le_of_ble_eq_true rfl) (by decide) (by decide) (fun _ _ _ => rfl) (fun _ _ _ => rfl) dX1_take_69 h (fun z4 _ h => ?_)
  exact v_retV hR h dX1_take_72
noncomputable def fC_Letters_take_kept0_letters (N : Nat)  (s : vSt) : Option (vSt) := gC_Letters_take_kept0_letters_0 N s
theorem mC_Letters_take_kept0_letters {N : Nat}  {s : vSt} {t1 : vSt} (h : fC_Letters_take_kept0_letters N s = some t1) (l : Launch) (ad : Nat → Nat) : vMV l shC ad yX1_take cX1_take 2 1 40 s [.ref (ad 31), .ref (ad 26)] t1 :=
  vMV_of (by decide +kernel) (Nat.le_of_ble_eq_true rfl) (fun P hX hR => wC_Letters_take_kept0_letters_0 hX hR h)
-- C_Letters_take_kept1_letters
noncomputable def gC_Letters_take_kept1_letters_0 (N : Nat)   (s : vSt) : Option (vSt) :=
  (scpy s 27 37 3 3 3).bind fun z1 =>
  (scpy z1 28 38 90 90 90).bind fun z2 =>
  (scpy z2 29 39 90 90 90).bind fun z3 =>
  (scpy z3 30 40 90 90 90).bind fun z4 =>
  some z4
set_option maxRecDepth 4000 in
theorem wC_Letters_take_kept1_letters_0 {P : vP} {l : Launch} {ad : Nat → Nat} {N : Nat} {t1 : vSt} (hX : vOK P l shC ad (vR 1 40) cX1_take RX1 2) (hR : (∀ pc lv, decode cX1_take pc = .ok (.return_, 1) → P t1 pc lv []))   {s : vSt} (h : gC_Letters_take_kept1_letters_0 N s = some t1) : P s 0 [(0, .ref (ad 36)), (1, .ref (ad 26))] [] := by
  unfold gC_Letters_take_kept1_letters_0 at h
  refine v_aload_n hX dX1_take_0 rfl 1 rfl ?_
  refine gfC_26_0 hX kf_1_9 dX1_take_1 ?_
  refine v_iconst (v := 0) hX dX1_take_4 (by decide) ?_
  refine v_aload_n hX dX1_take_5 rfl 0 rfl ?_
  refine gfC_36_0 hX kf_1_9 dX1_take_6 ?_
  refine v_iconst (v := 0) hX dX1_take_9 (by decide) ?_
  refine v_aload_n hX dX1_take_10 rfl 0 rfl ?_
  refine gfC_36_0 hX kf_1_9 dX1_take_11 ?_
  refine v_alen (o := 37) (n := 3) (ct := 0) (v := 3) hX (by decide) (fun _ => rfl) (fun _ => rfl) (by decide) dX1_take_14 ?_
  refine v_copy hX kAc_1_32 kAcN kAcS kI_System (by decide) (Nat.le_of_ble_eq_true rfl) (by decide) (by decide) (fun _ _ _ => rfl) (fun _ _ _ => rfl) dX1_take_15 h (fun z1 _ h => ?_)
  refine v_aload_n hX dX1_take_18 rfl 1 rfl ?_
  refine gfC_26_1 hX kf_1_15 dX1_take_19 ?_
  refine v_iconst (v := 0) hX dX1_take_22 (by decide) ?_
  refine v_aload_n hX dX1_take_23 rfl 0 rfl ?_
  refine gfC_36_1 hX kf_1_15 dX1_take_24 ?_
  refine v_iconst (v := 0) hX dX1_take_27 (by decide) ?_
  refine v_aload_n hX dX1_take_28 rfl 0 rfl ?_
  refine gfC_36_1 hX kf_1_15 dX1_take_29 ?_
  refine v_alen (o := 38) (n := 90) (ct := 0) (v := 90) hX (by decide) (fun _ => rfl) (fun _ => rfl) (by decide) dX1_take_32 ?_
  refine v_copy hX kAc_1_32 kAcN kAcS kI_System (by decide) (Nat.le_of_ble_eq_true rfl) (by decide) (by decide) (fun _ _ _ => rfl) (fun _ _ _ => rfl) dX1_take_33 h (fun z2 _ h => ?_)
  refine v_aload_n hX dX1_take_36 rfl 1 rfl ?_
  refine gfC_26_2 hX kf_1_18 dX1_take_37 ?_
  refine v_iconst (v := 0) hX dX1_take_40 (by decide) ?_
  refine v_aload_n hX dX1_take_41 rfl 0 rfl ?_
  refine gfC_36_2 hX kf_1_18 dX1_take_42 ?_
  refine v_iconst (v := 0) hX dX1_take_45 (by decide) ?_
  refine v_aload_n hX dX1_take_46 rfl 0 rfl ?_
  refine gfC_36_2 hX kf_1_18 dX1_take_47 ?_
  refine v_alen (o := 39) (n := 90) (ct := 0) (v := 90) hX (by decide) (fun _ => rfl) (fun _ => rfl) (by decide) dX1_take_50 ?_
  refine v_copy hX kAc_1_32 kAcN kAcS kI_System (by decide) (Nat.le_of_ble_eq_true rfl) (by decide) (by decide) (fun _ _ _ => rfl) (fun _ _ _ => rfl) dX1_take_51 h (fun z3 _ h => ?_)
  refine v_aload_n hX dX1_take_54 rfl 1 rfl ?_
  refine gfC_26_3 hX kf_1_21 dX1_take_55 ?_
  refine v_iconst (v := 0) hX dX1_take_58 (by decide) ?_
  refine v_aload_n hX dX1_take_59 rfl 0 rfl ?_
  refine gfC_36_3 hX kf_1_21 dX1_take_60 ?_
  refine v_iconst (v := 0) hX dX1_take_63 (by decide) ?_
  refine v_aload_n hX dX1_take_64 rfl 0 rfl ?_
  refine gfC_36_3 hX kf_1_21 dX1_take_65 ?_
  refine v_alen (o := 40) (n := 90) (ct := 0) (v := 90) hX (by decide) (fun _ => rfl) (fun _ => rfl) (by decide) dX1_take_68 ?_
  refine v_copy hX kAc_1_32 kAcN kAcS kI_System (by decide) (Nat.le_of_ble_eq_true rfl) (by decide) (by decide) (fun _ _ _ => rfl) (fun _ _ _ => rfl) dX1_take_69 h (fun z4 _ h => ?_)
  exact v_retV hR h dX1_take_72
noncomputable def fC_Letters_take_kept1_letters (N : Nat)  (s : vSt) : Option (vSt) := gC_Letters_take_kept1_letters_0 N s
theorem mC_Letters_take_kept1_letters {N : Nat}  {s : vSt} {t1 : vSt} (h : fC_Letters_take_kept1_letters N s = some t1) (l : Launch) (ad : Nat → Nat) : vMV l shC ad yX1_take cX1_take 2 1 40 s [.ref (ad 36), .ref (ad 26)] t1 :=
  vMV_of (by decide +kernel) (Nat.le_of_ble_eq_true rfl) (fun P hX hR => wC_Letters_take_kept1_letters_0 hX hR h)
-- C_Post_store
noncomputable def gC_Post_store_0 (N : Nat)  (a1 : Int32) (s : vSt) : Option (Int32 × vSt) :=
  if a1 < 0 then
    some (0, s)
  else
    if a1 < 2 then
      if a1 = 0 then
        (fC_Letters_take_kept0_letters N s).bind fun z1 =>
        (sto z1 25 2 a1 (vp_nar .boolean 1)).bind fun z2 =>
        some (1, z2)
      else
      if a1 = 1 then
        (fC_Letters_take_kept1_letters N s).bind fun z3 =>
        (sto z3 25 2 a1 (vp_nar .boolean 1)).bind fun z4 =>
        some (1, z4)
      else
        none
    else
      some (0, s)
set_option maxRecDepth 4000 in
theorem wC_Post_store_0 {P : vP} {l : Launch} {ad : Nat → Nat} {N : Nat} {r : Int32} {t1 : vSt} (hX : vOK P l shC ad (vR 2 61) cX4_store RX4 2) (hR : (∀ pc lv, narrow .boolean (.int r) = .int r → decode cX4_store pc = .ok (.ireturn, 1) → P t1 pc lv [.int r]))  {a1 : Int32} {s : vSt} (h : gC_Post_store_0 N a1 s = some (r, t1)) : P s 0 [(0, .ref (ad 23)), (1, .int a1)] [] := by
  unfold gC_Post_store_0 at h
  refine v_iload_n hX dX4_store_0 rfl 1 rfl ?_
  refine v_if_lt (tgt := 9) hX dX4_store_1 (by decide) h (fun h => ?_) (fun h => ?_)
  · refine v_iconst (v := 0) hX dX4_store_9 (by decide) ?_
    exact v_retZ0 hR h dX4_store_10
  · refine v_iload_n hX dX4_store_4 rfl 1 rfl ?_
    refine v_iconst (v := 2) hX dX4_store_5 (by decide) ?_
    refine v_icmp_lt (tgt := 11) hX dX4_store_6 (by decide) h (fun h => ?_) (fun h => ?_)
    · refine v_aload_n hX dX4_store_11 rfl 0 rfl ?_
      refine gfC_23_3 hX kf_4_18 dX4_store_12 ?_
      refine v_iload_n hX dX4_store_15 rfl 1 rfl ?_
      rcases ifs h with ⟨hc, h⟩ | ⟨hc, h⟩
      · refine v_aald (o := 24) (n := 2) (f := fun ad i => if i = 1 then some (ad 36) else if i = 0 then some (ad 31) else none) (a := ad 31) hX (by decide) (fun _ => rfl) (by rw [hc]; unfold vp_in; decide) (by rw [hc]; rfl) dX4_store_16 ?_
        refine v_aload_n hX dX4_store_17 rfl 0 rfl ?_
        refine gfC_23_0 hX kf_4_12 dX4_store_18 ?_
        obtain ⟨z1, hz1, h⟩ := bsome h
        refine v_callVV (o := 31) hX (mC_Letters_take_kept0_letters hz1 l ad) kM_X1_take kV_X1_take km_4_34 (by decide) (fun _ => rfl) rfl rfl rfl (Nat.le_of_ble_eq_true rfl) (by decide) dX4_store_21 ?_
        refine v_aload_n hX dX4_store_24 rfl 0 rfl ?_
        refine gfC_23_4 hX kf_4_22 dX4_store_25 ?_
        refine v_iload_n hX dX4_store_28 rfl 1 rfl ?_
        refine v_iconst (v := 1) hX dX4_store_29 (by decide) ?_
        refine asC_25 hX dX4_store_30 h (fun z2 h => ?_)
        refine v_iconst (v := 1) hX dX4_store_31 (by decide) ?_
        exact v_retZ1 hR h dX4_store_32
      rcases ifs h with ⟨hc, h⟩ | ⟨hc, h⟩
      · refine v_aald (o := 24) (n := 2) (f := fun ad i => if i = 1 then some (ad 36) else if i = 0 then some (ad 31) else none) (a := ad 36) hX (by decide) (fun _ => rfl) (by rw [hc]; unfold vp_in; decide) (by rw [hc]; rfl) dX4_store_16 ?_
        refine v_aload_n hX dX4_store_17 rfl 0 rfl ?_
        refine gfC_23_0 hX kf_4_12 dX4_store_18 ?_
        obtain ⟨z3, hz3, h⟩ := bsome h
        refine v_callVV (o := 36) hX (mC_Letters_take_kept1_letters hz3 l ad) kM_X1_take kV_X1_take km_4_34 (by decide) (fun _ => rfl) rfl rfl rfl (Nat.le_of_ble_eq_true rfl) (by decide) dX4_store_21 ?_
        refine v_aload_n hX dX4_store_24 rfl 0 rfl ?_
        refine gfC_23_4 hX kf_4_22 dX4_store_25 ?_
        refine v_iload_n hX dX4_store_28 rfl 1 rfl ?_
        refine v_iconst (v := 1) hX dX4_store_29 (by decide) ?_
        refine asC_25 hX dX4_store_30 h (fun z4 h => ?_)
        refine v_iconst (v := 1) hX dX4_store_31 (by decide) ?_
        exact v_retZ1 hR h dX4_store_32
      cases h
    · refine v_iconst (v := 0) hX dX4_store_9 (by decide) ?_
      exact v_retZ0 hR h dX4_store_10
noncomputable def fC_Post_store (N : Nat) (a1 : Int32) (s : vSt) : Option (Int32 × vSt) := gC_Post_store_0 N a1 s
theorem mC_Post_store {N : Nat} {a1 : Int32} {s : vSt} {r : Int32} {t1 : vSt} (h : fC_Post_store N a1 s = some (r, t1)) (l : Launch) (ad : Nat → Nat) : vMI l shC ad yX4_store cX4_store 2 .boolean 2 61 s [.ref (ad 23), .int a1] r t1 :=
  vMI_of (by decide +kernel) (Nat.le_of_ble_eq_true rfl) (fun P hX hR => wC_Post_store_0 hX hR h)
-- C_EachAddsALine_keep
noncomputable def gC_EachAddsALine_keep_0 (N : Nat)  (a1 : Int32) (s : vSt) : Option (Int32 × vSt) :=
  (fC_Post_store N a1 s).bind fun p1 =>
  if p1.1 = 0 ∨ p1.1 = 1 then some (p1.1, p1.2) else none
set_option maxRecDepth 4000 in
theorem wC_EachAddsALine_keep_0 {P : vP} {l : Launch} {ad : Nat → Nat} {N : Nat} {r : Int32} {t1 : vSt} (hX : vOK P l shC ad (vR 3 82) cX11_keep RX11 2) (hR : (∀ pc lv, narrow .boolean (.int r) = .int r → decode cX11_keep pc = .ok (.ireturn, 1) → P t1 pc lv [.int r]))  {a1 : Int32} {s : vSt} (h : gC_EachAddsALine_keep_0 N a1 s = some (r, t1)) : P s 0 [(0, .ref (ad 0)), (1, .int a1)] [] := by
  unfold gC_EachAddsALine_keep_0 at h
  refine v_aload_n hX dX11_keep_0 rfl 0 rfl ?_
  refine gfC_0_6 hX kf_11_60 dX11_keep_1 ?_
  refine v_iload_n hX dX11_keep_4 rfl 1 rfl ?_
  obtain ⟨p1, hp1, h⟩ := bsome h
  refine v_callVI (o := 23) hX (mC_Post_store hp1 l ad) kM_X4_store kV_X4_store km_11_358 (by decide) (fun _ => rfl) rfl rfl rfl (Nat.le_of_ble_eq_true rfl) (by decide) dX11_keep_5 ?_
  exact v_retZ hR h dX11_keep_8
noncomputable def fC_EachAddsALine_keep (N : Nat) (a1 : Int32) (s : vSt) : Option (Int32 × vSt) := gC_EachAddsALine_keep_0 N a1 s
theorem mC_EachAddsALine_keep {N : Nat} {a1 : Int32} {s : vSt} {r : Int32} {t1 : vSt} (h : fC_EachAddsALine_keep N a1 s = some (r, t1)) (l : Launch) (ad : Nat → Nat) : vMI l shC ad yX11_keep cX11_keep 2 .boolean 3 82 s [.ref (ad 0), .int a1] r t1 :=
  vMI_of (by decide +kernel) (Nat.le_of_ble_eq_true rfl) (fun P hX hR => wC_EachAddsALine_keep_0 hX hR h)
-- C_Letters_take_letters_kept0
noncomputable def gC_Letters_take_letters_kept0_0 (N : Nat)   (s : vSt) : Option (vSt) :=
  (scpy s 32 27 3 3 3).bind fun z1 =>
  (scpy z1 33 28 90 90 90).bind fun z2 =>
  (scpy z2 34 29 90 90 90).bind fun z3 =>
  (scpy z3 35 30 90 90 90).bind fun z4 =>
  some z4
set_option maxRecDepth 4000 in
theorem wC_Letters_take_letters_kept0_0 {P : vP} {l : Launch} {ad : Nat → Nat} {N : Nat} {t1 : vSt} (hX : vOK P l shC ad (vR 1 40) cX1_take RX1 2) (hR : (∀ pc lv, decode cX1_take pc = .ok (.return_, 1) → P t1 pc lv []))   {s : vSt} (h : gC_Letters_take_letters_kept0_0 N s = some t1) : P s 0 [(0, .ref (ad 26)), (1, .ref (ad 31))] [] := by
  unfold gC_Letters_take_letters_kept0_0 at h
  refine v_aload_n hX dX1_take_0 rfl 1 rfl ?_
  refine gfC_31_0 hX kf_1_9 dX1_take_1 ?_
  refine v_iconst (v := 0) hX dX1_take_4 (by decide) ?_
  refine v_aload_n hX dX1_take_5 rfl 0 rfl ?_
  refine gfC_26_0 hX kf_1_9 dX1_take_6 ?_
  refine v_iconst (v := 0) hX dX1_take_9 (by decide) ?_
  refine v_aload_n hX dX1_take_10 rfl 0 rfl ?_
  refine gfC_26_0 hX kf_1_9 dX1_take_11 ?_
  refine v_alen (o := 27) (n := 3) (ct := 0) (v := 3) hX (by decide) (fun _ => rfl) (fun _ => rfl) (by decide) dX1_take_14 ?_
  refine v_copy hX kAc_1_32 kAcN kAcS kI_System (by decide) (Nat.le_of_ble_eq_true rfl) (by decide) (by decide) (fun _ _ _ => rfl) (fun _ _ _ => rfl) dX1_take_15 h (fun z1 _ h => ?_)
  refine v_aload_n hX dX1_take_18 rfl 1 rfl ?_
  refine gfC_31_1 hX kf_1_15 dX1_take_19 ?_
  refine v_iconst (v := 0) hX dX1_take_22 (by decide) ?_
  refine v_aload_n hX dX1_take_23 rfl 0 rfl ?_
  refine gfC_26_1 hX kf_1_15 dX1_take_24 ?_
  refine v_iconst (v := 0) hX dX1_take_27 (by decide) ?_
  refine v_aload_n hX dX1_take_28 rfl 0 rfl ?_
  refine gfC_26_1 hX kf_1_15 dX1_take_29 ?_
  refine v_alen (o := 28) (n := 90) (ct := 0) (v := 90) hX (by decide) (fun _ => rfl) (fun _ => rfl) (by decide) dX1_take_32 ?_
  refine v_copy hX kAc_1_32 kAcN kAcS kI_System (by decide) (Nat.le_of_ble_eq_true rfl) (by decide) (by decide) (fun _ _ _ => rfl) (fun _ _ _ => rfl) dX1_take_33 h (fun z2 _ h => ?_)
  refine v_aload_n hX dX1_take_36 rfl 1 rfl ?_
  refine gfC_31_2 hX kf_1_18 dX1_take_37 ?_
  refine v_iconst (v := 0) hX dX1_take_40 (by decide) ?_
  refine v_aload_n hX dX1_take_41 rfl 0 rfl ?_
  refine gfC_26_2 hX kf_1_18 dX1_take_42 ?_
  refine v_iconst (v := 0) hX dX1_take_45 (by decide) ?_
  refine v_aload_n hX dX1_take_46 rfl 0 rfl ?_
  refine gfC_26_2 hX kf_1_18 dX1_take_47 ?_
  refine v_alen (o := 29) (n := 90) (ct := 0) (v := 90) hX (by decide) (fun _ => rfl) (fun _ => rfl) (by decide) dX1_take_50 ?_
  refine v_copy hX kAc_1_32 kAcN kAcS kI_System (by decide) (Nat.le_of_ble_eq_true rfl) (by decide) (by decide) (fun _ _ _ => rfl) (fun _ _ _ => rfl) dX1_take_51 h (fun z3 _ h => ?_)
  refine v_aload_n hX dX1_take_54 rfl 1 rfl ?_
  refine gfC_31_3 hX kf_1_21 dX1_take_55 ?_
  refine v_iconst (v := 0) hX dX1_take_58 (by decide) ?_
  refine v_aload_n hX dX1_take_59 rfl 0 rfl ?_
  refine gfC_26_3 hX kf_1_21 dX1_take_60 ?_
  refine v_iconst (v := 0) hX dX1_take_63 (by decide) ?_
  refine v_aload_n hX dX1_take_64 rfl 0 rfl ?_
  refine gfC_26_3 hX kf_1_21 dX1_take_65 ?_
  refine v_alen (o := 30) (n := 90) (ct := 0) (v := 90) hX (by decide) (fun _ => rfl) (fun _ => rfl) (by decide) dX1_take_68 ?_
  refine v_copy hX kAc_1_32 kAcN kAcS kI_System (by decide) (Nat.le_of_ble_eq_true rfl) (by decide) (by decide) (fun _ _ _ => rfl) (fun _ _ _ => rfl) dX1_take_69 h (fun z4 _ h => ?_)
  exact v_retV hR h dX1_take_72
noncomputable def fC_Letters_take_letters_kept0 (N : Nat)  (s : vSt) : Option (vSt) := gC_Letters_take_letters_kept0_0 N s
theorem mC_Letters_take_letters_kept0 {N : Nat}  {s : vSt} {t1 : vSt} (h : fC_Letters_take_letters_kept0 N s = some t1) (l : Launch) (ad : Nat → Nat) : vMV l shC ad yX1_take cX1_take 2 1 40 s [.ref (ad 26), .ref (ad 31)] t1 :=
  vMV_of (by decide +kernel) (Nat.le_of_ble_eq_true rfl) (fun P hX hR => wC_Letters_take_letters_kept0_0 hX hR h)
-- C_Letters_take_letters_kept1
noncomputable def gC_Letters_take_letters_kept1_0 (N : Nat)   (s : vSt) : Option (vSt) :=
  (scpy s 37 27 3 3 3).bind fun z1 =>
  (scpy z1 38 28 90 90 90).bind fun z2 =>
  (scpy z2 39 29 90 90 90).bind fun z3 =>
  (scpy z3 40 30 90 90 90).bind fun z4 =>
  some z4
set_option maxRecDepth 4000 in
theorem wC_Letters_take_letters_kept1_0 {P : vP} {l : Launch} {ad : Nat → Nat} {N : Nat} {t1 : vSt} (hX : vOK P l shC ad (vR 1 40) cX1_take RX1 2) (hR : (∀ pc lv, decode cX1_take pc = .ok (.return_, 1) → P t1 pc lv []))   {s : vSt} (h : gC_Letters_take_letters_kept1_0 N s = some t1) : P s 0 [(0, .ref (ad 26)), (1, .ref (ad 36))] [] := by
  unfold gC_Letters_take_letters_kept1_0 at h
  refine v_aload_n hX dX1_take_0 rfl 1 rfl ?_
  refine gfC_36_0 hX kf_1_9 dX1_take_1 ?_
  refine v_iconst (v := 0) hX dX1_take_4 (by decide) ?_
  refine v_aload_n hX dX1_take_5 rfl 0 rfl ?_
  refine gfC_26_0 hX kf_1_9 dX1_take_6 ?_
  refine v_iconst (v := 0) hX dX1_take_9 (by decide) ?_
  refine v_aload_n hX dX1_take_10 rfl 0 rfl ?_
  refine gfC_26_0 hX kf_1_9 dX1_take_11 ?_
  refine v_alen (o := 27) (n := 3) (ct := 0) (v := 3) hX (by decide) (fun _ => rfl) (fun _ => rfl) (by decide) dX1_take_14 ?_
  refine v_copy hX kAc_1_32 kAcN kAcS kI_System (by decide) (Nat.le_of_ble_eq_true rfl) (by decide) (by decide) (fun _ _ _ => rfl) (fun _ _ _ => rfl) dX1_take_15 h (fun z1 _ h => ?_)
  refine v_aload_n hX dX1_take_18 rfl 1 rfl ?_
  refine gfC_36_1 hX kf_1_15 dX1_take_19 ?_
  refine v_iconst (v := 0) hX dX1_take_22 (by decide) ?_
  refine v_aload_n hX dX1_take_23 rfl 0 rfl ?_
  refine gfC_26_1 hX kf_1_15 dX1_take_24 ?_
  refine v_iconst (v := 0) hX dX1_take_27 (by decide) ?_
  refine v_aload_n hX dX1_take_28 rfl 0 rfl ?_
  refine gfC_26_1 hX kf_1_15 dX1_take_29 ?_
  refine v_alen (o := 28) (n := 90) (ct := 0) (v := 90) hX (by decide) (fun _ => rfl) (fun _ => rfl) (by decide) dX1_take_32 ?_
  refine v_copy hX kAc_1_32 kAcN kAcS kI_System (by decide) (Nat.le_of_ble_eq_true rfl) (by decide) (by decide) (fun _ _ _ => rfl) (fun _ _ _ => rfl) dX1_take_33 h (fun z2 _ h => ?_)
  refine v_aload_n hX dX1_take_36 rfl 1 rfl ?_
  refine gfC_36_2 hX kf_1_18 dX1_take_37 ?_
  refine v_iconst (v := 0) hX dX1_take_40 (by decide) ?_
  refine v_aload_n hX dX1_take_41 rfl 0 rfl ?_
  refine gfC_26_2 hX kf_1_18 dX1_take_42 ?_
  refine v_iconst (v := 0) hX dX1_take_45 (by decide) ?_
  refine v_aload_n hX dX1_take_46 rfl 0 rfl ?_
  refine gfC_26_2 hX kf_1_18 dX1_take_47 ?_
  refine v_alen (o := 29) (n := 90) (ct := 0) (v := 90) hX (by decide) (fun _ => rfl) (fun _ => rfl) (by decide) dX1_take_50 ?_
  refine v_copy hX kAc_1_32 kAcN kAcS kI_System (by decide) (Nat.le_of_ble_eq_true rfl) (by decide) (by decide) (fun _ _ _ => rfl) (fun _ _ _ => rfl) dX1_take_51 h (fun z3 _ h => ?_)
  refine v_aload_n hX dX1_take_54 rfl 1 rfl ?_
  refine gfC_36_3 hX kf_1_21 dX1_take_55 ?_
  refine v_iconst (v := 0) hX dX1_take_58 (by decide) ?_
  refine v_aload_n hX dX1_take_59 rfl 0 rfl ?_
  refine gfC_26_3 hX kf_1_21 dX1_take_60 ?_
  refine v_iconst (v := 0) hX dX1_take_63 (by decide) ?_
  refine v_aload_n hX dX1_take_64 rfl 0 rfl ?_
  refine gfC_26_3 hX kf_1_21 dX1_take_65 ?_
  refine v_alen (o := 30) (n := 90) (ct := 0) (v := 90) hX (by decide) (fun _ => rfl) (fun _ => rfl) (by decide) dX1_take_68 ?_
  refine v_copy hX kAc_1_32 kAcN kAcS kI_System (by decide) (Nat.le_of_ble_eq_true rfl) (by decide) (by decide) (fun _ _ _ => rfl) (fun _ _ _ => rfl) dX1_take_69 h (fun z4 _ h => ?_)
  exact v_retV hR h dX1_take_72
noncomputable def fC_Letters_take_letters_kept1 (N : Nat)  (s : vSt) : Option (vSt) := gC_Letters_take_letters_kept1_0 N s
theorem mC_Letters_take_letters_kept1 {N : Nat}  {s : vSt} {t1 : vSt} (h : fC_Letters_take_letters_kept1 N s = some t1) (l : Launch) (ad : Nat → Nat) : vMV l shC ad yX1_take cX1_take 2 1 40 s [.ref (ad 26), .ref (ad 36)] t1 :=
  vMV_of (by decide +kernel) (Nat.le_of_ble_eq_true rfl) (fun P hX hR => wC_Letters_take_letters_kept1_0 hX hR h)
-- C_Post_fetch
noncomputable def gC_Post_fetch_0 (N : Nat)  (a1 : Int32) (s : vSt) : Option (Int32 × vSt) :=
  if a1 < 0 then
    some (0, s)
  else
    if 2 ≤ a1 then
      some (0, s)
    else
      (ld s 25 2 a1).bind fun v1 =>
      if v1 = 0 then
        some (0, s)
      else
        if a1 = 0 then
          (fC_Letters_take_letters_kept0 N s).bind fun z2 =>
          some (1, z2)
        else
        if a1 = 1 then
          (fC_Letters_take_letters_kept1 N s).bind fun z3 =>
          some (1, z3)
        else
          none
set_option maxRecDepth 4000 in
theorem wC_Post_fetch_0 {P : vP} {l : Launch} {ad : Nat → Nat} {N : Nat} {r : Int32} {t1 : vSt} (hX : vOK P l shC ad (vR 2 61) cX4_fetch RX4 2) (hR : (∀ pc lv, narrow .boolean (.int r) = .int r → decode cX4_fetch pc = .ok (.ireturn, 1) → P t1 pc lv [.int r]))  {a1 : Int32} {s : vSt} (h : gC_Post_fetch_0 N a1 s = some (r, t1)) : P s 0 [(0, .ref (ad 23)), (1, .int a1)] [] := by
  unfold gC_Post_fetch_0 at h
  refine v_iload_n hX dX4_fetch_0 rfl 1 rfl ?_
  refine v_if_lt (tgt := 18) hX dX4_fetch_1 (by decide) h (fun h => ?_) (fun h => ?_)
  · refine v_iconst (v := 0) hX dX4_fetch_18 (by decide) ?_
    exact v_retZ0 hR h dX4_fetch_19
  · refine v_iload_n hX dX4_fetch_4 rfl 1 rfl ?_
    refine v_iconst (v := 2) hX dX4_fetch_5 (by decide) ?_
    refine v_icmp_ge (tgt := 18) hX dX4_fetch_6 (by decide) h (fun h => ?_) (fun h => ?_)
    · refine v_iconst (v := 0) hX dX4_fetch_18 (by decide) ?_
      exact v_retZ0 hR h dX4_fetch_19
    · refine v_aload_n hX dX4_fetch_9 rfl 0 rfl ?_
      refine gfC_23_4 hX kf_4_22 dX4_fetch_10 ?_
      refine v_iload_n hX dX4_fetch_13 rfl 1 rfl ?_
      refine alC_25 hX dX4_fetch_14 h (fun v1 h => ?_)
      refine v_if_ne (tgt := 20) hX dX4_fetch_15 (by decide) h (fun h => ?_) (fun h => ?_)
      · refine v_iconst (v := 0) hX dX4_fetch_18 (by decide) ?_
        exact v_retZ0 hR h dX4_fetch_19
      · refine v_aload_n hX dX4_fetch_20 rfl 0 rfl ?_
        refine gfC_23_0 hX kf_4_12 dX4_fetch_21 ?_
        refine v_aload_n hX dX4_fetch_24 rfl 0 rfl ?_
        refine gfC_23_3 hX kf_4_18 dX4_fetch_25 ?_
        refine v_iload_n hX dX4_fetch_28 rfl 1 rfl ?_
        rcases ifs h with ⟨hc, h⟩ | ⟨hc, h⟩
        · refine v_aald (o := 24) (n := 2) (f := fun ad i => if i = 1 then some (ad 36) else if i = 0 then some (ad 31) else none) (a := ad 31) hX (by decide) (fun _ => rfl) (by rw [hc]; unfold vp_in; decide) (by rw [hc]; rfl) dX4_fetch_29 ?_
          obtain ⟨z2, hz2, h⟩ := bsome h
          refine v_callVV (o := 26) hX (mC_Letters_take_letters_kept0 hz2 l ad) kM_X1_take kV_X1_take km_4_34 (by decide) (fun _ => rfl) rfl rfl rfl (Nat.le_of_ble_eq_true rfl) (by decide) dX4_fetch_30 ?_
          refine v_iconst (v := 1) hX dX4_fetch_33 (by decide) ?_
          exact v_retZ1 hR h dX4_fetch_34
        rcases ifs h with ⟨hc, h⟩ | ⟨hc, h⟩
        · refine v_aald (o := 24) (n := 2) (f := fun ad i => if i = 1 then some (ad 36) else if i = 0 then some (ad 31) else none) (a := ad 36) hX (by decide) (fun _ => rfl) (by rw [hc]; unfold vp_in; decide) (by rw [hc]; rfl) dX4_fetch_29 ?_
          obtain ⟨z3, hz3, h⟩ := bsome h
          refine v_callVV (o := 26) hX (mC_Letters_take_letters_kept1 hz3 l ad) kM_X1_take kV_X1_take km_4_34 (by decide) (fun _ => rfl) rfl rfl rfl (Nat.le_of_ble_eq_true rfl) (by decide) dX4_fetch_30 ?_
          refine v_iconst (v := 1) hX dX4_fetch_33 (by decide) ?_
          exact v_retZ1 hR h dX4_fetch_34
        cases h
noncomputable def fC_Post_fetch (N : Nat) (a1 : Int32) (s : vSt) : Option (Int32 × vSt) := gC_Post_fetch_0 N a1 s
theorem mC_Post_fetch {N : Nat} {a1 : Int32} {s : vSt} {r : Int32} {t1 : vSt} (h : fC_Post_fetch N a1 s = some (r, t1)) (l : Launch) (ad : Nat → Nat) : vMI l shC ad yX4_fetch cX4_fetch 2 .boolean 2 61 s [.ref (ad 23), .int a1] r t1 :=
  vMI_of (by decide +kernel) (Nat.le_of_ble_eq_true rfl) (fun P hX hR => wC_Post_fetch_0 hX hR h)
-- C_EachAddsALine_again
noncomputable def gC_EachAddsALine_again_0 (N : Nat)  (a1 : Int32) (s : vSt) : Option (Int32 × vSt) :=
  (fC_Post_fetch N a1 s).bind fun p1 =>
  if p1.1 = 0 ∨ p1.1 = 1 then some (p1.1, p1.2) else none
set_option maxRecDepth 4000 in
theorem wC_EachAddsALine_again_0 {P : vP} {l : Launch} {ad : Nat → Nat} {N : Nat} {r : Int32} {t1 : vSt} (hX : vOK P l shC ad (vR 3 82) cX11_again RX11 2) (hR : (∀ pc lv, narrow .boolean (.int r) = .int r → decode cX11_again pc = .ok (.ireturn, 1) → P t1 pc lv [.int r]))  {a1 : Int32} {s : vSt} (h : gC_EachAddsALine_again_0 N a1 s = some (r, t1)) : P s 0 [(0, .ref (ad 0)), (1, .int a1)] [] := by
  unfold gC_EachAddsALine_again_0 at h
  refine v_aload_n hX dX11_again_0 rfl 0 rfl ?_
  refine gfC_0_6 hX kf_11_60 dX11_again_1 ?_
  refine v_iload_n hX dX11_again_4 rfl 1 rfl ?_
  obtain ⟨p1, hp1, h⟩ := bsome h
  refine v_callVI (o := 23) hX (mC_Post_fetch hp1 l ad) kM_X4_fetch kV_X4_fetch km_11_361 (by decide) (fun _ => rfl) rfl rfl rfl (Nat.le_of_ble_eq_true rfl) (by decide) dX11_again_5 ?_
  exact v_retZ hR h dX11_again_8
noncomputable def fC_EachAddsALine_again (N : Nat) (a1 : Int32) (s : vSt) : Option (Int32 × vSt) := gC_EachAddsALine_again_0 N a1 s
theorem mC_EachAddsALine_again {N : Nat} {a1 : Int32} {s : vSt} {r : Int32} {t1 : vSt} (h : fC_EachAddsALine_again N a1 s = some (r, t1)) (l : Launch) (ad : Nat → Nat) : vMI l shC ad yX11_again cX11_again 2 .boolean 3 82 s [.ref (ad 0), .int a1] r t1 :=
  vMI_of (by decide +kernel) (Nat.le_of_ble_eq_true rfl) (fun P hX hR => wC_EachAddsALine_again_0 hX hR h)
-- C_Letters_thereBits
noncomputable def gC_Letters_thereBits_24 (N : Nat) (r4 : Int32 → Int32 → vSt → Option (Int32 × vSt)) (a1 : Int32) (a2 : Int32) (s : vSt) : Option (Int32 × vSt) :=
  (some (a2 + 1 : Int32)).bind fun v1 =>
  r4 a1 v1 s
set_option maxRecDepth 4000 in
theorem wC_Letters_thereBits_24 {P : vP} {l : Launch} {ad : Nat → Nat} {N : Nat} {r4 : Int32 → Int32 → vSt → Option (Int32 × vSt)} {r : Int32} {t1 : vSt} (hX : vOK P l shC ad (vR 0 0) cX1_thereBits RX1 3) (hR : (∀ pc lv, narrow .int (.int r) = .int r → decode cX1_thereBits pc = .ok (.ireturn, 1) → P t1 pc lv [.int r])) (H4 : ∀ (a1 : Int32) (a2 : Int32) (s : vSt), r4 a1 a2 s = some (r, t1) → P s 4 [(0, .ref (ad 26)), (1, .int a1), (2, .int a2)] []) {a1 : Int32} {a2 : Int32} {s : vSt} (h : gC_Letters_thereBits_24 N r4 a1 a2 s = some (r, t1)) : P s 24 [(0, .ref (ad 26)), (1, .int a1), (2, .int a2)] [] := by
  unfold gC_Letters_thereBits_24 at h
  refine v_iincN hX dX1_thereBits_24 (j := 2) rfl (c := 1) (by decide) (by decide) h (fun v1 h => ?_)
  refine v_show (lv' := [(2, .int v1), (0, .ref (ad 26)), (1, .int a1)]) hX rfl ?_
  refine v_goto (tgt := 4) hX dX1_thereBits_27 (by decide) ?_
  exact v_sub hX [1, 2, 0] (by rfl) (H4 _ _ _ h)
noncomputable def gC_Letters_thereBits_4 (N : Nat)  : Nat → Int32 → Int32 → vSt → Option (Int32 × vSt)
  | 0, _, _, _ => none
  | n + 1, a1, a2, s =>
    if 3 ≤ a2 then
      some (a1, s)
    else
      (ld s 27 3 a2).bind fun v1 =>
      if v1 ≤ 0 then
        gC_Letters_thereBits_24 N (gC_Letters_thereBits_4 N n) a1 a2 s
      else
        (some (a1 ||| ((1 : Int32) <<< (a2 &&& 31)) : Int32)).bind fun v2 =>
        gC_Letters_thereBits_24 N (gC_Letters_thereBits_4 N n) v2 a2 s
set_option maxRecDepth 4000 in
theorem wC_Letters_thereBits_4 {P : vP} {l : Launch} {ad : Nat → Nat} {N : Nat} {r : Int32} {t1 : vSt} (hX : vOK P l shC ad (vR 0 0) cX1_thereBits RX1 3) (hR : (∀ pc lv, narrow .int (.int r) = .int r → decode cX1_thereBits pc = .ok (.ireturn, 1) → P t1 pc lv [.int r]))  : ∀ (n : Nat) (a1 : Int32) (a2 : Int32) (s : vSt), gC_Letters_thereBits_4 N n a1 a2 s = some (r, t1) → P s 4 [(0, .ref (ad 26)), (1, .int a1), (2, .int a2)] [] := by
  intro n
  induction n with
  | zero => intro a1 a2 s h; cases h
  | succ n ih =>
    intro a1 a2 s h
    unfold gC_Letters_thereBits_4 at h
    refine v_iload_n hX dX1_thereBits_4 rfl 2 rfl ?_
    refine v_iconst (v := 3) hX dX1_thereBits_5 (by decide) ?_
    refine v_icmp_ge (tgt := 30) hX dX1_thereBits_6 (by decide) h (fun h => ?_) (fun h => ?_)
    · refine v_iload_n hX dX1_thereBits_30 rfl 1 rfl ?_
      exact v_retI hR h dX1_thereBits_31
    · refine v_aload_n hX dX1_thereBits_9 rfl 0 rfl ?_
      refine gfC_26_0 hX kf_1_9 dX1_thereBits_10 ?_
      refine v_iload_n hX dX1_thereBits_13 rfl 2 rfl ?_
      refine alC_27 hX dX1_thereBits_14 h (fun v1 h => ?_)
      refine v_if_le (tgt := 24) hX dX1_thereBits_15 (by decide) h (fun h => ?_) (fun h => ?_)
      · exact v_sub hX [0, 1, 2] (by rfl) (wC_Letters_thereBits_24 hX hR ih h)
      · refine v_iload_n hX dX1_thereBits_18 rfl 1 rfl ?_
        refine v_iconst (v := 1) hX dX1_thereBits_19 (by decide) ?_
        refine v_iload_n hX dX1_thereBits_20 rfl 2 rfl ?_
        refine v_ishl hX dX1_thereBits_21 ?_
        refine v_ior hX dX1_thereBits_22 ?_
        refine v_nmI hX h (fun v2 h => ?_)
        refine v_istore_n (lv' := [(1, .int v2), (0, .ref (ad 26)), (2, .int a2)]) hX dX1_thereBits_23 rfl (by decide) rfl ?_
        exact v_sub hX [1, 0, 2] (by rfl) (wC_Letters_thereBits_24 hX hR ih h)
noncomputable def gC_Letters_thereBits_0 (N : Nat)   (s : vSt) : Option (Int32 × vSt) :=
  gC_Letters_thereBits_4 N N 0 0 s
set_option maxRecDepth 4000 in
theorem wC_Letters_thereBits_0 {P : vP} {l : Launch} {ad : Nat → Nat} {N : Nat} {r : Int32} {t1 : vSt} (hX : vOK P l shC ad (vR 0 0) cX1_thereBits RX1 3) (hR : (∀ pc lv, narrow .int (.int r) = .int r → decode cX1_thereBits pc = .ok (.ireturn, 1) → P t1 pc lv [.int r]))   {s : vSt} (h : gC_Letters_thereBits_0 N s = some (r, t1)) : P s 0 [(0, .ref (ad 26))] [] := by
  unfold gC_Letters_thereBits_0 at h
  refine v_iconst (v := 0) hX dX1_thereBits_0 (by decide) ?_
  refine v_istore_n (lv' := [(1, .int 0), (0, .ref (ad 26))]) hX dX1_thereBits_1 rfl (by decide) rfl ?_
  refine v_iconst (v := 0) hX dX1_thereBits_2 (by decide) ?_
  refine v_istore_n (lv' := [(2, .int 0), (1, .int 0), (0, .ref (ad 26))]) hX dX1_thereBits_3 rfl (by decide) rfl ?_
  exact v_sub hX [2, 1, 0] (by rfl) (wC_Letters_thereBits_4 hX hR  N _ _ _ h)
noncomputable def fC_Letters_thereBits (N : Nat)  (s : vSt) : Option (Int32 × vSt) := gC_Letters_thereBits_0 N s
theorem mC_Letters_thereBits {N : Nat}  {s : vSt} {r : Int32} {t1 : vSt} (h : fC_Letters_thereBits N s = some (r, t1)) (l : Launch) (ad : Nat → Nat) : vMI l shC ad yX1_thereBits cX1_thereBits 3 .int 0 0 s [.ref (ad 26)] r t1 :=
  vMI_of (by decide +kernel) (Nat.le_of_ble_eq_true rfl) (fun P hX hR => wC_Letters_thereBits_0 hX hR h)
-- C_EachAddsALine_count
noncomputable def gC_EachAddsALine_count_0 (N : Nat)  (a1 : Int32) (s : vSt) : Option (Int32 × vSt) :=
  if a1 = 0 then
    some (s.1 9 6, s)
  else
  if a1 = 1 then
    some (s.1 9 7, s)
  else
  if a1 = 2 then
    (fC_Letters_thereBits N s).bind fun p1 =>
    some (p1.1, p1.2)
  else
  if a1 = 3 then
    some (s.1 5 1, s)
  else
  if a1 = 4 then
    some (s.1 7 1, s)
  else
  if a1 = 5 then
    some (s.1 3 1, s)
  else
  if a1 = 6 then
    some (s.1 1 1, s)
  else
  if a1 < 0 ∨ 6 < a1 then
    some ((-1), s)
  else none
set_option maxRecDepth 4000 in
theorem wC_EachAddsALine_count_0 {P : vP} {l : Launch} {ad : Nat → Nat} {N : Nat} {r : Int32} {t1 : vSt} (hX : vOK P l shC ad (vR 1 22) cX11_count RX11 2) (hR : (∀ pc lv, narrow .int (.int r) = .int r → decode cX11_count pc = .ok (.ireturn, 1) → P t1 pc lv [.int r]))  {a1 : Int32} {s : vSt} (h : gC_EachAddsALine_count_0 N a1 s = some (r, t1)) : P s 0 [(0, .ref (ad 0)), (1, .int a1)] [] := by
  unfold gC_EachAddsALine_count_0 at h
  refine v_iload_n hX dX11_count_0 rfl 1 rfl ?_
  rcases ifs h with ⟨hc, h⟩ | ⟨hn0, h⟩
  · refine v_tblIn (tgt := 44) (off := 43) hX dX11_count_1 (by rw [hc]; decide) (by rw [hc]; decide) (by rw [hc]; rfl) (by decide) ?_
    refine v_aload_n hX dX11_count_44 rfl 0 rfl ?_
    refine gfC_0_2 hX kf_11_26 dX11_count_45 ?_
    refine gfC_9_6 hX kf_11_247 dX11_count_48 ?_
    exact v_retI hR h dX11_count_51
  rcases ifs h with ⟨hc, h⟩ | ⟨hn1, h⟩
  · refine v_tblIn (tgt := 52) (off := 51) hX dX11_count_1 (by rw [hc]; decide) (by rw [hc]; decide) (by rw [hc]; rfl) (by decide) ?_
    refine v_aload_n hX dX11_count_52 rfl 0 rfl ?_
    refine gfC_0_2 hX kf_11_26 dX11_count_53 ?_
    refine gfC_9_7 hX kf_11_364 dX11_count_56 ?_
    exact v_retI hR h dX11_count_59
  rcases ifs h with ⟨hc, h⟩ | ⟨hn2, h⟩
  · refine v_tblIn (tgt := 60) (off := 59) hX dX11_count_1 (by rw [hc]; decide) (by rw [hc]; decide) (by rw [hc]; rfl) (by decide) ?_
    refine v_aload_n hX dX11_count_60 rfl 0 rfl ?_
    refine gfC_0_6 hX kf_11_60 dX11_count_61 ?_
    refine gfC_23_0 hX kf_11_156 dX11_count_64 ?_
    obtain ⟨p1, hp1, h⟩ := bsome h
    refine v_callVI (o := 26) hX (mC_Letters_thereBits hp1 l ad) kM_X1_thereBits kV_X1_thereBits km_11_367 (by decide) (fun _ => rfl) rfl rfl rfl (Nat.le_of_ble_eq_true rfl) (by decide) dX11_count_67 ?_
    exact v_retI hR h dX11_count_70
  rcases ifs h with ⟨hc, h⟩ | ⟨hn3, h⟩
  · refine v_tblIn (tgt := 71) (off := 70) hX dX11_count_1 (by rw [hc]; decide) (by rw [hc]; decide) (by rw [hc]; rfl) (by decide) ?_
    refine v_aload_n hX dX11_count_71 rfl 0 rfl ?_
    refine gfC_0_8 hX kf_11_73 dX11_count_72 ?_
    refine gfC_5_1 hX kf_11_270 dX11_count_75 ?_
    exact v_retI hR h dX11_count_78
  rcases ifs h with ⟨hc, h⟩ | ⟨hn4, h⟩
  · refine v_tblIn (tgt := 79) (off := 78) hX dX11_count_1 (by rw [hc]; decide) (by rw [hc]; decide) (by rw [hc]; rfl) (by decide) ?_
    refine v_aload_n hX dX11_count_79 rfl 0 rfl ?_
    refine gfC_0_9 hX kf_11_76 dX11_count_80 ?_
    refine gfC_7_1 hX kf_11_270 dX11_count_83 ?_
    exact v_retI hR h dX11_count_86
  rcases ifs h with ⟨hc, h⟩ | ⟨hn5, h⟩
  · refine v_tblIn (tgt := 87) (off := 86) hX dX11_count_1 (by rw [hc]; decide) (by rw [hc]; decide) (by rw [hc]; rfl) (by decide) ?_
    refine v_aload_n hX dX11_count_87 rfl 0 rfl ?_
    refine gfC_0_1 hX kf_11_19 dX11_count_88 ?_
    refine gfC_3_1 hX kf_11_270 dX11_count_91 ?_
    exact v_retI hR h dX11_count_94
  rcases ifs h with ⟨hc, h⟩ | ⟨hn6, h⟩
  · refine v_tblIn (tgt := 95) (off := 94) hX dX11_count_1 (by rw [hc]; decide) (by rw [hc]; decide) (by rw [hc]; rfl) (by decide) ?_
    refine v_aload_n hX dX11_count_95 rfl 0 rfl ?_
    refine gfC_0_0 hX kf_11_12 dX11_count_96 ?_
    refine gfC_1_1 hX kf_11_99 dX11_count_99 ?_
    exact v_retI hR h dX11_count_102
  obtain ⟨hc, h⟩ := gsome h
  refine v_tblOut (tgt := 103) hX dX11_count_1 (tblo (lo := 0) (hi := 6) (by decide) (by decide) hc) (by decide) ?_
  refine v_iconst (v := (-1)) hX dX11_count_103 (by decide) ?_
  exact v_retI hR h dX11_count_104
noncomputable def fC_EachAddsALine_count (N : Nat) (a1 : Int32) (s : vSt) : Option (Int32 × vSt) := gC_EachAddsALine_count_0 N a1 s
theorem mC_EachAddsALine_count {N : Nat} {a1 : Int32} {s : vSt} {r : Int32} {t1 : vSt} (h : fC_EachAddsALine_count N a1 s = some (r, t1)) (l : Launch) (ad : Nat → Nat) : vMI l shC ad yX11_count cX11_count 2 .int 1 22 s [.ref (ad 0), .int a1] r t1 :=
  vMI_of (by decide +kernel) (Nat.le_of_ble_eq_true rfl) (fun P hX hR => wC_EachAddsALine_count_0 hX hR h)
