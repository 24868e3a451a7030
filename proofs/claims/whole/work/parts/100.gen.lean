theorem tblo {x lo hi : Int32} {a b : Int} (ha : lo.toInt = a) (hb : hi.toInt = b) (h : x < lo ∨ hi < x) : x.toInt < a ∨ b < x.toInt := by
  subst ha; subst hb
  exact h.imp (fun z => Int32.lt_iff_toInt_lt.mp z) (fun z => Int32.lt_iff_toInt_lt.mp z)
-- C_Text_addFour
noncomputable def gC_Text_addFour_14 (N : Nat)  : Nat → Int32 → Int32 → vSt → Option (Int32 × vSt)
  | 0, _, _, _ => none
  | n + 1, a1, a2, s =>
    if a2 < 0 then
      some (1, s)
    else
      (sto s 2 80 (s.1 1 1) (vp_nar .char ((((((a1 : Int32).toUInt32 >>> ((a2 : Int32).toUInt32 &&& Int32.toUInt32 31)).toInt32) &&& 255 : Int32).toUInt32 % 65536).toInt32))).bind fun z1 =>
      (some (s1 z1 1 1 ((z1.1 1 1) + 1))).bind fun z2 =>
      (some (a2 + (-8) : Int32)).bind fun v3 =>
      gC_Text_addFour_14 N n a1 v3 z2
set_option maxRecDepth 4000 in
theorem wC_Text_addFour_14 {P : vP} {l : Launch} {ad : Nat → Nat} {N : Nat} {r : Int32} {t1 : vSt} (hX : vOK P l shC ad (vR 0 0) cX10_addFour RX10 3) (hR : (∀ pc lv, narrow .boolean (.int r) = .int r → decode cX10_addFour pc = .ok (.ireturn, 1) → P t1 pc lv [.int r]))  : ∀ (n : Nat) (a1 : Int32) (a2 : Int32) (s : vSt), gC_Text_addFour_14 N n a1 a2 s = some (r, t1) → P s 14 [(0, .ref (ad 1)), (1, .int a1), (2, .int a2)] [] := by
  intro n
  induction n with
  | zero => intro a1 a2 s h; cases h
  | succ n ih =>
    intro a1 a2 s h
    unfold gC_Text_addFour_14 at h
    refine v_iload_n hX dX10_addFour_14 rfl 2 rfl ?_
    refine v_if_lt (tgt := 51) hX dX10_addFour_15 (by decide) h (fun h => ?_) (fun h => ?_)
    · refine v_iconst (v := 1) hX dX10_addFour_51 (by decide) ?_
      exact v_retZ1 hR h dX10_addFour_52
    · refine v_aload_n hX dX10_addFour_18 rfl 0 rfl ?_
      refine gfC_1_0 hX kf_10_9 dX10_addFour_19 ?_
      refine v_aload_n hX dX10_addFour_22 rfl 0 rfl ?_
      refine gfC_1_1 hX kf_10_15 dX10_addFour_23 ?_
      refine v_iload_n hX dX10_addFour_26 rfl 1 rfl ?_
      refine v_iload_n hX dX10_addFour_27 rfl 2 rfl ?_
      refine v_iushr hX dX10_addFour_28 ?_
      refine v_sipush (v := 255) hX dX10_addFour_29 (by decide) ?_
      refine v_iand hX dX10_addFour_32 ?_
      refine v_i2c hX dX10_addFour_33 ?_
      refine asC_2 hX dX10_addFour_34 h (fun z1 h => ?_)
      refine v_aload_n hX dX10_addFour_35 rfl 0 rfl ?_
      refine v_dup hX dX10_addFour_36 rfl ?_
      refine gfC_1_1 hX kf_10_15 dX10_addFour_37 ?_
      refine v_iconst (v := 1) hX dX10_addFour_40 (by decide) ?_
      refine v_iadd hX dX10_addFour_41 ?_
      refine pfC_1_1 hX kf_10_15 dX10_addFour_42 h (fun z2 h => ?_)
      refine v_iincN hX dX10_addFour_45 (j := 2) rfl (c := (-8)) (by decide) (by decide) h (fun v3 h => ?_)
      refine v_show (lv' := [(2, .int v3), (0, .ref (ad 1)), (1, .int a1)]) hX rfl ?_
      refine v_goto (tgt := 14) hX dX10_addFour_48 (by decide) ?_
      exact v_sub hX [1, 2, 0] (by rfl) (ih _ _ _ h)
noncomputable def gC_Text_addFour_0 (N : Nat)  (a1 : Int32) (s : vSt) : Option (Int32 × vSt) :=
  if (s.1 1 1) ≤ 76 then
    gC_Text_addFour_14 N N a1 24 s
  else
    some (0, s)
set_option maxRecDepth 4000 in
theorem wC_Text_addFour_0 {P : vP} {l : Launch} {ad : Nat → Nat} {N : Nat} {r : Int32} {t1 : vSt} (hX : vOK P l shC ad (vR 0 0) cX10_addFour RX10 3) (hR : (∀ pc lv, narrow .boolean (.int r) = .int r → decode cX10_addFour pc = .ok (.ireturn, 1) → P t1 pc lv [.int r]))  {a1 : Int32} {s : vSt} (h : gC_Text_addFour_0 N a1 s = some (r, t1)) : P s 0 [(0, .ref (ad 1)), (1, .int a1)] [] := by
  unfold gC_Text_addFour_0 at h
  refine v_aload_n hX dX10_addFour_0 rfl 0 rfl ?_
  refine gfC_1_1 hX kf_10_15 dX10_addFour_1 ?_
  refine v_bipush (v := 76) hX dX10_addFour_4 (by decide) ?_
  refine v_icmp_le (tgt := 11) hX dX10_addFour_6 (by decide) h (fun h => ?_) (fun h => ?_)
  · refine v_bipush (v := 24) hX dX10_addFour_11 (by decide) ?_
    refine v_istore_n (lv' := [(2, .int 24), (0, .ref (ad 1)), (1, .int a1)]) hX dX10_addFour_13 rfl (by decide) rfl ?_
    exact v_sub hX [1, 2, 0] (by rfl) (wC_Text_addFour_14 hX hR  N _ _ _ h)
  · refine v_iconst (v := 0) hX dX10_addFour_9 (by decide) ?_
    exact v_retZ0 hR h dX10_addFour_10
noncomputable def fC_Text_addFour (N : Nat) (a1 : Int32) (s : vSt) : Option (Int32 × vSt) := gC_Text_addFour_0 N a1 s
theorem mC_Text_addFour {N : Nat} {a1 : Int32} {s : vSt} {r : Int32} {t1 : vSt} (h : fC_Text_addFour N a1 s = some (r, t1)) (l : Launch) (ad : Nat → Nat) : vMI l shC ad yX10_addFour cX10_addFour 3 .boolean 0 0 s [.ref (ad 1), .int a1] r t1 :=
  vMI_of (by decide +kernel) (Nat.le_of_ble_eq_true rfl) (fun P hX hR => wC_Text_addFour_0 hX hR h)
-- C_EachAddsALine_sign
noncomputable def gC_EachAddsALine_sign_0 (N : Nat)  (a1 : Int32) (s : vSt) : Option (Int32 × vSt) :=
  (fC_Text_addFour N a1 s).bind fun p1 =>
  if p1.1 = 0 then
    some ((-1), p1.2)
  else
    some (p1.2.1 1 1, p1.2)
set_option maxRecDepth 4000 in
theorem wC_EachAddsALine_sign_0 {P : vP} {l : Launch} {ad : Nat → Nat} {N : Nat} {r : Int32} {t1 : vSt} (hX : vOK P l shC ad (vR 1 22) cX11_sign RX11 2) (hR : (∀ pc lv, narrow .int (.int r) = .int r → decode cX11_sign pc = .ok (.ireturn, 1) → P t1 pc lv [.int r]))  {a1 : Int32} {s : vSt} (h : gC_EachAddsALine_sign_0 N a1 s = some (r, t1)) : P s 0 [(0, .ref (ad 0)), (1, .int a1)] [] := by
  unfold gC_EachAddsALine_sign_0 at h
  refine v_aload_n hX dX11_sign_0 rfl 0 rfl ?_
  refine gfC_0_0 hX kf_11_12 dX11_sign_1 ?_
  refine v_iload_n hX dX11_sign_4 rfl 1 rfl ?_
  obtain ⟨p1, hp1, h⟩ := bsome h
  refine v_callVI (o := 1) hX (mC_Text_addFour hp1 l ad) kM_X10_addFour kV_X10_addFour km_11_95 (by decide) (fun _ => rfl) rfl rfl rfl (Nat.le_of_ble_eq_true rfl) (by decide) dX11_sign_5 ?_
  refine v_if_eq (tgt := 21) hX dX11_sign_8 (by decide) h (fun h => ?_) (fun h => ?_)
  · refine v_iconst (v := (-1)) hX dX11_sign_21 (by decide) ?_
    exact v_retI hR h dX11_sign_22
  · refine v_aload_n hX dX11_sign_11 rfl 0 rfl ?_
    refine gfC_0_0 hX kf_11_12 dX11_sign_12 ?_
    refine gfC_1_1 hX kf_11_99 dX11_sign_15 ?_
    refine v_goto (tgt := 22) hX dX11_sign_18 (by decide) ?_
    exact v_retI hR h dX11_sign_22
noncomputable def fC_EachAddsALine_sign (N : Nat) (a1 : Int32) (s : vSt) : Option (Int32 × vSt) := gC_EachAddsALine_sign_0 N a1 s
theorem mC_EachAddsALine_sign {N : Nat} {a1 : Int32} {s : vSt} {r : Int32} {t1 : vSt} (h : fC_EachAddsALine_sign N a1 s = some (r, t1)) (l : Launch) (ad : Nat → Nat) : vMI l shC ad yX11_sign cX11_sign 2 .int 1 22 s [.ref (ad 0), .int a1] r t1 :=
  vMI_of (by decide +kernel) (Nat.le_of_ble_eq_true rfl) (fun P hX hR => wC_EachAddsALine_sign_0 hX hR h)
-- C_Text_cutTo
noncomputable def gC_Text_cutTo_0 (N : Nat)  (a1 : Int32) (s : vSt) : Option (Int32 × vSt) :=
  if a1 < 0 then
    some (0, s)
  else
    if a1 ≤ (s.1 1 1) then
      (some (s1 s 1 1 a1)).bind fun z1 =>
      some (1, z1)
    else
      some (0, s)
set_option maxRecDepth 4000 in
theorem wC_Text_cutTo_0 {P : vP} {l : Launch} {ad : Nat → Nat} {N : Nat} {r : Int32} {t1 : vSt} (hX : vOK P l shC ad (vR 0 0) cX10_cutTo RX10 2) (hR : (∀ pc lv, narrow .boolean (.int r) = .int r → decode cX10_cutTo pc = .ok (.ireturn, 1) → P t1 pc lv [.int r]))  {a1 : Int32} {s : vSt} (h : gC_Text_cutTo_0 N a1 s = some (r, t1)) : P s 0 [(0, .ref (ad 1)), (1, .int a1)] [] := by
  unfold gC_Text_cutTo_0 at h
  refine v_iload_n hX dX10_cutTo_0 rfl 1 rfl ?_
  refine v_if_lt (tgt := 12) hX dX10_cutTo_1 (by decide) h (fun h => ?_) (fun h => ?_)
  · refine v_iconst (v := 0) hX dX10_cutTo_12 (by decide) ?_
    exact v_retZ0 hR h dX10_cutTo_13
  · refine v_iload_n hX dX10_cutTo_4 rfl 1 rfl ?_
    refine v_aload_n hX dX10_cutTo_5 rfl 0 rfl ?_
    refine gfC_1_1 hX kf_10_15 dX10_cutTo_6 ?_
    refine v_icmp_le (tgt := 14) hX dX10_cutTo_9 (by decide) h (fun h => ?_) (fun h => ?_)
    · refine v_aload_n hX dX10_cutTo_14 rfl 0 rfl ?_
      refine v_iload_n hX dX10_cutTo_15 rfl 1 rfl ?_
      refine pfC_1_1 hX kf_10_15 dX10_cutTo_16 h (fun z1 h => ?_)
      refine v_iconst (v := 1) hX dX10_cutTo_19 (by decide) ?_
      exact v_retZ1 hR h dX10_cutTo_20
    · refine v_iconst (v := 0) hX dX10_cutTo_12 (by decide) ?_
      exact v_retZ0 hR h dX10_cutTo_13
noncomputable def fC_Text_cutTo (N : Nat) (a1 : Int32) (s : vSt) : Option (Int32 × vSt) := gC_Text_cutTo_0 N a1 s
theorem mC_Text_cutTo {N : Nat} {a1 : Int32} {s : vSt} {r : Int32} {t1 : vSt} (h : fC_Text_cutTo N a1 s = some (r, t1)) (l : Launch) (ad : Nat → Nat) : vMI l shC ad yX10_cutTo cX10_cutTo 2 .boolean 0 0 s [.ref (ad 1), .int a1] r t1 :=
  vMI_of (by decide +kernel) (Nat.le_of_ble_eq_true rfl) (fun P hX hR => wC_Text_cutTo_0 hX hR h)
-- C_EachAddsALine_end
noncomputable def gC_EachAddsALine_end_0 (N : Nat)  (a1 : Int32) (s : vSt) : Option (Int32 × vSt) :=
  (fC_Text_cutTo N a1 s).bind fun p1 =>
  if p1.1 = 0 ∨ p1.1 = 1 then some (p1.1, p1.2) else none
set_option maxRecDepth 4000 in
theorem wC_EachAddsALine_end_0 {P : vP} {l : Launch} {ad : Nat → Nat} {N : Nat} {r : Int32} {t1 : vSt} (hX : vOK P l shC ad (vR 1 21) cX11_end RX11 2) (hR : (∀ pc lv, narrow .boolean (.int r) = .int r → decode cX11_end pc = .ok (.ireturn, 1) → P t1 pc lv [.int r]))  {a1 : Int32} {s : vSt} (h : gC_EachAddsALine_end_0 N a1 s = some (r, t1)) : P s 0 [(0, .ref (ad 0)), (1, .int a1)] [] := by
  unfold gC_EachAddsALine_end_0 at h
  refine v_aload_n hX dX11_end_0 rfl 0 rfl ?_
  refine gfC_0_0 hX kf_11_12 dX11_end_1 ?_
  refine v_iload_n hX dX11_end_4 rfl 1 rfl ?_
  obtain ⟨p1, hp1, h⟩ := bsome h
  refine v_callVI (o := 1) hX (mC_Text_cutTo hp1 l ad) kM_X10_cutTo kV_X10_cutTo km_11_103 (by decide) (fun _ => rfl) rfl rfl rfl (Nat.le_of_ble_eq_true rfl) (by decide) dX11_end_5 ?_
  exact v_retZ hR h dX11_end_8
noncomputable def fC_EachAddsALine_end (N : Nat) (a1 : Int32) (s : vSt) : Option (Int32 × vSt) := gC_EachAddsALine_end_0 N a1 s
theorem mC_EachAddsALine_end {N : Nat} {a1 : Int32} {s : vSt} {r : Int32} {t1 : vSt} (h : fC_EachAddsALine_end N a1 s = some (r, t1)) (l : Launch) (ad : Nat → Nat) : vMI l shC ad yX11_end cX11_end 2 .boolean 1 21 s [.ref (ad 0), .int a1] r t1 :=
  vMI_of (by decide +kernel) (Nat.le_of_ble_eq_true rfl) (fun P hX hR => wC_EachAddsALine_end_0 hX hR h)
-- C_Text_signAt
noncomputable def gC_Text_signAt_21 (N : Nat)   (s : vSt) : Option (Int32 × vSt) :=
  some ((-1), s)
set_option maxRecDepth 4000 in
theorem wC_Text_signAt_21 {P : vP} {l : Launch} {ad : Nat → Nat} {N : Nat} {r : Int32} {t1 : vSt} (hX : vOK P l shC ad (vR 0 0) cX10_signAt RX10 2) (hR : (∀ pc lv, narrow .int (.int r) = .int r → decode cX10_signAt pc = .ok (.ireturn, 1) → P t1 pc lv [.int r]))   {s : vSt} (h : gC_Text_signAt_21 N s = some (r, t1)) : P s 21 [] [] := by
  unfold gC_Text_signAt_21 at h
  refine v_iconst (v := (-1)) hX dX10_signAt_21 (by decide) ?_
  exact v_retI hR h dX10_signAt_22
noncomputable def gC_Text_signAt_0 (N : Nat)  (a1 : Int32) (s : vSt) : Option (Int32 × vSt) :=
  if a1 < 0 then
    gC_Text_signAt_21 N s
  else
    if (s.1 1 1) ≤ a1 then
      gC_Text_signAt_21 N s
    else
      (ld s 2 80 a1).bind fun v1 =>
      some (v1, s)
set_option maxRecDepth 4000 in
theorem wC_Text_signAt_0 {P : vP} {l : Launch} {ad : Nat → Nat} {N : Nat} {r : Int32} {t1 : vSt} (hX : vOK P l shC ad (vR 0 0) cX10_signAt RX10 2) (hR : (∀ pc lv, narrow .int (.int r) = .int r → decode cX10_signAt pc = .ok (.ireturn, 1) → P t1 pc lv [.int r]))  {a1 : Int32} {s : vSt} (h : gC_Text_signAt_0 N a1 s = some (r, t1)) : P s 0 [(0, .ref (ad 1)), (1, .int a1)] [] := by
  unfold gC_Text_signAt_0 at h
  refine v_iload_n hX dX10_signAt_0 rfl 1 rfl ?_
  refine v_if_lt (tgt := 21) hX dX10_signAt_1 (by decide) h (fun h => ?_) (fun h => ?_)
  · exact v_sub hX [] (by rfl) (wC_Text_signAt_21 hX hR  h)
  · refine v_iload_n hX dX10_signAt_4 rfl 1 rfl ?_
    refine v_aload_n hX dX10_signAt_5 rfl 0 rfl ?_
    refine gfC_1_1 hX kf_10_15 dX10_signAt_6 ?_
    refine v_icmp_ge (tgt := 21) hX dX10_signAt_9 (by decide) h (fun h => ?_) (fun h => ?_)
    · exact v_sub hX [] (by rfl) (wC_Text_signAt_21 hX hR  h)
    · refine v_aload_n hX dX10_signAt_12 rfl 0 rfl ?_
      refine gfC_1_0 hX kf_10_9 dX10_signAt_13 ?_
      refine v_iload_n hX dX10_signAt_16 rfl 1 rfl ?_
      refine alC_2 hX dX10_signAt_17 h (fun v1 h => ?_)
      refine v_goto (tgt := 22) hX dX10_signAt_18 (by decide) ?_
      exact v_retI hR h dX10_signAt_22
noncomputable def fC_Text_signAt (N : Nat) (a1 : Int32) (s : vSt) : Option (Int32 × vSt) := gC_Text_signAt_0 N a1 s
theorem mC_Text_signAt {N : Nat} {a1 : Int32} {s : vSt} {r : Int32} {t1 : vSt} (h : fC_Text_signAt N a1 s = some (r, t1)) (l : Launch) (ad : Nat → Nat) : vMI l shC ad yX10_signAt cX10_signAt 2 .int 0 0 s [.ref (ad 1), .int a1] r t1 :=
  vMI_of (by decide +kernel) (Nat.le_of_ble_eq_true rfl) (fun P hX hR => wC_Text_signAt_0 hX hR h)
-- C_RoadReader_next
noncomputable def gC_RoadReader_next_0 (N : Nat)   (s : vSt) : Option (Int32 × vSt) :=
  if 76 ≤ (s.1 16 2) then
    some ((-1), s)
  else
    (fC_Text_signAt N (s.1 16 2) s).bind fun p1 =>
    some (p1.1, p1.2)
set_option maxRecDepth 4000 in
theorem wC_RoadReader_next_0 {P : vP} {l : Launch} {ad : Nat → Nat} {N : Nat} {r : Int32} {t1 : vSt} (hX : vOK P l shC ad (vR 1 21) cX5_next RX5 1) (hR : (∀ pc lv, narrow .int (.int r) = .int r → decode cX5_next pc = .ok (.ireturn, 1) → P t1 pc lv [.int r]))   {s : vSt} (h : gC_RoadReader_next_0 N s = some (r, t1)) : P s 0 [(0, .ref (ad 16))] [] := by
  unfold gC_RoadReader_next_0 at h
  refine v_aload_n hX dX5_next_0 rfl 0 rfl ?_
  refine gfC_16_2 hX kf_5_25 dX5_next_1 ?_
  refine v_bipush (v := 76) hX dX5_next_4 (by decide) ?_
  refine v_icmp_ge (tgt := 23) hX dX5_next_6 (by decide) h (fun h => ?_) (fun h => ?_)
  · refine v_iconst (v := (-1)) hX dX5_next_23 (by decide) ?_
    exact v_retI hR h dX5_next_24
  · refine v_aload_n hX dX5_next_9 rfl 0 rfl ?_
    refine gfC_16_0 hX kf_5_9 dX5_next_10 ?_
    refine v_aload_n hX dX5_next_13 rfl 0 rfl ?_
    refine gfC_16_2 hX kf_5_25 dX5_next_14 ?_
    obtain ⟨p1, hp1, h⟩ := bsome h
    refine v_callVI (o := 1) hX (mC_Text_signAt hp1 l ad) kM_X10_signAt kV_X10_signAt km_5_53 (by decide) (fun _ => rfl) rfl rfl rfl (Nat.le_of_ble_eq_true rfl) (by decide) dX5_next_17 ?_
    refine v_goto (tgt := 24) hX dX5_next_20 (by decide) ?_
    exact v_retI hR h dX5_next_24
noncomputable def fC_RoadReader_next (N : Nat)  (s : vSt) : Option (Int32 × vSt) := gC_RoadReader_next_0 N s
theorem mC_RoadReader_next {N : Nat}  {s : vSt} {r : Int32} {t1 : vSt} (h : fC_RoadReader_next N s = some (r, t1)) (l : Launch) (ad : Nat → Nat) : vMI l shC ad yX5_next cX5_next 1 .int 1 21 s [.ref (ad 16)] r t1 :=
  vMI_of (by decide +kernel) (Nat.le_of_ble_eq_true rfl) (fun P hX hR => wC_RoadReader_next_0 hX hR h)
-- C_RoadReader_isPerson
noncomputable def gC_RoadReader_isPerson_16 (N : Nat)   (s : vSt) : Option (Int32 × vSt) :=
  some (0, s)
set_option maxRecDepth 4000 in
theorem wC_RoadReader_isPerson_16 {P : vP} {l : Launch} {ad : Nat → Nat} {N : Nat} {r : Int32} {t1 : vSt} (hX : vOK P l shC ad (vR 0 0) cX5_isPerson RX5 2) (hR : (∀ pc lv, narrow .boolean (.int r) = .int r → decode cX5_isPerson pc = .ok (.ireturn, 1) → P t1 pc lv [.int r]))   {s : vSt} (h : gC_RoadReader_isPerson_16 N s = some (r, t1)) : P s 16 [] [] := by
  unfold gC_RoadReader_isPerson_16 at h
  refine v_iconst (v := 0) hX dX5_isPerson_16 (by decide) ?_
  exact v_retZ0 hR h dX5_isPerson_17
noncomputable def gC_RoadReader_isPerson_0 (N : Nat)  (a1 : Int32) (s : vSt) : Option (Int32 × vSt) :=
  if a1 < 0 then
    gC_RoadReader_isPerson_16 N s
  else
    if (s.1 16 3) ≤ a1 then
      gC_RoadReader_isPerson_16 N s
    else
      some (1, s)
set_option maxRecDepth 4000 in
theorem wC_RoadReader_isPerson_0 {P : vP} {l : Launch} {ad : Nat → Nat} {N : Nat} {r : Int32} {t1 : vSt} (hX : vOK P l shC ad (vR 0 0) cX5_isPerson RX5 2) (hR : (∀ pc lv, narrow .boolean (.int r) = .int r → decode cX5_isPerson pc = .ok (.ireturn, 1) → P t1 pc lv [.int r]))  {a1 : Int32} {s : vSt} (h : gC_RoadReader_isPerson_0 N a1 s = some (r, t1)) : P s 0 [(0, .ref (ad 16)), (1, .int a1)] [] := by
  unfold gC_RoadReader_isPerson_0 at h
  refine v_iload_n hX dX5_isPerson_0 rfl 1 rfl ?_
  refine v_if_lt (tgt := 16) hX dX5_isPerson_1 (by decide) h (fun h => ?_) (fun h => ?_)
  · exact v_sub hX [] (by rfl) (wC_RoadReader_isPerson_16 hX hR  h)
  · refine v_iload_n hX dX5_isPerson_4 rfl 1 rfl ?_
    refine v_aload_n hX dX5_isPerson_5 rfl 0 rfl ?_
    refine gfC_16_3 hX kf_5_33 dX5_isPerson_6 ?_
    refine v_icmp_ge (tgt := 16) hX dX5_isPerson_9 (by decide) h (fun h => ?_) (fun h => ?_)
    · exact v_sub hX [] (by rfl) (wC_RoadReader_isPerson_16 hX hR  h)
    · refine v_iconst (v := 1) hX dX5_isPerson_12 (by decide) ?_
      refine v_goto (tgt := 17) hX dX5_isPerson_13 (by decide) ?_
      exact v_retZ1 hR h dX5_isPerson_17
noncomputable def fC_RoadReader_isPerson (N : Nat) (a1 : Int32) (s : vSt) : Option (Int32 × vSt) := gC_RoadReader_isPerson_0 N a1 s
theorem mC_RoadReader_isPerson {N : Nat} {a1 : Int32} {s : vSt} {r : Int32} {t1 : vSt} (h : fC_RoadReader_isPerson N a1 s = some (r, t1)) (l : Launch) (ad : Nat → Nat) : vMI l shC ad yX5_isPerson cX5_isPerson 2 .boolean 0 0 s [.ref (ad 16), .int a1] r t1 :=
  vMI_of (by decide +kernel) (Nat.le_of_ble_eq_true rfl) (fun P hX hR => wC_RoadReader_isPerson_0 hX hR h)
-- C_Text_isDigit
noncomputable def gC_Text_isDigit_16 (N : Nat)   (s : vSt) : Option (Int32 × vSt) :=
  some (0, s)
set_option maxRecDepth 4000 in
theorem wC_Text_isDigit_16 {P : vP} {l : Launch} {ad : Nat → Nat} {N : Nat} {r : Int32} {t1 : vSt} (hX : vOK P l shC ad (vR 0 0) cX10_isDigit RX10 1) (hR : (∀ pc lv, narrow .boolean (.int r) = .int r → decode cX10_isDigit pc = .ok (.ireturn, 1) → P t1 pc lv [.int r]))   {s : vSt} (h : gC_Text_isDigit_16 N s = some (r, t1)) : P s 16 [] [] := by
  unfold gC_Text_isDigit_16 at h
  refine v_iconst (v := 0) hX dX10_isDigit_16 (by decide) ?_
  exact v_retZ0 hR h dX10_isDigit_17
noncomputable def gC_Text_isDigit_0 (N : Nat)  (a0 : Int32) (s : vSt) : Option (Int32 × vSt) :=
  if a0 < 48 then
    gC_Text_isDigit_16 N s
  else
    if 57 < a0 then
      gC_Text_isDigit_16 N s
    else
      some (1, s)
set_option maxRecDepth 4000 in
theorem wC_Text_isDigit_0 {P : vP} {l : Launch} {ad : Nat → Nat} {N : Nat} {r : Int32} {t1 : vSt} (hX : vOK P l shC ad (vR 0 0) cX10_isDigit RX10 1) (hR : (∀ pc lv, narrow .boolean (.int r) = .int r → decode cX10_isDigit pc = .ok (.ireturn, 1) → P t1 pc lv [.int r]))  {a0 : Int32} {s : vSt} (h : gC_Text_isDigit_0 N a0 s = some (r, t1)) : P s 0 [(0, .int a0)] [] := by
  unfold gC_Text_isDigit_0 at h
  refine v_iload_n hX dX10_isDigit_0 rfl 0 rfl ?_
  refine v_bipush (v := 48) hX dX10_isDigit_1 (by decide) ?_
  refine v_icmp_lt (tgt := 16) hX dX10_isDigit_3 (by decide) h (fun h => ?_) (fun h => ?_)
  · exact v_sub hX [] (by rfl) (wC_Text_isDigit_16 hX hR  h)
  · refine v_iload_n hX dX10_isDigit_6 rfl 0 rfl ?_
    refine v_bipush (v := 57) hX dX10_isDigit_7 (by decide) ?_
    refine v_icmp_gt (tgt := 16) hX dX10_isDigit_9 (by decide) h (fun h => ?_) (fun h => ?_)
    · exact v_sub hX [] (by rfl) (wC_Text_isDigit_16 hX hR  h)
    · refine v_iconst (v := 1) hX dX10_isDigit_12 (by decide) ?_
      refine v_goto (tgt := 17) hX dX10_isDigit_13 (by decide) ?_
      exact v_retZ1 hR h dX10_isDigit_17
noncomputable def fC_Text_isDigit (N : Nat) (a0 : Int32) (s : vSt) : Option (Int32 × vSt) := gC_Text_isDigit_0 N a0 s
theorem mC_Text_isDigit {N : Nat} {a0 : Int32} {s : vSt} {r : Int32} {t1 : vSt} (h : fC_Text_isDigit N a0 s = some (r, t1)) (l : Launch) (ad : Nat → Nat) : vMI l shC ad yX10_isDigit cX10_isDigit 1 .boolean 0 0 s [.int a0] r t1 :=
  vMI_of (by decide +kernel) (Nat.le_of_ble_eq_true rfl) (fun P hX hR => wC_Text_isDigit_0 hX hR h)
-- C_RoadReader_readHour
noncomputable def gC_RoadReader_readHour_63 (N : Nat)  (a1 : Int32) (s : vSt) : Option (Int32 × vSt) :=
  (sto s 13 20 (s.1 16 4) a1).bind fun z1 =>
  some (1, z1)
set_option maxRecDepth 4000 in
theorem wC_RoadReader_readHour_63 {P : vP} {l : Launch} {ad : Nat → Nat} {N : Nat} {r : Int32} {t1 : vSt} (hX : vOK P l shC ad (vR 2 41) cX5_readHour RX5 2) (hR : (∀ pc lv, narrow .boolean (.int r) = .int r → decode cX5_readHour pc = .ok (.ireturn, 1) → P t1 pc lv [.int r]))  {a1 : Int32} {s : vSt} (h : gC_RoadReader_readHour_63 N a1 s = some (r, t1)) : P s 63 [(0, .ref (ad 16)), (1, .int a1)] [] := by
  unfold gC_RoadReader_readHour_63 at h
  refine v_aload_n hX dX5_readHour_63 rfl 0 rfl ?_
  refine gfC_16_1 hX kf_5_15 dX5_readHour_64 ?_
  refine gfC_9_3 hX kf_5_86 dX5_readHour_67 ?_
  refine v_aload_n hX dX5_readHour_70 rfl 0 rfl ?_
  refine gfC_16_4 hX kf_5_37 dX5_readHour_71 ?_
  refine v_iload_n hX dX5_readHour_74 rfl 1 rfl ?_
  refine asC_13 hX dX5_readHour_75 h (fun z1 h => ?_)
  refine v_iconst (v := 1) hX dX5_readHour_76 (by decide) ?_
  exact v_retZ1 hR h dX5_readHour_77
noncomputable def gC_RoadReader_readHour_0 (N : Nat)   (s : vSt) : Option (Int32 × vSt) :=
  (fC_RoadReader_next N s).bind fun p1 =>
  (fC_Text_isDigit N p1.1 p1.2).bind fun p2 =>
  if p2.1 = 0 then
    some (0, p2.2)
  else
    (fC_RoadReader_next N p2.2).bind fun p3 =>
    (some (p3.1 - 48 : Int32)).bind fun v4 =>
    (some (s1 p3.2 16 2 ((p3.2.1 16 2) + 1))).bind fun z5 =>
    (fC_RoadReader_next N z5).bind fun p6 =>
    (fC_Text_isDigit N p6.1 p6.2).bind fun p7 =>
    if p7.1 = 0 then
      gC_RoadReader_readHour_63 N v4 p7.2
    else
      (fC_RoadReader_next N p7.2).bind fun p8 =>
      (some ((((10 : Int32) * v4) + p8.1) - 48 : Int32)).bind fun v9 =>
      (some (s1 p8.2 16 2 ((p8.2.1 16 2) + 1))).bind fun z10 =>
      gC_RoadReader_readHour_63 N v9 z10
set_option maxRecDepth 4000 in
theorem wC_RoadReader_readHour_0 {P : vP} {l : Launch} {ad : Nat → Nat} {N : Nat} {r : Int32} {t1 : vSt} (hX : vOK P l shC ad (vR 2 41) cX5_readHour RX5 2) (hR : (∀ pc lv, narrow .boolean (.int r) = .int r → decode cX5_readHour pc = .ok (.ireturn, 1) → P t1 pc lv [.int r]))   {s : vSt} (h : gC_RoadReader_readHour_0 N s = some (r, t1)) : P s 0 [(0, .ref (ad 16))] [] := by
  unfold gC_RoadReader_readHour_0 at h
  refine v_aload_n hX dX5_readHour_0 rfl 0 rfl ?_
  obtain ⟨p1, hp1, h⟩ := bsome h
  refine v_callVI (o := 16) hX (mC_RoadReader_next hp1 l ad) kM_X5_next kV_X5_next km_5_49 (by decide) (fun _ => rfl) rfl rfl rfl (Nat.le_of_ble_eq_true rfl) (by decide) dX5_readHour_1 ?_
  obtain ⟨p2, hp2, h⟩ := bsome h
  refine v_callSI hX (mC_Text_isDigit hp2 l ad) kM_X10_isDigit kS_X10_isDigit km_5_83 rfl rfl (Nat.le_of_ble_eq_true rfl) (by decide) dX5_readHour_4 ?_
  refine v_if_ne (tgt := 12) hX dX5_readHour_7 (by decide) h (fun h => ?_) (fun h => ?_)
  · refine v_iconst (v := 0) hX dX5_readHour_10 (by decide) ?_
    exact v_retZ0 hR h dX5_readHour_11
  · refine v_aload_n hX dX5_readHour_12 rfl 0 rfl ?_
    obtain ⟨p3, hp3, h⟩ := bsome h
    refine v_callVI (o := 16) hX (mC_RoadReader_next hp3 l ad) kM_X5_next kV_X5_next km_5_49 (by decide) (fun _ => rfl) rfl rfl rfl (Nat.le_of_ble_eq_true rfl) (by decide) dX5_readHour_13 ?_
    refine v_bipush (v := 48) hX dX5_readHour_16 (by decide) ?_
    refine v_isub hX dX5_readHour_18 ?_
    refine v_nmI hX h (fun v4 h => ?_)
    refine v_istore_n (lv' := [(1, .int v4), (0, .ref (ad 16))]) hX dX5_readHour_19 rfl (by decide) rfl ?_
    refine v_aload_n hX dX5_readHour_20 rfl 1 rfl ?_
    refine v_dup hX dX5_readHour_21 rfl ?_
    refine gfC_16_2 hX kf_5_25 dX5_readHour_22 ?_
    refine v_iconst (v := 1) hX dX5_readHour_25 (by decide) ?_
    refine v_iadd hX dX5_readHour_26 ?_
    refine pfC_16_2 hX kf_5_25 dX5_readHour_27 h (fun z5 h => ?_)
    refine v_aload_n hX dX5_readHour_30 rfl 1 rfl ?_
    obtain ⟨p6, hp6, h⟩ := bsome h
    refine v_callVI (o := 16) hX (mC_RoadReader_next hp6 l ad) kM_X5_next kV_X5_next km_5_49 (by decide) (fun _ => rfl) rfl rfl rfl (Nat.le_of_ble_eq_true rfl) (by decide) dX5_readHour_31 ?_
    obtain ⟨p7, hp7, h⟩ := bsome h
    refine v_callSI hX (mC_Text_isDigit hp7 l ad) kM_X10_isDigit kS_X10_isDigit km_5_83 rfl rfl (Nat.le_of_ble_eq_true rfl) (by decide) dX5_readHour_34 ?_
    refine v_if_eq (tgt := 63) hX dX5_readHour_37 (by decide) h (fun h => ?_) (fun h => ?_)
    · exact v_sub hX [1, 0] (by rfl) (wC_RoadReader_readHour_63 hX hR  h)
    · refine v_bipush (v := 10) hX dX5_readHour_40 (by decide) ?_
      refine v_iload_n hX dX5_readHour_42 rfl 0 rfl ?_
      refine v_imul hX dX5_readHour_43 ?_
      refine v_aload_n hX dX5_readHour_44 rfl 1 rfl ?_
      obtain ⟨p8, hp8, h⟩ := bsome h
      refine v_callVI (o := 16) hX (mC_RoadReader_next hp8 l ad) kM_X5_next kV_X5_next km_5_49 (by decide) (fun _ => rfl) rfl rfl rfl (Nat.le_of_ble_eq_true rfl) (by decide) dX5_readHour_45 ?_
      refine v_iadd hX dX5_readHour_48 ?_
      refine v_bipush (v := 48) hX dX5_readHour_49 (by decide) ?_
      refine v_isub hX dX5_readHour_51 ?_
      refine v_nmI hX h (fun v9 h => ?_)
      refine v_istore_n (lv' := [(1, .int v9), (0, .ref (ad 16))]) hX dX5_readHour_52 rfl (by decide) rfl ?_
      refine v_aload_n hX dX5_readHour_53 rfl 1 rfl ?_
      refine v_dup hX dX5_readHour_54 rfl ?_
      refine gfC_16_2 hX kf_5_25 dX5_readHour_55 ?_
      refine v_iconst (v := 1) hX dX5_readHour_58 (by decide) ?_
      refine v_iadd hX dX5_readHour_59 ?_
      refine pfC_16_2 hX kf_5_25 dX5_readHour_60 h (fun z10 h => ?_)
      exact v_sub hX [1, 0] (by rfl) (wC_RoadReader_readHour_63 hX hR  h)
noncomputable def fC_RoadReader_readHour (N : Nat)  (s : vSt) : Option (Int32 × vSt) := gC_RoadReader_readHour_0 N s
theorem mC_RoadReader_readHour {N : Nat}  {s : vSt} {r : Int32} {t1 : vSt} (h : fC_RoadReader_readHour N s = some (r, t1)) (l : Launch) (ad : Nat → Nat) : vMI l shC ad yX5_readHour cX5_readHour 2 .boolean 2 41 s [.ref (ad 16)] r t1 :=
  vMI_of (by decide +kernel) (Nat.le_of_ble_eq_true rfl) (fun P hX hR => wC_RoadReader_readHour_0 hX hR h)
-- C_RoadReader_readPrice
noncomputable def gC_RoadReader_readPrice_0 (N : Nat)   (s : vSt) : Option (Int32 × vSt) :=
  (sto s 14 20 (s.1 16 4) 0).bind fun z1 =>
  (fC_RoadReader_next N z1).bind fun p2 =>
  if p2.1 = 42 then
    (some (s1 p2.2 16 2 ((p2.2.1 16 2) + 1))).bind fun z3 =>
    (fC_RoadReader_next N z3).bind fun p4 =>
    (fC_Text_isDigit N p4.1 p4.2).bind fun p5 =>
    if p5.1 = 0 then
      some (0, p5.2)
    else
      (fC_RoadReader_next N p5.2).bind fun p6 =>
      (sto p6.2 14 20 (p5.2.1 16 4) (p6.1 - 48)).bind fun z7 =>
      (some (s1 z7 16 2 ((z7.1 16 2) + 1))).bind fun z8 =>
      some (1, z8)
  else
    some (1, p2.2)
set_option maxRecDepth 4000 in
theorem wC_RoadReader_readPrice_0 {P : vP} {l : Launch} {ad : Nat → Nat} {N : Nat} {r : Int32} {t1 : vSt} (hX : vOK P l shC ad (vR 2 41) cX5_readPrice RX5 1) (hR : (∀ pc lv, narrow .boolean (.int r) = .int r → decode cX5_readPrice pc = .ok (.ireturn, 1) → P t1 pc lv [.int r]))   {s : vSt} (h : gC_RoadReader_readPrice_0 N s = some (r, t1)) : P s 0 [(0, .ref (ad 16))] [] := by
  unfold gC_RoadReader_readPrice_0 at h
  refine v_aload_n hX dX5_readPrice_0 rfl 0 rfl ?_
  refine gfC_16_1 hX kf_5_15 dX5_readPrice_1 ?_
  refine gfC_9_4 hX kf_5_89 dX5_readPrice_4 ?_
  refine v_aload_n hX dX5_readPrice_7 rfl 0 rfl ?_
  refine gfC_16_4 hX kf_5_37 dX5_readPrice_8 ?_
  refine v_iconst (v := 0) hX dX5_readPrice_11 (by decide) ?_
  refine asC_14 hX dX5_readPrice_12 h (fun z1 h => ?_)
  refine v_aload_n hX dX5_readPrice_13 rfl 0 rfl ?_
  obtain ⟨p2, hp2, h⟩ := bsome h
  refine v_callVI (o := 16) hX (mC_RoadReader_next hp2 l ad) kM_X5_next kV_X5_next km_5_49 (by decide) (fun _ => rfl) rfl rfl rfl (Nat.le_of_ble_eq_true rfl) (by decide) dX5_readPrice_14 ?_
  refine v_bipush (v := 42) hX dX5_readPrice_17 (by decide) ?_
  refine v_icmp_eq (tgt := 24) hX dX5_readPrice_19 (by decide) h (fun h => ?_) (fun h => ?_)
  · refine v_aload_n hX dX5_readPrice_24 rfl 0 rfl ?_
    refine v_dup hX dX5_readPrice_25 rfl ?_
    refine gfC_16_2 hX kf_5_25 dX5_readPrice_26 ?_
    refine v_iconst (v := 1) hX dX5_readPrice_29 (by decide) ?_
    refine v_iadd hX dX5_readPrice_30 ?_
    refine pfC_16_2 hX kf_5_25 dX5_readPrice_31 h (fun z3 h => ?_)
    refine v_aload_n hX dX5_readPrice_34 rfl 0 rfl ?_
    obtain ⟨p4, hp4, h⟩ := bsome h
    refine v_callVI (o := 16) hX (mC_RoadReader_next hp4 l ad) kM_X5_next kV_X5_next km_5_49 (by decide) (fun _ => rfl) rfl rfl rfl (Nat.le_of_ble_eq_true rfl) (by decide) dX5_readPrice_35 ?_
    obtain ⟨p5, hp5, h⟩ := bsome h
    refine v_callSI hX (mC_Text_isDigit hp5 l ad) kM_X10_isDigit kS_X10_isDigit km_5_83 rfl rfl (Nat.le_of_ble_eq_true rfl) (by decide) dX5_readPrice_38 ?_
    refine v_if_ne (tgt := 46) hX dX5_readPrice_41 (by decide) h (fun h => ?_) (fun h => ?_)
    · refine v_iconst (v := 0) hX dX5_readPrice_44 (by decide) ?_
      exact v_retZ0 hR h dX5_readPrice_45
    · refine v_aload_n hX dX5_readPrice_46 rfl 0 rfl ?_
      refine gfC_16_1 hX kf_5_15 dX5_readPrice_47 ?_
      refine gfC_9_4 hX kf_5_89 dX5_readPrice_50 ?_
      refine v_aload_n hX dX5_readPrice_53 rfl 0 rfl ?_
      refine gfC_16_4 hX kf_5_37 dX5_readPrice_54 ?_
      refine v_aload_n hX dX5_readPrice_57 rfl 0 rfl ?_
      obtain ⟨p6, hp6, h⟩ := bsome h
      refine v_callVI (o := 16) hX (mC_RoadReader_next hp6 l ad) kM_X5_next kV_X5_next km_5_49 (by decide) (fun _ => rfl) rfl rfl rfl (Nat.le_of_ble_eq_true rfl) (by decide) dX5_readPrice_58 ?_
      refine v_bipush (v := 48) hX dX5_readPrice_61 (by decide) ?_
      refine v_isub hX dX5_readPrice_63 ?_
      refine asC_14 hX dX5_readPrice_64 h (fun z7 h => ?_)
      refine v_aload_n hX dX5_readPrice_65 rfl 0 rfl ?_
      refine v_dup hX dX5_readPrice_66 rfl ?_
      refine gfC_16_2 hX kf_5_25 dX5_readPrice_67 ?_
      refine v_iconst (v := 1) hX dX5_readPrice_70 (by decide) ?_
      refine v_iadd hX dX5_readPrice_71 ?_
      refine pfC_16_2 hX kf_5_25 dX5_readPrice_72 h (fun z8 h => ?_)
      refine v_iconst (v := 1) hX dX5_readPrice_75 (by decide) ?_
      exact v_retZ1 hR h dX5_readPrice_76
  · refine v_iconst (v := 1) hX dX5_readPrice_22 (by decide) ?_
    exact v_retZ1 hR h dX5_readPrice_23
noncomputable def fC_RoadReader_readPrice (N : Nat)  (s : vSt) : Option (Int32 × vSt) := gC_RoadReader_readPrice_0 N s
theorem mC_RoadReader_readPrice {N : Nat}  {s : vSt} {r : Int32} {t1 : vSt} (h : fC_RoadReader_readPrice N s = some (r, t1)) (l : Launch) (ad : Nat → Nat) : vMI l shC ad yX5_readPrice cX5_readPrice 1 .boolean 2 41 s [.ref (ad 16)] r t1 :=
  vMI_of (by decide +kernel) (Nat.le_of_ble_eq_true rfl) (fun P hX hR => wC_RoadReader_readPrice_0 hX hR h)
-- C_RoadReader_readMeeting
noncomputable def gC_RoadReader_readMeeting_0 (N : Nat)   (s : vSt) : Option (Int32 × vSt) :=
  (fC_RoadReader_next N s).bind fun p1 =>
  (some (p1.1 - 97 : Int32)).bind fun v2 =>
  if 20 ≤ (p1.2.1 16 4) then
    some (0, p1.2)
  else
    (fC_RoadReader_isPerson N v2 p1.2).bind fun p3 =>
    if p3.1 = 0 then
      some (0, p3.2)
    else
      (some (s1 p3.2 16 2 ((p3.2.1 16 2) + 1))).bind fun z4 =>
      (fC_RoadReader_next N z4).bind fun p5 =>
      (some (p5.1 - 97 : Int32)).bind fun v6 =>
      (fC_RoadReader_isPerson N v6 p5.2).bind fun p7 =>
      if p7.1 = 0 then
        some (0, p7.2)
      else
        if v6 = v2 then
          some (0, p7.2)
        else
          (some (s1 p7.2 16 2 ((p7.2.1 16 2) + 1))).bind fun z8 =>
          (fC_RoadReader_next N z8).bind fun p9 =>
          if p9.1 = 64 then
            (some (s1 p9.2 16 2 ((p9.2.1 16 2) + 1))).bind fun z10 =>
            (sto z10 11 20 (z10.1 16 4) v2).bind fun z11 =>
            (sto z11 12 20 (z11.1 16 4) v6).bind fun z12 =>
            (fC_RoadReader_readHour N z12).bind fun p13 =>
            if p13.1 = 0 then
              some (0, p13.2)
            else
              (fC_RoadReader_readPrice N p13.2).bind fun p14 =>
              if p14.1 = 0 then
                some (0, p14.2)
              else
                (some (s1 p14.2 16 4 ((p14.2.1 16 4) + 1))).bind fun z15 =>
                some (1, z15)
          else
            some (0, p9.2)
set_option maxRecDepth 4000 in
theorem wC_RoadReader_readMeeting_0 {P : vP} {l : Launch} {ad : Nat → Nat} {N : Nat} {r : Int32} {t1 : vSt} (hX : vOK P l shC ad (vR 3 62) cX5_readMeeting RX5 3) (hR : (∀ pc lv, narrow .boolean (.int r) = .int r → decode cX5_readMeeting pc = .ok (.ireturn, 1) → P t1 pc lv [.int r]))   {s : vSt} (h : gC_RoadReader_readMeeting_0 N s = some (r, t1)) : P s 0 [(0, .ref (ad 16))] [] := by
  unfold gC_RoadReader_readMeeting_0 at h
  refine v_aload_n hX dX5_readMeeting_0 rfl 0 rfl ?_
  obtain ⟨p1, hp1, h⟩ := bsome h
  refine v_callVI (o := 16) hX (mC_RoadReader_next hp1 l ad) kM_X5_next kV_X5_next km_5_49 (by decide) (fun _ => rfl) rfl rfl rfl (Nat.le_of_ble_eq_true rfl) (by decide) dX5_readMeeting_1 ?_
  refine v_bipush (v := 97) hX dX5_readMeeting_4 (by decide) ?_
  refine v_isub hX dX5_readMeeting_6 ?_
  refine v_nmI hX h (fun v2 h => ?_)
  refine v_istore_n (lv' := [(1, .int v2), (0, .ref (ad 16))]) hX dX5_readMeeting_7 rfl (by decide) rfl ?_
  refine v_aload_n hX dX5_readMeeting_8 rfl 1 rfl ?_
  refine gfC_16_4 hX kf_5_37 dX5_readMeeting_9 ?_
  refine v_bipush (v := 20) hX dX5_readMeeting_12 (by decide) ?_
  refine v_icmp_ge (tgt := 25) hX dX5_readMeeting_14 (by decide) h (fun h => ?_) (fun h => ?_)
  · refine v_iconst (v := 0) hX dX5_readMeeting_25 (by decide) ?_
    exact v_retZ0 hR h dX5_readMeeting_26
  · refine v_aload_n hX dX5_readMeeting_17 rfl 1 rfl ?_
    refine v_iload_n hX dX5_readMeeting_18 rfl 0 rfl ?_
    obtain ⟨p3, hp3, h⟩ := bsome h
    refine v_callVI (o := 16) hX (mC_RoadReader_isPerson hp3 l ad) kM_X5_isPerson kV_X5_isPerson km_5_67 (by decide) (fun _ => rfl) rfl rfl rfl (Nat.le_of_ble_eq_true rfl) (by decide) dX5_readMeeting_19 ?_
    refine v_if_ne (tgt := 27) hX dX5_readMeeting_22 (by decide) h (fun h => ?_) (fun h => ?_)
    · refine v_iconst (v := 0) hX dX5_readMeeting_25 (by decide) ?_
      exact v_retZ0 hR h dX5_readMeeting_26
    · refine v_aload_n hX dX5_readMeeting_27 rfl 1 rfl ?_
      refine v_dup hX dX5_readMeeting_28 rfl ?_
      refine gfC_16_2 hX kf_5_25 dX5_readMeeting_29 ?_
      refine v_iconst (v := 1) hX dX5_readMeeting_32 (by decide) ?_
      refine v_iadd hX dX5_readMeeting_33 ?_
      refine pfC_16_2 hX kf_5_25 dX5_readMeeting_34 h (fun z4 h => ?_)
      refine v_aload_n hX dX5_readMeeting_37 rfl 1 rfl ?_
      obtain ⟨p5, hp5, h⟩ := bsome h
      refine v_callVI (o := 16) hX (mC_RoadReader_next hp5 l ad) kM_X5_next kV_X5_next km_5_49 (by decide) (fun _ => rfl) rfl rfl rfl (Nat.le_of_ble_eq_true rfl) (by decide) dX5_readMeeting_38 ?_
      refine v_bipush (v := 97) hX dX5_readMeeting_41 (by decide) ?_
      refine v_isub hX dX5_readMeeting_43 ?_
      refine v_nmI hX h (fun v6 h => ?_)
      refine v_istore_n (lv' := [(2, .int v6), (1, .int v2), (0, .ref (ad 16))]) hX dX5_readMeeting_44 rfl (by decide) rfl ?_
      refine v_aload_n hX dX5_readMeeting_45 rfl 2 rfl ?_
      refine v_iload_n hX dX5_readMeeting_46 rfl 0 rfl ?_
      obtain ⟨p7, hp7, h⟩ := bsome h
      refine v_callVI (o := 16) hX (mC_RoadReader_isPerson hp7 l ad) kM_X5_isPerson kV_X5_isPerson km_5_67 (by decide) (fun _ => rfl) rfl rfl rfl (Nat.le_of_ble_eq_true rfl) (by decide) dX5_readMeeting_47 ?_
      refine v_if_eq (tgt := 58) hX dX5_readMeeting_50 (by decide) h (fun h => ?_) (fun h => ?_)
      · refine v_iconst (v := 0) hX dX5_readMeeting_58 (by decide) ?_
        exact v_retZ0 hR h dX5_readMeeting_59
      · refine v_iload_n hX dX5_readMeeting_53 rfl 0 rfl ?_
        refine v_iload_n hX dX5_readMeeting_54 rfl 1 rfl ?_
        refine v_icmp_ne (tgt := 60) hX dX5_readMeeting_55 (by decide) h (fun h => ?_) (fun h => ?_)
        · refine v_iconst (v := 0) hX dX5_readMeeting_58 (by decide) ?_
          exact v_retZ0 hR h dX5_readMeeting_59
        · refine v_aload_n hX dX5_readMeeting_60 rfl 2 rfl ?_
          refine v_dup hX dX5_readMeeting_61 rfl ?_
          refine gfC_16_2 hX kf_5_25 dX5_readMeeting_62 ?_
          refine v_iconst (v := 1) hX dX5_readMeeting_65 (by decide) ?_
          refine v_iadd hX dX5_readMeeting_66 ?_
          refine pfC_16_2 hX kf_5_25 dX5_readMeeting_67 h (fun z8 h => ?_)
          refine v_aload_n hX dX5_readMeeting_70 rfl 2 rfl ?_
          obtain ⟨p9, hp9, h⟩ := bsome h
          refine v_callVI (o := 16) hX (mC_RoadReader_next hp9 l ad) kM_X5_next kV_X5_next km_5_49 (by decide) (fun _ => rfl) rfl rfl rfl (Nat.le_of_ble_eq_true rfl) (by decide) dX5_readMeeting_71 ?_
          refine v_bipush (v := 64) hX dX5_readMeeting_74 (by decide) ?_
          refine v_icmp_eq (tgt := 81) hX dX5_readMeeting_76 (by decide) h (fun h => ?_) (fun h => ?_)
          · refine v_aload_n hX dX5_readMeeting_81 rfl 2 rfl ?_
            refine v_dup hX dX5_readMeeting_82 rfl ?_
            refine gfC_16_2 hX kf_5_25 dX5_readMeeting_83 ?_
            refine v_iconst (v := 1) hX dX5_readMeeting_86 (by decide) ?_
            refine v_iadd hX dX5_readMeeting_87 ?_
            refine pfC_16_2 hX kf_5_25 dX5_readMeeting_88 h (fun z10 h => ?_)
            refine v_aload_n hX dX5_readMeeting_91 rfl 2 rfl ?_
            refine gfC_16_1 hX kf_5_15 dX5_readMeeting_92 ?_
            refine gfC_9_1 hX kf_5_71 dX5_readMeeting_95 ?_
            refine v_aload_n hX dX5_readMeeting_98 rfl 2 rfl ?_
            refine gfC_16_4 hX kf_5_37 dX5_readMeeting_99 ?_
            refine v_iload_n hX dX5_readMeeting_102 rfl 1 rfl ?_
            refine asC_11 hX dX5_readMeeting_103 h (fun z11 h => ?_)
            refine v_aload_n hX dX5_readMeeting_104 rfl 2 rfl ?_
            refine gfC_16_1 hX kf_5_15 dX5_readMeeting_105 ?_
            refine gfC_9_2 hX kf_5_74 dX5_readMeeting_108 ?_
            refine v_aload_n hX dX5_readMeeting_111 rfl 2 rfl ?_
            refine gfC_16_4 hX kf_5_37 dX5_readMeeting_112 ?_
            refine v_iload_n hX dX5_readMeeting_115 rfl 0 rfl ?_
            refine asC_12 hX dX5_readMeeting_116 h (fun z12 h => ?_)
            refine v_aload_n hX dX5_readMeeting_117 rfl 2 rfl ?_
            obtain ⟨p13, hp13, h⟩ := bsome h
            refine v_callVI (o := 16) hX (mC_RoadReader_readHour hp13 l ad) kM_X5_readHour kV_X5_readHour km_5_77 (by decide) (fun _ => rfl) rfl rfl rfl (Nat.le_of_ble_eq_true rfl) (by decide) dX5_readMeeting_118 ?_
            refine v_if_eq (tgt := 131) hX dX5_readMeeting_121 (by decide) h (fun h => ?_) (fun h => ?_)
            · refine v_iconst (v := 0) hX dX5_readMeeting_131 (by decide) ?_
              exact v_retZ0 hR h dX5_readMeeting_132
            · refine v_aload_n hX dX5_readMeeting_124 rfl 2 rfl ?_
              obtain ⟨p14, hp14, h⟩ := bsome h
              refine v_callVI (o := 16) hX (mC_RoadReader_readPrice hp14 l ad) kM_X5_readPrice kV_X5_readPrice km_5_80 (by decide) (fun _ => rfl) rfl rfl rfl (Nat.le_of_ble_eq_true rfl) (by decide) dX5_readMeeting_125 ?_
              refine v_if_ne (tgt := 133) hX dX5_readMeeting_128 (by decide) h (fun h => ?_) (fun h => ?_)
              · refine v_iconst (v := 0) hX dX5_readMeeting_131 (by decide) ?_
                exact v_retZ0 hR h dX5_readMeeting_132
              · refine v_aload_n hX dX5_readMeeting_133 rfl 2 rfl ?_
                refine v_dup hX dX5_readMeeting_134 rfl ?_
                refine gfC_16_4 hX kf_5_37 dX5_readMeeting_135 ?_
                refine v_iconst (v := 1) hX dX5_readMeeting_138 (by decide) ?_
                refine v_iadd hX dX5_readMeeting_139 ?_
                refine pfC_16_4 hX kf_5_37 dX5_readMeeting_140 h (fun z15 h => ?_)
                refine v_iconst (v := 1) hX dX5_readMeeting_143 (by decide) ?_
                exact v_retZ1 hR h dX5_readMeeting_144
          · refine v_iconst (v := 0) hX dX5_readMeeting_79 (by decide) ?_
            exact v_retZ0 hR h dX5_readMeeting_80
noncomputable def fC_RoadReader_readMeeting (N : Nat)  (s : vSt) : Option (Int32 × vSt) := gC_RoadReader_readMeeting_0 N s
theorem mC_RoadReader_readMeeting {N : Nat}  {s : vSt} {r : Int32} {t1 : vSt} (h : fC_RoadReader_readMeeting N s = some (r, t1)) (l : Launch) (ad : Nat → Nat) : vMI l shC ad yX5_readMeeting cX5_readMeeting 3 .boolean 3 62 s [.ref (ad 16)] r t1 :=
  vMI_of (by decide +kernel) (Nat.le_of_ble_eq_true rfl) (fun P hX hR => wC_RoadReader_readMeeting_0 hX hR h)
-- C_RoadReader_readPerson
noncomputable def gC_RoadReader_readPerson_0 (N : Nat)   (s : vSt) : Option (Int32 × vSt) :=
  if (s.1 16 3) < 9 then
    (fC_RoadReader_next N s).bind fun p1 =>
    (sto p1.2 10 9 (s.1 16 3) (p1.1 - 48)).bind fun z2 =>
    (some (s1 z2 16 3 ((z2.1 16 3) + 1))).bind fun z3 =>
    (some (s1 z3 16 2 ((z3.1 16 2) + 1))).bind fun z4 =>
    some (1, z4)
  else
    some (0, s)
set_option maxRecDepth 4000 in
theorem wC_RoadReader_readPerson_0 {P : vP} {l : Launch} {ad : Nat → Nat} {N : Nat} {r : Int32} {t1 : vSt} (hX : vOK P l shC ad (vR 2 41) cX5_readPerson RX5 1) (hR : (∀ pc lv, narrow .boolean (.int r) = .int r → decode cX5_readPerson pc = .ok (.ireturn, 1) → P t1 pc lv [.int r]))   {s : vSt} (h : gC_RoadReader_readPerson_0 N s = some (r, t1)) : P s 0 [(0, .ref (ad 16))] [] := by
  unfold gC_RoadReader_readPerson_0 at h
  refine v_aload_n hX dX5_readPerson_0 rfl 0 rfl ?_
  refine gfC_16_3 hX kf_5_33 dX5_readPerson_1 ?_
  refine v_bipush (v := 9) hX dX5_readPerson_4 (by decide) ?_
  refine v_icmp_lt (tgt := 11) hX dX5_readPerson_6 (by decide) h (fun h => ?_) (fun h => ?_)
  · refine v_aload_n hX dX5_readPerson_11 rfl 0 rfl ?_
    refine gfC_16_1 hX kf_5_15 dX5_readPerson_12 ?_
    refine gfC_9_0 hX kf_5_63 dX5_readPerson_15 ?_
    refine v_aload_n hX dX5_readPerson_18 rfl 0 rfl ?_
    refine gfC_16_3 hX kf_5_33 dX5_readPerson_19 ?_
    refine v_aload_n hX dX5_readPerson_22 rfl 0 rfl ?_
    obtain ⟨p1, hp1, h⟩ := bsome h
    refine v_callVI (o := 16) hX (mC_RoadReader_next hp1 l ad) kM_X5_next kV_X5_next km_5_49 (by decide) (fun _ => rfl) rfl rfl rfl (Nat.le_of_ble_eq_true rfl) (by decide) dX5_readPerson_23 ?_
    refine v_bipush (v := 48) hX dX5_readPerson_26 (by decide) ?_
    refine v_isub hX dX5_readPerson_28 ?_
    refine asC_10 hX dX5_readPerson_29 h (fun z2 h => ?_)
    refine v_aload_n hX dX5_readPerson_30 rfl 0 rfl ?_
    refine v_dup hX dX5_readPerson_31 rfl ?_
    refine gfC_16_3 hX kf_5_33 dX5_readPerson_32 ?_
    refine v_iconst (v := 1) hX dX5_readPerson_35 (by decide) ?_
    refine v_iadd hX dX5_readPerson_36 ?_
    refine pfC_16_3 hX kf_5_33 dX5_readPerson_37 h (fun z3 h => ?_)
    refine v_aload_n hX dX5_readPerson_40 rfl 0 rfl ?_
    refine v_dup hX dX5_readPerson_41 rfl ?_
    refine gfC_16_2 hX kf_5_25 dX5_readPerson_42 ?_
    refine v_iconst (v := 1) hX dX5_readPerson_45 (by decide) ?_
    refine v_iadd hX dX5_readPerson_46 ?_
    refine pfC_16_2 hX kf_5_25 dX5_readPerson_47 h (fun z4 h => ?_)
    refine v_iconst (v := 1) hX dX5_readPerson_50 (by decide) ?_
    exact v_retZ1 hR h dX5_readPerson_51
  · refine v_iconst (v := 0) hX dX5_readPerson_9 (by decide) ?_
    exact v_retZ0 hR h dX5_readPerson_10
noncomputable def fC_RoadReader_readPerson (N : Nat)  (s : vSt) : Option (Int32 × vSt) := gC_RoadReader_readPerson_0 N s
theorem mC_RoadReader_readPerson {N : Nat}  {s : vSt} {r : Int32} {t1 : vSt} (h : fC_RoadReader_readPerson N s = some (r, t1)) (l : Launch) (ad : Nat → Nat) : vMI l shC ad yX5_readPerson cX5_readPerson 1 .boolean 2 41 s [.ref (ad 16)] r t1 :=
  vMI_of (by decide +kernel) (Nat.le_of_ble_eq_true rfl) (fun P hX hR => wC_RoadReader_readPerson_0 hX hR h)
-- C_RoadReader_readLine
noncomputable def gC_RoadReader_readLine_25 (N : Nat)   (s : vSt) : Option (Int32 × vSt) :=
  (fC_RoadReader_readMeeting N s).bind fun p1 =>
  if p1.1 = 0 ∨ p1.1 = 1 then some (p1.1, p1.2) else none
set_option maxRecDepth 4000 in
theorem wC_RoadReader_readLine_25 {P : vP} {l : Launch} {ad : Nat → Nat} {N : Nat} {r : Int32} {t1 : vSt} (hX : vOK P l shC ad (vR 4 84) cX5_readLine RX5 1) (hR : (∀ pc lv, narrow .boolean (.int r) = .int r → decode cX5_readLine pc = .ok (.ireturn, 1) → P t1 pc lv [.int r]))   {s : vSt} (h : gC_RoadReader_readLine_25 N s = some (r, t1)) : P s 25 [(0, .ref (ad 16))] [] := by
  unfold gC_RoadReader_readLine_25 at h
  refine v_aload_n hX dX5_readLine_25 rfl 0 rfl ?_
  obtain ⟨p1, hp1, h⟩ := bsome h
  refine v_callVI (o := 16) hX (mC_RoadReader_readMeeting hp1 l ad) kM_X5_readMeeting kV_X5_readMeeting km_5_60 (by decide) (fun _ => rfl) rfl rfl rfl (Nat.le_of_ble_eq_true rfl) (by decide) dX5_readLine_26 ?_
  exact v_retZ hR h dX5_readLine_29
noncomputable def gC_RoadReader_readLine_0 (N : Nat)   (s : vSt) : Option (Int32 × vSt) :=
  (fC_RoadReader_next N s).bind fun p1 =>
  if p1.1 < 49 then
    gC_RoadReader_readLine_25 N p1.2
  else
    (fC_RoadReader_next N p1.2).bind fun p2 =>
    if 57 < p2.1 then
      gC_RoadReader_readLine_25 N p2.2
    else
      (fC_RoadReader_readPerson N p2.2).bind fun p3 =>
      if p3.1 = 0 ∨ p3.1 = 1 then some (p3.1, p3.2) else none
set_option maxRecDepth 4000 in
theorem wC_RoadReader_readLine_0 {P : vP} {l : Launch} {ad : Nat → Nat} {N : Nat} {r : Int32} {t1 : vSt} (hX : vOK P l shC ad (vR 4 84) cX5_readLine RX5 1) (hR : (∀ pc lv, narrow .boolean (.int r) = .int r → decode cX5_readLine pc = .ok (.ireturn, 1) → P t1 pc lv [.int r]))   {s : vSt} (h : gC_RoadReader_readLine_0 N s = some (r, t1)) : P s 0 [(0, .ref (ad 16))] [] := by
  unfold gC_RoadReader_readLine_0 at h
  refine v_aload_n hX dX5_readLine_0 rfl 0 rfl ?_
  obtain ⟨p1, hp1, h⟩ := bsome h
  refine v_callVI (o := 16) hX (mC_RoadReader_next hp1 l ad) kM_X5_next kV_X5_next km_5_49 (by decide) (fun _ => rfl) rfl rfl rfl (Nat.le_of_ble_eq_true rfl) (by decide) dX5_readLine_1 ?_
  refine v_bipush (v := 49) hX dX5_readLine_4 (by decide) ?_
  refine v_icmp_lt (tgt := 25) hX dX5_readLine_6 (by decide) h (fun h => ?_) (fun h => ?_)
  · exact v_sub hX [0] (by rfl) (wC_RoadReader_readLine_25 hX hR  h)
  · refine v_aload_n hX dX5_readLine_9 rfl 0 rfl ?_
    obtain ⟨p2, hp2, h⟩ := bsome h
    refine v_callVI (o := 16) hX (mC_RoadReader_next hp2 l ad) kM_X5_next kV_X5_next km_5_49 (by decide) (fun _ => rfl) rfl rfl rfl (Nat.le_of_ble_eq_true rfl) (by decide) dX5_readLine_10 ?_
    refine v_bipush (v := 57) hX dX5_readLine_13 (by decide) ?_
    refine v_icmp_gt (tgt := 25) hX dX5_readLine_15 (by decide) h (fun h => ?_) (fun h => ?_)
    · exact v_sub hX [0] (by rfl) (wC_RoadReader_readLine_25 hX hR  h)
    · refine v_aload_n hX dX5_readLine_18 rfl 0 rfl ?_
      obtain ⟨p3, hp3, h⟩ := bsome h
      refine v_callVI (o := 16) hX (mC_RoadReader_readPerson hp3 l ad) kM_X5_readPerson kV_X5_readPerson km_5_57 (by decide) (fun _ => rfl) rfl rfl rfl (Nat.le_of_ble_eq_true rfl) (by decide) dX5_readLine_19 ?_
      refine v_goto (tgt := 29) hX dX5_readLine_22 (by decide) ?_
      exact v_retZ hR h dX5_readLine_29
noncomputable def fC_RoadReader_readLine (N : Nat)  (s : vSt) : Option (Int32 × vSt) := gC_RoadReader_readLine_0 N s
theorem mC_RoadReader_readLine {N : Nat}  {s : vSt} {r : Int32} {t1 : vSt} (h : fC_RoadReader_readLine N s = some (r, t1)) (l : Launch) (ad : Nat → Nat) : vMI l shC ad yX5_readLine cX5_readLine 1 .boolean 4 84 s [.ref (ad 16)] r t1 :=
  vMI_of (by decide +kernel) (Nat.le_of_ble_eq_true rfl) (fun P hX hR => wC_RoadReader_readLine_0 hX hR h)
-- C_RoadReader_readLines
noncomputable def gC_RoadReader_readLines_2 (N : Nat)  : Nat → Int32 → vSt → Option (Int32 × vSt)
  | 0, _, _ => none
  | n + 1, a1, s =>
    if 76 < a1 then
      some (0, s)
    else
      (fC_RoadReader_readLine N s).bind fun p1 =>
      if p1.1 = 0 then
        some (0, p1.2)
      else
        (fC_RoadReader_next N p1.2).bind fun p2 =>
        if p2.1 = (-1) then
          some (1, p2.2)
        else
          (fC_RoadReader_next N p2.2).bind fun p3 =>
          if p3.1 = 59 then
            (some (s1 p3.2 16 2 ((p3.2.1 16 2) + 1))).bind fun z4 =>
            (some (a1 + 1 : Int32)).bind fun v5 =>
            gC_RoadReader_readLines_2 N n v5 z4
          else
            some (0, p3.2)
set_option maxRecDepth 4000 in
theorem wC_RoadReader_readLines_2 {P : vP} {l : Launch} {ad : Nat → Nat} {N : Nat} {r : Int32} {t1 : vSt} (hX : vOK P l shC ad (vR 5 104) cX5_readLines RX5 2) (hR : (∀ pc lv, narrow .boolean (.int r) = .int r → decode cX5_readLines pc = .ok (.ireturn, 1) → P t1 pc lv [.int r]))  : ∀ (n : Nat) (a1 : Int32) (s : vSt), gC_RoadReader_readLines_2 N n a1 s = some (r, t1) → P s 2 [(0, .ref (ad 16)), (1, .int a1)] [] := by
  intro n
  induction n with
  | zero => intro a1 s h; cases h
  | succ n ih =>
    intro a1 s h
    unfold gC_RoadReader_readLines_2 at h
    refine v_iload_n hX dX5_readLines_2 rfl 1 rfl ?_
    refine v_bipush (v := 76) hX dX5_readLines_3 (by decide) ?_
    refine v_icmp_gt (tgt := 54) hX dX5_readLines_5 (by decide) h (fun h => ?_) (fun h => ?_)
    · refine v_iconst (v := 0) hX dX5_readLines_54 (by decide) ?_
      exact v_retZ0 hR h dX5_readLines_55
    · refine v_aload_n hX dX5_readLines_8 rfl 0 rfl ?_
      obtain ⟨p1, hp1, h⟩ := bsome h
      refine v_callVI (o := 16) hX (mC_RoadReader_readLine hp1 l ad) kM_X5_readLine kV_X5_readLine km_5_46 (by decide) (fun _ => rfl) rfl rfl rfl (Nat.le_of_ble_eq_true rfl) (by decide) dX5_readLines_9 ?_
      refine v_if_ne (tgt := 17) hX dX5_readLines_12 (by decide) h (fun h => ?_) (fun h => ?_)
      · refine v_iconst (v := 0) hX dX5_readLines_15 (by decide) ?_
        exact v_retZ0 hR h dX5_readLines_16
      · refine v_aload_n hX dX5_readLines_17 rfl 0 rfl ?_
        obtain ⟨p2, hp2, h⟩ := bsome h
        refine v_callVI (o := 16) hX (mC_RoadReader_next hp2 l ad) kM_X5_next kV_X5_next km_5_49 (by decide) (fun _ => rfl) rfl rfl rfl (Nat.le_of_ble_eq_true rfl) (by decide) dX5_readLines_18 ?_
        refine v_iconst (v := (-1)) hX dX5_readLines_21 (by decide) ?_
        refine v_icmp_ne (tgt := 27) hX dX5_readLines_22 (by decide) h (fun h => ?_) (fun h => ?_)
        · refine v_iconst (v := 1) hX dX5_readLines_25 (by decide) ?_
          exact v_retZ1 hR h dX5_readLines_26
        · refine v_aload_n hX dX5_readLines_27 rfl 0 rfl ?_
          obtain ⟨p3, hp3, h⟩ := bsome h
          refine v_callVI (o := 16) hX (mC_RoadReader_next hp3 l ad) kM_X5_next kV_X5_next km_5_49 (by decide) (fun _ => rfl) rfl rfl rfl (Nat.le_of_ble_eq_true rfl) (by decide) dX5_readLines_28 ?_
          refine v_bipush (v := 59) hX dX5_readLines_31 (by decide) ?_
          refine v_icmp_eq (tgt := 38) hX dX5_readLines_33 (by decide) h (fun h => ?_) (fun h => ?_)
          · refine v_aload_n hX dX5_readLines_38 rfl 0 rfl ?_
            refine v_dup hX dX5_readLines_39 rfl ?_
            refine gfC_16_2 hX kf_5_25 dX5_readLines_40 ?_
            refine v_iconst (v := 1) hX dX5_readLines_43 (by decide) ?_
            refine v_iadd hX dX5_readLines_44 ?_
            refine pfC_16_2 hX kf_5_25 dX5_readLines_45 h (fun z4 h => ?_)
            refine v_iincN hX dX5_readLines_48 (j := 1) rfl (c := 1) (by decide) (by decide) h (fun v5 h => ?_)
            refine v_show (lv' := [(1, .int v5), (0, .ref (ad 16))]) hX rfl ?_
            refine v_goto (tgt := 2) hX dX5_readLines_51 (by decide) ?_
            exact v_sub hX [1, 0] (by rfl) (ih _ _ h)
          · refine v_iconst (v := 0) hX dX5_readLines_36 (by decide) ?_
            exact v_retZ0 hR h dX5_readLines_37
noncomputable def gC_RoadReader_readLines_0 (N : Nat)   (s : vSt) : Option (Int32 × vSt) :=
  gC_RoadReader_readLines_2 N N 0 s
set_option maxRecDepth 4000 in
theorem wC_RoadReader_readLines_0 {P : vP} {l : Launch} {ad : Nat → Nat} {N : Nat} {r : Int32} {t1 : vSt} (hX : vOK P l shC ad (vR 5 104) cX5_readLines RX5 2) (hR : (∀ pc lv, narrow .boolean (.int r) = .int r → decode cX5_readLines pc = .ok (.ireturn, 1) → P t1 pc lv [.int r]))   {s : vSt} (h : gC_RoadReader_readLines_0 N s = some (r, t1)) : P s 0 [(0, .ref (ad 16))] [] := by
  unfold gC_RoadReader_readLines_0 at h
  refine v_iconst (v := 0) hX dX5_readLines_0 (by decide) ?_
  refine v_istore_n (lv' := [(1, .int 0), (0, .ref (ad 16))]) hX dX5_readLines_1 rfl (by decide) rfl ?_
  exact v_sub hX [1, 0] (by rfl) (wC_RoadReader_readLines_2 hX hR  N _ _ h)
noncomputable def fC_RoadReader_readLines (N : Nat)  (s : vSt) : Option (Int32 × vSt) := gC_RoadReader_readLines_0 N s
theorem mC_RoadReader_readLines {N : Nat}  {s : vSt} {r : Int32} {t1 : vSt} (h : fC_RoadReader_readLines N s = some (r, t1)) (l : Launch) (ad : Nat → Nat) : vMI l shC ad yX5_readLines cX5_readLines 2 .boolean 5 104 s [.ref (ad 16)] r t1 :=
  vMI_of (by decide +kernel) (Nat.le_of_ble_eq_true rfl) (fun P hX hR => wC_RoadReader_readLines_0 hX hR h)
-- C_Roads_sortByHour
noncomputable def gC_Roads_sortByHour_58 (N : Nat) (r2 : Int32 → vSt → Option (vSt)) (a1 : Int32) (a2 : Int32) (s : vSt) : Option (vSt) :=
  (sto s 15 20 a2 a1).bind fun z1 =>
  (some (a1 + 1 : Int32)).bind fun v2 =>
  r2 v2 z1
set_option maxRecDepth 4000 in
theorem wC_Roads_sortByHour_58 {P : vP} {l : Launch} {ad : Nat → Nat} {N : Nat} {r2 : Int32 → vSt → Option (vSt)} {t1 : vSt} (hX : vOK P l shC ad (vR 0 0) cX6_sortByHour RX6 3) (hR : (∀ pc lv, decode cX6_sortByHour pc = .ok (.return_, 1) → P t1 pc lv [])) (H2 : ∀ (a1 : Int32) (s : vSt), r2 a1 s = some t1 → P s 2 [(0, .ref (ad 9)), (1, .int a1)] []) {a1 : Int32} {a2 : Int32} {s : vSt} (h : gC_Roads_sortByHour_58 N r2 a1 a2 s = some t1) : P s 58 [(0, .ref (ad 9)), (1, .int a1), (2, .int a2)] [] := by
  unfold gC_Roads_sortByHour_58 at h
  refine v_aload_n hX dX6_sortByHour_58 rfl 0 rfl ?_
  refine gfC_9_5 hX kf_6_27 dX6_sortByHour_59 ?_
  refine v_iload_n hX dX6_sortByHour_62 rfl 2 rfl ?_
  refine v_iload_n hX dX6_sortByHour_63 rfl 1 rfl ?_
  refine asC_15 hX dX6_sortByHour_64 h (fun z1 h => ?_)
  refine v_iincN hX dX6_sortByHour_65 (j := 1) rfl (c := 1) (by decide) (by decide) h (fun v2 h => ?_)
  refine v_show (lv' := [(1, .int v2), (0, .ref (ad 9)), (2, .int a2)]) hX rfl ?_
  refine v_goto (tgt := 2) hX dX6_sortByHour_68 (by decide) ?_
  exact v_sub hX [1, 0] (by rfl) (H2 _ _ h)
noncomputable def gC_Roads_sortByHour_12 (N : Nat) (r2 : Int32 → vSt → Option (vSt)) : Nat → Int32 → Int32 → vSt → Option (vSt)
  | 0, _, _, _ => none
  | n + 1, a1, a2, s =>
    if a2 ≤ 0 then
      gC_Roads_sortByHour_58 N r2 a1 a2 s
    else
      (ld s 15 20 (a2 - 1)).bind fun v1 =>
      (ld s 13 20 v1).bind fun v2 =>
      (ld s 13 20 a1).bind fun v3 =>
      if v2 ≤ v3 then
        gC_Roads_sortByHour_58 N r2 a1 a2 s
      else
        (ld s 15 20 (a2 - 1)).bind fun v4 =>
        (sto s 15 20 a2 v4).bind fun z5 =>
        (some (a2 + (-1) : Int32)).bind fun v6 =>
        gC_Roads_sortByHour_12 N r2 n a1 v6 z5
set_option maxRecDepth 4000 in
theorem wC_Roads_sortByHour_12 {P : vP} {l : Launch} {ad : Nat → Nat} {N : Nat} {r2 : Int32 → vSt → Option (vSt)} {t1 : vSt} (hX : vOK P l shC ad (vR 0 0) cX6_sortByHour RX6 3) (hR : (∀ pc lv, decode cX6_sortByHour pc = .ok (.return_, 1) → P t1 pc lv [])) (H2 : ∀ (a1 : Int32) (s : vSt), r2 a1 s = some t1 → P s 2 [(0, .ref (ad 9)), (1, .int a1)] []) : ∀ (n : Nat) (a1 : Int32) (a2 : Int32) (s : vSt), gC_Roads_sortByHour_12 N r2 n a1 a2 s = some t1 → P s 12 [(0, .ref (ad 9)), (1, .int a1), (2, .int a2)] [] := by
  intro n
  induction n with
  | zero => intro a1 a2 s h; cases h
  | succ n ih =>
    intro a1 a2 s h
    unfold gC_Roads_sortByHour_12 at h
    refine v_iload_n hX dX6_sortByHour_12 rfl 2 rfl ?_
    refine v_if_le (tgt := 58) hX dX6_sortByHour_13 (by decide) h (fun h => ?_) (fun h => ?_)
    · exact v_sub hX [0, 1, 2] (by rfl) (wC_Roads_sortByHour_58 hX hR H2 h)
    · refine v_aload_n hX dX6_sortByHour_16 rfl 0 rfl ?_
      refine gfC_9_3 hX kf_6_21 dX6_sortByHour_17 ?_
      refine v_aload_n hX dX6_sortByHour_20 rfl 0 rfl ?_
      refine gfC_9_5 hX kf_6_27 dX6_sortByHour_21 ?_
      refine v_iload_n hX dX6_sortByHour_24 rfl 2 rfl ?_
      refine v_iconst (v := 1) hX dX6_sortByHour_25 (by decide) ?_
      refine v_isub hX dX6_sortByHour_26 ?_
      refine alC_15 hX dX6_sortByHour_27 h (fun v1 h => ?_)
      refine alC_13 hX dX6_sortByHour_28 h (fun v2 h => ?_)
      refine v_aload_n hX dX6_sortByHour_29 rfl 0 rfl ?_
      refine gfC_9_3 hX kf_6_21 dX6_sortByHour_30 ?_
      refine v_iload_n hX dX6_sortByHour_33 rfl 1 rfl ?_
      refine alC_13 hX dX6_sortByHour_34 h (fun v3 h => ?_)
      refine v_icmp_le (tgt := 58) hX dX6_sortByHour_35 (by decide) h (fun h => ?_) (fun h => ?_)
      · exact v_sub hX [0, 1, 2] (by rfl) (wC_Roads_sortByHour_58 hX hR H2 h)
      · refine v_aload_n hX dX6_sortByHour_38 rfl 0 rfl ?_
        refine gfC_9_5 hX kf_6_27 dX6_sortByHour_39 ?_
        refine v_iload_n hX dX6_sortByHour_42 rfl 2 rfl ?_
        refine v_aload_n hX dX6_sortByHour_43 rfl 0 rfl ?_
        refine gfC_9_5 hX kf_6_27 dX6_sortByHour_44 ?_
        refine v_iload_n hX dX6_sortByHour_47 rfl 2 rfl ?_
        refine v_iconst (v := 1) hX dX6_sortByHour_48 (by decide) ?_
        refine v_isub hX dX6_sortByHour_49 ?_
        refine alC_15 hX dX6_sortByHour_50 h (fun v4 h => ?_)
        refine asC_15 hX dX6_sortByHour_51 h (fun z5 h => ?_)
        refine v_iincN hX dX6_sortByHour_52 (j := 2) rfl (c := (-1)) (by decide) (by decide) h (fun v6 h => ?_)
        refine v_show (lv' := [(2, .int v6), (0, .ref (ad 9)), (1, .int a1)]) hX rfl ?_
        refine v_goto (tgt := 12) hX dX6_sortByHour_55 (by decide) ?_
        exact v_sub hX [1, 2, 0] (by rfl) (ih _ _ _ h)
noncomputable def gC_Roads_sortByHour_2 (N : Nat)  : Nat → Int32 → vSt → Option (vSt)
  | 0, _, _ => none
  | n + 1, a1, s =>
    if (s.1 9 7) ≤ a1 then
      some s
    else
      gC_Roads_sortByHour_12 N (gC_Roads_sortByHour_2 N n) N a1 a1 s
set_option maxRecDepth 4000 in
theorem wC_Roads_sortByHour_2 {P : vP} {l : Launch} {ad : Nat → Nat} {N : Nat} {t1 : vSt} (hX : vOK P l shC ad (vR 0 0) cX6_sortByHour RX6 3) (hR : (∀ pc lv, decode cX6_sortByHour pc = .ok (.return_, 1) → P t1 pc lv []))  : ∀ (n : Nat) (a1 : Int32) (s : vSt), gC_Roads_sortByHour_2 N n a1 s = some t1 → P s 2 [(0, .ref (ad 9)), (1, .int a1)] [] := by
  intro n
  induction n with
  | zero => intro a1 s h; cases h
  | succ n ih =>
    intro a1 s h
    unfold gC_Roads_sortByHour_2 at h
    refine v_iload_n hX dX6_sortByHour_2 rfl 1 rfl ?_
    refine v_aload_n hX dX6_sortByHour_3 rfl 0 rfl ?_
    refine gfC_9_7 hX kf_6_34 dX6_sortByHour_4 ?_
    refine v_icmp_ge (tgt := 71) hX dX6_sortByHour_7 (by decide) h (fun h => ?_) (fun h => ?_)
    · exact v_retV hR h dX6_sortByHour_71
    · refine v_iload_n hX dX6_sortByHour_10 rfl 1 rfl ?_
      refine v_istore_n (lv' := [(2, .int a1), (0, .ref (ad 9)), (1, .int a1)]) hX dX6_sortByHour_11 rfl (by decide) rfl ?_
      exact v_sub hX [1, 2, 0] (by rfl) (wC_Roads_sortByHour_12 hX hR ih N _ _ _ h)
noncomputable def gC_Roads_sortByHour_0 (N : Nat)   (s : vSt) : Option (vSt) :=
  gC_Roads_sortByHour_2 N N 0 s
set_option maxRecDepth 4000 in
theorem wC_Roads_sortByHour_0 {P : vP} {l : Launch} {ad : Nat → Nat} {N : Nat} {t1 : vSt} (hX : vOK P l shC ad (vR 0 0) cX6_sortByHour RX6 3) (hR : (∀ pc lv, decode cX6_sortByHour pc = .ok (.return_, 1) → P t1 pc lv []))   {s : vSt} (h : gC_Roads_sortByHour_0 N s = some t1) : P s 0 [(0, .ref (ad 9))] [] := by
  unfold gC_Roads_sortByHour_0 at h
  refine v_iconst (v := 0) hX dX6_sortByHour_0 (by decide) ?_
  refine v_istore_n (lv' := [(1, .int 0), (0, .ref (ad 9))]) hX dX6_sortByHour_1 rfl (by decide) rfl ?_
  exact v_sub hX [1, 0] (by rfl) (wC_Roads_sortByHour_2 hX hR  N _ _ h)
noncomputable def fC_Roads_sortByHour (N : Nat)  (s : vSt) : Option (vSt) := gC_Roads_sortByHour_0 N s
theorem mC_Roads_sortByHour {N : Nat}  {s : vSt} {t1 : vSt} (h : fC_Roads_sortByHour N s = some t1) (l : Launch) (ad : Nat → Nat) : vMV l shC ad yX6_sortByHour cX6_sortByHour 3 0 0 s [.ref (ad 9)] t1 :=
  vMV_of (by decide +kernel) (Nat.le_of_ble_eq_true rfl) (fun P hX hR => wC_Roads_sortByHour_0 hX hR h)
-- C_Roads_grow
noncomputable def gC_Roads_grow_0 (N : Nat)  (a1 : Int32) (a2 : Int32) (s : vSt) : Option (vSt) :=
  (some (s1 s 9 6 a1)).bind fun z1 =>
  (some (s1 z1 9 7 a2)).bind fun z2 =>
  (fC_Roads_sortByHour N z2).bind fun z3 =>
  some z3
set_option maxRecDepth 4000 in
theorem wC_Roads_grow_0 {P : vP} {l : Launch} {ad : Nat → Nat} {N : Nat} {t1 : vSt} (hX : vOK P l shC ad (vR 1 22) cX6_grow RX6 3) (hR : (∀ pc lv, decode cX6_grow pc = .ok (.return_, 1) → P t1 pc lv []))  {a1 : Int32} {a2 : Int32} {s : vSt} (h : gC_Roads_grow_0 N a1 a2 s = some t1) : P s 0 [(0, .ref (ad 9)), (1, .int a1), (2, .int a2)] [] := by
  unfold gC_Roads_grow_0 at h
  refine v_aload_n hX dX6_grow_0 rfl 0 rfl ?_
  refine v_iload_n hX dX6_grow_1 rfl 1 rfl ?_
  refine pfC_9_6 hX kf_6_30 dX6_grow_2 h (fun z1 h => ?_)
  refine v_aload_n hX dX6_grow_5 rfl 0 rfl ?_
  refine v_iload_n hX dX6_grow_6 rfl 2 rfl ?_
  refine pfC_9_7 hX kf_6_34 dX6_grow_7 h (fun z2 h => ?_)
  refine v_aload_n hX dX6_grow_10 rfl 0 rfl ?_
  obtain ⟨z3, hz3, h⟩ := bsome h
  refine v_callVV (o := 9) hX (mC_Roads_sortByHour hz3 l ad) kM_X6_sortByHour kV_X6_sortByHour km_6_41 (by decide) (fun _ => rfl) rfl rfl rfl (Nat.le_of_ble_eq_true rfl) (by decide) dX6_grow_11 ?_
  exact v_retV hR h dX6_grow_14
noncomputable def fC_Roads_grow (N : Nat) (a1 : Int32) (a2 : Int32) (s : vSt) : Option (vSt) := gC_Roads_grow_0 N a1 a2 s
theorem mC_Roads_grow {N : Nat} {a1 : Int32} {a2 : Int32} {s : vSt} {t1 : vSt} (h : fC_Roads_grow N a1 a2 s = some t1) (l : Launch) (ad : Nat → Nat) : vMV l shC ad yX6_grow cX6_grow 3 1 22 s [.ref (ad 9), .int a1, .int a2] t1 :=
  vMV_of (by decide +kernel) (Nat.le_of_ble_eq_true rfl) (fun P hX hR => wC_Roads_grow_0 hX hR h)
-- C_RoadReader_readText
noncomputable def gC_RoadReader_readText_60 (N : Nat)   (s : vSt) : Option (Int32 × vSt) :=
  some (((-1) : Int32) - (s.1 16 2), s)
set_option maxRecDepth 4000 in
theorem wC_RoadReader_readText_60 {P : vP} {l : Launch} {ad : Nat → Nat} {N : Nat} {r : Int32} {t1 : vSt} (hX : vOK P l shC ad (vR 6 125) cX5_readText RX5 2) (hR : (∀ pc lv, narrow .int (.int r) = .int r → decode cX5_readText pc = .ok (.ireturn, 1) → P t1 pc lv [.int r]))   {s : vSt} (h : gC_RoadReader_readText_60 N s = some (r, t1)) : P s 60 [(0, .ref (ad 16))] [] := by
  unfold gC_RoadReader_readText_60 at h
  refine v_iconst (v := (-1)) hX dX5_readText_60 (by decide) ?_
  refine v_aload_n hX dX5_readText_61 rfl 0 rfl ?_
  refine gfC_16_2 hX kf_5_25 dX5_readText_62 ?_
  refine v_isub hX dX5_readText_65 ?_
  exact v_retI hR h dX5_readText_66
noncomputable def gC_RoadReader_readText_0 (N : Nat)   (s : vSt) : Option (Int32 × vSt) :=
  if (s.1 1 1) = 0 then
    some (0, s)
  else
    (some (s1 s 16 2 0)).bind fun z1 =>
    (some (s1 z1 16 3 (z1.1 9 6))).bind fun z2 =>
    (some (s1 z2 16 4 (z2.1 9 7))).bind fun z3 =>
    (fC_RoadReader_readLines N z3).bind fun p4 =>
    if p4.1 = 0 then
      gC_RoadReader_readText_60 N p4.2
    else
      if (p4.2.1 1 1) ≤ (p4.2.1 16 2) then
        (some ((((p4.2.1 16 3) - (p4.2.1 9 6)) + (p4.2.1 16 4)) - (p4.2.1 9 7) : Int32)).bind fun v5 =>
        (fC_Roads_grow N (p4.2.1 16 3) (p4.2.1 16 4) p4.2).bind fun z6 =>
        some (v5, z6)
      else
        gC_RoadReader_readText_60 N p4.2
set_option maxRecDepth 4000 in
theorem wC_RoadReader_readText_0 {P : vP} {l : Launch} {ad : Nat → Nat} {N : Nat} {r : Int32} {t1 : vSt} (hX : vOK P l shC ad (vR 6 125) cX5_readText RX5 2) (hR : (∀ pc lv, narrow .int (.int r) = .int r → decode cX5_readText pc = .ok (.ireturn, 1) → P t1 pc lv [.int r]))   {s : vSt} (h : gC_RoadReader_readText_0 N s = some (r, t1)) : P s 0 [(0, .ref (ad 16))] [] := by
  unfold gC_RoadReader_readText_0 at h
  refine v_aload_n hX dX5_readText_0 rfl 0 rfl ?_
  refine gfC_16_0 hX kf_5_9 dX5_readText_1 ?_
  refine gfC_1_1 hX kf_5_19 dX5_readText_4 ?_
  refine v_if_ne (tgt := 12) hX dX5_readText_7 (by decide) h (fun h => ?_) (fun h => ?_)
  · refine v_iconst (v := 0) hX dX5_readText_10 (by decide) ?_
    exact v_retI hR h dX5_readText_11
  · refine v_aload_n hX dX5_readText_12 rfl 0 rfl ?_
    refine v_iconst (v := 0) hX dX5_readText_13 (by decide) ?_
    refine pfC_16_2 hX kf_5_25 dX5_readText_14 h (fun z1 h => ?_)
    refine v_aload_n hX dX5_readText_17 rfl 0 rfl ?_
    refine v_aload_n hX dX5_readText_18 rfl 0 rfl ?_
    refine gfC_16_1 hX kf_5_15 dX5_readText_19 ?_
    refine gfC_9_6 hX kf_5_28 dX5_readText_22 ?_
    refine pfC_16_3 hX kf_5_33 dX5_readText_25 h (fun z2 h => ?_)
    refine v_aload_n hX dX5_readText_28 rfl 0 rfl ?_
    refine v_aload_n hX dX5_readText_29 rfl 0 rfl ?_
    refine gfC_16_1 hX kf_5_15 dX5_readText_30 ?_
    refine gfC_9_7 hX kf_5_34 dX5_readText_33 ?_
    refine pfC_16_4 hX kf_5_37 dX5_readText_36 h (fun z3 h => ?_)
    refine v_aload_n hX dX5_readText_39 rfl 0 rfl ?_
    obtain ⟨p4, hp4, h⟩ := bsome h
    refine v_callVI (o := 16) hX (mC_RoadReader_readLines hp4 l ad) kM_X5_readLines kV_X5_readLines km_5_38 (by decide) (fun _ => rfl) rfl rfl rfl (Nat.le_of_ble_eq_true rfl) (by decide) dX5_readText_40 ?_
    refine v_if_eq (tgt := 60) hX dX5_readText_43 (by decide) h (fun h => ?_) (fun h => ?_)
    · exact v_sub hX [0] (by rfl) (wC_RoadReader_readText_60 hX hR  h)
    · refine v_aload_n hX dX5_readText_46 rfl 0 rfl ?_
      refine gfC_16_2 hX kf_5_25 dX5_readText_47 ?_
      refine v_aload_n hX dX5_readText_50 rfl 0 rfl ?_
      refine gfC_16_0 hX kf_5_9 dX5_readText_51 ?_
      refine gfC_1_1 hX kf_5_19 dX5_readText_54 ?_
      refine v_icmp_ge (tgt := 67) hX dX5_readText_57 (by decide) h (fun h => ?_) (fun h => ?_)
      · refine v_aload_n hX dX5_readText_67 rfl 0 rfl ?_
        refine gfC_16_3 hX kf_5_33 dX5_readText_68 ?_
        refine v_aload_n hX dX5_readText_71 rfl 0 rfl ?_
        refine gfC_16_1 hX kf_5_15 dX5_readText_72 ?_
        refine gfC_9_6 hX kf_5_28 dX5_readText_75 ?_
        refine v_isub hX dX5_readText_78 ?_
        refine v_aload_n hX dX5_readText_79 rfl 0 rfl ?_
        refine gfC_16_4 hX kf_5_37 dX5_readText_80 ?_
        refine v_iadd hX dX5_readText_83 ?_
        refine v_aload_n hX dX5_readText_84 rfl 0 rfl ?_
        refine gfC_16_1 hX kf_5_15 dX5_readText_85 ?_
        refine gfC_9_7 hX kf_5_34 dX5_readText_88 ?_
        refine v_isub hX dX5_readText_91 ?_
        refine v_nmI hX h (fun v5 h => ?_)
        refine v_istore_n (lv' := [(1, .int v5), (0, .ref (ad 16))]) hX dX5_readText_92 rfl (by decide) rfl ?_
        refine v_aload_n hX dX5_readText_93 rfl 1 rfl ?_
        refine gfC_16_1 hX kf_5_15 dX5_readText_94 ?_
        refine v_aload_n hX dX5_readText_97 rfl 1 rfl ?_
        refine gfC_16_3 hX kf_5_33 dX5_readText_98 ?_
        refine v_aload_n hX dX5_readText_101 rfl 1 rfl ?_
        refine gfC_16_4 hX kf_5_37 dX5_readText_102 ?_
        obtain ⟨z6, hz6, h⟩ := bsome h
        refine v_callVV (o := 9) hX (mC_Roads_grow hz6 l ad) kM_X6_grow kV_X6_grow km_5_42 (by decide) (fun _ => rfl) rfl rfl rfl (Nat.le_of_ble_eq_true rfl) (by decide) dX5_readText_105 ?_
        refine v_iload_n hX dX5_readText_108 rfl 0 rfl ?_
        exact v_retI hR h dX5_readText_109
      · exact v_sub hX [0] (by rfl) (wC_RoadReader_readText_60 hX hR  h)
noncomputable def fC_RoadReader_readText (N : Nat)  (s : vSt) : Option (Int32 × vSt) := gC_RoadReader_readText_0 N s
theorem mC_RoadReader_readText {N : Nat}  {s : vSt} {r : Int32} {t1 : vSt} (h : fC_RoadReader_readText N s = some (r, t1)) (l : Launch) (ad : Nat → Nat) : vMI l shC ad yX5_readText cX5_readText 2 .int 6 125 s [.ref (ad 16)] r t1 :=
  vMI_of (by decide +kernel) (Nat.le_of_ble_eq_true rfl) (fun P hX hR => wC_RoadReader_readText_0 hX hR h)
-- C_Text_clear
noncomputable def gC_Text_clear_0 (N : Nat)   (s : vSt) : Option (vSt) :=
  (some (s1 s 1 1 0)).bind fun z1 =>
  some z1
set_option maxRecDepth 4000 in
theorem wC_Text_clear_0 {P : vP} {l : Launch} {ad : Nat → Nat} {N : Nat} {t1 : vSt} (hX : vOK P l shC ad (vR 0 0) cX10_clear RX10 1) (hR : (∀ pc lv, decode cX10_clear pc = .ok (.return_, 1) → P t1 pc lv []))   {s : vSt} (h : gC_Text_clear_0 N s = some t1) : P s 0 [(0, .ref (ad 1))] [] := by
  unfold gC_Text_clear_0 at h
  refine v_aload_n hX dX10_clear_0 rfl 0 rfl ?_
  refine v_iconst (v := 0) hX dX10_clear_1 (by decide) ?_
  refine pfC_1_1 hX kf_10_15 dX10_clear_2 h (fun z1 h => ?_)
  exact v_retV hR h dX10_clear_5
noncomputable def fC_Text_clear (N : Nat)  (s : vSt) : Option (vSt) := gC_Text_clear_0 N s
theorem mC_Text_clear {N : Nat}  {s : vSt} {t1 : vSt} (h : fC_Text_clear N s = some t1) (l : Launch) (ad : Nat → Nat) : vMV l shC ad yX10_clear cX10_clear 1 0 0 s [.ref (ad 1)] t1 :=
  vMV_of (by decide +kernel) (Nat.le_of_ble_eq_true rfl) (fun P hX hR => wC_Text_clear_0 hX hR h)
-- C_EachAddsALine_roads
noncomputable def gC_EachAddsALine_roads_0 (N : Nat)   (s : vSt) : Option (Int32 × vSt) :=
  (fC_RoadReader_readText N s).bind fun p1 =>
  (fC_Text_clear N p1.2).bind fun z2 =>
  some (p1.1, z2)
set_option maxRecDepth 4000 in
theorem wC_EachAddsALine_roads_0 {P : vP} {l : Launch} {ad : Nat → Nat} {N : Nat} {r : Int32} {t1 : vSt} (hX : vOK P l shC ad (vR 7 146) cX11_roads RX11 2) (hR : (∀ pc lv, narrow .int (.int r) = .int r → decode cX11_roads pc = .ok (.ireturn, 1) → P t1 pc lv [.int r]))   {s : vSt} (h : gC_EachAddsALine_roads_0 N s = some (r, t1)) : P s 0 [(0, .ref (ad 0))] [] := by
  unfold gC_EachAddsALine_roads_0 at h
  refine v_aload_n hX dX11_roads_0 rfl 0 rfl ?_
  refine gfC_0_3 hX kf_11_35 dX11_roads_1 ?_
  obtain ⟨p1, hp1, h⟩ := bsome h
  refine v_callVI (o := 16) hX (mC_RoadReader_readText hp1 l ad) kM_X5_readText kV_X5_readText km_11_106 (by decide) (fun _ => rfl) rfl rfl rfl (Nat.le_of_ble_eq_true rfl) (by decide) dX11_roads_4 ?_
  refine v_istore_n (lv' := [(1, .int p1.1), (0, .ref (ad 0))]) hX dX11_roads_7 rfl (by decide) rfl ?_
  refine v_aload_n hX dX11_roads_8 rfl 1 rfl ?_
  refine gfC_0_0 hX kf_11_12 dX11_roads_9 ?_
  obtain ⟨z2, hz2, h⟩ := bsome h
  refine v_callVV (o := 1) hX (mC_Text_clear hz2 l ad) kM_X10_clear kV_X10_clear km_11_110 (by decide) (fun _ => rfl) rfl rfl rfl (Nat.le_of_ble_eq_true rfl) (by decide) dX11_roads_12 ?_
  refine v_iload_n hX dX11_roads_15 rfl 0 rfl ?_
  exact v_retI hR h dX11_roads_16
noncomputable def fC_EachAddsALine_roads (N : Nat)  (s : vSt) : Option (Int32 × vSt) := gC_EachAddsALine_roads_0 N s
theorem mC_EachAddsALine_roads {N : Nat}  {s : vSt} {r : Int32} {t1 : vSt} (h : fC_EachAddsALine_roads N s = some (r, t1)) (l : Launch) (ad : Nat → Nat) : vMI l shC ad yX11_roads cX11_roads 2 .int 7 146 s [.ref (ad 0)] r t1 :=
  vMI_of (by decide +kernel) (Nat.le_of_ble_eq_true rfl) (fun P hX hR => wC_EachAddsALine_roads_0 hX hR h)
-- C_RuleReader_emit
noncomputable def gC_RuleReader_emit_0 (N : Nat)  (a1 : Int32) (s : vSt) : Option (vSt) :=
  if 40 ≤ (s.1 21 3) then
    some s
  else
    (sto s 22 40 (s.1 21 3) a1).bind fun z1 =>
    (some (s1 z1 21 3 ((z1.1 21 3) + 1))).bind fun z2 =>
    some z2
set_option maxRecDepth 4000 in
theorem wC_RuleReader_emit_0 {P : vP} {l : Launch} {ad : Nat → Nat} {N : Nat} {t1 : vSt} (hX : vOK P l shC ad (vR 0 0) cX8_emit RX8 2) (hR : (∀ pc lv, decode cX8_emit pc = .ok (.return_, 1) → P t1 pc lv []))  {a1 : Int32} {s : vSt} (h : gC_RuleReader_emit_0 N a1 s = some t1) : P s 0 [(0, .ref (ad 21)), (1, .int a1)] [] := by
  unfold gC_RuleReader_emit_0 at h
  refine v_aload_n hX dX8_emit_0 rfl 0 rfl ?_
  refine gfC_21_3 hX kf_8_27 dX8_emit_1 ?_
  refine v_aload_n hX dX8_emit_4 rfl 0 rfl ?_
  refine gfC_21_2 hX kf_8_9 dX8_emit_5 ?_
  refine v_alen (o := 22) (n := 40) (ct := 0) (v := 40) hX (by decide) (fun _ => rfl) (fun _ => rfl) (by decide) dX8_emit_8 ?_
  refine v_icmp_ge (tgt := 32) hX dX8_emit_9 (by decide) h (fun h => ?_) (fun h => ?_)
  · exact v_retV hR h dX8_emit_32
  · refine v_aload_n hX dX8_emit_12 rfl 0 rfl ?_
    refine gfC_21_2 hX kf_8_9 dX8_emit_13 ?_
    refine v_aload_n hX dX8_emit_16 rfl 0 rfl ?_
    refine gfC_21_3 hX kf_8_27 dX8_emit_17 ?_
    refine v_iload_n hX dX8_emit_20 rfl 1 rfl ?_
    refine asC_22 hX dX8_emit_21 h (fun z1 h => ?_)
    refine v_aload_n hX dX8_emit_22 rfl 0 rfl ?_
    refine v_dup hX dX8_emit_23 rfl ?_
    refine gfC_21_3 hX kf_8_27 dX8_emit_24 ?_
    refine v_iconst (v := 1) hX dX8_emit_27 (by decide) ?_
    refine v_iadd hX dX8_emit_28 ?_
    refine pfC_21_3 hX kf_8_27 dX8_emit_29 h (fun z2 h => ?_)
    exact v_retV hR h dX8_emit_32
noncomputable def fC_RuleReader_emit (N : Nat) (a1 : Int32) (s : vSt) : Option (vSt) := gC_RuleReader_emit_0 N a1 s
theorem mC_RuleReader_emit {N : Nat} {a1 : Int32} {s : vSt} {t1 : vSt} (h : fC_RuleReader_emit N a1 s = some t1) (l : Launch) (ad : Nat → Nat) : vMV l shC ad yX8_emit cX8_emit 2 0 0 s [.ref (ad 21), .int a1] t1 :=
  vMV_of (by decide +kernel) (Nat.le_of_ble_eq_true rfl) (fun P hX hR => wC_RuleReader_emit_0 hX hR h)
-- C_RuleReader_next
noncomputable def gC_RuleReader_next_0 (N : Nat)   (s : vSt) : Option (Int32 × vSt) :=
  if 40 ≤ (s.1 21 4) then
    some ((-1), s)
  else
    (fC_Text_signAt N (s.1 21 4) s).bind fun p1 =>
    some (p1.1, p1.2)
set_option maxRecDepth 4000 in
theorem wC_RuleReader_next_0 {P : vP} {l : Launch} {ad : Nat → Nat} {N : Nat} {r : Int32} {t1 : vSt} (hX : vOK P l shC ad (vR 1 21) cX8_next RX8 1) (hR : (∀ pc lv, narrow .int (.int r) = .int r → decode cX8_next pc = .ok (.ireturn, 1) → P t1 pc lv [.int r]))   {s : vSt} (h : gC_RuleReader_next_0 N s = some (r, t1)) : P s 0 [(0, .ref (ad 21))] [] := by
  unfold gC_RuleReader_next_0 at h
  refine v_aload_n hX dX8_next_0 rfl 0 rfl ?_
  refine gfC_21_4 hX kf_8_23 dX8_next_1 ?_
  refine v_bipush (v := 40) hX dX8_next_4 (by decide) ?_
  refine v_icmp_ge (tgt := 23) hX dX8_next_6 (by decide) h (fun h => ?_) (fun h => ?_)
  · refine v_iconst (v := (-1)) hX dX8_next_23 (by decide) ?_
    exact v_retI hR h dX8_next_24
  · refine v_aload_n hX dX8_next_9 rfl 0 rfl ?_
    refine gfC_21_0 hX kf_8_15 dX8_next_10 ?_
    refine v_aload_n hX dX8_next_13 rfl 0 rfl ?_
    refine gfC_21_4 hX kf_8_23 dX8_next_14 ?_
    obtain ⟨p1, hp1, h⟩ := bsome h
    refine v_callVI (o := 1) hX (mC_Text_signAt hp1 l ad) kM_X10_signAt kV_X10_signAt km_8_49 (by decide) (fun _ => rfl) rfl rfl rfl (Nat.le_of_ble_eq_true rfl) (by decide) dX8_next_17 ?_
    refine v_goto (tgt := 24) hX dX8_next_20 (by decide) ?_
    exact v_retI hR h dX8_next_24
noncomputable def fC_RuleReader_next (N : Nat)  (s : vSt) : Option (Int32 × vSt) := gC_RuleReader_next_0 N s
theorem mC_RuleReader_next {N : Nat}  {s : vSt} {r : Int32} {t1 : vSt} (h : fC_RuleReader_next N s = some (r, t1)) (l : Launch) (ad : Nat → Nat) : vMI l shC ad yX8_next cX8_next 1 .int 1 21 s [.ref (ad 21)] r t1 :=
  vMI_of (by decide +kernel) (Nat.le_of_ble_eq_true rfl) (fun P hX hR => wC_RuleReader_next_0 hX hR h)
-- C_RuleReader_readBraced
noncomputable def gC_RuleReader_readBraced_0 (N : Nat) (rE : Int32 → vSt → Option (Int32 × vSt))  (a1 : Int32) (s : vSt) : Option (Int32 × vSt) :=
  if a1 < 4 then
    (some (s1 s 21 4 ((s.1 21 4) + 1))).bind fun z1 =>
    (rE (a1 + 1) z1).bind fun p2 =>
    if p2.1 = 0 then
      some (0, p2.2)
    else
      (fC_RuleReader_next N p2.2).bind fun p3 =>
      if p3.1 = 41 then
        (some (s1 p3.2 21 4 ((p3.2.1 21 4) + 1))).bind fun z4 =>
        some (1, z4)
      else
        some (0, p3.2)
  else
    some (0, s)
set_option maxRecDepth 4000 in
theorem wC_RuleReader_readBraced_0 {P : vP} {l : Launch} {ad : Nat → Nat} {N : Nat} {rE : Int32 → vSt → Option (Int32 × vSt)} {fE nE : Nat} {r : Int32} {t1 : vSt} (HE : ∀ a s r t, rE a s = some (r, t) → vMI l shC ad yX8_readExpression cX8_readExpression 3 .boolean fE nE s [.ref (ad 21), .int a] r t) (hX : vOK P l shC ad (vR (fE + 2) (nE + 41)) cX8_readBraced RX8 2) (hR : (∀ pc lv, narrow .boolean (.int r) = .int r → decode cX8_readBraced pc = .ok (.ireturn, 1) → P t1 pc lv [.int r]))  {a1 : Int32} {s : vSt} (h : gC_RuleReader_readBraced_0 N rE a1 s = some (r, t1)) : P s 0 [(0, .ref (ad 21)), (1, .int a1)] [] := by
  unfold gC_RuleReader_readBraced_0 at h
  refine v_iload_n hX dX8_readBraced_0 rfl 1 rfl ?_
  refine v_iconst (v := 4) hX dX8_readBraced_1 (by decide) ?_
  refine v_icmp_lt (tgt := 7) hX dX8_readBraced_2 (by decide) h (fun h => ?_) (fun h => ?_)
  · refine v_aload_n hX dX8_readBraced_7 rfl 0 rfl ?_
    refine v_dup hX dX8_readBraced_8 rfl ?_
    refine gfC_21_4 hX kf_8_23 dX8_readBraced_9 ?_
    refine v_iconst (v := 1) hX dX8_readBraced_12 (by decide) ?_
    refine v_iadd hX dX8_readBraced_13 ?_
    refine pfC_21_4 hX kf_8_23 dX8_readBraced_14 h (fun z1 h => ?_)
    refine v_aload_n hX dX8_readBraced_17 rfl 0 rfl ?_
    refine v_iload_n hX dX8_readBraced_18 rfl 1 rfl ?_
    refine v_iconst (v := 1) hX dX8_readBraced_19 (by decide) ?_
    refine v_iadd hX dX8_readBraced_20 ?_
    obtain ⟨p2, hp2, h⟩ := bsome h
    refine v_callVI (o := 21) hX (HE _ _ _ _ hp2) kM_X8_readExpression kV_X8_readExpression km_8_35 (by decide) (fun _ => rfl) rfl rfl rfl (Nat.le_of_ble_eq_true rfl) ⟨by show _ ≤ _; unfold vR; simp only []; omega, by show _ ≤ _; unfold vR; simp only []; omega⟩ dX8_readBraced_21 ?_
    refine v_if_eq (tgt := 36) hX dX8_readBraced_24 (by decide) h (fun h => ?_) (fun h => ?_)
    · refine v_iconst (v := 0) hX dX8_readBraced_36 (by decide) ?_
      exact v_retZ0 hR h dX8_readBraced_37
    · refine v_aload_n hX dX8_readBraced_27 rfl 0 rfl ?_
      obtain ⟨p3, hp3, h⟩ := bsome h
      refine v_callVI (o := 21) hX (mC_RuleReader_next hp3 l ad) kM_X8_next kV_X8_next km_8_56 (by decide) (fun _ => rfl) rfl rfl rfl (Nat.le_of_ble_eq_true rfl) ⟨by show _ ≤ _; unfold vR; simp only []; omega, by show _ ≤ _; unfold vR; simp only []; omega⟩ dX8_readBraced_28 ?_
      refine v_bipush (v := 41) hX dX8_readBraced_31 (by decide) ?_
      refine v_icmp_eq (tgt := 38) hX dX8_readBraced_33 (by decide) h (fun h => ?_) (fun h => ?_)
      · refine v_aload_n hX dX8_readBraced_38 rfl 0 rfl ?_
        refine v_dup hX dX8_readBraced_39 rfl ?_
        refine gfC_21_4 hX kf_8_23 dX8_readBraced_40 ?_
        refine v_iconst (v := 1) hX dX8_readBraced_43 (by decide) ?_
        refine v_iadd hX dX8_readBraced_44 ?_
        refine pfC_21_4 hX kf_8_23 dX8_readBraced_45 h (fun z4 h => ?_)
        refine v_iconst (v := 1) hX dX8_readBraced_48 (by decide) ?_
        exact v_retZ1 hR h dX8_readBraced_49
      · refine v_iconst (v := 0) hX dX8_readBraced_36 (by decide) ?_
        exact v_retZ0 hR h dX8_readBraced_37
  · refine v_iconst (v := 0) hX dX8_readBraced_5 (by decide) ?_
    exact v_retZ0 hR h dX8_readBraced_6
noncomputable def fC_RuleReader_readBraced (N : Nat) (rE : Int32 → vSt → Option (Int32 × vSt)) (a1 : Int32) (s : vSt) : Option (Int32 × vSt) := gC_RuleReader_readBraced_0 N rE a1 s
theorem mC_RuleReader_readBraced {l : Launch} {ad : Nat → Nat} {N : Nat} {rE : Int32 → vSt → Option (Int32 × vSt)} {fE nE : Nat} (HE : ∀ a s r t, rE a s = some (r, t) → vMI l shC ad yX8_readExpression cX8_readExpression 3 .boolean fE nE s [.ref (ad 21), .int a] r t)  {a1 : Int32} {s : vSt} {r : Int32} {t1 : vSt} (h : fC_RuleReader_readBraced N rE a1 s = some (r, t1)) : vMI l shC ad yX8_readBraced cX8_readBraced 2 .boolean (fE + 2) (nE + 41) s [.ref (ad 21), .int a1] r t1 :=
  vMI_of (by decide +kernel) (Nat.le_of_ble_eq_true rfl) (fun P hX hR => wC_RuleReader_readBraced_0 HE hX hR h)
-- C_RuleReader_factOf
noncomputable def gC_RuleReader_factOf_0 (N : Nat)  (a0 : Int32) (s : vSt) : Option (Int32 × vSt) :=
  if a0 = 102 then
    some (4, s)
  else
  if a0 = 103 then
    some (1, s)
  else
  if a0 = 104 then
    some (2, s)
  else
  if a0 = 105 then
    some (0, s)
  else
  if a0 = 106 then
    some ((-1), s)
  else
  if a0 = 107 then
    some ((-1), s)
  else
  if a0 = 108 then
    some (5, s)
  else
  if a0 = 109 then
    some ((-1), s)
  else
  if a0 = 110 then
    some (3, s)
  else
  if a0 = 111 then
    some ((-1), s)
  else
  if a0 = 112 then
    some ((-1), s)
  else
  if a0 = 113 then
    some ((-1), s)
  else
  if a0 = 114 then
    some ((-1), s)
  else
  if a0 = 115 then
    some (6, s)
  else
  if a0 < 102 ∨ 115 < a0 then
    some ((-1), s)
  else none
set_option maxRecDepth 4000 in
theorem wC_RuleReader_factOf_0 {P : vP} {l : Launch} {ad : Nat → Nat} {N : Nat} {r : Int32} {t1 : vSt} (hX : vOK P l shC ad (vR 0 0) cX8_factOf RX8 1) (hR : (∀ pc lv, narrow .int (.int r) = .int r → decode cX8_factOf pc = .ok (.ireturn, 1) → P t1 pc lv [.int r]))  {a0 : Int32} {s : vSt} (h : gC_RuleReader_factOf_0 N a0 s = some (r, t1)) : P s 0 [(0, .int a0)] [] := by
  unfold gC_RuleReader_factOf_0 at h
  refine v_iload_n hX dX8_factOf_0 rfl 0 rfl ?_
  rcases ifs h with ⟨hc, h⟩ | ⟨hn102, h⟩
  · refine v_tblIn (tgt := 80) (off := 79) hX dX8_factOf_1 (by rw [hc]; decide) (by rw [hc]; decide) (by rw [hc]; rfl) (by decide) ?_
    refine v_iconst (v := 4) hX dX8_factOf_80 (by decide) ?_
    exact v_retI hR h dX8_factOf_81
  rcases ifs h with ⟨hc, h⟩ | ⟨hn103, h⟩
  · refine v_tblIn (tgt := 74) (off := 73) hX dX8_factOf_1 (by rw [hc]; decide) (by rw [hc]; decide) (by rw [hc]; rfl) (by decide) ?_
    refine v_iconst (v := 1) hX dX8_factOf_74 (by decide) ?_
    exact v_retI hR h dX8_factOf_75
  rcases ifs h with ⟨hc, h⟩ | ⟨hn104, h⟩
  · refine v_tblIn (tgt := 76) (off := 75) hX dX8_factOf_1 (by rw [hc]; decide) (by rw [hc]; decide) (by rw [hc]; rfl) (by decide) ?_
    refine v_iconst (v := 2) hX dX8_factOf_76 (by decide) ?_
    exact v_retI hR h dX8_factOf_77
  rcases ifs h with ⟨hc, h⟩ | ⟨hn105, h⟩
  · refine v_tblIn (tgt := 72) (off := 71) hX dX8_factOf_1 (by rw [hc]; decide) (by rw [hc]; decide) (by rw [hc]; rfl) (by decide) ?_
    refine v_iconst (v := 0) hX dX8_factOf_72 (by decide) ?_
    exact v_retI hR h dX8_factOf_73
  rcases ifs h with ⟨hc, h⟩ | ⟨hn106, h⟩
  · refine v_tblIn (tgt := 87) (off := 86) hX dX8_factOf_1 (by rw [hc]; decide) (by rw [hc]; decide) (by rw [hc]; rfl) (by decide) ?_
    refine v_iconst (v := (-1)) hX dX8_factOf_87 (by decide) ?_
    exact v_retI hR h dX8_factOf_88
  rcases ifs h with ⟨hc, h⟩ | ⟨hn107, h⟩
  · refine v_tblIn (tgt := 87) (off := 86) hX dX8_factOf_1 (by rw [hc]; decide) (by rw [hc]; decide) (by rw [hc]; rfl) (by decide) ?_
    refine v_iconst (v := (-1)) hX dX8_factOf_87 (by decide) ?_
    exact v_retI hR h dX8_factOf_88
  rcases ifs h with ⟨hc, h⟩ | ⟨hn108, h⟩
  · refine v_tblIn (tgt := 82) (off := 81) hX dX8_factOf_1 (by rw [hc]; decide) (by rw [hc]; decide) (by rw [hc]; rfl) (by decide) ?_
    refine v_iconst (v := 5) hX dX8_factOf_82 (by decide) ?_
    exact v_retI hR h dX8_factOf_83
  rcases ifs h with ⟨hc, h⟩ | ⟨hn109, h⟩
  · refine v_tblIn (tgt := 87) (off := 86) hX dX8_factOf_1 (by rw [hc]; decide) (by rw [hc]; decide) (by rw [hc]; rfl) (by decide) ?_
    refine v_iconst (v := (-1)) hX dX8_factOf_87 (by decide) ?_
    exact v_retI hR h dX8_factOf_88
  rcases ifs h with ⟨hc, h⟩ | ⟨hn110, h⟩
  · refine v_tblIn (tgt := 78) (off := 77) hX dX8_factOf_1 (by rw [hc]; decide) (by rw [hc]; decide) (by rw [hc]; rfl) (by decide) ?_
    refine v_iconst (v := 3) hX dX8_factOf_78 (by decide) ?_
    exact v_retI hR h dX8_factOf_79
  rcases ifs h with ⟨hc, h⟩ | ⟨hn111, h⟩
  · refine v_tblIn (tgt := 87) (off := 86) hX dX8_factOf_1 (by rw [hc]; decide) (by rw [hc]; decide) (by rw [hc]; rfl) (by decide) ?_
    refine v_iconst (v := (-1)) hX dX8_factOf_87 (by decide) ?_
    exact v_retI hR h dX8_factOf_88
  rcases ifs h with ⟨hc, h⟩ | ⟨hn112, h⟩
  · refine v_tblIn (tgt := 87) (off := 86) hX dX8_factOf_1 (by rw [hc]; decide) (by rw [hc]; decide) (by rw [hc]; rfl) (by decide) ?_
    refine v_iconst (v := (-1)) hX dX8_factOf_87 (by decide) ?_
    exact v_retI hR h dX8_factOf_88
  rcases ifs h with ⟨hc, h⟩ | ⟨hn113, h⟩
  · refine v_tblIn (tgt := 87) (off := 86) hX dX8_factOf_1 (by rw [hc]; decide) (by rw [hc]; decide) (by rw [hc]; rfl) (by decide) ?_
    refine v_iconst (v := (-1)) hX dX8_factOf_87 (by decide) ?_
    exact v_retI hR h dX8_factOf_88
  rcases ifs h with ⟨hc, h⟩ | ⟨hn114, h⟩
  · refine v_tblIn (tgt := 87) (off := 86) hX dX8_factOf_1 (by rw [hc]; decide) (by rw [hc]; decide) (by rw [hc]; rfl) (by decide) ?_
    refine v_iconst (v := (-1)) hX dX8_factOf_87 (by decide) ?_
    exact v_retI hR h dX8_factOf_88
  rcases ifs h with ⟨hc, h⟩ | ⟨hn115, h⟩
  · refine v_tblIn (tgt := 84) (off := 83) hX dX8_factOf_1 (by rw [hc]; decide) (by rw [hc]; decide) (by rw [hc]; rfl) (by decide) ?_
    refine v_bipush (v := 6) hX dX8_factOf_84 (by decide) ?_
    exact v_retI hR h dX8_factOf_86
  obtain ⟨hc, h⟩ := gsome h
  refine v_tblOut (tgt := 87) hX dX8_factOf_1 (tblo (lo := 102) (hi := 115) (by decide) (by decide) hc) (by decide) ?_
  refine v_iconst (v := (-1)) hX dX8_factOf_87 (by decide) ?_
  exact v_retI hR h dX8_factOf_88
noncomputable def fC_RuleReader_factOf (N : Nat) (a0 : Int32) (s : vSt) : Option (Int32 × vSt) := gC_RuleReader_factOf_0 N a0 s
theorem mC_RuleReader_factOf {N : Nat} {a0 : Int32} {s : vSt} {r : Int32} {t1 : vSt} (h : fC_RuleReader_factOf N a0 s = some (r, t1)) (l : Launch) (ad : Nat → Nat) : vMI l shC ad yX8_factOf cX8_factOf 1 .int 0 0 s [.int a0] r t1 :=
  vMI_of (by decide +kernel) (Nat.le_of_ble_eq_true rfl) (fun P hX hR => wC_RuleReader_factOf_0 hX hR h)
-- C_RuleReader_readNumber
noncomputable def gC_RuleReader_readNumber_4 (N : Nat)  : Nat → Int32 → Int32 → vSt → Option (vSt)
  | 0, _, _, _ => none
  | n + 1, a1, a2, s =>
    if 3 ≤ a2 then
      (fC_RuleReader_emit N a1 s).bind fun z1 =>
      some z1
    else
      (fC_RuleReader_next N s).bind fun p2 =>
      (fC_Text_isDigit N p2.1 p2.2).bind fun p3 =>
      if p3.1 = 0 then
        (fC_RuleReader_emit N a1 p3.2).bind fun z4 =>
        some z4
      else
        (fC_RuleReader_next N p3.2).bind fun p5 =>
        (some ((((10 : Int32) * a1) + p5.1) - 48 : Int32)).bind fun v6 =>
        (some (s1 p5.2 21 4 ((p5.2.1 21 4) + 1))).bind fun z7 =>
        (some (a2 + 1 : Int32)).bind fun v8 =>
        gC_RuleReader_readNumber_4 N n v6 v8 z7
set_option maxRecDepth 4000 in
theorem wC_RuleReader_readNumber_4 {P : vP} {l : Launch} {ad : Nat → Nat} {N : Nat} {t1 : vSt} (hX : vOK P l shC ad (vR 2 41) cX8_readNumber RX8 3) (hR : (∀ pc lv, decode cX8_readNumber pc = .ok (.return_, 1) → P t1 pc lv []))  : ∀ (n : Nat) (a1 : Int32) (a2 : Int32) (s : vSt), gC_RuleReader_readNumber_4 N n a1 a2 s = some t1 → P s 4 [(0, .ref (ad 21)), (1, .int a1), (2, .int a2)] [] := by
  intro n
  induction n with
  | zero => intro a1 a2 s h; cases h
  | succ n ih =>
    intro a1 a2 s h
    unfold gC_RuleReader_readNumber_4 at h
    refine v_iload_n hX dX8_readNumber_4 rfl 2 rfl ?_
    refine v_iconst (v := 3) hX dX8_readNumber_5 (by decide) ?_
    refine v_icmp_ge (tgt := 48) hX dX8_readNumber_6 (by decide) h (fun h => ?_) (fun h => ?_)
    · refine v_aload_n hX dX8_readNumber_48 rfl 0 rfl ?_
      refine v_iload_n hX dX8_readNumber_49 rfl 1 rfl ?_
      obtain ⟨z1, hz1, h⟩ := bsome h
      refine v_callVV (o := 21) hX (mC_RuleReader_emit hz1 l ad) kM_X8_emit kV_X8_emit km_8_60 (by decide) (fun _ => rfl) rfl rfl rfl (Nat.le_of_ble_eq_true rfl) (by decide) dX8_readNumber_50 ?_
      exact v_retV hR h dX8_readNumber_53
    · refine v_aload_n hX dX8_readNumber_9 rfl 0 rfl ?_
      obtain ⟨p2, hp2, h⟩ := bsome h
      refine v_callVI (o := 21) hX (mC_RuleReader_next hp2 l ad) kM_X8_next kV_X8_next km_8_56 (by decide) (fun _ => rfl) rfl rfl rfl (Nat.le_of_ble_eq_true rfl) (by decide) dX8_readNumber_10 ?_
      obtain ⟨p3, hp3, h⟩ := bsome h
      refine v_callSI hX (mC_Text_isDigit hp3 l ad) kM_X10_isDigit kS_X10_isDigit km_8_73 rfl rfl (Nat.le_of_ble_eq_true rfl) (by decide) dX8_readNumber_13 ?_
      refine v_if_eq (tgt := 48) hX dX8_readNumber_16 (by decide) h (fun h => ?_) (fun h => ?_)
      · refine v_aload_n hX dX8_readNumber_48 rfl 0 rfl ?_
        refine v_iload_n hX dX8_readNumber_49 rfl 1 rfl ?_
        obtain ⟨z4, hz4, h⟩ := bsome h
        refine v_callVV (o := 21) hX (mC_RuleReader_emit hz4 l ad) kM_X8_emit kV_X8_emit km_8_60 (by decide) (fun _ => rfl) rfl rfl rfl (Nat.le_of_ble_eq_true rfl) (by decide) dX8_readNumber_50 ?_
        exact v_retV hR h dX8_readNumber_53
      · refine v_bipush (v := 10) hX dX8_readNumber_19 (by decide) ?_
        refine v_iload_n hX dX8_readNumber_21 rfl 1 rfl ?_
        refine v_imul hX dX8_readNumber_22 ?_
        refine v_aload_n hX dX8_readNumber_23 rfl 0 rfl ?_
        obtain ⟨p5, hp5, h⟩ := bsome h
        refine v_callVI (o := 21) hX (mC_RuleReader_next hp5 l ad) kM_X8_next kV_X8_next km_8_56 (by decide) (fun _ => rfl) rfl rfl rfl (Nat.le_of_ble_eq_true rfl) (by decide) dX8_readNumber_24 ?_
        refine v_iadd hX dX8_readNumber_27 ?_
        refine v_bipush (v := 48) hX dX8_readNumber_28 (by decide) ?_
        refine v_isub hX dX8_readNumber_30 ?_
        refine v_nmI hX h (fun v6 h => ?_)
        refine v_istore_n (lv' := [(1, .int v6), (0, .ref (ad 21)), (2, .int a2)]) hX dX8_readNumber_31 rfl (by decide) rfl ?_
        refine v_aload_n hX dX8_readNumber_32 rfl 1 rfl ?_
        refine v_dup hX dX8_readNumber_33 rfl ?_
        refine gfC_21_4 hX kf_8_23 dX8_readNumber_34 ?_
        refine v_iconst (v := 1) hX dX8_readNumber_37 (by decide) ?_
        refine v_iadd hX dX8_readNumber_38 ?_
        refine pfC_21_4 hX kf_8_23 dX8_readNumber_39 h (fun z7 h => ?_)
        refine v_iincN hX dX8_readNumber_42 (j := 2) rfl (c := 1) (by decide) (by decide) h (fun v8 h => ?_)
        refine v_show (lv' := [(2, .int v8), (1, .int v6), (0, .ref (ad 21))]) hX rfl ?_
        refine v_goto (tgt := 4) hX dX8_readNumber_45 (by decide) ?_
        exact v_sub hX [2, 1, 0] (by rfl) (ih _ _ _ h)
noncomputable def gC_RuleReader_readNumber_0 (N : Nat)   (s : vSt) : Option (vSt) :=
  gC_RuleReader_readNumber_4 N N 0 0 s
set_option maxRecDepth 4000 in
theorem wC_RuleReader_readNumber_0 {P : vP} {l : Launch} {ad : Nat → Nat} {N : Nat} {t1 : vSt} (hX : vOK P l shC ad (vR 2 41) cX8_readNumber RX8 3) (hR : (∀ pc lv, decode cX8_readNumber pc = .ok (.return_, 1) → P t1 pc lv []))   {s : vSt} (h : gC_RuleReader_readNumber_0 N s = some t1) : P s 0 [(0, .ref (ad 21))] [] := by
  unfold gC_RuleReader_readNumber_0 at h
  refine v_iconst (v := 0) hX dX8_readNumber_0 (by decide) ?_
  refine v_istore_n (lv' := [(1, .int 0), (0, .ref (ad 21))]) hX dX8_readNumber_1 rfl (by decide) rfl ?_
  refine v_iconst (v := 0) hX dX8_readNumber_2 (by decide) ?_
  refine v_istore_n (lv' := [(2, .int 0), (1, .int 0), (0, .ref (ad 21))]) hX dX8_readNumber_3 rfl (by decide) rfl ?_
  exact v_sub hX [2, 1, 0] (by rfl) (wC_RuleReader_readNumber_4 hX hR  N _ _ _ h)
noncomputable def fC_RuleReader_readNumber (N : Nat)  (s : vSt) : Option (vSt) := gC_RuleReader_readNumber_0 N s
theorem mC_RuleReader_readNumber {N : Nat}  {s : vSt} {t1 : vSt} (h : fC_RuleReader_readNumber N s = some t1) (l : Launch) (ad : Nat → Nat) : vMV l shC ad yX8_readNumber cX8_readNumber 3 2 41 s [.ref (ad 21)] t1 :=
  vMV_of (by decide +kernel) (Nat.le_of_ble_eq_true rfl) (fun P hX hR => wC_RuleReader_readNumber_0 hX hR h)
-- C_RuleReader_readThing
noncomputable def gC_RuleReader_readThing_0 (N : Nat) (rE : Int32 → vSt → Option (Int32 × vSt))  (a1 : Int32) (s : vSt) : Option (Int32 × vSt) :=
  (fC_RuleReader_next N s).bind fun p1 =>
  (fC_Text_isDigit N p1.1 p1.2).bind fun p2 =>
  if p2.1 = 0 then
    if p1.1 = 40 then
      (fC_RuleReader_readBraced N rE a1 p2.2).bind fun p3 =>
      if p3.1 = 0 ∨ p3.1 = 1 then some (p3.1, p3.2) else none
    else
      (fC_RuleReader_factOf N p1.1 p2.2).bind fun p4 =>
      if p4.1 = (-1) then
        some (0, p4.2)
      else
        (fC_RuleReader_emit N ((1000 : Int32) + p4.1) p4.2).bind fun z5 =>
        (some (s1 z5 21 4 ((z5.1 21 4) + 1))).bind fun z6 =>
        some (1, z6)
  else
    (fC_RuleReader_readNumber N p2.2).bind fun z7 =>
    some (1, z7)
set_option maxRecDepth 4000 in
theorem wC_RuleReader_readThing_0 {P : vP} {l : Launch} {ad : Nat → Nat} {N : Nat} {rE : Int32 → vSt → Option (Int32 × vSt)} {fE nE : Nat} {r : Int32} {t1 : vSt} (HE : ∀ a s r t, rE a s = some (r, t) → vMI l shC ad yX8_readExpression cX8_readExpression 3 .boolean fE nE s [.ref (ad 21), .int a] r t) (hX : vOK P l shC ad (vR (fE + 3) (nE + 63)) cX8_readThing RX8 4) (hR : (∀ pc lv, narrow .boolean (.int r) = .int r → decode cX8_readThing pc = .ok (.ireturn, 1) → P t1 pc lv [.int r]))  {a1 : Int32} {s : vSt} (h : gC_RuleReader_readThing_0 N rE a1 s = some (r, t1)) : P s 0 [(0, .ref (ad 21)), (1, .int a1)] [] := by
  unfold gC_RuleReader_readThing_0 at h
  refine v_aload_n hX dX8_readThing_0 rfl 0 rfl ?_
  obtain ⟨p1, hp1, h⟩ := bsome h
  refine v_callVI (o := 21) hX (mC_RuleReader_next hp1 l ad) kM_X8_next kV_X8_next km_8_56 (by decide) (fun _ => rfl) rfl rfl rfl (Nat.le_of_ble_eq_true rfl) ⟨by show _ ≤ _; unfold vR; simp only []; omega, by show _ ≤ _; unfold vR; simp only []; omega⟩ dX8_readThing_1 ?_
  refine v_istore_n (lv' := [(2, .int p1.1), (0, .ref (ad 21)), (1, .int a1)]) hX dX8_readThing_4 rfl (by decide) rfl ?_
  refine v_iload_n hX dX8_readThing_5 rfl 0 rfl ?_
  obtain ⟨p2, hp2, h⟩ := bsome h
  refine v_callSI hX (mC_Text_isDigit hp2 l ad) kM_X10_isDigit kS_X10_isDigit km_8_73 rfl rfl (Nat.le_of_ble_eq_true rfl) ⟨by show _ ≤ _; unfold vR; simp only []; omega, by show _ ≤ _; unfold vR; simp only []; omega⟩ dX8_readThing_6 ?_
  refine v_if_eq (tgt := 18) hX dX8_readThing_9 (by decide) h (fun h => ?_) (fun h => ?_)
  · refine v_iload_n hX dX8_readThing_18 rfl 0 rfl ?_
    refine v_bipush (v := 40) hX dX8_readThing_19 (by decide) ?_
    refine v_icmp_ne (tgt := 30) hX dX8_readThing_21 (by decide) h (fun h => ?_) (fun h => ?_)
    · refine v_aload_n hX dX8_readThing_24 rfl 1 rfl ?_
      refine v_iload_n hX dX8_readThing_25 rfl 2 rfl ?_
      obtain ⟨p3, hp3, h⟩ := bsome h
      refine v_callVI (o := 21) hX (mC_RuleReader_readBraced HE hp3) kM_X8_readBraced kV_X8_readBraced km_8_79 (by decide) (fun _ => rfl) rfl rfl rfl (Nat.le_of_ble_eq_true rfl) ⟨by show _ ≤ _; unfold vR; simp only []; omega, by show _ ≤ _; unfold vR; simp only []; omega⟩ dX8_readThing_26 ?_
      exact v_retZ hR h dX8_readThing_29
    · refine v_iload_n hX dX8_readThing_30 rfl 0 rfl ?_
      obtain ⟨p4, hp4, h⟩ := bsome h
      refine v_callSI hX (mC_RuleReader_factOf hp4 l ad) kM_X8_factOf kS_X8_factOf km_8_82 rfl rfl (Nat.le_of_ble_eq_true rfl) ⟨by show _ ≤ _; unfold vR; simp only []; omega, by show _ ≤ _; unfold vR; simp only []; omega⟩ dX8_readThing_31 ?_
      refine v_istore_n (lv' := [(3, .int p4.1), (2, .int p1.1), (0, .ref (ad 21)), (1, .int a1)]) hX dX8_readThing_34 rfl (by decide) rfl ?_
      refine v_iload_n hX dX8_readThing_35 rfl 0 rfl ?_
      refine v_iconst (v := (-1)) hX dX8_readThing_36 (by decide) ?_
      refine v_icmp_ne (tgt := 42) hX dX8_readThing_37 (by decide) h (fun h => ?_) (fun h => ?_)
      · refine v_iconst (v := 0) hX dX8_readThing_40 (by decide) ?_
        exact v_retZ0 hR h dX8_readThing_41
      · refine v_aload_n hX dX8_readThing_42 rfl 2 rfl ?_
        refine v_sipush (v := 1000) hX dX8_readThing_43 (by decide) ?_
        refine v_iload_n hX dX8_readThing_46 rfl 0 rfl ?_
        refine v_iadd hX dX8_readThing_47 ?_
        obtain ⟨z5, hz5, h⟩ := bsome h
        refine v_callVV (o := 21) hX (mC_RuleReader_emit hz5 l ad) kM_X8_emit kV_X8_emit km_8_60 (by decide) (fun _ => rfl) rfl rfl rfl (Nat.le_of_ble_eq_true rfl) ⟨by show _ ≤ _; unfold vR; simp only []; omega, by show _ ≤ _; unfold vR; simp only []; omega⟩ dX8_readThing_48 ?_
        refine v_aload_n hX dX8_readThing_51 rfl 2 rfl ?_
        refine v_dup hX dX8_readThing_52 rfl ?_
        refine gfC_21_4 hX kf_8_23 dX8_readThing_53 ?_
        refine v_iconst (v := 1) hX dX8_readThing_56 (by decide) ?_
        refine v_iadd hX dX8_readThing_57 ?_
        refine pfC_21_4 hX kf_8_23 dX8_readThing_58 h (fun z6 h => ?_)
        refine v_iconst (v := 1) hX dX8_readThing_61 (by decide) ?_
        exact v_retZ1 hR h dX8_readThing_62
  · refine v_aload_n hX dX8_readThing_12 rfl 1 rfl ?_
    obtain ⟨z7, hz7, h⟩ := bsome h
    refine v_callVV (o := 21) hX (mC_RuleReader_readNumber hz7 l ad) kM_X8_readNumber kV_X8_readNumber km_8_76 (by decide) (fun _ => rfl) rfl rfl rfl (Nat.le_of_ble_eq_true rfl) ⟨by show _ ≤ _; unfold vR; simp only []; omega, by show _ ≤ _; unfold vR; simp only []; omega⟩ dX8_readThing_13 ?_
    refine v_iconst (v := 1) hX dX8_readThing_16 (by decide) ?_
    exact v_retZ1 hR h dX8_readThing_17
noncomputable def fC_RuleReader_readThing (N : Nat) (rE : Int32 → vSt → Option (Int32 × vSt)) (a1 : Int32) (s : vSt) : Option (Int32 × vSt) := gC_RuleReader_readThing_0 N rE a1 s
theorem mC_RuleReader_readThing {l : Launch} {ad : Nat → Nat} {N : Nat} {rE : Int32 → vSt → Option (Int32 × vSt)} {fE nE : Nat} (HE : ∀ a s r t, rE a s = some (r, t) → vMI l shC ad yX8_readExpression cX8_readExpression 3 .boolean fE nE s [.ref (ad 21), .int a] r t)  {a1 : Int32} {s : vSt} {r : Int32} {t1 : vSt} (h : fC_RuleReader_readThing N rE a1 s = some (r, t1)) : vMI l shC ad yX8_readThing cX8_readThing 4 .boolean (fE + 3) (nE + 63) s [.ref (ad 21), .int a1] r t1 :=
  vMI_of (by decide +kernel) (Nat.le_of_ble_eq_true rfl) (fun P hX hR => wC_RuleReader_readThing_0 HE hX hR h)
-- C_RuleReader_readSigned
noncomputable def gC_RuleReader_readSigned_50 (N : Nat) (rE : Int32 → vSt → Option (Int32 × vSt))  : Nat → Int32 → Int32 → vSt → Option (Int32 × vSt)
  | 0, _, _, _ => none
  | n + 1, a2, a3, s =>
    if a2 ≤ a3 then
      some (1, s)
    else
      (fC_RuleReader_emit N 2126 s).bind fun z1 =>
      (some (a3 + 1 : Int32)).bind fun v2 =>
      gC_RuleReader_readSigned_50 N rE n a2 v2 z1
set_option maxRecDepth 4000 in
theorem wC_RuleReader_readSigned_50 {P : vP} {l : Launch} {ad : Nat → Nat} {N : Nat} {rE : Int32 → vSt → Option (Int32 × vSt)} {fE nE : Nat} {r : Int32} {t1 : vSt} (HE : ∀ a s r t, rE a s = some (r, t) → vMI l shC ad yX8_readExpression cX8_readExpression 3 .boolean fE nE s [.ref (ad 21), .int a] r t) (hX : vOK P l shC ad (vR (fE + 4) (nE + 86)) cX8_readSigned RX8 4) (hR : (∀ pc lv, narrow .boolean (.int r) = .int r → decode cX8_readSigned pc = .ok (.ireturn, 1) → P t1 pc lv [.int r]))  : ∀ (n : Nat) (a2 : Int32) (a3 : Int32) (s : vSt), gC_RuleReader_readSigned_50 N rE n a2 a3 s = some (r, t1) → P s 50 [(0, .ref (ad 21)), (2, .int a2), (3, .int a3)] [] := by
  intro n
  induction n with
  | zero => intro a2 a3 s h; cases h
  | succ n ih =>
    intro a2 a3 s h
    unfold gC_RuleReader_readSigned_50 at h
    refine v_iload_n hX dX8_readSigned_50 rfl 2 rfl ?_
    refine v_iload_n hX dX8_readSigned_51 rfl 1 rfl ?_
    refine v_icmp_ge (tgt := 68) hX dX8_readSigned_52 (by decide) h (fun h => ?_) (fun h => ?_)
    · refine v_iconst (v := 1) hX dX8_readSigned_68 (by decide) ?_
      exact v_retZ1 hR h dX8_readSigned_69
    · refine v_aload_n hX dX8_readSigned_55 rfl 0 rfl ?_
      refine v_sipush (v := 2126) hX dX8_readSigned_56 (by decide) ?_
      obtain ⟨z1, hz1, h⟩ := bsome h
      refine v_callVV (o := 21) hX (mC_RuleReader_emit hz1 l ad) kM_X8_emit kV_X8_emit km_8_60 (by decide) (fun _ => rfl) rfl rfl rfl (Nat.le_of_ble_eq_true rfl) ⟨by show _ ≤ _; unfold vR; simp only []; omega, by show _ ≤ _; unfold vR; simp only []; omega⟩ dX8_readSigned_59 ?_
      refine v_iincN hX dX8_readSigned_62 (j := 2) rfl (c := 1) (by decide) (by decide) h (fun v2 h => ?_)
      refine v_show (lv' := [(3, .int v2), (0, .ref (ad 21)), (2, .int a2)]) hX rfl ?_
      refine v_goto (tgt := 50) hX dX8_readSigned_65 (by decide) ?_
      exact v_sub hX [1, 2, 0] (by rfl) (ih _ _ _ h)
noncomputable def gC_RuleReader_readSigned_38 (N : Nat) (rE : Int32 → vSt → Option (Int32 × vSt))  (a1 : Int32) (a2 : Int32) (s : vSt) : Option (Int32 × vSt) :=
  (fC_RuleReader_readThing N rE a1 s).bind fun p1 =>
  if p1.1 = 0 then
    some (0, p1.2)
  else
    gC_RuleReader_readSigned_50 N rE N a2 0 p1.2
set_option maxRecDepth 4000 in
theorem wC_RuleReader_readSigned_38 {P : vP} {l : Launch} {ad : Nat → Nat} {N : Nat} {rE : Int32 → vSt → Option (Int32 × vSt)} {fE nE : Nat} {r : Int32} {t1 : vSt} (HE : ∀ a s r t, rE a s = some (r, t) → vMI l shC ad yX8_readExpression cX8_readExpression 3 .boolean fE nE s [.ref (ad 21), .int a] r t) (hX : vOK P l shC ad (vR (fE + 4) (nE + 86)) cX8_readSigned RX8 4) (hR : (∀ pc lv, narrow .boolean (.int r) = .int r → decode cX8_readSigned pc = .ok (.ireturn, 1) → P t1 pc lv [.int r]))  {a1 : Int32} {a2 : Int32} {s : vSt} (h : gC_RuleReader_readSigned_38 N rE a1 a2 s = some (r, t1)) : P s 38 [(0, .ref (ad 21)), (1, .int a1), (2, .int a2)] [] := by
  unfold gC_RuleReader_readSigned_38 at h
  refine v_aload_n hX dX8_readSigned_38 rfl 0 rfl ?_
  refine v_iload_n hX dX8_readSigned_39 rfl 1 rfl ?_
  obtain ⟨p1, hp1, h⟩ := bsome h
  refine v_callVI (o := 21) hX (mC_RuleReader_readThing HE hp1) kM_X8_readThing kV_X8_readThing km_8_70 (by decide) (fun _ => rfl) rfl rfl rfl (Nat.le_of_ble_eq_true rfl) ⟨by show _ ≤ _; unfold vR; simp only []; omega, by show _ ≤ _; unfold vR; simp only []; omega⟩ dX8_readSigned_40 ?_
  refine v_if_ne (tgt := 48) hX dX8_readSigned_43 (by decide) h (fun h => ?_) (fun h => ?_)
  · refine v_iconst (v := 0) hX dX8_readSigned_46 (by decide) ?_
    exact v_retZ0 hR h dX8_readSigned_47
  · refine v_iconst (v := 0) hX dX8_readSigned_48 (by decide) ?_
    refine v_istore_n (lv' := [(3, .int 0), (0, .ref (ad 21)), (1, .int a1), (2, .int a2)]) hX dX8_readSigned_49 rfl (by decide) rfl ?_
    exact v_sub hX [1, 3, 0] (by rfl) (wC_RuleReader_readSigned_50 HE hX hR  N _ _ _ h)
noncomputable def gC_RuleReader_readSigned_4 (N : Nat) (rE : Int32 → vSt → Option (Int32 × vSt))  : Nat → Int32 → Int32 → Int32 → vSt → Option (Int32 × vSt)
  | 0, _, _, _, _ => none
  | n + 1, a1, a2, a3, s =>
    if 40 ≤ a3 then
      gC_RuleReader_readSigned_38 N rE a1 a2 s
    else
      (fC_RuleReader_next N s).bind fun p1 =>
      if p1.1 = 45 then
        (some (a2 + 1 : Int32)).bind fun v2 =>
        (some (s1 p1.2 21 4 ((p1.2.1 21 4) + 1))).bind fun z3 =>
        (some (a3 + 1 : Int32)).bind fun v4 =>
        gC_RuleReader_readSigned_4 N rE n a1 v2 v4 z3
      else
        gC_RuleReader_readSigned_38 N rE a1 a2 p1.2
set_option maxRecDepth 4000 in
theorem wC_RuleReader_readSigned_4 {P : vP} {l : Launch} {ad : Nat → Nat} {N : Nat} {rE : Int32 → vSt → Option (Int32 × vSt)} {fE nE : Nat} {r : Int32} {t1 : vSt} (HE : ∀ a s r t, rE a s = some (r, t) → vMI l shC ad yX8_readExpression cX8_readExpression 3 .boolean fE nE s [.ref (ad 21), .int a] r t) (hX : vOK P l shC ad (vR (fE + 4) (nE + 86)) cX8_readSigned RX8 4) (hR : (∀ pc lv, narrow .boolean (.int r) = .int r → decode cX8_readSigned pc = .ok (.ireturn, 1) → P t1 pc lv [.int r]))  : ∀ (n : Nat) (a1 : Int32) (a2 : Int32) (a3 : Int32) (s : vSt), gC_RuleReader_readSigned_4 N rE n a1 a2 a3 s = some (r, t1) → P s 4 [(0, .ref (ad 21)), (1, .int a1), (2, .int a2), (3, .int a3)] [] := by
  intro n
  induction n with
  | zero => intro a1 a2 a3 s h; cases h
  | succ n ih =>
    intro a1 a2 a3 s h
    unfold gC_RuleReader_readSigned_4 at h
    refine v_iload_n hX dX8_readSigned_4 rfl 3 rfl ?_
    refine v_bipush (v := 40) hX dX8_readSigned_5 (by decide) ?_
    refine v_icmp_ge (tgt := 38) hX dX8_readSigned_7 (by decide) h (fun h => ?_) (fun h => ?_)
    · exact v_sub hX [0, 1, 2] (by rfl) (wC_RuleReader_readSigned_38 HE hX hR  h)
    · refine v_aload_n hX dX8_readSigned_10 rfl 0 rfl ?_
      obtain ⟨p1, hp1, h⟩ := bsome h
      refine v_callVI (o := 21) hX (mC_RuleReader_next hp1 l ad) kM_X8_next kV_X8_next km_8_56 (by decide) (fun _ => rfl) rfl rfl rfl (Nat.le_of_ble_eq_true rfl) ⟨by show _ ≤ _; unfold vR; simp only []; omega, by show _ ≤ _; unfold vR; simp only []; omega⟩ dX8_readSigned_11 ?_
      refine v_bipush (v := 45) hX dX8_readSigned_14 (by decide) ?_
      refine v_icmp_ne (tgt := 38) hX dX8_readSigned_16 (by decide) h (fun h => ?_) (fun h => ?_)
      · refine v_iincN hX dX8_readSigned_19 (j := 2) rfl (c := 1) (by decide) (by decide) h (fun v2 h => ?_)
        refine v_show (lv' := [(2, .int v2), (0, .ref (ad 21)), (1, .int a1), (3, .int a3)]) hX rfl ?_
        refine v_aload_n hX dX8_readSigned_22 rfl 1 rfl ?_
        refine v_dup hX dX8_readSigned_23 rfl ?_
        refine gfC_21_4 hX kf_8_23 dX8_readSigned_24 ?_
        refine v_iconst (v := 1) hX dX8_readSigned_27 (by decide) ?_
        refine v_iadd hX dX8_readSigned_28 ?_
        refine pfC_21_4 hX kf_8_23 dX8_readSigned_29 h (fun z3 h => ?_)
        refine v_iincN hX dX8_readSigned_32 (j := 3) rfl (c := 1) (by decide) (by decide) h (fun v4 h => ?_)
        refine v_show (lv' := [(3, .int v4), (2, .int v2), (0, .ref (ad 21)), (1, .int a1)]) hX rfl ?_
        refine v_goto (tgt := 4) hX dX8_readSigned_35 (by decide) ?_
        exact v_sub hX [2, 3, 1, 0] (by rfl) (ih _ _ _ _ h)
      · exact v_sub hX [0, 1, 2] (by rfl) (wC_RuleReader_readSigned_38 HE hX hR  h)
noncomputable def gC_RuleReader_readSigned_0 (N : Nat) (rE : Int32 → vSt → Option (Int32 × vSt))  (a1 : Int32) (s : vSt) : Option (Int32 × vSt) :=
  gC_RuleReader_readSigned_4 N rE N a1 0 0 s
set_option maxRecDepth 4000 in
theorem wC_RuleReader_readSigned_0 {P : vP} {l : Launch} {ad : Nat → Nat} {N : Nat} {rE : Int32 → vSt → Option (Int32 × vSt)} {fE nE : Nat} {r : Int32} {t1 : vSt} (HE : ∀ a s r t, rE a s = some (r, t) → vMI l shC ad yX8_readExpression cX8_readExpression 3 .boolean fE nE s [.ref (ad 21), .int a] r t) (hX : vOK P l shC ad (vR (fE + 4) (nE + 86)) cX8_readSigned RX8 4) (hR : (∀ pc lv, narrow .boolean (.int r) = .int r → decode cX8_readSigned pc = .ok (.ireturn, 1) → P t1 pc lv [.int r]))  {a1 : Int32} {s : vSt} (h : gC_RuleReader_readSigned_0 N rE a1 s = some (r, t1)) : P s 0 [(0, .ref (ad 21)), (1, .int a1)] [] := by
  unfold gC_RuleReader_readSigned_0 at h
  refine v_iconst (v := 0) hX dX8_readSigned_0 (by decide) ?_
  refine v_istore_n (lv' := [(2, .int 0), (0, .ref (ad 21)), (1, .int a1)]) hX dX8_readSigned_1 rfl (by decide) rfl ?_
  refine v_iconst (v := 0) hX dX8_readSigned_2 (by decide) ?_
  refine v_istore_n (lv' := [(3, .int 0), (2, .int 0), (0, .ref (ad 21)), (1, .int a1)]) hX dX8_readSigned_3 rfl (by decide) rfl ?_
  exact v_sub hX [2, 3, 1, 0] (by rfl) (wC_RuleReader_readSigned_4 HE hX hR  N _ _ _ _ h)
noncomputable def fC_RuleReader_readSigned (N : Nat) (rE : Int32 → vSt → Option (Int32 × vSt)) (a1 : Int32) (s : vSt) : Option (Int32 × vSt) := gC_RuleReader_readSigned_0 N rE a1 s
theorem mC_RuleReader_readSigned {l : Launch} {ad : Nat → Nat} {N : Nat} {rE : Int32 → vSt → Option (Int32 × vSt)} {fE nE : Nat} (HE : ∀ a s r t, rE a s = some (r, t) → vMI l shC ad yX8_readExpression cX8_readExpression 3 .boolean fE nE s [.ref (ad 21), .int a] r t)  {a1 : Int32} {s : vSt} {r : Int32} {t1 : vSt} (h : fC_RuleReader_readSigned N rE a1 s = some (r, t1)) : vMI l shC ad yX8_readSigned cX8_readSigned 4 .boolean (fE + 4) (nE + 86) s [.ref (ad 21), .int a1] r t1 :=
  vMI_of (by decide +kernel) (Nat.le_of_ble_eq_true rfl) (fun P hX hR => wC_RuleReader_readSigned_0 HE hX hR h)
-- C_RuleReader_readProduct
noncomputable def gC_RuleReader_readProduct_37 (N : Nat) (rE : Int32 → vSt → Option (Int32 × vSt)) (r12 : Int32 → Int32 → vSt → Option (Int32 × vSt)) (a1 : Int32) (a2 : Int32) (a3 : Int32) (s : vSt) : Option (Int32 × vSt) :=
  (some (s1 s 21 4 ((s.1 21 4) + 1))).bind fun z1 =>
  (fC_RuleReader_readSigned N rE a1 z1).bind fun p2 =>
  if p2.1 = 0 then
    some (0, p2.2)
  else
    (fC_RuleReader_emit N ((2000 : Int32) + a3) p2.2).bind fun z3 =>
    (some (a2 + 1 : Int32)).bind fun v4 =>
    r12 a1 v4 z3
set_option maxRecDepth 4000 in
theorem wC_RuleReader_readProduct_37 {P : vP} {l : Launch} {ad : Nat → Nat} {N : Nat} {rE : Int32 → vSt → Option (Int32 × vSt)} {fE nE : Nat} {r12 : Int32 → Int32 → vSt → Option (Int32 × vSt)} {r : Int32} {t1 : vSt} (HE : ∀ a s r t, rE a s = some (r, t) → vMI l shC ad yX8_readExpression cX8_readExpression 3 .boolean fE nE s [.ref (ad 21), .int a] r t) (hX : vOK P l shC ad (vR (fE + 5) (nE + 109)) cX8_readProduct RX8 4) (hR : (∀ pc lv, narrow .boolean (.int r) = .int r → decode cX8_readProduct pc = .ok (.ireturn, 1) → P t1 pc lv [.int r])) (H12 : ∀ (a1 : Int32) (a2 : Int32) (s : vSt), r12 a1 a2 s = some (r, t1) → P s 12 [(0, .ref (ad 21)), (1, .int a1), (2, .int a2)] []) {a1 : Int32} {a2 : Int32} {a3 : Int32} {s : vSt} (h : gC_RuleReader_readProduct_37 N rE r12 a1 a2 a3 s = some (r, t1)) : P s 37 [(0, .ref (ad 21)), (1, .int a1), (2, .int a2), (3, .int a3)] [] := by
  unfold gC_RuleReader_readProduct_37 at h
  refine v_aload_n hX dX8_readProduct_37 rfl 0 rfl ?_
  refine v_dup hX dX8_readProduct_38 rfl ?_
  refine gfC_21_4 hX kf_8_23 dX8_readProduct_39 ?_
  refine v_iconst (v := 1) hX dX8_readProduct_42 (by decide) ?_
  refine v_iadd hX dX8_readProduct_43 ?_
  refine pfC_21_4 hX kf_8_23 dX8_readProduct_44 h (fun z1 h => ?_)
  refine v_aload_n hX dX8_readProduct_47 rfl 0 rfl ?_
  refine v_iload_n hX dX8_readProduct_48 rfl 1 rfl ?_
  obtain ⟨p2, hp2, h⟩ := bsome h
  refine v_callVI (o := 21) hX (mC_RuleReader_readSigned HE hp2) kM_X8_readSigned kV_X8_readSigned km_8_67 (by decide) (fun _ => rfl) rfl rfl rfl (Nat.le_of_ble_eq_true rfl) ⟨by show _ ≤ _; unfold vR; simp only []; omega, by show _ ≤ _; unfold vR; simp only []; omega⟩ dX8_readProduct_49 ?_
  refine v_if_ne (tgt := 57) hX dX8_readProduct_52 (by decide) h (fun h => ?_) (fun h => ?_)
  · refine v_iconst (v := 0) hX dX8_readProduct_55 (by decide) ?_
    exact v_retZ0 hR h dX8_readProduct_56
  · refine v_aload_n hX dX8_readProduct_57 rfl 0 rfl ?_
    refine v_sipush (v := 2000) hX dX8_readProduct_58 (by decide) ?_
    refine v_iload_n hX dX8_readProduct_61 rfl 3 rfl ?_
    refine v_iadd hX dX8_readProduct_62 ?_
    obtain ⟨z3, hz3, h⟩ := bsome h
    refine v_callVV (o := 21) hX (mC_RuleReader_emit hz3 l ad) kM_X8_emit kV_X8_emit km_8_60 (by decide) (fun _ => rfl) rfl rfl rfl (Nat.le_of_ble_eq_true rfl) ⟨by show _ ≤ _; unfold vR; simp only []; omega, by show _ ≤ _; unfold vR; simp only []; omega⟩ dX8_readProduct_63 ?_
    refine v_iincN hX dX8_readProduct_66 (j := 2) rfl (c := 1) (by decide) (by decide) h (fun v4 h => ?_)
    refine v_show (lv' := [(2, .int v4), (0, .ref (ad 21)), (1, .int a1), (3, .int a3)]) hX rfl ?_
    refine v_goto (tgt := 12) hX dX8_readProduct_69 (by decide) ?_
    exact v_sub hX [1, 2, 0] (by rfl) (H12 _ _ _ h)
noncomputable def gC_RuleReader_readProduct_12 (N : Nat) (rE : Int32 → vSt → Option (Int32 × vSt))  : Nat → Int32 → Int32 → vSt → Option (Int32 × vSt)
  | 0, _, _, _ => none
  | n + 1, a1, a2, s =>
    if 40 ≤ a2 then
      some (1, s)
    else
      (fC_RuleReader_next N s).bind fun p1 =>
      if p1.1 = 42 then
        gC_RuleReader_readProduct_37 N rE (gC_RuleReader_readProduct_12 N rE n) a1 a2 p1.1 p1.2
      else
        if p1.1 = 47 then
          gC_RuleReader_readProduct_37 N rE (gC_RuleReader_readProduct_12 N rE n) a1 a2 p1.1 p1.2
        else
          some (1, p1.2)
set_option maxRecDepth 4000 in
theorem wC_RuleReader_readProduct_12 {P : vP} {l : Launch} {ad : Nat → Nat} {N : Nat} {rE : Int32 → vSt → Option (Int32 × vSt)} {fE nE : Nat} {r : Int32} {t1 : vSt} (HE : ∀ a s r t, rE a s = some (r, t) → vMI l shC ad yX8_readExpression cX8_readExpression 3 .boolean fE nE s [.ref (ad 21), .int a] r t) (hX : vOK P l shC ad (vR (fE + 5) (nE + 109)) cX8_readProduct RX8 4) (hR : (∀ pc lv, narrow .boolean (.int r) = .int r → decode cX8_readProduct pc = .ok (.ireturn, 1) → P t1 pc lv [.int r]))  : ∀ (n : Nat) (a1 : Int32) (a2 : Int32) (s : vSt), gC_RuleReader_readProduct_12 N rE n a1 a2 s = some (r, t1) → P s 12 [(0, .ref (ad 21)), (1, .int a1), (2, .int a2)] [] := by
  intro n
  induction n with
  | zero => intro a1 a2 s h; cases h
  | succ n ih =>
    intro a1 a2 s h
    unfold gC_RuleReader_readProduct_12 at h
    refine v_iload_n hX dX8_readProduct_12 rfl 2 rfl ?_
    refine v_bipush (v := 40) hX dX8_readProduct_13 (by decide) ?_
    refine v_icmp_ge (tgt := 72) hX dX8_readProduct_15 (by decide) h (fun h => ?_) (fun h => ?_)
    · refine v_iconst (v := 1) hX dX8_readProduct_72 (by decide) ?_
      exact v_retZ1 hR h dX8_readProduct_73
    · refine v_aload_n hX dX8_readProduct_18 rfl 0 rfl ?_
      obtain ⟨p1, hp1, h⟩ := bsome h
      refine v_callVI (o := 21) hX (mC_RuleReader_next hp1 l ad) kM_X8_next kV_X8_next km_8_56 (by decide) (fun _ => rfl) rfl rfl rfl (Nat.le_of_ble_eq_true rfl) ⟨by show _ ≤ _; unfold vR; simp only []; omega, by show _ ≤ _; unfold vR; simp only []; omega⟩ dX8_readProduct_19 ?_
      refine v_istore_n (lv' := [(3, .int p1.1), (0, .ref (ad 21)), (1, .int a1), (2, .int a2)]) hX dX8_readProduct_22 rfl (by decide) rfl ?_
      refine v_iload_n hX dX8_readProduct_23 rfl 0 rfl ?_
      refine v_bipush (v := 42) hX dX8_readProduct_24 (by decide) ?_
      refine v_icmp_eq (tgt := 37) hX dX8_readProduct_26 (by decide) h (fun h => ?_) (fun h => ?_)
      · exact v_sub hX [1, 2, 3, 0] (by rfl) (wC_RuleReader_readProduct_37 HE hX hR ih h)
      · refine v_iload_n hX dX8_readProduct_29 rfl 0 rfl ?_
        refine v_bipush (v := 47) hX dX8_readProduct_30 (by decide) ?_
        refine v_icmp_eq (tgt := 37) hX dX8_readProduct_32 (by decide) h (fun h => ?_) (fun h => ?_)
        · exact v_sub hX [1, 2, 3, 0] (by rfl) (wC_RuleReader_readProduct_37 HE hX hR ih h)
        · refine v_iconst (v := 1) hX dX8_readProduct_35 (by decide) ?_
          exact v_retZ1 hR h dX8_readProduct_36
noncomputable def gC_RuleReader_readProduct_0 (N : Nat) (rE : Int32 → vSt → Option (Int32 × vSt))  (a1 : Int32) (s : vSt) : Option (Int32 × vSt) :=
  (fC_RuleReader_readSigned N rE a1 s).bind fun p1 =>
  if p1.1 = 0 then
    some (0, p1.2)
  else
    gC_RuleReader_readProduct_12 N rE N a1 0 p1.2
set_option maxRecDepth 4000 in
theorem wC_RuleReader_readProduct_0 {P : vP} {l : Launch} {ad : Nat → Nat} {N : Nat} {rE : Int32 → vSt → Option (Int32 × vSt)} {fE nE : Nat} {r : Int32} {t1 : vSt} (HE : ∀ a s r t, rE a s = some (r, t) → vMI l shC ad yX8_readExpression cX8_readExpression 3 .boolean fE nE s [.ref (ad 21), .int a] r t) (hX : vOK P l shC ad (vR (fE + 5) (nE + 109)) cX8_readProduct RX8 4) (hR : (∀ pc lv, narrow .boolean (.int r) = .int r → decode cX8_readProduct pc = .ok (.ireturn, 1) → P t1 pc lv [.int r]))  {a1 : Int32} {s : vSt} (h : gC_RuleReader_readProduct_0 N rE a1 s = some (r, t1)) : P s 0 [(0, .ref (ad 21)), (1, .int a1)] [] := by
  unfold gC_RuleReader_readProduct_0 at h
  refine v_aload_n hX dX8_readProduct_0 rfl 0 rfl ?_
  refine v_iload_n hX dX8_readProduct_1 rfl 1 rfl ?_
  obtain ⟨p1, hp1, h⟩ := bsome h
  refine v_callVI (o := 21) hX (mC_RuleReader_readSigned HE hp1) kM_X8_readSigned kV_X8_readSigned km_8_67 (by decide) (fun _ => rfl) rfl rfl rfl (Nat.le_of_ble_eq_true rfl) ⟨by show _ ≤ _; unfold vR; simp only []; omega, by show _ ≤ _; unfold vR; simp only []; omega⟩ dX8_readProduct_2 ?_
  refine v_if_ne (tgt := 10) hX dX8_readProduct_5 (by decide) h (fun h => ?_) (fun h => ?_)
  · refine v_iconst (v := 0) hX dX8_readProduct_8 (by decide) ?_
    exact v_retZ0 hR h dX8_readProduct_9
  · refine v_iconst (v := 0) hX dX8_readProduct_10 (by decide) ?_
    refine v_istore_n (lv' := [(2, .int 0), (0, .ref (ad 21)), (1, .int a1)]) hX dX8_readProduct_11 rfl (by decide) rfl ?_
    exact v_sub hX [1, 2, 0] (by rfl) (wC_RuleReader_readProduct_12 HE hX hR  N _ _ _ h)
noncomputable def fC_RuleReader_readProduct (N : Nat) (rE : Int32 → vSt → Option (Int32 × vSt)) (a1 : Int32) (s : vSt) : Option (Int32 × vSt) := gC_RuleReader_readProduct_0 N rE a1 s
theorem mC_RuleReader_readProduct {l : Launch} {ad : Nat → Nat} {N : Nat} {rE : Int32 → vSt → Option (Int32 × vSt)} {fE nE : Nat} (HE : ∀ a s r t, rE a s = some (r, t) → vMI l shC ad yX8_readExpression cX8_readExpression 3 .boolean fE nE s [.ref (ad 21), .int a] r t)  {a1 : Int32} {s : vSt} {r : Int32} {t1 : vSt} (h : fC_RuleReader_readProduct N rE a1 s = some (r, t1)) : vMI l shC ad yX8_readProduct cX8_readProduct 4 .boolean (fE + 5) (nE + 109) s [.ref (ad 21), .int a1] r t1 :=
  vMI_of (by decide +kernel) (Nat.le_of_ble_eq_true rfl) (fun P hX hR => wC_RuleReader_readProduct_0 HE hX hR h)
-- C_RuleReader_readSum
noncomputable def gC_RuleReader_readSum_37 (N : Nat) (rE : Int32 → vSt → Option (Int32 × vSt)) (r12 : Int32 → Int32 → vSt → Option (Int32 × vSt)) (a1 : Int32) (a2 : Int32) (a3 : Int32) (s : vSt) : Option (Int32 × vSt) :=
  (some (s1 s 21 4 ((s.1 21 4) + 1))).bind fun z1 =>
  (fC_RuleReader_readProduct N rE a1 z1).bind fun p2 =>
  if p2.1 = 0 then
    some (0, p2.2)
  else
    (fC_RuleReader_emit N ((2000 : Int32) + a3) p2.2).bind fun z3 =>
    (some (a2 + 1 : Int32)).bind fun v4 =>
    r12 a1 v4 z3
set_option maxRecDepth 4000 in
theorem wC_RuleReader_readSum_37 {P : vP} {l : Launch} {ad : Nat → Nat} {N : Nat} {rE : Int32 → vSt → Option (Int32 × vSt)} {fE nE : Nat} {r12 : Int32 → Int32 → vSt → Option (Int32 × vSt)} {r : Int32} {t1 : vSt} (HE : ∀ a s r t, rE a s = some (r, t) → vMI l shC ad yX8_readExpression cX8_readExpression 3 .boolean fE nE s [.ref (ad 21), .int a] r t) (hX : vOK P l shC ad (vR (fE + 6) (nE + 132)) cX8_readSum RX8 4) (hR : (∀ pc lv, narrow .boolean (.int r) = .int r → decode cX8_readSum pc = .ok (.ireturn, 1) → P t1 pc lv [.int r])) (H12 : ∀ (a1 : Int32) (a2 : Int32) (s : vSt), r12 a1 a2 s = some (r, t1) → P s 12 [(0, .ref (ad 21)), (1, .int a1), (2, .int a2)] []) {a1 : Int32} {a2 : Int32} {a3 : Int32} {s : vSt} (h : gC_RuleReader_readSum_37 N rE r12 a1 a2 a3 s = some (r, t1)) : P s 37 [(0, .ref (ad 21)), (1, .int a1), (2, .int a2), (3, .int a3)] [] := by
  unfold gC_RuleReader_readSum_37 at h
  refine v_aload_n hX dX8_readSum_37 rfl 0 rfl ?_
  refine v_dup hX dX8_readSum_38 rfl ?_
  refine gfC_21_4 hX kf_8_23 dX8_readSum_39 ?_
  refine v_iconst (v := 1) hX dX8_readSum_42 (by decide) ?_
  refine v_iadd hX dX8_readSum_43 ?_
  refine pfC_21_4 hX kf_8_23 dX8_readSum_44 h (fun z1 h => ?_)
  refine v_aload_n hX dX8_readSum_47 rfl 0 rfl ?_
  refine v_iload_n hX dX8_readSum_48 rfl 1 rfl ?_
  obtain ⟨p2, hp2, h⟩ := bsome h
  refine v_callVI (o := 21) hX (mC_RuleReader_readProduct HE hp2) kM_X8_readProduct kV_X8_readProduct km_8_64 (by decide) (fun _ => rfl) rfl rfl rfl (Nat.le_of_ble_eq_true rfl) ⟨by show _ ≤ _; unfold vR; simp only []; omega, by show _ ≤ _; unfold vR; simp only []; omega⟩ dX8_readSum_49 ?_
  refine v_if_ne (tgt := 57) hX dX8_readSum_52 (by decide) h (fun h => ?_) (fun h => ?_)
  · refine v_iconst (v := 0) hX dX8_readSum_55 (by decide) ?_
    exact v_retZ0 hR h dX8_readSum_56
  · refine v_aload_n hX dX8_readSum_57 rfl 0 rfl ?_
    refine v_sipush (v := 2000) hX dX8_readSum_58 (by decide) ?_
    refine v_iload_n hX dX8_readSum_61 rfl 3 rfl ?_
    refine v_iadd hX dX8_readSum_62 ?_
    obtain ⟨z3, hz3, h⟩ := bsome h
    refine v_callVV (o := 21) hX (mC_RuleReader_emit hz3 l ad) kM_X8_emit kV_X8_emit km_8_60 (by decide) (fun _ => rfl) rfl rfl rfl (Nat.le_of_ble_eq_true rfl) ⟨by show _ ≤ _; unfold vR; simp only []; omega, by show _ ≤ _; unfold vR; simp only []; omega⟩ dX8_readSum_63 ?_
    refine v_iincN hX dX8_readSum_66 (j := 2) rfl (c := 1) (by decide) (by decide) h (fun v4 h => ?_)
    refine v_show (lv' := [(2, .int v4), (0, .ref (ad 21)), (1, .int a1), (3, .int a3)]) hX rfl ?_
    refine v_goto (tgt := 12) hX dX8_readSum_69 (by decide) ?_
    exact v_sub hX [1, 2, 0] (by rfl) (H12 _ _ _ h)
noncomputable def gC_RuleReader_readSum_12 (N : Nat) (rE : Int32 → vSt → Option (Int32 × vSt))  : Nat → Int32 → Int32 → vSt → Option (Int32 × vSt)
  | 0, _, _, _ => none
  | n + 1, a1, a2, s =>
    if 40 ≤ a2 then
      some (1, s)
    else
      (fC_RuleReader_next N s).bind fun p1 =>
      if p1.1 = 43 then
        gC_RuleReader_readSum_37 N rE (gC_RuleReader_readSum_12 N rE n) a1 a2 p1.1 p1.2
      else
        if p1.1 = 45 then
          gC_RuleReader_readSum_37 N rE (gC_RuleReader_readSum_12 N rE n) a1 a2 p1.1 p1.2
        else
          some (1, p1.2)
set_option maxRecDepth 4000 in
theorem wC_RuleReader_readSum_12 {P : vP} {l : Launch} {ad : Nat → Nat} {N : Nat} {rE : Int32 → vSt → Option (Int32 × vSt)} {fE nE : Nat} {r : Int32} {t1 : vSt} (HE : ∀ a s r t, rE a s = some (r, t) → vMI l shC ad yX8_readExpression cX8_readExpression 3 .boolean fE nE s [.ref (ad 21), .int a] r t) (hX : vOK P l shC ad (vR (fE + 6) (nE + 132)) cX8_readSum RX8 4) (hR : (∀ pc lv, narrow .boolean (.int r) = .int r → decode cX8_readSum pc = .ok (.ireturn, 1) → P t1 pc lv [.int r]))  : ∀ (n : Nat) (a1 : Int32) (a2 : Int32) (s : vSt), gC_RuleReader_readSum_12 N rE n a1 a2 s = some (r, t1) → P s 12 [(0, .ref (ad 21)), (1, .int a1), (2, .int a2)] [] := by
  intro n
  induction n with
  | zero => intro a1 a2 s h; cases h
  | succ n ih =>
    intro a1 a2 s h
    unfold gC_RuleReader_readSum_12 at h
    refine v_iload_n hX dX8_readSum_12 rfl 2 rfl ?_
    refine v_bipush (v := 40) hX dX8_readSum_13 (by decide) ?_
    refine v_icmp_ge (tgt := 72) hX dX8_readSum_15 (by decide) h (fun h => ?_) (fun h => ?_)
    · refine v_iconst (v := 1) hX dX8_readSum_72 (by decide) ?_
      exact v_retZ1 hR h dX8_readSum_73
    · refine v_aload_n hX dX8_readSum_18 rfl 0 rfl ?_
      obtain ⟨p1, hp1, h⟩ := bsome h
      refine v_callVI (o := 21) hX (mC_RuleReader_next hp1 l ad) kM_X8_next kV_X8_next km_8_56 (by decide) (fun _ => rfl) rfl rfl rfl (Nat.le_of_ble_eq_true rfl) ⟨by show _ ≤ _; unfold vR; simp only []; omega, by show _ ≤ _; unfold vR; simp only []; omega⟩ dX8_readSum_19 ?_
      refine v_istore_n (lv' := [(3, .int p1.1), (0, .ref (ad 21)), (1, .int a1), (2, .int a2)]) hX dX8_readSum_22 rfl (by decide) rfl ?_
      refine v_iload_n hX dX8_readSum_23 rfl 0 rfl ?_
      refine v_bipush (v := 43) hX dX8_readSum_24 (by decide) ?_
      refine v_icmp_eq (tgt := 37) hX dX8_readSum_26 (by decide) h (fun h => ?_) (fun h => ?_)
      · exact v_sub hX [1, 2, 3, 0] (by rfl) (wC_RuleReader_readSum_37 HE hX hR ih h)
      · refine v_iload_n hX dX8_readSum_29 rfl 0 rfl ?_
        refine v_bipush (v := 45) hX dX8_readSum_30 (by decide) ?_
        refine v_icmp_eq (tgt := 37) hX dX8_readSum_32 (by decide) h (fun h => ?_) (fun h => ?_)
        · exact v_sub hX [1, 2, 3, 0] (by rfl) (wC_RuleReader_readSum_37 HE hX hR ih h)
        · refine v_iconst (v := 1) hX dX8_readSum_35 (by decide) ?_
          exact v_retZ1 hR h dX8_readSum_36
noncomputable def gC_RuleReader_readSum_0 (N : Nat) (rE : Int32 → vSt → Option (Int32 × vSt))  (a1 : Int32) (s : vSt) : Option (Int32 × vSt) :=
  (fC_RuleReader_readProduct N rE a1 s).bind fun p1 =>
  if p1.1 = 0 then
    some (0, p1.2)
  else
    gC_RuleReader_readSum_12 N rE N a1 0 p1.2
set_option maxRecDepth 4000 in
theorem wC_RuleReader_readSum_0 {P : vP} {l : Launch} {ad : Nat → Nat} {N : Nat} {rE : Int32 → vSt → Option (Int32 × vSt)} {fE nE : Nat} {r : Int32} {t1 : vSt} (HE : ∀ a s r t, rE a s = some (r, t) → vMI l shC ad yX8_readExpression cX8_readExpression 3 .boolean fE nE s [.ref (ad 21), .int a] r t) (hX : vOK P l shC ad (vR (fE + 6) (nE + 132)) cX8_readSum RX8 4) (hR : (∀ pc lv, narrow .boolean (.int r) = .int r → decode cX8_readSum pc = .ok (.ireturn, 1) → P t1 pc lv [.int r]))  {a1 : Int32} {s : vSt} (h : gC_RuleReader_readSum_0 N rE a1 s = some (r, t1)) : P s 0 [(0, .ref (ad 21)), (1, .int a1)] [] := by
  unfold gC_RuleReader_readSum_0 at h
  refine v_aload_n hX dX8_readSum_0 rfl 0 rfl ?_
  refine v_iload_n hX dX8_readSum_1 rfl 1 rfl ?_
  obtain ⟨p1, hp1, h⟩ := bsome h
  refine v_callVI (o := 21) hX (mC_RuleReader_readProduct HE hp1) kM_X8_readProduct kV_X8_readProduct km_8_64 (by decide) (fun _ => rfl) rfl rfl rfl (Nat.le_of_ble_eq_true rfl) ⟨by show _ ≤ _; unfold vR; simp only []; omega, by show _ ≤ _; unfold vR; simp only []; omega⟩ dX8_readSum_2 ?_
  refine v_if_ne (tgt := 10) hX dX8_readSum_5 (by decide) h (fun h => ?_) (fun h => ?_)
  · refine v_iconst (v := 0) hX dX8_readSum_8 (by decide) ?_
    exact v_retZ0 hR h dX8_readSum_9
  · refine v_iconst (v := 0) hX dX8_readSum_10 (by decide) ?_
    refine v_istore_n (lv' := [(2, .int 0), (0, .ref (ad 21)), (1, .int a1)]) hX dX8_readSum_11 rfl (by decide) rfl ?_
    exact v_sub hX [1, 2, 0] (by rfl) (wC_RuleReader_readSum_12 HE hX hR  N _ _ _ h)
noncomputable def fC_RuleReader_readSum (N : Nat) (rE : Int32 → vSt → Option (Int32 × vSt)) (a1 : Int32) (s : vSt) : Option (Int32 × vSt) := gC_RuleReader_readSum_0 N rE a1 s
theorem mC_RuleReader_readSum {l : Launch} {ad : Nat → Nat} {N : Nat} {rE : Int32 → vSt → Option (Int32 × vSt)} {fE nE : Nat} (HE : ∀ a s r t, rE a s = some (r, t) → vMI l shC ad yX8_readExpression cX8_readExpression 3 .boolean fE nE s [.ref (ad 21), .int a] r t)  {a1 : Int32} {s : vSt} {r : Int32} {t1 : vSt} (h : fC_RuleReader_readSum N rE a1 s = some (r, t1)) : vMI l shC ad yX8_readSum cX8_readSum 4 .boolean (fE + 6) (nE + 132) s [.ref (ad 21), .int a1] r t1 :=
  vMI_of (by decide +kernel) (Nat.le_of_ble_eq_true rfl) (fun P hX hR => wC_RuleReader_readSum_0 HE hX hR h)
-- C_RuleReader_readExpression
noncomputable def gC_RuleReader_readExpression_35 (N : Nat) (rE : Int32 → vSt → Option (Int32 × vSt))  (a1 : Int32) (a2 : Int32) (s : vSt) : Option (Int32 × vSt) :=
  (some (s1 s 21 4 ((s.1 21 4) + 1))).bind fun z1 =>
  (fC_RuleReader_readSum N rE a1 z1).bind fun p2 =>
  if p2.1 = 0 then
    some (0, p2.2)
  else
    (fC_RuleReader_emit N ((2000 : Int32) + a2) p2.2).bind fun z3 =>
    some (1, z3)
set_option maxRecDepth 4000 in
theorem wC_RuleReader_readExpression_35 {P : vP} {l : Launch} {ad : Nat → Nat} {N : Nat} {rE : Int32 → vSt → Option (Int32 × vSt)} {fE nE : Nat} {r : Int32} {t1 : vSt} (HE : ∀ a s r t, rE a s = some (r, t) → vMI l shC ad yX8_readExpression cX8_readExpression 3 .boolean fE nE s [.ref (ad 21), .int a] r t) (hX : vOK P l shC ad (vR (fE + 7) (nE + 155)) cX8_readExpression RX8 3) (hR : (∀ pc lv, narrow .boolean (.int r) = .int r → decode cX8_readExpression pc = .ok (.ireturn, 1) → P t1 pc lv [.int r]))  {a1 : Int32} {a2 : Int32} {s : vSt} (h : gC_RuleReader_readExpression_35 N rE a1 a2 s = some (r, t1)) : P s 35 [(0, .ref (ad 21)), (1, .int a1), (2, .int a2)] [] := by
  unfold gC_RuleReader_readExpression_35 at h
  refine v_aload_n hX dX8_readExpression_35 rfl 0 rfl ?_
  refine v_dup hX dX8_readExpression_36 rfl ?_
  refine gfC_21_4 hX kf_8_23 dX8_readExpression_37 ?_
  refine v_iconst (v := 1) hX dX8_readExpression_40 (by decide) ?_
  refine v_iadd hX dX8_readExpression_41 ?_
  refine pfC_21_4 hX kf_8_23 dX8_readExpression_42 h (fun z1 h => ?_)
  refine v_aload_n hX dX8_readExpression_45 rfl 0 rfl ?_
  refine v_iload_n hX dX8_readExpression_46 rfl 1 rfl ?_
  obtain ⟨p2, hp2, h⟩ := bsome h
  refine v_callVI (o := 21) hX (mC_RuleReader_readSum HE hp2) kM_X8_readSum kV_X8_readSum km_8_53 (by decide) (fun _ => rfl) rfl rfl rfl (Nat.le_of_ble_eq_true rfl) ⟨by show _ ≤ _; unfold vR; simp only []; omega, by show _ ≤ _; unfold vR; simp only []; omega⟩ dX8_readExpression_47 ?_
  refine v_if_ne (tgt := 55) hX dX8_readExpression_50 (by decide) h (fun h => ?_) (fun h => ?_)
  · refine v_iconst (v := 0) hX dX8_readExpression_53 (by decide) ?_
    exact v_retZ0 hR h dX8_readExpression_54
  · refine v_aload_n hX dX8_readExpression_55 rfl 0 rfl ?_
    refine v_sipush (v := 2000) hX dX8_readExpression_56 (by decide) ?_
    refine v_iload_n hX dX8_readExpression_59 rfl 2 rfl ?_
    refine v_iadd hX dX8_readExpression_60 ?_
    obtain ⟨z3, hz3, h⟩ := bsome h
    refine v_callVV (o := 21) hX (mC_RuleReader_emit hz3 l ad) kM_X8_emit kV_X8_emit km_8_60 (by decide) (fun _ => rfl) rfl rfl rfl (Nat.le_of_ble_eq_true rfl) ⟨by show _ ≤ _; unfold vR; simp only []; omega, by show _ ≤ _; unfold vR; simp only []; omega⟩ dX8_readExpression_61 ?_
    refine v_iconst (v := 1) hX dX8_readExpression_64 (by decide) ?_
    exact v_retZ1 hR h dX8_readExpression_65
noncomputable def gC_RuleReader_readExpression_0 (N : Nat) (rE : Int32 → vSt → Option (Int32 × vSt))  (a1 : Int32) (s : vSt) : Option (Int32 × vSt) :=
  (fC_RuleReader_readSum N rE a1 s).bind fun p1 =>
  if p1.1 = 0 then
    some (0, p1.2)
  else
    (fC_RuleReader_next N p1.2).bind fun p2 =>
    if p2.1 = 60 then
      gC_RuleReader_readExpression_35 N rE a1 p2.1 p2.2
    else
      if p2.1 = 62 then
        gC_RuleReader_readExpression_35 N rE a1 p2.1 p2.2
      else
        if p2.1 = 61 then
          gC_RuleReader_readExpression_35 N rE a1 p2.1 p2.2
        else
          some (1, p2.2)
set_option maxRecDepth 4000 in
theorem wC_RuleReader_readExpression_0 {P : vP} {l : Launch} {ad : Nat → Nat} {N : Nat} {rE : Int32 → vSt → Option (Int32 × vSt)} {fE nE : Nat} {r : Int32} {t1 : vSt} (HE : ∀ a s r t, rE a s = some (r, t) → vMI l shC ad yX8_readExpression cX8_readExpression 3 .boolean fE nE s [.ref (ad 21), .int a] r t) (hX : vOK P l shC ad (vR (fE + 7) (nE + 155)) cX8_readExpression RX8 3) (hR : (∀ pc lv, narrow .boolean (.int r) = .int r → decode cX8_readExpression pc = .ok (.ireturn, 1) → P t1 pc lv [.int r]))  {a1 : Int32} {s : vSt} (h : gC_RuleReader_readExpression_0 N rE a1 s = some (r, t1)) : P s 0 [(0, .ref (ad 21)), (1, .int a1)] [] := by
  unfold gC_RuleReader_readExpression_0 at h
  refine v_aload_n hX dX8_readExpression_0 rfl 0 rfl ?_
  refine v_iload_n hX dX8_readExpression_1 rfl 1 rfl ?_
  obtain ⟨p1, hp1, h⟩ := bsome h
  refine v_callVI (o := 21) hX (mC_RuleReader_readSum HE hp1) kM_X8_readSum kV_X8_readSum km_8_53 (by decide) (fun _ => rfl) rfl rfl rfl (Nat.le_of_ble_eq_true rfl) ⟨by show _ ≤ _; unfold vR; simp only []; omega, by show _ ≤ _; unfold vR; simp only []; omega⟩ dX8_readExpression_2 ?_
  refine v_if_ne (tgt := 10) hX dX8_readExpression_5 (by decide) h (fun h => ?_) (fun h => ?_)
  · refine v_iconst (v := 0) hX dX8_readExpression_8 (by decide) ?_
    exact v_retZ0 hR h dX8_readExpression_9
  · refine v_aload_n hX dX8_readExpression_10 rfl 0 rfl ?_
    obtain ⟨p2, hp2, h⟩ := bsome h
    refine v_callVI (o := 21) hX (mC_RuleReader_next hp2 l ad) kM_X8_next kV_X8_next km_8_56 (by decide) (fun _ => rfl) rfl rfl rfl (Nat.le_of_ble_eq_true rfl) ⟨by show _ ≤ _; unfold vR; simp only []; omega, by show _ ≤ _; unfold vR; simp only []; omega⟩ dX8_readExpression_11 ?_
    refine v_istore_n (lv' := [(2, .int p2.1), (0, .ref (ad 21)), (1, .int a1)]) hX dX8_readExpression_14 rfl (by decide) rfl ?_
    refine v_iload_n hX dX8_readExpression_15 rfl 0 rfl ?_
    refine v_bipush (v := 60) hX dX8_readExpression_16 (by decide) ?_
    refine v_icmp_eq (tgt := 35) hX dX8_readExpression_18 (by decide) h (fun h => ?_) (fun h => ?_)
    · exact v_sub hX [1, 2, 0] (by rfl) (wC_RuleReader_readExpression_35 HE hX hR  h)
    · refine v_iload_n hX dX8_readExpression_21 rfl 0 rfl ?_
      refine v_bipush (v := 62) hX dX8_readExpression_22 (by decide) ?_
      refine v_icmp_eq (tgt := 35) hX dX8_readExpression_24 (by decide) h (fun h => ?_) (fun h => ?_)
      · exact v_sub hX [1, 2, 0] (by rfl) (wC_RuleReader_readExpression_35 HE hX hR  h)
      · refine v_iload_n hX dX8_readExpression_27 rfl 0 rfl ?_
        refine v_bipush (v := 61) hX dX8_readExpression_28 (by decide) ?_
        refine v_icmp_eq (tgt := 35) hX dX8_readExpression_30 (by decide) h (fun h => ?_) (fun h => ?_)
        · exact v_sub hX [1, 2, 0] (by rfl) (wC_RuleReader_readExpression_35 HE hX hR  h)
        · refine v_iconst (v := 1) hX dX8_readExpression_33 (by decide) ?_
          exact v_retZ1 hR h dX8_readExpression_34
noncomputable def fC_RuleReader_readExpression (N : Nat) : Nat → Int32 → vSt → Option (Int32 × vSt)
  | 0, _, _ => none
  | d + 1, a1, s => gC_RuleReader_readExpression_0 N (fC_RuleReader_readExpression N d) a1 s
theorem mC_RuleReader_readExpression {N : Nat} (d : Nat) {a1 : Int32} {s : vSt} {r : Int32} {t1 : vSt} (h : fC_RuleReader_readExpression N d a1 s = some (r, t1)) (l : Launch) (ad : Nat → Nat) : vMI l shC ad yX8_readExpression cX8_readExpression 3 .boolean (7 * d) (155 * d) s [.ref (ad 21), .int a1] r t1 := by
  induction d generalizing a1 s r t1 with
  | zero => cases h
  | succ d ih =>
    rw [show 7 * (d + 1) = 7 * d + 7 from rfl, show 155 * (d + 1) = 155 * d + 155 from rfl]
    exact vMI_of (by decide +kernel) (Nat.le_of_ble_eq_true rfl) (fun P hX hR => wC_RuleReader_readExpression_0 (fE := 7 * d) (nE := 155 * d) (fun _ _ _ _ z => ih z) hX hR h)
-- C_RuleReader_readText
noncomputable def gC_RuleReader_readText_42 (N : Nat)   (s : vSt) : Option (Int32 × vSt) :=
  some (((-1) : Int32) - (s.1 21 4), s)
set_option maxRecDepth 4000 in
theorem wC_RuleReader_readText_42 {P : vP} {l : Launch} {ad : Nat → Nat} {N : Nat} {r : Int32} {t1 : vSt} (hX : vOK P l shC ad (vR 337 7462) cX8_readText RX8 1) (hR : (∀ pc lv, narrow .int (.int r) = .int r → decode cX8_readText pc = .ok (.ireturn, 1) → P t1 pc lv [.int r]))   {s : vSt} (h : gC_RuleReader_readText_42 N s = some (r, t1)) : P s 42 [(0, .ref (ad 21))] [] := by
  unfold gC_RuleReader_readText_42 at h
  refine v_iconst (v := (-1)) hX dX8_readText_42 (by decide) ?_
  refine v_aload_n hX dX8_readText_43 rfl 0 rfl ?_
  refine gfC_21_4 hX kf_8_23 dX8_readText_44 ?_
  refine v_isub hX dX8_readText_47 ?_
  exact v_retI hR h dX8_readText_48
noncomputable def gC_RuleReader_readText_49 (N : Nat)   (s : vSt) : Option (Int32 × vSt) :=
  (scpy s 22 18 40 40 (s.1 21 3)).bind fun z1 =>
  (some (s1 z1 17 1 (z1.1 21 3))).bind fun z2 =>
  some (0, z2)
set_option maxRecDepth 4000 in
theorem wC_RuleReader_readText_49 {P : vP} {l : Launch} {ad : Nat → Nat} {N : Nat} {r : Int32} {t1 : vSt} (hX : vOK P l shC ad (vR 337 7462) cX8_readText RX8 1) (hR : (∀ pc lv, narrow .int (.int r) = .int r → decode cX8_readText pc = .ok (.ireturn, 1) → P t1 pc lv [.int r]))   {s : vSt} (h : gC_RuleReader_readText_49 N s = some (r, t1)) : P s 49 [(0, .ref (ad 21))] [] := by
  unfold gC_RuleReader_readText_49 at h
  refine v_aload_n hX dX8_readText_49 rfl 0 rfl ?_
  refine gfC_21_2 hX kf_8_9 dX8_readText_50 ?_
  refine v_iconst (v := 0) hX dX8_readText_53 (by decide) ?_
  refine v_aload_n hX dX8_readText_54 rfl 0 rfl ?_
  refine gfC_21_1 hX kf_8_19 dX8_readText_55 ?_
  refine gfC_17_0 hX kf_8_39 dX8_readText_58 ?_
  refine v_iconst (v := 0) hX dX8_readText_61 (by decide) ?_
  refine v_aload_n hX dX8_readText_62 rfl 0 rfl ?_
  refine gfC_21_3 hX kf_8_27 dX8_readText_63 ?_
  refine v_copy hX kAc_8_42 kAcN kAcS kI_System (by decide) (Nat.le_of_ble_eq_true rfl) (by decide) (by decide) (fun _ _ _ => rfl) (fun _ _ _ => rfl) dX8_readText_66 h (fun z1 _ h => ?_)
  refine v_aload_n hX dX8_readText_69 rfl 0 rfl ?_
  refine gfC_21_1 hX kf_8_19 dX8_readText_70 ?_
  refine v_aload_n hX dX8_readText_73 rfl 0 rfl ?_
  refine gfC_21_3 hX kf_8_27 dX8_readText_74 ?_
  refine pfC_17_1 hX kf_8_48 dX8_readText_77 h (fun z2 h => ?_)
  refine v_iconst (v := 0) hX dX8_readText_80 (by decide) ?_
  exact v_retI hR h dX8_readText_81
noncomputable def gC_RuleReader_readText_0 (N : Nat)   (s : vSt) : Option (Int32 × vSt) :=
  (some (s1 s 21 4 0)).bind fun z1 =>
  (some (s1 z1 21 3 0)).bind fun z2 =>
  if (z2.1 1 1) ≤ 0 then
    gC_RuleReader_readText_49 N z2
  else
    (fC_RuleReader_readExpression N 48 0 z2).bind fun p3 =>
    if p3.1 = 0 then
      gC_RuleReader_readText_42 N p3.2
    else
      if (p3.2.1 1 1) ≤ (p3.2.1 21 4) then
        gC_RuleReader_readText_49 N p3.2
      else
        gC_RuleReader_readText_42 N p3.2
set_option maxRecDepth 4000 in
theorem wC_RuleReader_readText_0 {P : vP} {l : Launch} {ad : Nat → Nat} {N : Nat} {r : Int32} {t1 : vSt} (hX : vOK P l shC ad (vR 337 7462) cX8_readText RX8 1) (hR : (∀ pc lv, narrow .int (.int r) = .int r → decode cX8_readText pc = .ok (.ireturn, 1) → P t1 pc lv [.int r]))   {s : vSt} (h : gC_RuleReader_readText_0 N s = some (r, t1)) : P s 0 [(0, .ref (ad 21))] [] := by
  unfold gC_RuleReader_readText_0 at h
  refine v_aload_n hX dX8_readText_0 rfl 0 rfl ?_
  refine v_iconst (v := 0) hX dX8_readText_1 (by decide) ?_
  refine pfC_21_4 hX kf_8_23 dX8_readText_2 h (fun z1 h => ?_)
  refine v_aload_n hX dX8_readText_5 rfl 0 rfl ?_
  refine v_iconst (v := 0) hX dX8_readText_6 (by decide) ?_
  refine pfC_21_3 hX kf_8_27 dX8_readText_7 h (fun z2 h => ?_)
  refine v_aload_n hX dX8_readText_10 rfl 0 rfl ?_
  refine gfC_21_0 hX kf_8_15 dX8_readText_11 ?_
  refine gfC_1_1 hX kf_8_30 dX8_readText_14 ?_
  refine v_if_le (tgt := 49) hX dX8_readText_17 (by decide) h (fun h => ?_) (fun h => ?_)
  · exact v_sub hX [0] (by rfl) (wC_RuleReader_readText_49 hX hR  h)
  · refine v_aload_n hX dX8_readText_20 rfl 0 rfl ?_
    refine v_iconst (v := 0) hX dX8_readText_21 (by decide) ?_
    obtain ⟨p3, hp3, h⟩ := bsome h
    refine v_callVI (o := 21) hX (mC_RuleReader_readExpression 48 hp3 l ad) kM_X8_readExpression kV_X8_readExpression km_8_35 (by decide) (fun _ => rfl) rfl rfl rfl (Nat.le_of_ble_eq_true rfl) (by decide) dX8_readText_22 ?_
    refine v_if_eq (tgt := 42) hX dX8_readText_25 (by decide) h (fun h => ?_) (fun h => ?_)
    · exact v_sub hX [0] (by rfl) (wC_RuleReader_readText_42 hX hR  h)
    · refine v_aload_n hX dX8_readText_28 rfl 0 rfl ?_
      refine gfC_21_4 hX kf_8_23 dX8_readText_29 ?_
      refine v_aload_n hX dX8_readText_32 rfl 0 rfl ?_
      refine gfC_21_0 hX kf_8_15 dX8_readText_33 ?_
      refine gfC_1_1 hX kf_8_30 dX8_readText_36 ?_
      refine v_icmp_ge (tgt := 49) hX dX8_readText_39 (by decide) h (fun h => ?_) (fun h => ?_)
      · exact v_sub hX [0] (by rfl) (wC_RuleReader_readText_49 hX hR  h)
      · exact v_sub hX [0] (by rfl) (wC_RuleReader_readText_42 hX hR  h)
noncomputable def fC_RuleReader_readText (N : Nat)  (s : vSt) : Option (Int32 × vSt) := gC_RuleReader_readText_0 N s
theorem mC_RuleReader_readText {N : Nat}  {s : vSt} {r : Int32} {t1 : vSt} (h : fC_RuleReader_readText N s = some (r, t1)) (l : Launch) (ad : Nat → Nat) : vMI l shC ad yX8_readText cX8_readText 1 .int 337 7462 s [.ref (ad 21)] r t1 :=
  vMI_of (by decide +kernel) (Nat.le_of_ble_eq_true rfl) (fun P hX hR => wC_RuleReader_readText_0 hX hR h)
-- C_EachAddsALine_rule
noncomputable def gC_EachAddsALine_rule_0 (N : Nat)   (s : vSt) : Option (Int32 × vSt) :=
  (fC_RuleReader_readText N s).bind fun p1 =>
  (fC_Text_clear N p1.2).bind fun z2 =>
  some (p1.1, z2)
set_option maxRecDepth 4000 in
theorem wC_EachAddsALine_rule_0 {P : vP} {l : Launch} {ad : Nat → Nat} {N : Nat} {r : Int32} {t1 : vSt} (hX : vOK P l shC ad (vR 338 7482) cX11_rule RX11 2) (hR : (∀ pc lv, narrow .int (.int r) = .int r → decode cX11_rule pc = .ok (.ireturn, 1) → P t1 pc lv [.int r]))   {s : vSt} (h : gC_EachAddsALine_rule_0 N s = some (r, t1)) : P s 0 [(0, .ref (ad 0))] [] := by
  unfold gC_EachAddsALine_rule_0 at h
  refine v_aload_n hX dX11_rule_0 rfl 0 rfl ?_
  refine gfC_0_5 hX kf_11_51 dX11_rule_1 ?_
  obtain ⟨p1, hp1, h⟩ := bsome h
  refine v_callVI (o := 21) hX (mC_RuleReader_readText hp1 l ad) kM_X8_readText kV_X8_readText km_11_113 (by decide) (fun _ => rfl) rfl rfl rfl (Nat.le_of_ble_eq_true rfl) (by decide) dX11_rule_4 ?_
  refine v_istore_n (lv' := [(1, .int p1.1), (0, .ref (ad 0))]) hX dX11_rule_7 rfl (by decide) rfl ?_
  refine v_aload_n hX dX11_rule_8 rfl 1 rfl ?_
  refine gfC_0_0 hX kf_11_12 dX11_rule_9 ?_
  obtain ⟨z2, hz2, h⟩ := bsome h
  refine v_callVV (o := 1) hX (mC_Text_clear hz2 l ad) kM_X10_clear kV_X10_clear km_11_110 (by decide) (fun _ => rfl) rfl rfl rfl (Nat.le_of_ble_eq_true rfl) (by decide) dX11_rule_12 ?_
  refine v_iload_n hX dX11_rule_15 rfl 0 rfl ?_
  exact v_retI hR h dX11_rule_16
noncomputable def fC_EachAddsALine_rule (N : Nat)  (s : vSt) : Option (Int32 × vSt) := gC_EachAddsALine_rule_0 N s
theorem mC_EachAddsALine_rule {N : Nat}  {s : vSt} {r : Int32} {t1 : vSt} (h : fC_EachAddsALine_rule N s = some (r, t1)) (l : Launch) (ad : Nat → Nat) : vMI l shC ad yX11_rule cX11_rule 2 .int 338 7482 s [.ref (ad 0)] r t1 :=
  vMI_of (by decide +kernel) (Nat.le_of_ble_eq_true rfl) (fun P hX hR => wC_EachAddsALine_rule_0 hX hR h)
-- C_Roads_hasPerson
noncomputable def gC_Roads_hasPerson_16 (N : Nat)   (s : vSt) : Option (Int32 × vSt) :=
  some (0, s)
set_option maxRecDepth 4000 in
theorem wC_Roads_hasPerson_16 {P : vP} {l : Launch} {ad : Nat → Nat} {N : Nat} {r : Int32} {t1 : vSt} (hX : vOK P l shC ad (vR 0 0) cX6_hasPerson RX6 2) (hR : (∀ pc lv, narrow .boolean (.int r) = .int r → decode cX6_hasPerson pc = .ok (.ireturn, 1) → P t1 pc lv [.int r]))   {s : vSt} (h : gC_Roads_hasPerson_16 N s = some (r, t1)) : P s 16 [] [] := by
  unfold gC_Roads_hasPerson_16 at h
  refine v_iconst (v := 0) hX dX6_hasPerson_16 (by decide) ?_
  exact v_retZ0 hR h dX6_hasPerson_17
noncomputable def gC_Roads_hasPerson_0 (N : Nat)  (a1 : Int32) (s : vSt) : Option (Int32 × vSt) :=
  if a1 < 0 then
    gC_Roads_hasPerson_16 N s
  else
    if (s.1 9 6) ≤ a1 then
      gC_Roads_hasPerson_16 N s
    else
      some (1, s)
set_option maxRecDepth 4000 in
theorem wC_Roads_hasPerson_0 {P : vP} {l : Launch} {ad : Nat → Nat} {N : Nat} {r : Int32} {t1 : vSt} (hX : vOK P l shC ad (vR 0 0) cX6_hasPerson RX6 2) (hR : (∀ pc lv, narrow .boolean (.int r) = .int r → decode cX6_hasPerson pc = .ok (.ireturn, 1) → P t1 pc lv [.int r]))  {a1 : Int32} {s : vSt} (h : gC_Roads_hasPerson_0 N a1 s = some (r, t1)) : P s 0 [(0, .ref (ad 9)), (1, .int a1)] [] := by
  unfold gC_Roads_hasPerson_0 at h
  refine v_iload_n hX dX6_hasPerson_0 rfl 1 rfl ?_
  refine v_if_lt (tgt := 16) hX dX6_hasPerson_1 (by decide) h (fun h => ?_) (fun h => ?_)
  · exact v_sub hX [] (by rfl) (wC_Roads_hasPerson_16 hX hR  h)
  · refine v_iload_n hX dX6_hasPerson_4 rfl 1 rfl ?_
    refine v_aload_n hX dX6_hasPerson_5 rfl 0 rfl ?_
    refine gfC_9_6 hX kf_6_30 dX6_hasPerson_6 ?_
    refine v_icmp_ge (tgt := 16) hX dX6_hasPerson_9 (by decide) h (fun h => ?_) (fun h => ?_)
    · exact v_sub hX [] (by rfl) (wC_Roads_hasPerson_16 hX hR  h)
    · refine v_iconst (v := 1) hX dX6_hasPerson_12 (by decide) ?_
      refine v_goto (tgt := 17) hX dX6_hasPerson_13 (by decide) ?_
      exact v_retZ1 hR h dX6_hasPerson_17
noncomputable def fC_Roads_hasPerson (N : Nat) (a1 : Int32) (s : vSt) : Option (Int32 × vSt) := gC_Roads_hasPerson_0 N a1 s
theorem mC_Roads_hasPerson {N : Nat} {a1 : Int32} {s : vSt} {r : Int32} {t1 : vSt} (h : fC_Roads_hasPerson N a1 s = some (r, t1)) (l : Launch) (ad : Nat → Nat) : vMI l shC ad yX6_hasPerson cX6_hasPerson 2 .boolean 0 0 s [.ref (ad 9), .int a1] r t1 :=
  vMI_of (by decide +kernel) (Nat.le_of_ble_eq_true rfl) (fun P hX hR => wC_Roads_hasPerson_0 hX hR h)
-- C_EachAddsALine_reads
noncomputable def gC_EachAddsALine_reads_0 (N : Nat)  (a1 : Int32) (s : vSt) : Option (Int32 × vSt) :=
  (fC_Roads_hasPerson N a1 s).bind fun p1 =>
  if p1.1 = 0 then
    some ((-1), p1.2)
  else
    (ld p1.2 10 9 a1).bind fun v2 =>
    some (v2, p1.2)
set_option maxRecDepth 4000 in
theorem wC_EachAddsALine_reads_0 {P : vP} {l : Launch} {ad : Nat → Nat} {N : Nat} {r : Int32} {t1 : vSt} (hX : vOK P l shC ad (vR 1 21) cX11_reads RX11 2) (hR : (∀ pc lv, narrow .int (.int r) = .int r → decode cX11_reads pc = .ok (.ireturn, 1) → P t1 pc lv [.int r]))  {a1 : Int32} {s : vSt} (h : gC_EachAddsALine_reads_0 N a1 s = some (r, t1)) : P s 0 [(0, .ref (ad 0)), (1, .int a1)] [] := by
  unfold gC_EachAddsALine_reads_0 at h
  refine v_aload_n hX dX11_reads_0 rfl 0 rfl ?_
  refine gfC_0_2 hX kf_11_26 dX11_reads_1 ?_
  refine v_iload_n hX dX11_reads_4 rfl 1 rfl ?_
  obtain ⟨p1, hp1, h⟩ := bsome h
  refine v_callVI (o := 9) hX (mC_Roads_hasPerson hp1 l ad) kM_X6_hasPerson kV_X6_hasPerson km_11_114 (by decide) (fun _ => rfl) rfl rfl rfl (Nat.le_of_ble_eq_true rfl) (by decide) dX11_reads_5 ?_
  refine v_if_eq (tgt := 23) hX dX11_reads_8 (by decide) h (fun h => ?_) (fun h => ?_)
  · refine v_iconst (v := (-1)) hX dX11_reads_23 (by decide) ?_
    exact v_retI hR h dX11_reads_24
  · refine v_aload_n hX dX11_reads_11 rfl 0 rfl ?_
    refine gfC_0_2 hX kf_11_26 dX11_reads_12 ?_
    refine gfC_9_0 hX kf_11_117 dX11_reads_15 ?_
    refine v_iload_n hX dX11_reads_18 rfl 1 rfl ?_
    refine alC_10 hX dX11_reads_19 h (fun v2 h => ?_)
    refine v_goto (tgt := 24) hX dX11_reads_20 (by decide) ?_
    exact v_retI hR h dX11_reads_24
noncomputable def fC_EachAddsALine_reads (N : Nat) (a1 : Int32) (s : vSt) : Option (Int32 × vSt) := gC_EachAddsALine_reads_0 N a1 s
theorem mC_EachAddsALine_reads {N : Nat} {a1 : Int32} {s : vSt} {r : Int32} {t1 : vSt} (h : fC_EachAddsALine_reads N a1 s = some (r, t1)) (l : Launch) (ad : Nat → Nat) : vMI l shC ad yX11_reads cX11_reads 2 .int 1 21 s [.ref (ad 0), .int a1] r t1 :=
  vMI_of (by decide +kernel) (Nat.le_of_ble_eq_true rfl) (fun P hX hR => wC_EachAddsALine_reads_0 hX hR h)
-- C_EachAddsALine_slow
noncomputable def gC_EachAddsALine_slow_0 (N : Nat)  (a1 : Int32) (a2 : Int32) (s : vSt) : Option (Int32 × vSt) :=
  (fC_Roads_hasPerson N a1 s).bind fun p1 =>
  if p1.1 = 0 then
    some ((-1), p1.2)
  else
    if a2 < 1 then
      some ((-1), p1.2)
    else
      if a2 ≤ 9 then
        (ld p1.2 10 9 a1).bind fun v2 =>
        (sto p1.2 10 9 a1 a2).bind fun z3 =>
        some (v2, z3)
      else
        some ((-1), p1.2)
set_option maxRecDepth 4000 in
theorem wC_EachAddsALine_slow_0 {P : vP} {l : Launch} {ad : Nat → Nat} {N : Nat} {r : Int32} {t1 : vSt} (hX : vOK P l shC ad (vR 1 21) cX11_slow RX11 4) (hR : (∀ pc lv, narrow .int (.int r) = .int r → decode cX11_slow pc = .ok (.ireturn, 1) → P t1 pc lv [.int r]))  {a1 : Int32} {a2 : Int32} {s : vSt} (h : gC_EachAddsALine_slow_0 N a1 a2 s = some (r, t1)) : P s 0 [(0, .ref (ad 0)), (1, .int a1), (2, .int a2)] [] := by
  unfold gC_EachAddsALine_slow_0 at h
  refine v_aload_n hX dX11_slow_0 rfl 0 rfl ?_
  refine gfC_0_2 hX kf_11_26 dX11_slow_1 ?_
  refine v_iload_n hX dX11_slow_4 rfl 1 rfl ?_
  obtain ⟨p1, hp1, h⟩ := bsome h
  refine v_callVI (o := 9) hX (mC_Roads_hasPerson hp1 l ad) kM_X6_hasPerson kV_X6_hasPerson km_11_114 (by decide) (fun _ => rfl) rfl rfl rfl (Nat.le_of_ble_eq_true rfl) (by decide) dX11_slow_5 ?_
  refine v_if_eq (tgt := 22) hX dX11_slow_8 (by decide) h (fun h => ?_) (fun h => ?_)
  · refine v_iconst (v := (-1)) hX dX11_slow_22 (by decide) ?_
    exact v_retI hR h dX11_slow_23
  · refine v_iload_n hX dX11_slow_11 rfl 2 rfl ?_
    refine v_iconst (v := 1) hX dX11_slow_12 (by decide) ?_
    refine v_icmp_lt (tgt := 22) hX dX11_slow_13 (by decide) h (fun h => ?_) (fun h => ?_)
    · refine v_iconst (v := (-1)) hX dX11_slow_22 (by decide) ?_
      exact v_retI hR h dX11_slow_23
    · refine v_iload_n hX dX11_slow_16 rfl 2 rfl ?_
      refine v_bipush (v := 9) hX dX11_slow_17 (by decide) ?_
      refine v_icmp_le (tgt := 24) hX dX11_slow_19 (by decide) h (fun h => ?_) (fun h => ?_)
      · refine v_aload_n hX dX11_slow_24 rfl 0 rfl ?_
        refine gfC_0_2 hX kf_11_26 dX11_slow_25 ?_
        refine gfC_9_0 hX kf_11_117 dX11_slow_28 ?_
        refine v_iload_n hX dX11_slow_31 rfl 1 rfl ?_
        refine alC_10 hX dX11_slow_32 h (fun v2 h => ?_)
        refine v_istore_n (lv' := [(3, .int v2), (0, .ref (ad 0)), (1, .int a1), (2, .int a2)]) hX dX11_slow_33 rfl (by decide) rfl ?_
        refine v_aload_n hX dX11_slow_34 rfl 1 rfl ?_
        refine gfC_0_2 hX kf_11_26 dX11_slow_35 ?_
        refine gfC_9_0 hX kf_11_117 dX11_slow_38 ?_
        refine v_iload_n hX dX11_slow_41 rfl 2 rfl ?_
        refine v_iload_n hX dX11_slow_42 rfl 3 rfl ?_
        refine asC_10 hX dX11_slow_43 h (fun z3 h => ?_)
        refine v_iload_n hX dX11_slow_44 rfl 0 rfl ?_
        exact v_retI hR h dX11_slow_45
      · refine v_iconst (v := (-1)) hX dX11_slow_22 (by decide) ?_
        exact v_retI hR h dX11_slow_23
noncomputable def fC_EachAddsALine_slow (N : Nat) (a1 : Int32) (a2 : Int32) (s : vSt) : Option (Int32 × vSt) := gC_EachAddsALine_slow_0 N a1 a2 s
theorem mC_EachAddsALine_slow {N : Nat} {a1 : Int32} {a2 : Int32} {s : vSt} {r : Int32} {t1 : vSt} (h : fC_EachAddsALine_slow N a1 a2 s = some (r, t1)) (l : Launch) (ad : Nat → Nat) : vMI l shC ad yX11_slow cX11_slow 4 .int 1 21 s [.ref (ad 0), .int a1, .int a2] r t1 :=
  vMI_of (by decide +kernel) (Nat.le_of_ble_eq_true rfl) (fun P hX hR => wC_EachAddsALine_slow_0 hX hR h)
-- C_Roads_hasMeeting
noncomputable def gC_Roads_hasMeeting_16 (N : Nat)   (s : vSt) : Option (Int32 × vSt) :=
  some (0, s)
set_option maxRecDepth 4000 in
theorem wC_Roads_hasMeeting_16 {P : vP} {l : Launch} {ad : Nat → Nat} {N : Nat} {r : Int32} {t1 : vSt} (hX : vOK P l shC ad (vR 0 0) cX6_hasMeeting RX6 2) (hR : (∀ pc lv, narrow .boolean (.int r) = .int r → decode cX6_hasMeeting pc = .ok (.ireturn, 1) → P t1 pc lv [.int r]))   {s : vSt} (h : gC_Roads_hasMeeting_16 N s = some (r, t1)) : P s 16 [] [] := by
  unfold gC_Roads_hasMeeting_16 at h
  refine v_iconst (v := 0) hX dX6_hasMeeting_16 (by decide) ?_
  exact v_retZ0 hR h dX6_hasMeeting_17
noncomputable def gC_Roads_hasMeeting_0 (N : Nat)  (a1 : Int32) (s : vSt) : Option (Int32 × vSt) :=
  if a1 < 0 then
    gC_Roads_hasMeeting_16 N s
  else
    if (s.1 9 7) ≤ a1 then
      gC_Roads_hasMeeting_16 N s
    else
      some (1, s)
set_option maxRecDepth 4000 in
theorem wC_Roads_hasMeeting_0 {P : vP} {l : Launch} {ad : Nat → Nat} {N : Nat} {r : Int32} {t1 : vSt} (hX : vOK P l shC ad (vR 0 0) cX6_hasMeeting RX6 2) (hR : (∀ pc lv, narrow .boolean (.int r) = .int r → decode cX6_hasMeeting pc = .ok (.ireturn, 1) → P t1 pc lv [.int r]))  {a1 : Int32} {s : vSt} (h : gC_Roads_hasMeeting_0 N a1 s = some (r, t1)) : P s 0 [(0, .ref (ad 9)), (1, .int a1)] [] := by
  unfold gC_Roads_hasMeeting_0 at h
  refine v_iload_n hX dX6_hasMeeting_0 rfl 1 rfl ?_
  refine v_if_lt (tgt := 16) hX dX6_hasMeeting_1 (by decide) h (fun h => ?_) (fun h => ?_)
  · exact v_sub hX [] (by rfl) (wC_Roads_hasMeeting_16 hX hR  h)
  · refine v_iload_n hX dX6_hasMeeting_4 rfl 1 rfl ?_
    refine v_aload_n hX dX6_hasMeeting_5 rfl 0 rfl ?_
    refine gfC_9_7 hX kf_6_34 dX6_hasMeeting_6 ?_
    refine v_icmp_ge (tgt := 16) hX dX6_hasMeeting_9 (by decide) h (fun h => ?_) (fun h => ?_)
    · exact v_sub hX [] (by rfl) (wC_Roads_hasMeeting_16 hX hR  h)
    · refine v_iconst (v := 1) hX dX6_hasMeeting_12 (by decide) ?_
      refine v_goto (tgt := 17) hX dX6_hasMeeting_13 (by decide) ?_
      exact v_retZ1 hR h dX6_hasMeeting_17
noncomputable def fC_Roads_hasMeeting (N : Nat) (a1 : Int32) (s : vSt) : Option (Int32 × vSt) := gC_Roads_hasMeeting_0 N a1 s
theorem mC_Roads_hasMeeting {N : Nat} {a1 : Int32} {s : vSt} {r : Int32} {t1 : vSt} (h : fC_Roads_hasMeeting N a1 s = some (r, t1)) (l : Launch) (ad : Nat → Nat) : vMI l shC ad yX6_hasMeeting cX6_hasMeeting 2 .boolean 0 0 s [.ref (ad 9), .int a1] r t1 :=
  vMI_of (by decide +kernel) (Nat.le_of_ble_eq_true rfl) (fun P hX hR => wC_Roads_hasMeeting_0 hX hR h)
-- C_EachAddsALine_isHour
noncomputable def gC_EachAddsALine_isHour_14 (N : Nat)   (s : vSt) : Option (Int32 × vSt) :=
  some (0, s)
set_option maxRecDepth 4000 in
theorem wC_EachAddsALine_isHour_14 {P : vP} {l : Launch} {ad : Nat → Nat} {N : Nat} {r : Int32} {t1 : vSt} (hX : vOK P l shC ad (vR 0 0) cX11_isHour RX11 1) (hR : (∀ pc lv, narrow .boolean (.int r) = .int r → decode cX11_isHour pc = .ok (.ireturn, 1) → P t1 pc lv [.int r]))   {s : vSt} (h : gC_EachAddsALine_isHour_14 N s = some (r, t1)) : P s 14 [] [] := by
  unfold gC_EachAddsALine_isHour_14 at h
  refine v_iconst (v := 0) hX dX11_isHour_14 (by decide) ?_
  exact v_retZ0 hR h dX11_isHour_15
noncomputable def gC_EachAddsALine_isHour_0 (N : Nat)  (a0 : Int32) (s : vSt) : Option (Int32 × vSt) :=
  if a0 < 0 then
    gC_EachAddsALine_isHour_14 N s
  else
    if 99 < a0 then
      gC_EachAddsALine_isHour_14 N s
    else
      some (1, s)
set_option maxRecDepth 4000 in
theorem wC_EachAddsALine_isHour_0 {P : vP} {l : Launch} {ad : Nat → Nat} {N : Nat} {r : Int32} {t1 : vSt} (hX : vOK P l shC ad (vR 0 0) cX11_isHour RX11 1) (hR : (∀ pc lv, narrow .boolean (.int r) = .int r → decode cX11_isHour pc = .ok (.ireturn, 1) → P t1 pc lv [.int r]))  {a0 : Int32} {s : vSt} (h : gC_EachAddsALine_isHour_0 N a0 s = some (r, t1)) : P s 0 [(0, .int a0)] [] := by
  unfold gC_EachAddsALine_isHour_0 at h
  refine v_iload_n hX dX11_isHour_0 rfl 0 rfl ?_
  refine v_if_lt (tgt := 14) hX dX11_isHour_1 (by decide) h (fun h => ?_) (fun h => ?_)
  · exact v_sub hX [] (by rfl) (wC_EachAddsALine_isHour_14 hX hR  h)
  · refine v_iload_n hX dX11_isHour_4 rfl 0 rfl ?_
    refine v_bipush (v := 99) hX dX11_isHour_5 (by decide) ?_
    refine v_icmp_gt (tgt := 14) hX dX11_isHour_7 (by decide) h (fun h => ?_) (fun h => ?_)
    · exact v_sub hX [] (by rfl) (wC_EachAddsALine_isHour_14 hX hR  h)
    · refine v_iconst (v := 1) hX dX11_isHour_10 (by decide) ?_
      refine v_goto (tgt := 15) hX dX11_isHour_11 (by decide) ?_
      exact v_retZ1 hR h dX11_isHour_15
noncomputable def fC_EachAddsALine_isHour (N : Nat) (a0 : Int32) (s : vSt) : Option (Int32 × vSt) := gC_EachAddsALine_isHour_0 N a0 s
theorem mC_EachAddsALine_isHour {N : Nat} {a0 : Int32} {s : vSt} {r : Int32} {t1 : vSt} (h : fC_EachAddsALine_isHour N a0 s = some (r, t1)) (l : Launch) (ad : Nat → Nat) : vMI l shC ad yX11_isHour cX11_isHour 1 .boolean 0 0 s [.int a0] r t1 :=
  vMI_of (by decide +kernel) (Nat.le_of_ble_eq_true rfl) (fun P hX hR => wC_EachAddsALine_isHour_0 hX hR h)
