-- C_EachAddsALine_read
noncomputable def gC_EachAddsALine_read_46 (N : Nat) (r17 : Int32 → Int32 → Int32 → vSt → Option (Int32 × vSt)) (a1 : Int32) (a2 : Int32) (a3 : Int32) (s : vSt) : Option (Int32 × vSt) :=
  (some (a3 + 1 : Int32)).bind fun v1 =>
  r17 a1 a2 v1 s
set_option maxRecDepth 4000 in
theorem wC_EachAddsALine_read_46 {P : vP} {l : Launch} {ad : Nat → Nat} {N : Nat} {r17 : Int32 → Int32 → Int32 → vSt → Option (Int32 × vSt)} {r : Int32} {t1 : vSt} (hX : vOK P l shC ad (vR 2 45) cX11_read RX11 4) (hR : (∀ pc lv, narrow .int (.int r) = .int r → decode cX11_read pc = .ok (.ireturn, 1) → P t1 pc lv [.int r])) (H17 : ∀ (a1 : Int32) (a2 : Int32) (a3 : Int32) (s : vSt), r17 a1 a2 a3 s = some (r, t1) → P s 17 [(0, .ref (ad 0)), (1, .int a1), (2, .int a2), (3, .int a3)] []) {a1 : Int32} {a2 : Int32} {a3 : Int32} {s : vSt} (h : gC_EachAddsALine_read_46 N r17 a1 a2 a3 s = some (r, t1)) : P s 46 [(0, .ref (ad 0)), (1, .int a1), (2, .int a2), (3, .int a3)] [] := by
  unfold gC_EachAddsALine_read_46 at h
  refine v_iincN hX dX11_read_46 (j := 3) rfl (c := 1) (by decide) (by decide) h (fun v1 h => ?_)
  refine v_show (lv' := [(3, .int v1), (0, .ref (ad 0)), (1, .int a1), (2, .int a2)]) hX rfl ?_
  refine v_goto (tgt := 17) hX dX11_read_49 (by decide) ?_
  exact v_sub hX [1, 2, 3, 0] (by rfl) (H17 _ _ _ _ h)
noncomputable def gC_EachAddsALine_read_17 (N : Nat)  : Nat → Int32 → Int32 → Int32 → vSt → Option (Int32 × vSt)
  | 0, _, _, _, _ => none
  | n + 1, a1, a2, a3, s =>
    if 3 ≤ a3 then
      some (a2, s)
    else
      (fC_Letters_readers N a3 s).bind fun p1 =>
      if (p1.1 &&& ((1 : Int32) <<< (a1 &&& 31))) = 0 then
        gC_EachAddsALine_read_46 N (gC_EachAddsALine_read_17 N n) a1 a2 a3 p1.2
      else
        (some (a2 ||| ((1 : Int32) <<< (a3 &&& 31)) : Int32)).bind fun v2 =>
        gC_EachAddsALine_read_46 N (gC_EachAddsALine_read_17 N n) a1 v2 a3 p1.2
set_option maxRecDepth 4000 in
theorem wC_EachAddsALine_read_17 {P : vP} {l : Launch} {ad : Nat → Nat} {N : Nat} {r : Int32} {t1 : vSt} (hX : vOK P l shC ad (vR 2 45) cX11_read RX11 4) (hR : (∀ pc lv, narrow .int (.int r) = .int r → decode cX11_read pc = .ok (.ireturn, 1) → P t1 pc lv [.int r]))  : ∀ (n : Nat) (a1 : Int32) (a2 : Int32) (a3 : Int32) (s : vSt), gC_EachAddsALine_read_17 N n a1 a2 a3 s = some (r, t1) → P s 17 [(0, .ref (ad 0)), (1, .int a1), (2, .int a2), (3, .int a3)] [] := by
  intro n
  induction n with
  | zero => intro a1 a2 a3 s h; cases h
  | succ n ih =>
    intro a1 a2 a3 s h
    unfold gC_EachAddsALine_read_17 at h
    refine v_iload_n hX dX11_read_17 rfl 3 rfl ?_
    refine v_iconst (v := 3) hX dX11_read_18 (by decide) ?_
    refine v_icmp_ge (tgt := 52) hX dX11_read_19 (by decide) h (fun h => ?_) (fun h => ?_)
    · refine v_iload_n hX dX11_read_52 rfl 2 rfl ?_
      exact v_retI hR h dX11_read_53
    · refine v_aload_n hX dX11_read_22 rfl 0 rfl ?_
      refine gfC_0_6 hX kf_11_60 dX11_read_23 ?_
      refine gfC_23_0 hX kf_11_156 dX11_read_26 ?_
      refine v_iload_n hX dX11_read_29 rfl 3 rfl ?_
      obtain ⟨p1, hp1, h⟩ := bsome h
      refine v_callVI (o := 26) hX (mC_Letters_readers hp1 l ad) kM_X1_readers kV_X1_readers km_11_192 (by decide) (fun _ => rfl) rfl rfl rfl (Nat.le_of_ble_eq_true rfl) (by decide) dX11_read_30 ?_
      refine v_iconst (v := 1) hX dX11_read_33 (by decide) ?_
      refine v_iload_n hX dX11_read_34 rfl 1 rfl ?_
      refine v_ishl hX dX11_read_35 ?_
      refine v_iand hX dX11_read_36 ?_
      refine v_if_eq (tgt := 46) hX dX11_read_37 (by decide) h (fun h => ?_) (fun h => ?_)
      · exact v_sub hX [0, 1, 2, 3] (by rfl) (wC_EachAddsALine_read_46 hX hR ih h)
      · refine v_iload_n hX dX11_read_40 rfl 2 rfl ?_
        refine v_iconst (v := 1) hX dX11_read_41 (by decide) ?_
        refine v_iload_n hX dX11_read_42 rfl 3 rfl ?_
        refine v_ishl hX dX11_read_43 ?_
        refine v_ior hX dX11_read_44 ?_
        refine v_nmI hX h (fun v2 h => ?_)
        refine v_istore_n (lv' := [(2, .int v2), (0, .ref (ad 0)), (1, .int a1), (3, .int a3)]) hX dX11_read_45 rfl (by decide) rfl ?_
        exact v_sub hX [1, 2, 0, 3] (by rfl) (wC_EachAddsALine_read_46 hX hR ih h)
noncomputable def gC_EachAddsALine_read_0 (N : Nat)  (a1 : Int32) (s : vSt) : Option (Int32 × vSt) :=
  (fC_Roads_hasPerson N a1 s).bind fun p1 =>
  if p1.1 = 0 then
    some ((-1), p1.2)
  else
    gC_EachAddsALine_read_17 N N a1 0 0 p1.2
set_option maxRecDepth 4000 in
theorem wC_EachAddsALine_read_0 {P : vP} {l : Launch} {ad : Nat → Nat} {N : Nat} {r : Int32} {t1 : vSt} (hX : vOK P l shC ad (vR 2 45) cX11_read RX11 4) (hR : (∀ pc lv, narrow .int (.int r) = .int r → decode cX11_read pc = .ok (.ireturn, 1) → P t1 pc lv [.int r]))  {a1 : Int32} {s : vSt} (h : gC_EachAddsALine_read_0 N a1 s = some (r, t1)) : P s 0 [(0, .ref (ad 0)), (1, .int a1)] [] := by
  unfold gC_EachAddsALine_read_0 at h
  refine v_aload_n hX dX11_read_0 rfl 0 rfl ?_
  refine gfC_0_2 hX kf_11_26 dX11_read_1 ?_
  refine v_iload_n hX dX11_read_4 rfl 1 rfl ?_
  obtain ⟨p1, hp1, h⟩ := bsome h
  refine v_callVI (o := 9) hX (mC_Roads_hasPerson hp1 l ad) kM_X6_hasPerson kV_X6_hasPerson km_11_114 (by decide) (fun _ => rfl) rfl rfl rfl (Nat.le_of_ble_eq_true rfl) (by decide) dX11_read_5 ?_
  refine v_if_ne (tgt := 13) hX dX11_read_8 (by decide) h (fun h => ?_) (fun h => ?_)
  · refine v_iconst (v := (-1)) hX dX11_read_11 (by decide) ?_
    exact v_retI hR h dX11_read_12
  · refine v_iconst (v := 0) hX dX11_read_13 (by decide) ?_
    refine v_istore_n (lv' := [(2, .int 0), (0, .ref (ad 0)), (1, .int a1)]) hX dX11_read_14 rfl (by decide) rfl ?_
    refine v_iconst (v := 0) hX dX11_read_15 (by decide) ?_
    refine v_istore_n (lv' := [(3, .int 0), (2, .int 0), (0, .ref (ad 0)), (1, .int a1)]) hX dX11_read_16 rfl (by decide) rfl ?_
    exact v_sub hX [2, 3, 1, 0] (by rfl) (wC_EachAddsALine_read_17 hX hR  N _ _ _ _ h)
noncomputable def fC_EachAddsALine_read (N : Nat) (a1 : Int32) (s : vSt) : Option (Int32 × vSt) := gC_EachAddsALine_read_0 N a1 s
theorem mC_EachAddsALine_read {N : Nat} {a1 : Int32} {s : vSt} {r : Int32} {t1 : vSt} (h : fC_EachAddsALine_read N a1 s = some (r, t1)) (l : Launch) (ad : Nat → Nat) : vMI l shC ad yX11_read cX11_read 4 .int 2 45 s [.ref (ad 0), .int a1] r t1 :=
  vMI_of (by decide +kernel) (Nat.le_of_ble_eq_true rfl) (fun P hX hR => wC_EachAddsALine_read_0 hX hR h)
-- C_EachAddsALine_isTrip
noncomputable def gC_EachAddsALine_isTrip_33 (N : Nat)   (s : vSt) : Option (Int32 × vSt) :=
  some (0, s)
set_option maxRecDepth 4000 in
theorem wC_EachAddsALine_isTrip_33 {P : vP} {l : Launch} {ad : Nat → Nat} {N : Nat} {r : Int32} {t1 : vSt} (hX : vOK P l shC ad (vR 1 21) cX11_isTrip RX11 4) (hR : (∀ pc lv, narrow .boolean (.int r) = .int r → decode cX11_isTrip pc = .ok (.ireturn, 1) → P t1 pc lv [.int r]))   {s : vSt} (h : gC_EachAddsALine_isTrip_33 N s = some (r, t1)) : P s 33 [] [] := by
  unfold gC_EachAddsALine_isTrip_33 at h
  refine v_iconst (v := 0) hX dX11_isTrip_33 (by decide) ?_
  exact v_retZ0 hR h dX11_isTrip_34
noncomputable def gC_EachAddsALine_isTrip_0 (N : Nat)  (a1 : Int32) (a2 : Int32) (a3 : Int32) (s : vSt) : Option (Int32 × vSt) :=
  (fC_Roads_hasPerson N a1 s).bind fun p1 =>
  if p1.1 = 0 then
    gC_EachAddsALine_isTrip_33 N p1.2
  else
    (fC_Roads_hasPerson N a2 p1.2).bind fun p2 =>
    if p2.1 = 0 then
      gC_EachAddsALine_isTrip_33 N p2.2
    else
      (fC_EachAddsALine_isHour N a3 p2.2).bind fun p3 =>
      if p3.1 = 0 then
        gC_EachAddsALine_isTrip_33 N p3.2
      else
        some (1, p3.2)
set_option maxRecDepth 4000 in
theorem wC_EachAddsALine_isTrip_0 {P : vP} {l : Launch} {ad : Nat → Nat} {N : Nat} {r : Int32} {t1 : vSt} (hX : vOK P l shC ad (vR 1 21) cX11_isTrip RX11 4) (hR : (∀ pc lv, narrow .boolean (.int r) = .int r → decode cX11_isTrip pc = .ok (.ireturn, 1) → P t1 pc lv [.int r]))  {a1 : Int32} {a2 : Int32} {a3 : Int32} {s : vSt} (h : gC_EachAddsALine_isTrip_0 N a1 a2 a3 s = some (r, t1)) : P s 0 [(0, .ref (ad 0)), (1, .int a1), (2, .int a2), (3, .int a3)] [] := by
  unfold gC_EachAddsALine_isTrip_0 at h
  refine v_aload_n hX dX11_isTrip_0 rfl 0 rfl ?_
  refine gfC_0_2 hX kf_11_26 dX11_isTrip_1 ?_
  refine v_iload_n hX dX11_isTrip_4 rfl 1 rfl ?_
  obtain ⟨p1, hp1, h⟩ := bsome h
  refine v_callVI (o := 9) hX (mC_Roads_hasPerson hp1 l ad) kM_X6_hasPerson kV_X6_hasPerson km_11_114 (by decide) (fun _ => rfl) rfl rfl rfl (Nat.le_of_ble_eq_true rfl) (by decide) dX11_isTrip_5 ?_
  refine v_if_eq (tgt := 33) hX dX11_isTrip_8 (by decide) h (fun h => ?_) (fun h => ?_)
  · exact v_sub hX [] (by rfl) (wC_EachAddsALine_isTrip_33 hX hR  h)
  · refine v_aload_n hX dX11_isTrip_11 rfl 0 rfl ?_
    refine gfC_0_2 hX kf_11_26 dX11_isTrip_12 ?_
    refine v_iload_n hX dX11_isTrip_15 rfl 2 rfl ?_
    obtain ⟨p2, hp2, h⟩ := bsome h
    refine v_callVI (o := 9) hX (mC_Roads_hasPerson hp2 l ad) kM_X6_hasPerson kV_X6_hasPerson km_11_114 (by decide) (fun _ => rfl) rfl rfl rfl (Nat.le_of_ble_eq_true rfl) (by decide) dX11_isTrip_16 ?_
    refine v_if_eq (tgt := 33) hX dX11_isTrip_19 (by decide) h (fun h => ?_) (fun h => ?_)
    · exact v_sub hX [] (by rfl) (wC_EachAddsALine_isTrip_33 hX hR  h)
    · refine v_iload_n hX dX11_isTrip_22 rfl 3 rfl ?_
      obtain ⟨p3, hp3, h⟩ := bsome h
      refine v_callSI hX (mC_EachAddsALine_isHour hp3 l ad) kM_X11_isHour kS_X11_isHour km_11_145 rfl rfl (Nat.le_of_ble_eq_true rfl) (by decide) dX11_isTrip_23 ?_
      refine v_if_eq (tgt := 33) hX dX11_isTrip_26 (by decide) h (fun h => ?_) (fun h => ?_)
      · exact v_sub hX [] (by rfl) (wC_EachAddsALine_isTrip_33 hX hR  h)
      · refine v_iconst (v := 1) hX dX11_isTrip_29 (by decide) ?_
        refine v_goto (tgt := 34) hX dX11_isTrip_30 (by decide) ?_
        exact v_retZ1 hR h dX11_isTrip_34
noncomputable def fC_EachAddsALine_isTrip (N : Nat) (a1 : Int32) (a2 : Int32) (a3 : Int32) (s : vSt) : Option (Int32 × vSt) := gC_EachAddsALine_isTrip_0 N a1 a2 a3 s
theorem mC_EachAddsALine_isTrip {N : Nat} {a1 : Int32} {a2 : Int32} {a3 : Int32} {s : vSt} {r : Int32} {t1 : vSt} (h : fC_EachAddsALine_isTrip N a1 a2 a3 s = some (r, t1)) (l : Launch) (ad : Nat → Nat) : vMI l shC ad yX11_isTrip cX11_isTrip 4 .boolean 1 21 s [.ref (ad 0), .int a1, .int a2, .int a3] r t1 :=
  vMI_of (by decide +kernel) (Nat.le_of_ble_eq_true rfl) (fun P hX hR => wC_EachAddsALine_isTrip_0 hX hR h)
-- C_Paths_hasRead
noncomputable def gC_Paths_hasRead_34 (N : Nat)   (s : vSt) : Option (Int32 × vSt) :=
  some (0, s)
set_option maxRecDepth 4000 in
theorem wC_Paths_hasRead_34 {P : vP} {l : Launch} {ad : Nat → Nat} {N : Nat} {r : Int32} {t1 : vSt} (hX : vOK P l shC ad (vR 0 0) cX3_hasRead RX3 3) (hR : (∀ pc lv, narrow .boolean (.int r) = .int r → decode cX3_hasRead pc = .ok (.ireturn, 1) → P t1 pc lv [.int r]))   {s : vSt} (h : gC_Paths_hasRead_34 N s = some (r, t1)) : P s 34 [] [] := by
  unfold gC_Paths_hasRead_34 at h
  refine v_iconst (v := 0) hX dX3_hasRead_34 (by decide) ?_
  exact v_retZ0 hR h dX3_hasRead_35
noncomputable def gC_Paths_hasRead_0 (N : Nat)  (a1 : Int32) (a2 : Int32) (s : vSt) : Option (Int32 × vSt) :=
  (ld s 42 9 a1).bind fun v1 =>
  if v1 = (-1) then
    gC_Paths_hasRead_34 N s
  else
    (ld s 42 9 a1).bind fun v2 =>
    (ld s 10 9 a1).bind fun v3 =>
    if a2 < (v2 + v3) then
      gC_Paths_hasRead_34 N s
    else
      some (1, s)
set_option maxRecDepth 4000 in
theorem wC_Paths_hasRead_0 {P : vP} {l : Launch} {ad : Nat → Nat} {N : Nat} {r : Int32} {t1 : vSt} (hX : vOK P l shC ad (vR 0 0) cX3_hasRead RX3 3) (hR : (∀ pc lv, narrow .boolean (.int r) = .int r → decode cX3_hasRead pc = .ok (.ireturn, 1) → P t1 pc lv [.int r]))  {a1 : Int32} {a2 : Int32} {s : vSt} (h : gC_Paths_hasRead_0 N a1 a2 s = some (r, t1)) : P s 0 [(0, .ref (ad 41)), (1, .int a1), (2, .int a2)] [] := by
  unfold gC_Paths_hasRead_0 at h
  refine v_aload_n hX dX3_hasRead_0 rfl 0 rfl ?_
  refine gfC_41_0 hX kf_3_9 dX3_hasRead_1 ?_
  refine v_iload_n hX dX3_hasRead_4 rfl 1 rfl ?_
  refine alC_42 hX dX3_hasRead_5 h (fun v1 h => ?_)
  refine v_iconst (v := (-1)) hX dX3_hasRead_6 (by decide) ?_
  refine v_icmp_eq (tgt := 34) hX dX3_hasRead_7 (by decide) h (fun h => ?_) (fun h => ?_)
  · exact v_sub hX [] (by rfl) (wC_Paths_hasRead_34 hX hR  h)
  · refine v_aload_n hX dX3_hasRead_10 rfl 0 rfl ?_
    refine gfC_41_0 hX kf_3_9 dX3_hasRead_11 ?_
    refine v_iload_n hX dX3_hasRead_14 rfl 1 rfl ?_
    refine alC_42 hX dX3_hasRead_15 h (fun v2 h => ?_)
    refine v_aload_n hX dX3_hasRead_16 rfl 0 rfl ?_
    refine gfC_41_3 hX kf_3_25 dX3_hasRead_17 ?_
    refine gfC_9_0 hX kf_3_62 dX3_hasRead_20 ?_
    refine v_iload_n hX dX3_hasRead_23 rfl 1 rfl ?_
    refine alC_10 hX dX3_hasRead_24 h (fun v3 h => ?_)
    refine v_iadd hX dX3_hasRead_25 ?_
    refine v_iload_n hX dX3_hasRead_26 rfl 2 rfl ?_
    refine v_icmp_gt (tgt := 34) hX dX3_hasRead_27 (by decide) h (fun h => ?_) (fun h => ?_)
    · exact v_sub hX [] (by rfl) (wC_Paths_hasRead_34 hX hR  h)
    · refine v_iconst (v := 1) hX dX3_hasRead_30 (by decide) ?_
      refine v_goto (tgt := 35) hX dX3_hasRead_31 (by decide) ?_
      exact v_retZ1 hR h dX3_hasRead_35
noncomputable def fC_Paths_hasRead (N : Nat) (a1 : Int32) (a2 : Int32) (s : vSt) : Option (Int32 × vSt) := gC_Paths_hasRead_0 N a1 a2 s
theorem mC_Paths_hasRead {N : Nat} {a1 : Int32} {a2 : Int32} {s : vSt} {r : Int32} {t1 : vSt} (h : fC_Paths_hasRead N a1 a2 s = some (r, t1)) (l : Launch) (ad : Nat → Nat) : vMI l shC ad yX3_hasRead cX3_hasRead 3 .boolean 0 0 s [.ref (ad 41), .int a1, .int a2] r t1 :=
  vMI_of (by decide +kernel) (Nat.le_of_ble_eq_true rfl) (fun P hX hR => wC_Paths_hasRead_0 hX hR h)
-- C_Paths_tell
noncomputable def gC_Paths_tell_65 (N : Nat)  (a1 : Int32) (a5 : Int32) (s : vSt) : Option (vSt) :=
  (ld s 13 20 a1).bind fun v1 =>
  (sto s 42 9 a5 v1).bind fun z2 =>
  some z2
set_option maxRecDepth 4000 in
theorem wC_Paths_tell_65 {P : vP} {l : Launch} {ad : Nat → Nat} {N : Nat} {t1 : vSt} (hX : vOK P l shC ad (vR 1 22) cX3_tell RX3 7) (hR : (∀ pc lv, decode cX3_tell pc = .ok (.return_, 1) → P t1 pc lv []))  {a1 : Int32} {a5 : Int32} {s : vSt} (h : gC_Paths_tell_65 N a1 a5 s = some t1) : P s 65 [(0, .ref (ad 41)), (1, .int a1), (5, .int a5)] [] := by
  unfold gC_Paths_tell_65 at h
  refine v_aload_n hX dX3_tell_65 rfl 0 rfl ?_
  refine gfC_41_0 hX kf_3_9 dX3_tell_66 ?_
  refine v_iload hX dX3_tell_69 2 rfl ?_
  refine v_aload_n hX dX3_tell_71 rfl 0 rfl ?_
  refine gfC_41_3 hX kf_3_25 dX3_tell_72 ?_
  refine gfC_9_3 hX kf_3_41 dX3_tell_75 ?_
  refine v_iload_n hX dX3_tell_78 rfl 1 rfl ?_
  refine alC_13 hX dX3_tell_79 h (fun v1 h => ?_)
  refine asC_42 hX dX3_tell_80 h (fun z2 h => ?_)
  exact v_retV hR h dX3_tell_81
noncomputable def gC_Paths_tell_25 (N : Nat)  (a1 : Int32) (a2 : Int32) (a3 : Int32) (a5 : Int32) (k0 : Int32) (s : vSt) : Option (vSt) :=
  (ld s 42 9 a5).bind fun v1 =>
  if v1 = (-1) then
    if a2 = a3 then
      gC_Paths_tell_65 N a1 a5 s
    else
      if k0 = 0 then
        some s
      else
        (ld s 13 20 a1).bind fun v2 =>
        (fC_Paths_hasRead N a2 v2 s).bind fun p3 =>
        if p3.1 = 0 then
          some p3.2
        else
          gC_Paths_tell_65 N a1 a5 p3.2
  else
    some s
set_option maxRecDepth 4000 in
theorem wC_Paths_tell_25 {P : vP} {l : Launch} {ad : Nat → Nat} {N : Nat} {t1 : vSt} (hX : vOK P l shC ad (vR 1 22) cX3_tell RX3 7) (hR : (∀ pc lv, decode cX3_tell pc = .ok (.return_, 1) → P t1 pc lv []))  {a1 : Int32} {a2 : Int32} {a3 : Int32} {a5 : Int32} {k0 : Int32} {s : vSt} (h : gC_Paths_tell_25 N a1 a2 a3 a5 k0 s = some t1) : P s 25 [(0, .ref (ad 41)), (1, .int a1), (2, .int a2), (3, .int a3), (5, .int a5)] [.int k0] := by
  unfold gC_Paths_tell_25 at h
  refine v_istore (lv' := [(6, .int k0), (0, .ref (ad 41)), (1, .int a1), (2, .int a2), (3, .int a3), (5, .int a5)]) hX dX3_tell_25 (by decide) rfl ?_
  refine v_aload_n hX dX3_tell_27 rfl 1 rfl ?_
  refine gfC_41_0 hX kf_3_9 dX3_tell_28 ?_
  refine v_iload hX dX3_tell_31 5 rfl ?_
  refine alC_42 hX dX3_tell_33 h (fun v1 h => ?_)
  refine v_iconst (v := (-1)) hX dX3_tell_34 (by decide) ?_
  refine v_icmp_ne (tgt := 81) hX dX3_tell_35 (by decide) h (fun h => ?_) (fun h => ?_)
  · refine v_iload_n hX dX3_tell_38 rfl 3 rfl ?_
    refine v_iload_n hX dX3_tell_39 rfl 4 rfl ?_
    refine v_icmp_eq (tgt := 65) hX dX3_tell_40 (by decide) h (fun h => ?_) (fun h => ?_)
    · exact v_sub hX [1, 2, 5] (by rfl) (wC_Paths_tell_65 hX hR  h)
    · refine v_iload hX dX3_tell_43 0 rfl ?_
      refine v_if_eq (tgt := 81) hX dX3_tell_45 (by decide) h (fun h => ?_) (fun h => ?_)
      · exact v_retV hR h dX3_tell_81
      · refine v_aload_n hX dX3_tell_48 rfl 1 rfl ?_
        refine v_iload_n hX dX3_tell_49 rfl 3 rfl ?_
        refine v_aload_n hX dX3_tell_50 rfl 1 rfl ?_
        refine gfC_41_3 hX kf_3_25 dX3_tell_51 ?_
        refine gfC_9_3 hX kf_3_41 dX3_tell_54 ?_
        refine v_iload_n hX dX3_tell_57 rfl 2 rfl ?_
        refine alC_13 hX dX3_tell_58 h (fun v2 h => ?_)
        obtain ⟨p3, hp3, h⟩ := bsome h
        refine v_callVI (o := 41) hX (mC_Paths_hasRead hp3 l ad) kM_X3_hasRead kV_X3_hasRead km_3_58 (by decide) (fun _ => rfl) rfl rfl rfl (Nat.le_of_ble_eq_true rfl) (by decide) dX3_tell_59 ?_
        refine v_if_eq (tgt := 81) hX dX3_tell_62 (by decide) h (fun h => ?_) (fun h => ?_)
        · exact v_retV hR h dX3_tell_81
        · exact v_sub hX [1, 2, 5] (by rfl) (wC_Paths_tell_65 hX hR  h)
  · exact v_retV hR h dX3_tell_81
noncomputable def gC_Paths_tell_0 (N : Nat)  (a1 : Int32) (a2 : Int32) (a3 : Int32) (a4 : Int32) (s : vSt) : Option (vSt) :=
  (fC_Roads_otherAt N a1 a2 s).bind fun p1 =>
  if (a4 &&& ((1 : Int32) <<< (a2 &&& 31))) = 0 then
    gC_Paths_tell_25 N a1 a2 a3 p1.1 1 p1.2
  else
    gC_Paths_tell_25 N a1 a2 a3 p1.1 0 p1.2
set_option maxRecDepth 4000 in
theorem wC_Paths_tell_0 {P : vP} {l : Launch} {ad : Nat → Nat} {N : Nat} {t1 : vSt} (hX : vOK P l shC ad (vR 1 22) cX3_tell RX3 7) (hR : (∀ pc lv, decode cX3_tell pc = .ok (.return_, 1) → P t1 pc lv []))  {a1 : Int32} {a2 : Int32} {a3 : Int32} {a4 : Int32} {s : vSt} (h : gC_Paths_tell_0 N a1 a2 a3 a4 s = some t1) : P s 0 [(0, .ref (ad 41)), (1, .int a1), (2, .int a2), (3, .int a3), (4, .int a4)] [] := by
  unfold gC_Paths_tell_0 at h
  refine v_aload_n hX dX3_tell_0 rfl 0 rfl ?_
  refine gfC_41_3 hX kf_3_25 dX3_tell_1 ?_
  refine v_iload_n hX dX3_tell_4 rfl 1 rfl ?_
  refine v_iload_n hX dX3_tell_5 rfl 2 rfl ?_
  obtain ⟨p1, hp1, h⟩ := bsome h
  refine v_callVI (o := 9) hX (mC_Roads_otherAt hp1 l ad) kM_X6_otherAt kV_X6_otherAt km_3_54 (by decide) (fun _ => rfl) rfl rfl rfl (Nat.le_of_ble_eq_true rfl) (by decide) dX3_tell_6 ?_
  refine v_istore (lv' := [(5, .int p1.1), (0, .ref (ad 41)), (1, .int a1), (2, .int a2), (3, .int a3), (4, .int a4)]) hX dX3_tell_9 (by decide) rfl ?_
  refine v_iload hX dX3_tell_11 5 rfl ?_
  refine v_iconst (v := 1) hX dX3_tell_13 (by decide) ?_
  refine v_iload_n hX dX3_tell_14 rfl 3 rfl ?_
  refine v_ishl hX dX3_tell_15 ?_
  refine v_iand hX dX3_tell_16 ?_
  refine v_if_ne (tgt := 24) hX dX3_tell_17 (by decide) h (fun h => ?_) (fun h => ?_)
  · refine v_iconst (v := 1) hX dX3_tell_20 (by decide) ?_
    refine v_goto (tgt := 25) hX dX3_tell_21 (by decide) ?_
    exact v_sub hX [1, 2, 3, 4, 0] (by rfl) (wC_Paths_tell_25 hX hR  h)
  · refine v_iconst (v := 0) hX dX3_tell_24 (by decide) ?_
    exact v_sub hX [1, 2, 3, 4, 0] (by rfl) (wC_Paths_tell_25 hX hR  h)
noncomputable def fC_Paths_tell (N : Nat) (a1 : Int32) (a2 : Int32) (a3 : Int32) (a4 : Int32) (s : vSt) : Option (vSt) := gC_Paths_tell_0 N a1 a2 a3 a4 s
theorem mC_Paths_tell {N : Nat} {a1 : Int32} {a2 : Int32} {a3 : Int32} {a4 : Int32} {s : vSt} {t1 : vSt} (h : fC_Paths_tell N a1 a2 a3 a4 s = some t1) (l : Launch) (ad : Nat → Nat) : vMV l shC ad yX3_tell cX3_tell 7 1 22 s [.ref (ad 41), .int a1, .int a2, .int a3, .int a4] t1 :=
  vMV_of (by decide +kernel) (Nat.le_of_ble_eq_true rfl) (fun P hX hR => wC_Paths_tell_0 hX hR h)
-- C_Paths_spread
noncomputable def gC_Paths_spread_113 (N : Nat) (r32 : Int32 → Int32 → Int32 → Int32 → Int32 → vSt → Option (vSt)) (a1 : Int32) (a2 : Int32) (a3 : Int32) (a4 : Int32) (a5 : Int32) (s : vSt) : Option (vSt) :=
  (some (a5 + 1 : Int32)).bind fun v1 =>
  r32 a1 a2 a3 a4 v1 s
set_option maxRecDepth 4000 in
theorem wC_Paths_spread_113 {P : vP} {l : Launch} {ad : Nat → Nat} {N : Nat} {r32 : Int32 → Int32 → Int32 → Int32 → Int32 → vSt → Option (vSt)} {t1 : vSt} (hX : vOK P l shC ad (vR 2 48) cX3_spread RX3 7) (hR : (∀ pc lv, decode cX3_spread pc = .ok (.return_, 1) → P t1 pc lv [])) (H32 : ∀ (a1 : Int32) (a2 : Int32) (a3 : Int32) (a4 : Int32) (a5 : Int32) (s : vSt), r32 a1 a2 a3 a4 a5 s = some t1 → P s 32 [(0, .ref (ad 41)), (1, .int a1), (2, .int a2), (3, .int a3), (4, .int a4), (5, .int a5)] []) {a1 : Int32} {a2 : Int32} {a3 : Int32} {a4 : Int32} {a5 : Int32} {s : vSt} (h : gC_Paths_spread_113 N r32 a1 a2 a3 a4 a5 s = some t1) : P s 113 [(0, .ref (ad 41)), (1, .int a1), (2, .int a2), (3, .int a3), (4, .int a4), (5, .int a5)] [] := by
  unfold gC_Paths_spread_113 at h
  refine v_iincN hX dX3_spread_113 (j := 5) rfl (c := 1) (by decide) (by decide) h (fun v1 h => ?_)
  refine v_show (lv' := [(5, .int v1), (0, .ref (ad 41)), (1, .int a1), (2, .int a2), (3, .int a3), (4, .int a4)]) hX rfl ?_
  refine v_goto (tgt := 32) hX dX3_spread_116 (by decide) ?_
  exact v_sub hX [1, 2, 3, 4, 5, 0] (by rfl) (H32 _ _ _ _ _ _ h)
noncomputable def gC_Paths_spread_32 (N : Nat)  : Nat → Int32 → Int32 → Int32 → Int32 → Int32 → vSt → Option (vSt)
  | 0, _, _, _, _, _, _ => none
  | n + 1, a1, a2, a3, a4, a5, s =>
    if (s.1 9 7) ≤ a5 then
      some s
    else
      (ld s 15 20 a5).bind fun v1 =>
      if v1 = a4 then
        gC_Paths_spread_113 N (gC_Paths_spread_32 N n) a1 a2 a3 a4 a5 s
      else
        (ld s 13 20 v1).bind fun v2 =>
        if v2 < a2 then
          gC_Paths_spread_113 N (gC_Paths_spread_32 N n) a1 a2 a3 a4 a5 s
        else
          (ld s 11 20 v1).bind fun v3 =>
          (fC_Paths_tell N v1 v3 a1 a3 s).bind fun z4 =>
          (ld z4 12 20 v1).bind fun v5 =>
          (fC_Paths_tell N v1 v5 a1 a3 z4).bind fun z6 =>
          gC_Paths_spread_113 N (gC_Paths_spread_32 N n) a1 a2 a3 a4 a5 z6
set_option maxRecDepth 4000 in
theorem wC_Paths_spread_32 {P : vP} {l : Launch} {ad : Nat → Nat} {N : Nat} {t1 : vSt} (hX : vOK P l shC ad (vR 2 48) cX3_spread RX3 7) (hR : (∀ pc lv, decode cX3_spread pc = .ok (.return_, 1) → P t1 pc lv []))  : ∀ (n : Nat) (a1 : Int32) (a2 : Int32) (a3 : Int32) (a4 : Int32) (a5 : Int32) (s : vSt), gC_Paths_spread_32 N n a1 a2 a3 a4 a5 s = some t1 → P s 32 [(0, .ref (ad 41)), (1, .int a1), (2, .int a2), (3, .int a3), (4, .int a4), (5, .int a5)] [] := by
  intro n
  induction n with
  | zero => intro a1 a2 a3 a4 a5 s h; cases h
  | succ n ih =>
    intro a1 a2 a3 a4 a5 s h
    unfold gC_Paths_spread_32 at h
    refine v_iload hX dX3_spread_32 5 rfl ?_
    refine v_aload_n hX dX3_spread_34 rfl 0 rfl ?_
    refine gfC_41_3 hX kf_3_25 dX3_spread_35 ?_
    refine gfC_9_7 hX kf_3_35 dX3_spread_38 ?_
    refine v_icmp_ge (tgt := 119) hX dX3_spread_41 (by decide) h (fun h => ?_) (fun h => ?_)
    · exact v_retV hR h dX3_spread_119
    · refine v_aload_n hX dX3_spread_44 rfl 0 rfl ?_
      refine gfC_41_3 hX kf_3_25 dX3_spread_45 ?_
      refine gfC_9_5 hX kf_3_38 dX3_spread_48 ?_
      refine v_iload hX dX3_spread_51 5 rfl ?_
      refine alC_15 hX dX3_spread_53 h (fun v1 h => ?_)
      refine v_istore (lv' := [(6, .int v1), (0, .ref (ad 41)), (1, .int a1), (2, .int a2), (3, .int a3), (4, .int a4), (5, .int a5)]) hX dX3_spread_54 (by decide) rfl ?_
      refine v_iload hX dX3_spread_56 0 rfl ?_
      refine v_iload hX dX3_spread_58 5 rfl ?_
      refine v_icmp_eq (tgt := 113) hX dX3_spread_60 (by decide) h (fun h => ?_) (fun h => ?_)
      · exact v_sub hX [1, 2, 3, 4, 5, 6] (by rfl) (wC_Paths_spread_113 hX hR ih h)
      · refine v_aload_n hX dX3_spread_63 rfl 1 rfl ?_
        refine gfC_41_3 hX kf_3_25 dX3_spread_64 ?_
        refine gfC_9_3 hX kf_3_41 dX3_spread_67 ?_
        refine v_iload hX dX3_spread_70 0 rfl ?_
        refine alC_13 hX dX3_spread_72 h (fun v2 h => ?_)
        refine v_iload_n hX dX3_spread_73 rfl 3 rfl ?_
        refine v_icmp_lt (tgt := 113) hX dX3_spread_74 (by decide) h (fun h => ?_) (fun h => ?_)
        · exact v_sub hX [1, 2, 3, 4, 5, 6] (by rfl) (wC_Paths_spread_113 hX hR ih h)
        · refine v_aload_n hX dX3_spread_77 rfl 1 rfl ?_
          refine v_iload hX dX3_spread_78 0 rfl ?_
          refine v_aload_n hX dX3_spread_80 rfl 1 rfl ?_
          refine gfC_41_3 hX kf_3_25 dX3_spread_81 ?_
          refine gfC_9_1 hX kf_3_44 dX3_spread_84 ?_
          refine v_iload hX dX3_spread_87 0 rfl ?_
          refine alC_11 hX dX3_spread_89 h (fun v3 h => ?_)
          refine v_iload_n hX dX3_spread_90 rfl 2 rfl ?_
          refine v_iload_n hX dX3_spread_91 rfl 4 rfl ?_
          obtain ⟨z4, hz4, h⟩ := bsome h
          refine v_callVV (o := 41) hX (mC_Paths_tell hz4 l ad) kM_X3_tell kV_X3_tell km_3_47 (by decide) (fun _ => rfl) rfl rfl rfl (Nat.le_of_ble_eq_true rfl) (by decide) dX3_spread_92 ?_
          refine v_aload_n hX dX3_spread_95 rfl 1 rfl ?_
          refine v_iload hX dX3_spread_96 0 rfl ?_
          refine v_aload_n hX dX3_spread_98 rfl 1 rfl ?_
          refine gfC_41_3 hX kf_3_25 dX3_spread_99 ?_
          refine gfC_9_2 hX kf_3_51 dX3_spread_102 ?_
          refine v_iload hX dX3_spread_105 0 rfl ?_
          refine alC_12 hX dX3_spread_107 h (fun v5 h => ?_)
          refine v_iload_n hX dX3_spread_108 rfl 2 rfl ?_
          refine v_iload_n hX dX3_spread_109 rfl 4 rfl ?_
          obtain ⟨z6, hz6, h⟩ := bsome h
          refine v_callVV (o := 41) hX (mC_Paths_tell hz6 l ad) kM_X3_tell kV_X3_tell km_3_47 (by decide) (fun _ => rfl) rfl rfl rfl (Nat.le_of_ble_eq_true rfl) (by decide) dX3_spread_110 ?_
          exact v_sub hX [1, 2, 3, 4, 5, 6] (by rfl) (wC_Paths_spread_113 hX hR ih h)
noncomputable def gC_Paths_spread_3 (N : Nat)  : Nat → Int32 → Int32 → Int32 → Int32 → Int32 → vSt → Option (vSt)
  | 0, _, _, _, _, _, _ => none
  | n + 1, a1, a2, a3, a4, a5, s =>
    if (s.1 9 6) ≤ a5 then
      gC_Paths_spread_32 N N a1 a2 a3 a4 0 s
    else
      (sto s 42 9 a5 (-1)).bind fun z1 =>
      (some (a5 + 1 : Int32)).bind fun v2 =>
      gC_Paths_spread_3 N n a1 a2 a3 a4 v2 z1
set_option maxRecDepth 4000 in
theorem wC_Paths_spread_3 {P : vP} {l : Launch} {ad : Nat → Nat} {N : Nat} {t1 : vSt} (hX : vOK P l shC ad (vR 2 48) cX3_spread RX3 7) (hR : (∀ pc lv, decode cX3_spread pc = .ok (.return_, 1) → P t1 pc lv []))  : ∀ (n : Nat) (a1 : Int32) (a2 : Int32) (a3 : Int32) (a4 : Int32) (a5 : Int32) (s : vSt), gC_Paths_spread_3 N n a1 a2 a3 a4 a5 s = some t1 → P s 3 [(0, .ref (ad 41)), (1, .int a1), (2, .int a2), (3, .int a3), (4, .int a4), (5, .int a5)] [] := by
  intro n
  induction n with
  | zero => intro a1 a2 a3 a4 a5 s h; cases h
  | succ n ih =>
    intro a1 a2 a3 a4 a5 s h
    unfold gC_Paths_spread_3 at h
    refine v_iload hX dX3_spread_3 5 rfl ?_
    refine v_aload_n hX dX3_spread_5 rfl 0 rfl ?_
    refine gfC_41_3 hX kf_3_25 dX3_spread_6 ?_
    refine gfC_9_6 hX kf_3_29 dX3_spread_9 ?_
    refine v_icmp_ge (tgt := 29) hX dX3_spread_12 (by decide) h (fun h => ?_) (fun h => ?_)
    · refine v_iconst (v := 0) hX dX3_spread_29 (by decide) ?_
      refine v_istore (lv' := [(5, .int 0), (0, .ref (ad 41)), (1, .int a1), (2, .int a2), (3, .int a3), (4, .int a4)]) hX dX3_spread_30 (by decide) rfl ?_
      exact v_sub hX [1, 2, 3, 4, 5, 0] (by rfl) (wC_Paths_spread_32 hX hR  N _ _ _ _ _ _ h)
    · refine v_aload_n hX dX3_spread_15 rfl 0 rfl ?_
      refine gfC_41_0 hX kf_3_9 dX3_spread_16 ?_
      refine v_iload hX dX3_spread_19 5 rfl ?_
      refine v_iconst (v := (-1)) hX dX3_spread_21 (by decide) ?_
      refine asC_42 hX dX3_spread_22 h (fun z1 h => ?_)
      refine v_iincN hX dX3_spread_23 (j := 5) rfl (c := 1) (by decide) (by decide) h (fun v2 h => ?_)
      refine v_show (lv' := [(5, .int v2), (0, .ref (ad 41)), (1, .int a1), (2, .int a2), (3, .int a3), (4, .int a4)]) hX rfl ?_
      refine v_goto (tgt := 3) hX dX3_spread_26 (by decide) ?_
      exact v_sub hX [1, 2, 3, 4, 5, 0] (by rfl) (ih _ _ _ _ _ _ h)
noncomputable def gC_Paths_spread_0 (N : Nat)  (a1 : Int32) (a2 : Int32) (a3 : Int32) (a4 : Int32) (s : vSt) : Option (vSt) :=
  gC_Paths_spread_3 N N a1 a2 a3 a4 0 s
set_option maxRecDepth 4000 in
theorem wC_Paths_spread_0 {P : vP} {l : Launch} {ad : Nat → Nat} {N : Nat} {t1 : vSt} (hX : vOK P l shC ad (vR 2 48) cX3_spread RX3 7) (hR : (∀ pc lv, decode cX3_spread pc = .ok (.return_, 1) → P t1 pc lv []))  {a1 : Int32} {a2 : Int32} {a3 : Int32} {a4 : Int32} {s : vSt} (h : gC_Paths_spread_0 N a1 a2 a3 a4 s = some t1) : P s 0 [(0, .ref (ad 41)), (1, .int a1), (2, .int a2), (3, .int a3), (4, .int a4)] [] := by
  unfold gC_Paths_spread_0 at h
  refine v_iconst (v := 0) hX dX3_spread_0 (by decide) ?_
  refine v_istore (lv' := [(5, .int 0), (0, .ref (ad 41)), (1, .int a1), (2, .int a2), (3, .int a3), (4, .int a4)]) hX dX3_spread_1 (by decide) rfl ?_
  exact v_sub hX [1, 2, 3, 4, 5, 0] (by rfl) (wC_Paths_spread_3 hX hR  N _ _ _ _ _ _ h)
noncomputable def fC_Paths_spread (N : Nat) (a1 : Int32) (a2 : Int32) (a3 : Int32) (a4 : Int32) (s : vSt) : Option (vSt) := gC_Paths_spread_0 N a1 a2 a3 a4 s
theorem mC_Paths_spread {N : Nat} {a1 : Int32} {a2 : Int32} {a3 : Int32} {a4 : Int32} {s : vSt} {t1 : vSt} (h : fC_Paths_spread N a1 a2 a3 a4 s = some t1) (l : Launch) (ad : Nat → Nat) : vMV l shC ad yX3_spread cX3_spread 7 2 48 s [.ref (ad 41), .int a1, .int a2, .int a3, .int a4] t1 :=
  vMV_of (by decide +kernel) (Nat.le_of_ble_eq_true rfl) (fun P hX hR => wC_Paths_spread_0 hX hR h)
-- C_Roads_getterAt
noncomputable def gC_Roads_getterAt_0 (N : Nat)  (a1 : Int32) (s : vSt) : Option (Int32 × vSt) :=
  if (a1 &&& 1) = 0 then
    (ld s 11 20 (a1 >>> (1 &&& 31))).bind fun v1 =>
    some (v1, s)
  else
    (ld s 12 20 (a1 >>> (1 &&& 31))).bind fun v2 =>
    some (v2, s)
set_option maxRecDepth 4000 in
theorem wC_Roads_getterAt_0 {P : vP} {l : Launch} {ad : Nat → Nat} {N : Nat} {r : Int32} {t1 : vSt} (hX : vOK P l shC ad (vR 0 0) cX6_getterAt RX6 2) (hR : (∀ pc lv, narrow .int (.int r) = .int r → decode cX6_getterAt pc = .ok (.ireturn, 1) → P t1 pc lv [.int r]))  {a1 : Int32} {s : vSt} (h : gC_Roads_getterAt_0 N a1 s = some (r, t1)) : P s 0 [(0, .ref (ad 9)), (1, .int a1)] [] := by
  unfold gC_Roads_getterAt_0 at h
  refine v_iload_n hX dX6_getterAt_0 rfl 1 rfl ?_
  refine v_iconst (v := 1) hX dX6_getterAt_1 (by decide) ?_
  refine v_iand hX dX6_getterAt_2 ?_
  refine v_if_ne (tgt := 17) hX dX6_getterAt_3 (by decide) h (fun h => ?_) (fun h => ?_)
  · refine v_aload_n hX dX6_getterAt_6 rfl 0 rfl ?_
    refine gfC_9_1 hX kf_6_15 dX6_getterAt_7 ?_
    refine v_iload_n hX dX6_getterAt_10 rfl 1 rfl ?_
    refine v_iconst (v := 1) hX dX6_getterAt_11 (by decide) ?_
    refine v_ishr hX dX6_getterAt_12 ?_
    refine alC_11 hX dX6_getterAt_13 h (fun v1 h => ?_)
    refine v_goto (tgt := 25) hX dX6_getterAt_14 (by decide) ?_
    exact v_retI hR h dX6_getterAt_25
  · refine v_aload_n hX dX6_getterAt_17 rfl 0 rfl ?_
    refine gfC_9_2 hX kf_6_18 dX6_getterAt_18 ?_
    refine v_iload_n hX dX6_getterAt_21 rfl 1 rfl ?_
    refine v_iconst (v := 1) hX dX6_getterAt_22 (by decide) ?_
    refine v_ishr hX dX6_getterAt_23 ?_
    refine alC_12 hX dX6_getterAt_24 h (fun v2 h => ?_)
    exact v_retI hR h dX6_getterAt_25
noncomputable def fC_Roads_getterAt (N : Nat) (a1 : Int32) (s : vSt) : Option (Int32 × vSt) := gC_Roads_getterAt_0 N a1 s
theorem mC_Roads_getterAt {N : Nat} {a1 : Int32} {s : vSt} {r : Int32} {t1 : vSt} (h : fC_Roads_getterAt N a1 s = some (r, t1)) (l : Launch) (ad : Nat → Nat) : vMI l shC ad yX6_getterAt cX6_getterAt 2 .int 0 0 s [.ref (ad 9), .int a1] r t1 :=
  vMI_of (by decide +kernel) (Nat.le_of_ble_eq_true rfl) (fun P hX hR => wC_Roads_getterAt_0 hX hR h)
-- C_Roads_readyAt
noncomputable def gC_Roads_readyAt_0 (N : Nat)  (a1 : Int32) (s : vSt) : Option (Int32 × vSt) :=
  (ld s 13 20 (a1 >>> (1 &&& 31))).bind fun v1 =>
  (fC_Roads_getterAt N a1 s).bind fun p2 =>
  (ld p2.2 10 9 p2.1).bind fun v3 =>
  some (v1 + v3, p2.2)
set_option maxRecDepth 4000 in
theorem wC_Roads_readyAt_0 {P : vP} {l : Launch} {ad : Nat → Nat} {N : Nat} {r : Int32} {t1 : vSt} (hX : vOK P l shC ad (vR 1 21) cX6_readyAt RX6 2) (hR : (∀ pc lv, narrow .int (.int r) = .int r → decode cX6_readyAt pc = .ok (.ireturn, 1) → P t1 pc lv [.int r]))  {a1 : Int32} {s : vSt} (h : gC_Roads_readyAt_0 N a1 s = some (r, t1)) : P s 0 [(0, .ref (ad 9)), (1, .int a1)] [] := by
  unfold gC_Roads_readyAt_0 at h
  refine v_aload_n hX dX6_readyAt_0 rfl 0 rfl ?_
  refine gfC_9_3 hX kf_6_21 dX6_readyAt_1 ?_
  refine v_iload_n hX dX6_readyAt_4 rfl 1 rfl ?_
  refine v_iconst (v := 1) hX dX6_readyAt_5 (by decide) ?_
  refine v_ishr hX dX6_readyAt_6 ?_
  refine alC_13 hX dX6_readyAt_7 h (fun v1 h => ?_)
  refine v_aload_n hX dX6_readyAt_8 rfl 0 rfl ?_
  refine gfC_9_0 hX kf_6_9 dX6_readyAt_9 ?_
  refine v_aload_n hX dX6_readyAt_12 rfl 0 rfl ?_
  refine v_iload_n hX dX6_readyAt_13 rfl 1 rfl ?_
  obtain ⟨p2, hp2, h⟩ := bsome h
  refine v_callVI (o := 9) hX (mC_Roads_getterAt hp2 l ad) kM_X6_getterAt kV_X6_getterAt km_6_37 (by decide) (fun _ => rfl) rfl rfl rfl (Nat.le_of_ble_eq_true rfl) (by decide) dX6_readyAt_14 ?_
  refine alC_10 hX dX6_readyAt_17 h (fun v3 h => ?_)
  refine v_iadd hX dX6_readyAt_18 ?_
  exact v_retI hR h dX6_readyAt_19
noncomputable def fC_Roads_readyAt (N : Nat) (a1 : Int32) (s : vSt) : Option (Int32 × vSt) := gC_Roads_readyAt_0 N a1 s
theorem mC_Roads_readyAt {N : Nat} {a1 : Int32} {s : vSt} {r : Int32} {t1 : vSt} (h : fC_Roads_readyAt N a1 s = some (r, t1)) (l : Launch) (ad : Nat → Nat) : vMI l shC ad yX6_readyAt cX6_readyAt 2 .int 1 21 s [.ref (ad 9), .int a1] r t1 :=
  vMI_of (by decide +kernel) (Nat.le_of_ble_eq_true rfl) (fun P hX hR => wC_Roads_readyAt_0 hX hR h)
-- C_Roads_placeOf
noncomputable def gC_Roads_placeOf_0 (N : Nat)  (a1 : Int32) (a2 : Int32) (s : vSt) : Option (Int32 × vSt) :=
  (ld s 11 20 a1).bind fun v1 =>
  if v1 = a2 then
    some ((2 : Int32) * a1, s)
  else
    some (((2 : Int32) * a1) + 1, s)
set_option maxRecDepth 4000 in
theorem wC_Roads_placeOf_0 {P : vP} {l : Launch} {ad : Nat → Nat} {N : Nat} {r : Int32} {t1 : vSt} (hX : vOK P l shC ad (vR 0 0) cX6_placeOf RX6 3) (hR : (∀ pc lv, narrow .int (.int r) = .int r → decode cX6_placeOf pc = .ok (.ireturn, 1) → P t1 pc lv [.int r]))  {a1 : Int32} {a2 : Int32} {s : vSt} (h : gC_Roads_placeOf_0 N a1 a2 s = some (r, t1)) : P s 0 [(0, .ref (ad 9)), (1, .int a1), (2, .int a2)] [] := by
  unfold gC_Roads_placeOf_0 at h
  refine v_aload_n hX dX6_placeOf_0 rfl 0 rfl ?_
  refine gfC_9_1 hX kf_6_15 dX6_placeOf_1 ?_
  refine v_iload_n hX dX6_placeOf_4 rfl 1 rfl ?_
  refine alC_11 hX dX6_placeOf_5 h (fun v1 h => ?_)
  refine v_iload_n hX dX6_placeOf_6 rfl 2 rfl ?_
  refine v_icmp_ne (tgt := 16) hX dX6_placeOf_7 (by decide) h (fun h => ?_) (fun h => ?_)
  · refine v_iconst (v := 2) hX dX6_placeOf_10 (by decide) ?_
    refine v_iload_n hX dX6_placeOf_11 rfl 1 rfl ?_
    refine v_imul hX dX6_placeOf_12 ?_
    refine v_goto (tgt := 21) hX dX6_placeOf_13 (by decide) ?_
    exact v_retI hR h dX6_placeOf_21
  · refine v_iconst (v := 2) hX dX6_placeOf_16 (by decide) ?_
    refine v_iload_n hX dX6_placeOf_17 rfl 1 rfl ?_
    refine v_imul hX dX6_placeOf_18 ?_
    refine v_iconst (v := 1) hX dX6_placeOf_19 (by decide) ?_
    refine v_iadd hX dX6_placeOf_20 ?_
    exact v_retI hR h dX6_placeOf_21
noncomputable def fC_Roads_placeOf (N : Nat) (a1 : Int32) (a2 : Int32) (s : vSt) : Option (Int32 × vSt) := gC_Roads_placeOf_0 N a1 a2 s
theorem mC_Roads_placeOf {N : Nat} {a1 : Int32} {a2 : Int32} {s : vSt} {r : Int32} {t1 : vSt} (h : fC_Roads_placeOf N a1 a2 s = some (r, t1)) (l : Launch) (ad : Nat → Nat) : vMI l shC ad yX6_placeOf cX6_placeOf 3 .int 0 0 s [.ref (ad 9), .int a1, .int a2] r t1 :=
  vMI_of (by decide +kernel) (Nat.le_of_ble_eq_true rfl) (fun P hX hR => wC_Roads_placeOf_0 hX hR h)
-- C_Paths_weightOf
noncomputable def gC_Paths_weightOf_0 (N : Nat)  (a1 : Int32) (s : vSt) : Option (Int32 × vSt) :=
  if (s.1 41 7) = 1 then
    (ld s 14 20 a1).bind fun v1 =>
    some (((32 : Int32) * v1) + 1, s)
  else
    if (s.1 41 7) = 2 then
      some ((-1), s)
    else
      some (1, s)
set_option maxRecDepth 4000 in
theorem wC_Paths_weightOf_0 {P : vP} {l : Launch} {ad : Nat → Nat} {N : Nat} {r : Int32} {t1 : vSt} (hX : vOK P l shC ad (vR 0 0) cX3_weightOf RX3 2) (hR : (∀ pc lv, narrow .int (.int r) = .int r → decode cX3_weightOf pc = .ok (.ireturn, 1) → P t1 pc lv [.int r]))  {a1 : Int32} {s : vSt} (h : gC_Paths_weightOf_0 N a1 s = some (r, t1)) : P s 0 [(0, .ref (ad 41)), (1, .int a1)] [] := by
  unfold gC_Paths_weightOf_0 at h
  refine v_aload_n hX dX3_weightOf_0 rfl 0 rfl ?_
  refine gfC_41_7 hX kf_3_65 dX3_weightOf_1 ?_
  refine v_iconst (v := 1) hX dX3_weightOf_4 (by decide) ?_
  refine v_icmp_ne (tgt := 23) hX dX3_weightOf_5 (by decide) h (fun h => ?_) (fun h => ?_)
  · refine v_bipush (v := 32) hX dX3_weightOf_8 (by decide) ?_
    refine v_aload_n hX dX3_weightOf_10 rfl 0 rfl ?_
    refine gfC_41_3 hX kf_3_25 dX3_weightOf_11 ?_
    refine gfC_9_4 hX kf_3_101 dX3_weightOf_14 ?_
    refine v_iload_n hX dX3_weightOf_17 rfl 1 rfl ?_
    refine alC_14 hX dX3_weightOf_18 h (fun v1 h => ?_)
    refine v_imul hX dX3_weightOf_19 ?_
    refine v_iconst (v := 1) hX dX3_weightOf_20 (by decide) ?_
    refine v_iadd hX dX3_weightOf_21 ?_
    exact v_retI hR h dX3_weightOf_22
  · refine v_aload_n hX dX3_weightOf_23 rfl 0 rfl ?_
    refine gfC_41_7 hX kf_3_65 dX3_weightOf_24 ?_
    refine v_iconst (v := 2) hX dX3_weightOf_27 (by decide) ?_
    refine v_icmp_ne (tgt := 35) hX dX3_weightOf_28 (by decide) h (fun h => ?_) (fun h => ?_)
    · refine v_iconst (v := (-1)) hX dX3_weightOf_31 (by decide) ?_
      refine v_goto (tgt := 36) hX dX3_weightOf_32 (by decide) ?_
      exact v_retI hR h dX3_weightOf_36
    · refine v_iconst (v := 1) hX dX3_weightOf_35 (by decide) ?_
      exact v_retI hR h dX3_weightOf_36
noncomputable def fC_Paths_weightOf (N : Nat) (a1 : Int32) (s : vSt) : Option (Int32 × vSt) := gC_Paths_weightOf_0 N a1 s
theorem mC_Paths_weightOf {N : Nat} {a1 : Int32} {s : vSt} {r : Int32} {t1 : vSt} (h : fC_Paths_weightOf N a1 s = some (r, t1)) (l : Launch) (ad : Nat → Nat) : vMI l shC ad yX3_weightOf cX3_weightOf 2 .int 0 0 s [.ref (ad 41), .int a1] r t1 :=
  vMI_of (by decide +kernel) (Nat.le_of_ble_eq_true rfl) (fun P hX hR => wC_Paths_weightOf_0 hX hR h)
-- C_Paths_weightBy
noncomputable def gC_Paths_weightBy_0 (N : Nat)  (a1 : Int32) (a2 : Int32) (a3 : Int32) (s : vSt) : Option (Int32 × vSt) :=
  (fC_Roads_isAt N a2 a1 s).bind fun p1 =>
  if p1.1 = 0 then
    some (1048576, p1.2)
  else
    (ld p1.2 13 20 a1).bind fun v2 =>
    if a3 ≤ v2 then
      (fC_Roads_otherAt N a1 a2 p1.2).bind fun p3 =>
      (fC_Roads_placeOf N a1 p3.1 p3.2).bind fun p4 =>
      (ld p4.2 43 40 p4.1).bind fun v5 =>
      if v5 = 1048576 then
        some (1048576, p4.2)
      else
        (fC_Paths_weightOf N a1 p4.2).bind fun p6 =>
        some (v5 + p6.1, p6.2)
    else
      some (1048576, p1.2)
set_option maxRecDepth 4000 in
theorem wC_Paths_weightBy_0 {P : vP} {l : Launch} {ad : Nat → Nat} {N : Nat} {r : Int32} {t1 : vSt} (hX : vOK P l shC ad (vR 1 22) cX3_weightBy RX3 5) (hR : (∀ pc lv, narrow .int (.int r) = .int r → decode cX3_weightBy pc = .ok (.ireturn, 1) → P t1 pc lv [.int r]))  {a1 : Int32} {a2 : Int32} {a3 : Int32} {s : vSt} (h : gC_Paths_weightBy_0 N a1 a2 a3 s = some (r, t1)) : P s 0 [(0, .ref (ad 41)), (1, .int a1), (2, .int a2), (3, .int a3)] [] := by
  unfold gC_Paths_weightBy_0 at h
  refine v_aload_n hX dX3_weightBy_0 rfl 0 rfl ?_
  refine gfC_41_3 hX kf_3_25 dX3_weightBy_1 ?_
  refine v_iload_n hX dX3_weightBy_4 rfl 2 rfl ?_
  refine v_iload_n hX dX3_weightBy_5 rfl 1 rfl ?_
  obtain ⟨p1, hp1, h⟩ := bsome h
  refine v_callVI (o := 9) hX (mC_Roads_isAt hp1 l ad) kM_X6_isAt kV_X6_isAt km_3_92 (by decide) (fun _ => rfl) rfl rfl rfl (Nat.le_of_ble_eq_true rfl) (by decide) dX3_weightBy_6 ?_
  refine v_if_eq (tgt := 25) hX dX3_weightBy_9 (by decide) h (fun h => ?_) (fun h => ?_)
  · refine v_ldc hX kc_3_76 dX3_weightBy_25 ?_
    exact v_retI hR h dX3_weightBy_27
  · refine v_aload_n hX dX3_weightBy_12 rfl 0 rfl ?_
    refine gfC_41_3 hX kf_3_25 dX3_weightBy_13 ?_
    refine gfC_9_3 hX kf_3_41 dX3_weightBy_16 ?_
    refine v_iload_n hX dX3_weightBy_19 rfl 1 rfl ?_
    refine alC_13 hX dX3_weightBy_20 h (fun v2 h => ?_)
    refine v_iload_n hX dX3_weightBy_21 rfl 3 rfl ?_
    refine v_icmp_ge (tgt := 28) hX dX3_weightBy_22 (by decide) h (fun h => ?_) (fun h => ?_)
    · refine v_aload_n hX dX3_weightBy_28 rfl 0 rfl ?_
      refine gfC_41_4 hX kf_3_15 dX3_weightBy_29 ?_
      refine v_aload_n hX dX3_weightBy_32 rfl 0 rfl ?_
      refine gfC_41_3 hX kf_3_25 dX3_weightBy_33 ?_
      refine v_iload_n hX dX3_weightBy_36 rfl 1 rfl ?_
      refine v_aload_n hX dX3_weightBy_37 rfl 0 rfl ?_
      refine gfC_41_3 hX kf_3_25 dX3_weightBy_38 ?_
      refine v_iload_n hX dX3_weightBy_41 rfl 1 rfl ?_
      refine v_iload_n hX dX3_weightBy_42 rfl 2 rfl ?_
      obtain ⟨p3, hp3, h⟩ := bsome h
      refine v_callVI (o := 9) hX (mC_Roads_otherAt hp3 l ad) kM_X6_otherAt kV_X6_otherAt km_3_54 (by decide) (fun _ => rfl) rfl rfl rfl (Nat.le_of_ble_eq_true rfl) (by decide) dX3_weightBy_43 ?_
      obtain ⟨p4, hp4, h⟩ := bsome h
      refine v_callVI (o := 9) hX (mC_Roads_placeOf hp4 l ad) kM_X6_placeOf kV_X6_placeOf km_3_95 (by decide) (fun _ => rfl) rfl rfl rfl (Nat.le_of_ble_eq_true rfl) (by decide) dX3_weightBy_46 ?_
      refine alC_43 hX dX3_weightBy_49 h (fun v5 h => ?_)
      refine v_istore (lv' := [(4, .int v5), (0, .ref (ad 41)), (1, .int a1), (2, .int a2), (3, .int a3)]) hX dX3_weightBy_50 (by decide) rfl ?_
      refine v_iload hX dX3_weightBy_52 0 rfl ?_
      refine v_ldc hX kc_3_76 dX3_weightBy_54 ?_
      refine v_icmp_ne (tgt := 64) hX dX3_weightBy_56 (by decide) h (fun h => ?_) (fun h => ?_)
      · refine v_ldc hX kc_3_76 dX3_weightBy_59 ?_
        refine v_goto (tgt := 72) hX dX3_weightBy_61 (by decide) ?_
        exact v_retI hR h dX3_weightBy_72
      · refine v_iload hX dX3_weightBy_64 0 rfl ?_
        refine v_aload_n hX dX3_weightBy_66 rfl 1 rfl ?_
        refine v_iload_n hX dX3_weightBy_67 rfl 2 rfl ?_
        obtain ⟨p6, hp6, h⟩ := bsome h
        refine v_callVI (o := 41) hX (mC_Paths_weightOf hp6 l ad) kM_X3_weightOf kV_X3_weightOf km_3_98 (by decide) (fun _ => rfl) rfl rfl rfl (Nat.le_of_ble_eq_true rfl) (by decide) dX3_weightBy_68 ?_
        refine v_iadd hX dX3_weightBy_71 ?_
        exact v_retI hR h dX3_weightBy_72
    · refine v_ldc hX kc_3_76 dX3_weightBy_25 ?_
      exact v_retI hR h dX3_weightBy_27
noncomputable def fC_Paths_weightBy (N : Nat) (a1 : Int32) (a2 : Int32) (a3 : Int32) (s : vSt) : Option (Int32 × vSt) := gC_Paths_weightBy_0 N a1 a2 a3 s
theorem mC_Paths_weightBy {N : Nat} {a1 : Int32} {a2 : Int32} {a3 : Int32} {s : vSt} {r : Int32} {t1 : vSt} (h : fC_Paths_weightBy N a1 a2 a3 s = some (r, t1)) (l : Launch) (ad : Nat → Nat) : vMI l shC ad yX3_weightBy cX3_weightBy 5 .int 1 22 s [.ref (ad 41), .int a1, .int a2, .int a3] r t1 :=
  vMI_of (by decide +kernel) (Nat.le_of_ble_eq_true rfl) (fun P hX hR => wC_Paths_weightBy_0 hX hR h)
-- C_Paths_leastFrom
noncomputable def gC_Paths_leastFrom_6 (N : Nat)  : Nat → Int32 → Int32 → Int32 → Int32 → vSt → Option (Int32 × vSt)
  | 0, _, _, _, _, _ => none
  | n + 1, a1, a2, a3, a4, s =>
    if (s.1 9 7) ≤ a4 then
      some (a3, s)
    else
      (fC_Paths_weightBy N a4 a1 a2 s).bind fun p1 =>
      (some (if a3 > p1.1 then p1.1 else a3 : Int32)).bind fun v2 =>
      (some (a4 + 1 : Int32)).bind fun v3 =>
      gC_Paths_leastFrom_6 N n a1 a2 v2 v3 p1.2
set_option maxRecDepth 4000 in
theorem wC_Paths_leastFrom_6 {P : vP} {l : Launch} {ad : Nat → Nat} {N : Nat} {r : Int32} {t1 : vSt} (hX : vOK P l shC ad (vR 2 46) cX3_leastFrom RX3 5) (hR : (∀ pc lv, narrow .int (.int r) = .int r → decode cX3_leastFrom pc = .ok (.ireturn, 1) → P t1 pc lv [.int r]))  : ∀ (n : Nat) (a1 : Int32) (a2 : Int32) (a3 : Int32) (a4 : Int32) (s : vSt), gC_Paths_leastFrom_6 N n a1 a2 a3 a4 s = some (r, t1) → P s 6 [(0, .ref (ad 41)), (1, .int a1), (2, .int a2), (3, .int a3), (4, .int a4)] [] := by
  intro n
  induction n with
  | zero => intro a1 a2 a3 a4 s h; cases h
  | succ n ih =>
    intro a1 a2 a3 a4 s h
    unfold gC_Paths_leastFrom_6 at h
    refine v_iload hX dX3_leastFrom_6 4 rfl ?_
    refine v_aload_n hX dX3_leastFrom_8 rfl 0 rfl ?_
    refine gfC_41_3 hX kf_3_25 dX3_leastFrom_9 ?_
    refine gfC_9_7 hX kf_3_35 dX3_leastFrom_12 ?_
    refine v_icmp_ge (tgt := 37) hX dX3_leastFrom_15 (by decide) h (fun h => ?_) (fun h => ?_)
    · refine v_iload_n hX dX3_leastFrom_37 rfl 3 rfl ?_
      exact v_retI hR h dX3_leastFrom_38
    · refine v_iload_n hX dX3_leastFrom_18 rfl 3 rfl ?_
      refine v_aload_n hX dX3_leastFrom_19 rfl 0 rfl ?_
      refine v_iload hX dX3_leastFrom_20 4 rfl ?_
      refine v_iload_n hX dX3_leastFrom_22 rfl 1 rfl ?_
      refine v_iload_n hX dX3_leastFrom_23 rfl 2 rfl ?_
      obtain ⟨p1, hp1, h⟩ := bsome h
      refine v_callVI (o := 41) hX (mC_Paths_weightBy hp1 l ad) kM_X3_weightBy kV_X3_weightBy km_3_88 (by decide) (fun _ => rfl) rfl rfl rfl (Nat.le_of_ble_eq_true rfl) (by decide) dX3_leastFrom_24 ?_
      refine v_min hX km_3_83 kS_J9_min_7cf53 kI_Math kC_min (Nat.le_of_ble_eq_true rfl) (Nat.le_of_ble_eq_true rfl) dX3_leastFrom_27 ?_
      refine v_nmI hX h (fun v2 h => ?_)
      refine v_istore_n (lv' := [(3, .int v2), (0, .ref (ad 41)), (1, .int a1), (2, .int a2), (4, .int a4)]) hX dX3_leastFrom_30 rfl (by decide) rfl ?_
      refine v_iincN hX dX3_leastFrom_31 (j := 4) rfl (c := 1) (by decide) (by decide) h (fun v3 h => ?_)
      refine v_show (lv' := [(4, .int v3), (3, .int v2), (0, .ref (ad 41)), (1, .int a1), (2, .int a2)]) hX rfl ?_
      refine v_goto (tgt := 6) hX dX3_leastFrom_34 (by decide) ?_
      exact v_sub hX [2, 3, 4, 1, 0] (by rfl) (ih _ _ _ _ _ h)
noncomputable def gC_Paths_leastFrom_0 (N : Nat)  (a1 : Int32) (a2 : Int32) (s : vSt) : Option (Int32 × vSt) :=
  gC_Paths_leastFrom_6 N N a1 a2 1048576 0 s
set_option maxRecDepth 4000 in
theorem wC_Paths_leastFrom_0 {P : vP} {l : Launch} {ad : Nat → Nat} {N : Nat} {r : Int32} {t1 : vSt} (hX : vOK P l shC ad (vR 2 46) cX3_leastFrom RX3 5) (hR : (∀ pc lv, narrow .int (.int r) = .int r → decode cX3_leastFrom pc = .ok (.ireturn, 1) → P t1 pc lv [.int r]))  {a1 : Int32} {a2 : Int32} {s : vSt} (h : gC_Paths_leastFrom_0 N a1 a2 s = some (r, t1)) : P s 0 [(0, .ref (ad 41)), (1, .int a1), (2, .int a2)] [] := by
  unfold gC_Paths_leastFrom_0 at h
  refine v_ldc hX kc_3_76 dX3_leastFrom_0 ?_
  refine v_istore_n (lv' := [(3, .int 1048576), (0, .ref (ad 41)), (1, .int a1), (2, .int a2)]) hX dX3_leastFrom_2 rfl (by decide) rfl ?_
  refine v_iconst (v := 0) hX dX3_leastFrom_3 (by decide) ?_
  refine v_istore (lv' := [(4, .int 0), (3, .int 1048576), (0, .ref (ad 41)), (1, .int a1), (2, .int a2)]) hX dX3_leastFrom_4 (by decide) rfl ?_
  exact v_sub hX [2, 3, 4, 1, 0] (by rfl) (wC_Paths_leastFrom_6 hX hR  N _ _ _ _ _ h)
noncomputable def fC_Paths_leastFrom (N : Nat) (a1 : Int32) (a2 : Int32) (s : vSt) : Option (Int32 × vSt) := gC_Paths_leastFrom_0 N a1 a2 s
theorem mC_Paths_leastFrom {N : Nat} {a1 : Int32} {a2 : Int32} {s : vSt} {r : Int32} {t1 : vSt} (h : fC_Paths_leastFrom N a1 a2 s = some (r, t1)) (l : Launch) (ad : Nat → Nat) : vMI l shC ad yX3_leastFrom cX3_leastFrom 5 .int 2 46 s [.ref (ad 41), .int a1, .int a2] r t1 :=
  vMI_of (by decide +kernel) (Nat.le_of_ble_eq_true rfl) (fun P hX hR => wC_Paths_leastFrom_0 hX hR h)
-- C_Paths_restAt
noncomputable def gC_Paths_restAt_49 (N : Nat)  (a1 : Int32) (a4 : Int32) (a5 : Int32) (k0 : Int32) (s : vSt) : Option (Int32 × vSt) :=
  if (a4 &&& ((1 : Int32) <<< (a5 &&& 31))) = 0 then
    (fC_Roads_readyAt N a1 s).bind fun p1 =>
    (fC_Paths_leastFrom N a5 p1.1 p1.2).bind fun p2 =>
    some (if k0 > p2.1 then p2.1 else k0, p2.2)
  else
    some (k0, s)
set_option maxRecDepth 4000 in
theorem wC_Paths_restAt_49 {P : vP} {l : Launch} {ad : Nat → Nat} {N : Nat} {r : Int32} {t1 : vSt} (hX : vOK P l shC ad (vR 3 70) cX3_restAt RX3 8) (hR : (∀ pc lv, narrow .int (.int r) = .int r → decode cX3_restAt pc = .ok (.ireturn, 1) → P t1 pc lv [.int r]))  {a1 : Int32} {a4 : Int32} {a5 : Int32} {k0 : Int32} {s : vSt} (h : gC_Paths_restAt_49 N a1 a4 a5 k0 s = some (r, t1)) : P s 49 [(0, .ref (ad 41)), (1, .int a1), (4, .int a4), (5, .int a5)] [.int k0] := by
  unfold gC_Paths_restAt_49 at h
  refine v_istore (lv' := [(7, .int k0), (0, .ref (ad 41)), (1, .int a1), (4, .int a4), (5, .int a5)]) hX dX3_restAt_49 (by decide) rfl ?_
  refine v_iload hX dX3_restAt_51 3 rfl ?_
  refine v_iconst (v := 1) hX dX3_restAt_53 (by decide) ?_
  refine v_iload hX dX3_restAt_54 4 rfl ?_
  refine v_ishl hX dX3_restAt_56 ?_
  refine v_iand hX dX3_restAt_57 ?_
  refine v_if_eq (tgt := 64) hX dX3_restAt_58 (by decide) h (fun h => ?_) (fun h => ?_)
  · refine v_iload hX dX3_restAt_64 0 rfl ?_
    refine v_aload_n hX dX3_restAt_66 rfl 1 rfl ?_
    refine v_iload hX dX3_restAt_67 4 rfl ?_
    refine v_aload_n hX dX3_restAt_69 rfl 1 rfl ?_
    refine gfC_41_3 hX kf_3_25 dX3_restAt_70 ?_
    refine v_iload_n hX dX3_restAt_73 rfl 2 rfl ?_
    obtain ⟨p1, hp1, h⟩ := bsome h
    refine v_callVI (o := 9) hX (mC_Roads_readyAt hp1 l ad) kM_X6_readyAt kV_X6_readyAt km_3_77 (by decide) (fun _ => rfl) rfl rfl rfl (Nat.le_of_ble_eq_true rfl) (by decide) dX3_restAt_74 ?_
    obtain ⟨p2, hp2, h⟩ := bsome h
    refine v_callVI (o := 41) hX (mC_Paths_leastFrom hp2 l ad) kM_X3_leastFrom kV_X3_leastFrom km_3_80 (by decide) (fun _ => rfl) rfl rfl rfl (Nat.le_of_ble_eq_true rfl) (by decide) dX3_restAt_77 ?_
    refine v_min hX km_3_83 kS_J9_min_7cf53 kI_Math kC_min (Nat.le_of_ble_eq_true rfl) (Nat.le_of_ble_eq_true rfl) dX3_restAt_80 ?_
    exact v_retI hR h dX3_restAt_83
  · refine v_iload hX dX3_restAt_61 0 rfl ?_
    exact v_retI hR h dX3_restAt_63
noncomputable def gC_Paths_restAt_36 (N : Nat)  (a1 : Int32) (a4 : Int32) (a5 : Int32) (k0 : Int32) (s : vSt) : Option (Int32 × vSt) :=
  if k0 = 0 then
    gC_Paths_restAt_49 N a1 a4 a5 1048576 s
  else
    gC_Paths_restAt_49 N a1 a4 a5 0 s
set_option maxRecDepth 4000 in
theorem wC_Paths_restAt_36 {P : vP} {l : Launch} {ad : Nat → Nat} {N : Nat} {r : Int32} {t1 : vSt} (hX : vOK P l shC ad (vR 3 70) cX3_restAt RX3 8) (hR : (∀ pc lv, narrow .int (.int r) = .int r → decode cX3_restAt pc = .ok (.ireturn, 1) → P t1 pc lv [.int r]))  {a1 : Int32} {a4 : Int32} {a5 : Int32} {k0 : Int32} {s : vSt} (h : gC_Paths_restAt_36 N a1 a4 a5 k0 s = some (r, t1)) : P s 36 [(0, .ref (ad 41)), (1, .int a1), (4, .int a4), (5, .int a5)] [.int k0] := by
  unfold gC_Paths_restAt_36 at h
  refine v_istore (lv' := [(6, .int k0), (0, .ref (ad 41)), (1, .int a1), (4, .int a4), (5, .int a5)]) hX dX3_restAt_36 (by decide) rfl ?_
  refine v_iload hX dX3_restAt_38 0 rfl ?_
  refine v_if_eq (tgt := 47) hX dX3_restAt_40 (by decide) h (fun h => ?_) (fun h => ?_)
  · refine v_ldc hX kc_3_76 dX3_restAt_47 ?_
    exact v_sub hX [1, 2, 3, 4] (by rfl) (wC_Paths_restAt_49 hX hR  h)
  · refine v_iconst (v := 0) hX dX3_restAt_43 (by decide) ?_
    refine v_goto (tgt := 49) hX dX3_restAt_44 (by decide) ?_
    exact v_sub hX [1, 2, 3, 4] (by rfl) (wC_Paths_restAt_49 hX hR  h)
noncomputable def gC_Paths_restAt_35 (N : Nat)  (a1 : Int32) (a4 : Int32) (a5 : Int32) (s : vSt) : Option (Int32 × vSt) :=
  gC_Paths_restAt_36 N a1 a4 a5 0 s
set_option maxRecDepth 4000 in
theorem wC_Paths_restAt_35 {P : vP} {l : Launch} {ad : Nat → Nat} {N : Nat} {r : Int32} {t1 : vSt} (hX : vOK P l shC ad (vR 3 70) cX3_restAt RX3 8) (hR : (∀ pc lv, narrow .int (.int r) = .int r → decode cX3_restAt pc = .ok (.ireturn, 1) → P t1 pc lv [.int r]))  {a1 : Int32} {a4 : Int32} {a5 : Int32} {s : vSt} (h : gC_Paths_restAt_35 N a1 a4 a5 s = some (r, t1)) : P s 35 [(0, .ref (ad 41)), (1, .int a1), (4, .int a4), (5, .int a5)] [] := by
  unfold gC_Paths_restAt_35 at h
  refine v_iconst (v := 0) hX dX3_restAt_35 (by decide) ?_
  exact v_sub hX [0, 1, 2, 3] (by rfl) (wC_Paths_restAt_36 hX hR  h)
noncomputable def gC_Paths_restAt_0 (N : Nat)  (a1 : Int32) (a2 : Int32) (a3 : Int32) (a4 : Int32) (s : vSt) : Option (Int32 × vSt) :=
  (fC_Roads_getterAt N a1 s).bind fun p1 =>
  if p1.1 = a2 then
    (ld p1.2 13 20 (a1 >>> (1 &&& 31))).bind fun v2 =>
    if a3 < v2 then
      gC_Paths_restAt_35 N a1 a4 p1.1 p1.2
    else
      gC_Paths_restAt_36 N a1 a4 p1.1 1 p1.2
  else
    gC_Paths_restAt_35 N a1 a4 p1.1 p1.2
set_option maxRecDepth 4000 in
theorem wC_Paths_restAt_0 {P : vP} {l : Launch} {ad : Nat → Nat} {N : Nat} {r : Int32} {t1 : vSt} (hX : vOK P l shC ad (vR 3 70) cX3_restAt RX3 8) (hR : (∀ pc lv, narrow .int (.int r) = .int r → decode cX3_restAt pc = .ok (.ireturn, 1) → P t1 pc lv [.int r]))  {a1 : Int32} {a2 : Int32} {a3 : Int32} {a4 : Int32} {s : vSt} (h : gC_Paths_restAt_0 N a1 a2 a3 a4 s = some (r, t1)) : P s 0 [(0, .ref (ad 41)), (1, .int a1), (2, .int a2), (3, .int a3), (4, .int a4)] [] := by
  unfold gC_Paths_restAt_0 at h
  refine v_aload_n hX dX3_restAt_0 rfl 0 rfl ?_
  refine gfC_41_3 hX kf_3_25 dX3_restAt_1 ?_
  refine v_iload_n hX dX3_restAt_4 rfl 1 rfl ?_
  obtain ⟨p1, hp1, h⟩ := bsome h
  refine v_callVI (o := 9) hX (mC_Roads_getterAt hp1 l ad) kM_X6_getterAt kV_X6_getterAt km_3_72 (by decide) (fun _ => rfl) rfl rfl rfl (Nat.le_of_ble_eq_true rfl) (by decide) dX3_restAt_5 ?_
  refine v_istore (lv' := [(5, .int p1.1), (0, .ref (ad 41)), (1, .int a1), (2, .int a2), (3, .int a3), (4, .int a4)]) hX dX3_restAt_8 (by decide) rfl ?_
  refine v_iload hX dX3_restAt_10 0 rfl ?_
  refine v_iload_n hX dX3_restAt_12 rfl 3 rfl ?_
  refine v_icmp_ne (tgt := 35) hX dX3_restAt_13 (by decide) h (fun h => ?_) (fun h => ?_)
  · refine v_aload_n hX dX3_restAt_16 rfl 1 rfl ?_
    refine gfC_41_3 hX kf_3_25 dX3_restAt_17 ?_
    refine gfC_9_3 hX kf_3_41 dX3_restAt_20 ?_
    refine v_iload_n hX dX3_restAt_23 rfl 2 rfl ?_
    refine v_iconst (v := 1) hX dX3_restAt_24 (by decide) ?_
    refine v_ishr hX dX3_restAt_25 ?_
    refine alC_13 hX dX3_restAt_26 h (fun v2 h => ?_)
    refine v_iload_n hX dX3_restAt_27 rfl 4 rfl ?_
    refine v_icmp_gt (tgt := 35) hX dX3_restAt_28 (by decide) h (fun h => ?_) (fun h => ?_)
    · exact v_sub hX [1, 2, 5, 0] (by rfl) (wC_Paths_restAt_35 hX hR  h)
    · refine v_iconst (v := 1) hX dX3_restAt_31 (by decide) ?_
      refine v_goto (tgt := 36) hX dX3_restAt_32 (by decide) ?_
      exact v_sub hX [1, 2, 5, 0] (by rfl) (wC_Paths_restAt_36 hX hR  h)
  · exact v_sub hX [1, 2, 5, 0] (by rfl) (wC_Paths_restAt_35 hX hR  h)
noncomputable def fC_Paths_restAt (N : Nat) (a1 : Int32) (a2 : Int32) (a3 : Int32) (a4 : Int32) (s : vSt) : Option (Int32 × vSt) := gC_Paths_restAt_0 N a1 a2 a3 a4 s
theorem mC_Paths_restAt {N : Nat} {a1 : Int32} {a2 : Int32} {a3 : Int32} {a4 : Int32} {s : vSt} {r : Int32} {t1 : vSt} (h : fC_Paths_restAt N a1 a2 a3 a4 s = some (r, t1)) (l : Launch) (ad : Nat → Nat) : vMI l shC ad yX3_restAt cX3_restAt 8 .int 3 70 s [.ref (ad 41), .int a1, .int a2, .int a3, .int a4] r t1 :=
  vMI_of (by decide +kernel) (Nat.le_of_ble_eq_true rfl) (fun P hX hR => wC_Paths_restAt_0 hX hR h)
-- C_Paths_aim
noncomputable def gC_Paths_aim_17 (N : Nat)  : Nat → Int32 → Int32 → Int32 → Int32 → vSt → Option (vSt)
  | 0, _, _, _, _, _ => none
  | n + 1, a1, a2, a3, a5, s =>
    if a5 < 0 then
      some s
    else
      (ld s 15 20 a5).bind fun v1 =>
      (fC_Paths_restAt N ((2 : Int32) * v1) a1 a2 a3 s).bind fun p2 =>
      (sto p2.2 43 40 ((2 : Int32) * v1) p2.1).bind fun z3 =>
      (fC_Paths_restAt N (((2 : Int32) * v1) + 1) a1 a2 a3 z3).bind fun p4 =>
      (sto p4.2 43 40 (((2 : Int32) * v1) + 1) p4.1).bind fun z5 =>
      (some (a5 + (-1) : Int32)).bind fun v6 =>
      gC_Paths_aim_17 N n a1 a2 a3 v6 z5
set_option maxRecDepth 4000 in
theorem wC_Paths_aim_17 {P : vP} {l : Launch} {ad : Nat → Nat} {N : Nat} {t1 : vSt} (hX : vOK P l shC ad (vR 4 97) cX3_aim RX3 7) (hR : (∀ pc lv, decode cX3_aim pc = .ok (.return_, 1) → P t1 pc lv []))  : ∀ (n : Nat) (a1 : Int32) (a2 : Int32) (a3 : Int32) (a5 : Int32) (s : vSt), gC_Paths_aim_17 N n a1 a2 a3 a5 s = some t1 → P s 17 [(0, .ref (ad 41)), (1, .int a1), (2, .int a2), (3, .int a3), (5, .int a5)] [] := by
  intro n
  induction n with
  | zero => intro a1 a2 a3 a5 s h; cases h
  | succ n ih =>
    intro a1 a2 a3 a5 s h
    unfold gC_Paths_aim_17 at h
    refine v_iload hX dX3_aim_17 4 rfl ?_
    refine v_if_lt (tgt := 84) hX dX3_aim_19 (by decide) h (fun h => ?_) (fun h => ?_)
    · exact v_retV hR h dX3_aim_84
    · refine v_aload_n hX dX3_aim_22 rfl 0 rfl ?_
      refine gfC_41_3 hX kf_3_25 dX3_aim_23 ?_
      refine gfC_9_5 hX kf_3_38 dX3_aim_26 ?_
      refine v_iload hX dX3_aim_29 4 rfl ?_
      refine alC_15 hX dX3_aim_31 h (fun v1 h => ?_)
      refine v_istore (lv' := [(6, .int v1), (0, .ref (ad 41)), (1, .int a1), (2, .int a2), (3, .int a3), (5, .int a5)]) hX dX3_aim_32 (by decide) rfl ?_
      refine v_aload_n hX dX3_aim_34 rfl 1 rfl ?_
      refine gfC_41_4 hX kf_3_15 dX3_aim_35 ?_
      refine v_iconst (v := 2) hX dX3_aim_38 (by decide) ?_
      refine v_iload hX dX3_aim_39 0 rfl ?_
      refine v_imul hX dX3_aim_41 ?_
      refine v_aload_n hX dX3_aim_42 rfl 1 rfl ?_
      refine v_iconst (v := 2) hX dX3_aim_43 (by decide) ?_
      refine v_iload hX dX3_aim_44 0 rfl ?_
      refine v_imul hX dX3_aim_46 ?_
      refine v_iload_n hX dX3_aim_47 rfl 2 rfl ?_
      refine v_iload_n hX dX3_aim_48 rfl 3 rfl ?_
      refine v_iload_n hX dX3_aim_49 rfl 4 rfl ?_
      obtain ⟨p2, hp2, h⟩ := bsome h
      refine v_callVI (o := 41) hX (mC_Paths_restAt hp2 l ad) kM_X3_restAt kV_X3_restAt km_3_68 (by decide) (fun _ => rfl) rfl rfl rfl (Nat.le_of_ble_eq_true rfl) (by decide) dX3_aim_50 ?_
      refine asC_43 hX dX3_aim_53 h (fun z3 h => ?_)
      refine v_aload_n hX dX3_aim_54 rfl 1 rfl ?_
      refine gfC_41_4 hX kf_3_15 dX3_aim_55 ?_
      refine v_iconst (v := 2) hX dX3_aim_58 (by decide) ?_
      refine v_iload hX dX3_aim_59 0 rfl ?_
      refine v_imul hX dX3_aim_61 ?_
      refine v_iconst (v := 1) hX dX3_aim_62 (by decide) ?_
      refine v_iadd hX dX3_aim_63 ?_
      refine v_aload_n hX dX3_aim_64 rfl 1 rfl ?_
      refine v_iconst (v := 2) hX dX3_aim_65 (by decide) ?_
      refine v_iload hX dX3_aim_66 0 rfl ?_
      refine v_imul hX dX3_aim_68 ?_
      refine v_iconst (v := 1) hX dX3_aim_69 (by decide) ?_
      refine v_iadd hX dX3_aim_70 ?_
      refine v_iload_n hX dX3_aim_71 rfl 2 rfl ?_
      refine v_iload_n hX dX3_aim_72 rfl 3 rfl ?_
      refine v_iload_n hX dX3_aim_73 rfl 4 rfl ?_
      obtain ⟨p4, hp4, h⟩ := bsome h
      refine v_callVI (o := 41) hX (mC_Paths_restAt hp4 l ad) kM_X3_restAt kV_X3_restAt km_3_68 (by decide) (fun _ => rfl) rfl rfl rfl (Nat.le_of_ble_eq_true rfl) (by decide) dX3_aim_74 ?_
      refine asC_43 hX dX3_aim_77 h (fun z5 h => ?_)
      refine v_iincN hX dX3_aim_78 (j := 5) rfl (c := (-1)) (by decide) (by decide) h (fun v6 h => ?_)
      refine v_show (lv' := [(5, .int v6), (6, .int v1), (0, .ref (ad 41)), (1, .int a1), (2, .int a2), (3, .int a3)]) hX rfl ?_
      refine v_goto (tgt := 17) hX dX3_aim_81 (by decide) ?_
      exact v_sub hX [2, 3, 4, 5, 0] (by rfl) (ih _ _ _ _ _ h)
noncomputable def gC_Paths_aim_0 (N : Nat)  (a1 : Int32) (a2 : Int32) (a3 : Int32) (a4 : Int32) (s : vSt) : Option (vSt) :=
  (some (s1 s 41 7 a4)).bind fun z1 =>
  (some ((z1.1 9 7) - 1 : Int32)).bind fun v2 =>
  gC_Paths_aim_17 N N a1 a2 a3 v2 z1
set_option maxRecDepth 4000 in
theorem wC_Paths_aim_0 {P : vP} {l : Launch} {ad : Nat → Nat} {N : Nat} {t1 : vSt} (hX : vOK P l shC ad (vR 4 97) cX3_aim RX3 7) (hR : (∀ pc lv, decode cX3_aim pc = .ok (.return_, 1) → P t1 pc lv []))  {a1 : Int32} {a2 : Int32} {a3 : Int32} {a4 : Int32} {s : vSt} (h : gC_Paths_aim_0 N a1 a2 a3 a4 s = some t1) : P s 0 [(0, .ref (ad 41)), (1, .int a1), (2, .int a2), (3, .int a3), (4, .int a4)] [] := by
  unfold gC_Paths_aim_0 at h
  refine v_aload_n hX dX3_aim_0 rfl 0 rfl ?_
  refine v_iload hX dX3_aim_1 4 rfl ?_
  refine pfC_41_7 hX kf_3_65 dX3_aim_3 h (fun z1 h => ?_)
  refine v_aload_n hX dX3_aim_6 rfl 0 rfl ?_
  refine gfC_41_3 hX kf_3_25 dX3_aim_7 ?_
  refine gfC_9_7 hX kf_3_35 dX3_aim_10 ?_
  refine v_iconst (v := 1) hX dX3_aim_13 (by decide) ?_
  refine v_isub hX dX3_aim_14 ?_
  refine v_nmI hX h (fun v2 h => ?_)
  refine v_istore (lv' := [(5, .int v2), (0, .ref (ad 41)), (1, .int a1), (2, .int a2), (3, .int a3), (4, .int a4)]) hX dX3_aim_15 (by decide) rfl ?_
  exact v_sub hX [1, 2, 3, 4, 0] (by rfl) (wC_Paths_aim_17 hX hR  N _ _ _ _ _ h)
noncomputable def fC_Paths_aim (N : Nat) (a1 : Int32) (a2 : Int32) (a3 : Int32) (a4 : Int32) (s : vSt) : Option (vSt) := gC_Paths_aim_0 N a1 a2 a3 a4 s
theorem mC_Paths_aim {N : Nat} {a1 : Int32} {a2 : Int32} {a3 : Int32} {a4 : Int32} {s : vSt} {t1 : vSt} (h : fC_Paths_aim N a1 a2 a3 a4 s = some t1) (l : Launch) (ad : Nat → Nat) : vMV l shC ad yX3_aim cX3_aim 7 4 97 s [.ref (ad 41), .int a1, .int a2, .int a3, .int a4] t1 :=
  vMV_of (by decide +kernel) (Nat.le_of_ble_eq_true rfl) (fun P hX hR => wC_Paths_aim_0 hX hR h)
-- C_Paths_measured
noncomputable def gC_Paths_measured_0 (N : Nat)  (a1 : Int32) (s : vSt) : Option (Int32 × vSt) :=
  if (s.1 41 7) = 1 then
    some (a1 / 32, s)
  else
    if (s.1 41 7) = 2 then
      some (-a1, s)
    else
      some (a1, s)
set_option maxRecDepth 4000 in
theorem wC_Paths_measured_0 {P : vP} {l : Launch} {ad : Nat → Nat} {N : Nat} {r : Int32} {t1 : vSt} (hX : vOK P l shC ad (vR 0 0) cX3_measured RX3 2) (hR : (∀ pc lv, narrow .int (.int r) = .int r → decode cX3_measured pc = .ok (.ireturn, 1) → P t1 pc lv [.int r]))  {a1 : Int32} {s : vSt} (h : gC_Paths_measured_0 N a1 s = some (r, t1)) : P s 0 [(0, .ref (ad 41)), (1, .int a1)] [] := by
  unfold gC_Paths_measured_0 at h
  refine v_aload_n hX dX3_measured_0 rfl 0 rfl ?_
  refine gfC_41_7 hX kf_3_65 dX3_measured_1 ?_
  refine v_iconst (v := 1) hX dX3_measured_4 (by decide) ?_
  refine v_icmp_ne (tgt := 13) hX dX3_measured_5 (by decide) h (fun h => ?_) (fun h => ?_)
  · refine v_iload_n hX dX3_measured_8 rfl 1 rfl ?_
    refine v_bipush (v := 32) hX dX3_measured_9 (by decide) ?_
    refine v_idiv hX dX3_measured_11 (by decide) ?_
    exact v_retI hR h dX3_measured_12
  · refine v_aload_n hX dX3_measured_13 rfl 0 rfl ?_
    refine gfC_41_7 hX kf_3_65 dX3_measured_14 ?_
    refine v_iconst (v := 2) hX dX3_measured_17 (by decide) ?_
    refine v_icmp_ne (tgt := 26) hX dX3_measured_18 (by decide) h (fun h => ?_) (fun h => ?_)
    · refine v_iload_n hX dX3_measured_21 rfl 1 rfl ?_
      refine v_ineg hX dX3_measured_22 ?_
      refine v_goto (tgt := 27) hX dX3_measured_23 (by decide) ?_
      exact v_retI hR h dX3_measured_27
    · refine v_iload_n hX dX3_measured_26 rfl 1 rfl ?_
      exact v_retI hR h dX3_measured_27
noncomputable def fC_Paths_measured (N : Nat) (a1 : Int32) (s : vSt) : Option (Int32 × vSt) := gC_Paths_measured_0 N a1 s
theorem mC_Paths_measured {N : Nat} {a1 : Int32} {s : vSt} {r : Int32} {t1 : vSt} (h : fC_Paths_measured N a1 s = some (r, t1)) (l : Launch) (ad : Nat → Nat) : vMI l shC ad yX3_measured cX3_measured 2 .int 0 0 s [.ref (ad 41), .int a1] r t1 :=
  vMI_of (by decide +kernel) (Nat.le_of_ble_eq_true rfl) (fun P hX hR => wC_Paths_measured_0 hX hR h)
-- C_Paths_stepFrom
noncomputable def gC_Paths_stepFrom_3 (N : Nat)  : Nat → Int32 → Int32 → Int32 → Int32 → vSt → Option (Int32 × vSt)
  | 0, _, _, _, _, _ => none
  | n + 1, a1, a2, a3, a4, s =>
    if (s.1 9 7) ≤ a4 then
      some ((-1), s)
    else
      (fC_Paths_weightBy N a4 a1 a2 s).bind fun p1 =>
      if p1.1 = a3 then
        some (a4, p1.2)
      else
        (some (a4 + 1 : Int32)).bind fun v2 =>
        gC_Paths_stepFrom_3 N n a1 a2 a3 v2 p1.2
set_option maxRecDepth 4000 in
theorem wC_Paths_stepFrom_3 {P : vP} {l : Launch} {ad : Nat → Nat} {N : Nat} {r : Int32} {t1 : vSt} (hX : vOK P l shC ad (vR 2 46) cX3_stepFrom RX3 5) (hR : (∀ pc lv, narrow .int (.int r) = .int r → decode cX3_stepFrom pc = .ok (.ireturn, 1) → P t1 pc lv [.int r]))  : ∀ (n : Nat) (a1 : Int32) (a2 : Int32) (a3 : Int32) (a4 : Int32) (s : vSt), gC_Paths_stepFrom_3 N n a1 a2 a3 a4 s = some (r, t1) → P s 3 [(0, .ref (ad 41)), (1, .int a1), (2, .int a2), (3, .int a3), (4, .int a4)] [] := by
  intro n
  induction n with
  | zero => intro a1 a2 a3 a4 s h; cases h
  | succ n ih =>
    intro a1 a2 a3 a4 s h
    unfold gC_Paths_stepFrom_3 at h
    refine v_iload hX dX3_stepFrom_3 4 rfl ?_
    refine v_aload_n hX dX3_stepFrom_5 rfl 0 rfl ?_
    refine gfC_41_3 hX kf_3_25 dX3_stepFrom_6 ?_
    refine gfC_9_7 hX kf_3_35 dX3_stepFrom_9 ?_
    refine v_icmp_ge (tgt := 36) hX dX3_stepFrom_12 (by decide) h (fun h => ?_) (fun h => ?_)
    · refine v_iconst (v := (-1)) hX dX3_stepFrom_36 (by decide) ?_
      exact v_retI hR h dX3_stepFrom_37
    · refine v_aload_n hX dX3_stepFrom_15 rfl 0 rfl ?_
      refine v_iload hX dX3_stepFrom_16 4 rfl ?_
      refine v_iload_n hX dX3_stepFrom_18 rfl 1 rfl ?_
      refine v_iload_n hX dX3_stepFrom_19 rfl 2 rfl ?_
      obtain ⟨p1, hp1, h⟩ := bsome h
      refine v_callVI (o := 41) hX (mC_Paths_weightBy hp1 l ad) kM_X3_weightBy kV_X3_weightBy km_3_88 (by decide) (fun _ => rfl) rfl rfl rfl (Nat.le_of_ble_eq_true rfl) (by decide) dX3_stepFrom_20 ?_
      refine v_iload_n hX dX3_stepFrom_23 rfl 3 rfl ?_
      refine v_icmp_ne (tgt := 30) hX dX3_stepFrom_24 (by decide) h (fun h => ?_) (fun h => ?_)
      · refine v_iload hX dX3_stepFrom_27 4 rfl ?_
        exact v_retI hR h dX3_stepFrom_29
      · refine v_iincN hX dX3_stepFrom_30 (j := 4) rfl (c := 1) (by decide) (by decide) h (fun v2 h => ?_)
        refine v_show (lv' := [(4, .int v2), (0, .ref (ad 41)), (1, .int a1), (2, .int a2), (3, .int a3)]) hX rfl ?_
        refine v_goto (tgt := 3) hX dX3_stepFrom_33 (by decide) ?_
        exact v_sub hX [1, 2, 3, 4, 0] (by rfl) (ih _ _ _ _ _ h)
noncomputable def gC_Paths_stepFrom_0 (N : Nat)  (a1 : Int32) (a2 : Int32) (a3 : Int32) (s : vSt) : Option (Int32 × vSt) :=
  gC_Paths_stepFrom_3 N N a1 a2 a3 0 s
set_option maxRecDepth 4000 in
theorem wC_Paths_stepFrom_0 {P : vP} {l : Launch} {ad : Nat → Nat} {N : Nat} {r : Int32} {t1 : vSt} (hX : vOK P l shC ad (vR 2 46) cX3_stepFrom RX3 5) (hR : (∀ pc lv, narrow .int (.int r) = .int r → decode cX3_stepFrom pc = .ok (.ireturn, 1) → P t1 pc lv [.int r]))  {a1 : Int32} {a2 : Int32} {a3 : Int32} {s : vSt} (h : gC_Paths_stepFrom_0 N a1 a2 a3 s = some (r, t1)) : P s 0 [(0, .ref (ad 41)), (1, .int a1), (2, .int a2), (3, .int a3)] [] := by
  unfold gC_Paths_stepFrom_0 at h
  refine v_iconst (v := 0) hX dX3_stepFrom_0 (by decide) ?_
  refine v_istore (lv' := [(4, .int 0), (0, .ref (ad 41)), (1, .int a1), (2, .int a2), (3, .int a3)]) hX dX3_stepFrom_1 (by decide) rfl ?_
  exact v_sub hX [1, 2, 3, 4, 0] (by rfl) (wC_Paths_stepFrom_3 hX hR  N _ _ _ _ _ h)
noncomputable def fC_Paths_stepFrom (N : Nat) (a1 : Int32) (a2 : Int32) (a3 : Int32) (s : vSt) : Option (Int32 × vSt) := gC_Paths_stepFrom_0 N a1 a2 a3 s
theorem mC_Paths_stepFrom {N : Nat} {a1 : Int32} {a2 : Int32} {a3 : Int32} {s : vSt} {r : Int32} {t1 : vSt} (h : fC_Paths_stepFrom N a1 a2 a3 s = some (r, t1)) (l : Launch) (ad : Nat → Nat) : vMI l shC ad yX3_stepFrom cX3_stepFrom 5 .int 2 46 s [.ref (ad 41), .int a1, .int a2, .int a3] r t1 :=
  vMI_of (by decide +kernel) (Nat.le_of_ble_eq_true rfl) (fun P hX hR => wC_Paths_stepFrom_0 hX hR h)
-- C_Paths_traceFrom
noncomputable def gC_Paths_traceFrom_35 (N : Nat)  : Nat → Int32 → Int32 → Int32 → Int32 → Int32 → vSt → Option (Int32 × vSt)
  | 0, _, _, _, _, _, _ => none
  | n + 1, a4, a5, a6, a7, a8, s =>
    if (s.1 9 7) ≤ a8 then
      (fC_Paths_measured N a5 s).bind fun p1 =>
      some (p1.1, p1.2)
    else
      if a4 = 0 then
        (fC_Paths_measured N a5 s).bind fun p2 =>
        some (p2.1, p2.2)
      else
        (fC_Paths_stepFrom N a6 a7 a4 s).bind fun p3 =>
        if p3.1 = (-1) then
          (fC_Paths_measured N a5 p3.2).bind fun p4 =>
          some (p4.1, p4.2)
        else
          (fC_Numbers_add_row N p3.1 p3.2).bind fun z5 =>
          (fC_Roads_otherAt N p3.1 a6 z5).bind fun p6 =>
          (fC_Roads_placeOf N p3.1 p6.1 p6.2).bind fun p7 =>
          (fC_Roads_readyAt N p7.1 p7.2).bind fun p8 =>
          (fC_Paths_weightOf N p3.1 p8.2).bind fun p9 =>
          (some (a4 - p9.1 : Int32)).bind fun v10 =>
          (some (a8 + 1 : Int32)).bind fun v11 =>
          gC_Paths_traceFrom_35 N n v10 a5 p6.1 p8.1 v11 p9.2
set_option maxRecDepth 4000 in
theorem wC_Paths_traceFrom_35 {P : vP} {l : Launch} {ad : Nat → Nat} {N : Nat} {r : Int32} {t1 : vSt} (hX : vOK P l shC ad (vR 3 70) cX3_traceFrom RX3 10) (hR : (∀ pc lv, narrow .int (.int r) = .int r → decode cX3_traceFrom pc = .ok (.ireturn, 1) → P t1 pc lv [.int r]))  : ∀ (n : Nat) (a4 : Int32) (a5 : Int32) (a6 : Int32) (a7 : Int32) (a8 : Int32) (s : vSt), gC_Paths_traceFrom_35 N n a4 a5 a6 a7 a8 s = some (r, t1) → P s 35 [(0, .ref (ad 41)), (3, .ref (ad 3)), (4, .int a4), (5, .int a5), (6, .int a6), (7, .int a7), (8, .int a8)] [] := by
  intro n
  induction n with
  | zero => intro a4 a5 a6 a7 a8 s h; cases h
  | succ n ih =>
    intro a4 a5 a6 a7 a8 s h
    unfold gC_Paths_traceFrom_35 at h
    refine v_iload hX dX3_traceFrom_35 6 rfl ?_
    refine v_aload_n hX dX3_traceFrom_37 rfl 0 rfl ?_
    refine gfC_41_3 hX kf_3_25 dX3_traceFrom_38 ?_
    refine gfC_9_7 hX kf_3_35 dX3_traceFrom_41 ?_
    refine v_icmp_ge (tgt := 129) hX dX3_traceFrom_44 (by decide) h (fun h => ?_) (fun h => ?_)
    · refine v_aload_n hX dX3_traceFrom_129 rfl 0 rfl ?_
      refine v_iload hX dX3_traceFrom_130 3 rfl ?_
      obtain ⟨p1, hp1, h⟩ := bsome h
      refine v_callVI (o := 41) hX (mC_Paths_measured hp1 l ad) kM_X3_measured kV_X3_measured km_3_116 (by decide) (fun _ => rfl) rfl rfl rfl (Nat.le_of_ble_eq_true rfl) (by decide) dX3_traceFrom_132 ?_
      exact v_retI hR h dX3_traceFrom_135
    · refine v_iload hX dX3_traceFrom_47 2 rfl ?_
      refine v_if_eq (tgt := 129) hX dX3_traceFrom_49 (by decide) h (fun h => ?_) (fun h => ?_)
      · refine v_aload_n hX dX3_traceFrom_129 rfl 0 rfl ?_
        refine v_iload hX dX3_traceFrom_130 3 rfl ?_
        obtain ⟨p2, hp2, h⟩ := bsome h
        refine v_callVI (o := 41) hX (mC_Paths_measured hp2 l ad) kM_X3_measured kV_X3_measured km_3_116 (by decide) (fun _ => rfl) rfl rfl rfl (Nat.le_of_ble_eq_true rfl) (by decide) dX3_traceFrom_132 ?_
        exact v_retI hR h dX3_traceFrom_135
      · refine v_aload_n hX dX3_traceFrom_52 rfl 0 rfl ?_
        refine v_iload hX dX3_traceFrom_53 4 rfl ?_
        refine v_iload hX dX3_traceFrom_55 5 rfl ?_
        refine v_iload hX dX3_traceFrom_57 2 rfl ?_
        obtain ⟨p3, hp3, h⟩ := bsome h
        refine v_callVI (o := 41) hX (mC_Paths_stepFrom hp3 l ad) kM_X3_stepFrom kV_X3_stepFrom km_3_109 (by decide) (fun _ => rfl) rfl rfl rfl (Nat.le_of_ble_eq_true rfl) (by decide) dX3_traceFrom_59 ?_
        refine v_istore (lv' := [(9, .int p3.1), (0, .ref (ad 41)), (3, .ref (ad 3)), (4, .int a4), (5, .int a5), (6, .int a6), (7, .int a7), (8, .int a8)]) hX dX3_traceFrom_62 (by decide) rfl ?_
        refine v_iload hX dX3_traceFrom_64 0 rfl ?_
        refine v_iconst (v := (-1)) hX dX3_traceFrom_66 (by decide) ?_
        refine v_icmp_ne (tgt := 73) hX dX3_traceFrom_67 (by decide) h (fun h => ?_) (fun h => ?_)
        · refine v_goto (tgt := 129) hX dX3_traceFrom_70 (by decide) ?_
          refine v_aload_n hX dX3_traceFrom_129 rfl 1 rfl ?_
          refine v_iload hX dX3_traceFrom_130 4 rfl ?_
          obtain ⟨p4, hp4, h⟩ := bsome h
          refine v_callVI (o := 41) hX (mC_Paths_measured hp4 l ad) kM_X3_measured kV_X3_measured km_3_116 (by decide) (fun _ => rfl) rfl rfl rfl (Nat.le_of_ble_eq_true rfl) (by decide) dX3_traceFrom_132 ?_
          exact v_retI hR h dX3_traceFrom_135
        · refine v_aload_n hX dX3_traceFrom_73 rfl 2 rfl ?_
          refine v_iload hX dX3_traceFrom_74 0 rfl ?_
          obtain ⟨z5, hz5, h⟩ := bsome h
          refine v_callVV (o := 3) hX (mC_Numbers_add_row hz5 l ad) kM_X2_add kV_X2_add km_3_112 (by decide) (fun _ => rfl) rfl rfl rfl (Nat.le_of_ble_eq_true rfl) (by decide) dX3_traceFrom_76 ?_
          refine v_aload_n hX dX3_traceFrom_79 rfl 1 rfl ?_
          refine gfC_41_3 hX kf_3_25 dX3_traceFrom_80 ?_
          refine v_iload hX dX3_traceFrom_83 0 rfl ?_
          refine v_iload hX dX3_traceFrom_85 5 rfl ?_
          obtain ⟨p6, hp6, h⟩ := bsome h
          refine v_callVI (o := 9) hX (mC_Roads_otherAt hp6 l ad) kM_X6_otherAt kV_X6_otherAt km_3_54 (by decide) (fun _ => rfl) rfl rfl rfl (Nat.le_of_ble_eq_true rfl) (by decide) dX3_traceFrom_87 ?_
          refine v_istore (lv' := [(6, .int p6.1), (9, .int p3.1), (0, .ref (ad 41)), (3, .ref (ad 3)), (4, .int a4), (5, .int a5), (7, .int a7), (8, .int a8)]) hX dX3_traceFrom_90 (by decide) rfl ?_
          refine v_aload_n hX dX3_traceFrom_92 rfl 2 rfl ?_
          refine gfC_41_3 hX kf_3_25 dX3_traceFrom_93 ?_
          refine v_aload_n hX dX3_traceFrom_96 rfl 2 rfl ?_
          refine gfC_41_3 hX kf_3_25 dX3_traceFrom_97 ?_
          refine v_iload hX dX3_traceFrom_100 1 rfl ?_
          refine v_iload hX dX3_traceFrom_102 0 rfl ?_
          obtain ⟨p7, hp7, h⟩ := bsome h
          refine v_callVI (o := 9) hX (mC_Roads_placeOf hp7 l ad) kM_X6_placeOf kV_X6_placeOf km_3_95 (by decide) (fun _ => rfl) rfl rfl rfl (Nat.le_of_ble_eq_true rfl) (by decide) dX3_traceFrom_104 ?_
          obtain ⟨p8, hp8, h⟩ := bsome h
          refine v_callVI (o := 9) hX (mC_Roads_readyAt hp8 l ad) kM_X6_readyAt kV_X6_readyAt km_3_77 (by decide) (fun _ => rfl) rfl rfl rfl (Nat.le_of_ble_eq_true rfl) (by decide) dX3_traceFrom_107 ?_
          refine v_istore (lv' := [(7, .int p8.1), (6, .int p6.1), (9, .int p3.1), (0, .ref (ad 41)), (3, .ref (ad 3)), (4, .int a4), (5, .int a5), (8, .int a8)]) hX dX3_traceFrom_110 (by decide) rfl ?_
          refine v_iload hX dX3_traceFrom_112 5 rfl ?_
          refine v_aload_n hX dX3_traceFrom_114 rfl 3 rfl ?_
          refine v_iload hX dX3_traceFrom_115 2 rfl ?_
          obtain ⟨p9, hp9, h⟩ := bsome h
          refine v_callVI (o := 41) hX (mC_Paths_weightOf hp9 l ad) kM_X3_weightOf kV_X3_weightOf km_3_98 (by decide) (fun _ => rfl) rfl rfl rfl (Nat.le_of_ble_eq_true rfl) (by decide) dX3_traceFrom_117 ?_
          refine v_isub hX dX3_traceFrom_120 ?_
          refine v_nmI hX h (fun v10 h => ?_)
          refine v_istore (lv' := [(4, .int v10), (7, .int p8.1), (6, .int p6.1), (9, .int p3.1), (0, .ref (ad 41)), (3, .ref (ad 3)), (5, .int a5), (8, .int a8)]) hX dX3_traceFrom_121 (by decide) rfl ?_
          refine v_iincN hX dX3_traceFrom_123 (j := 7) rfl (c := 1) (by decide) (by decide) h (fun v11 h => ?_)
          refine v_show (lv' := [(8, .int v11), (4, .int v10), (7, .int p8.1), (6, .int p6.1), (9, .int p3.1), (0, .ref (ad 41)), (3, .ref (ad 3)), (5, .int a5)]) hX rfl ?_
          refine v_goto (tgt := 35) hX dX3_traceFrom_126 (by decide) ?_
          exact v_sub hX [5, 6, 1, 7, 3, 2, 0] (by rfl) (ih _ _ _ _ _ _ h)
noncomputable def gC_Paths_traceFrom_0 (N : Nat)  (a1 : Int32) (a2 : Int32) (s : vSt) : Option (Int32 × vSt) :=
  (fC_Paths_leastFrom N a1 a2 s).bind fun p1 =>
  if p1.1 = 1048576 then
    some ((-2), p1.2)
  else
    (fC_Numbers_clear_row N p1.2).bind fun z2 =>
    gC_Paths_traceFrom_35 N N p1.1 p1.1 a1 a2 0 z2
set_option maxRecDepth 4000 in
theorem wC_Paths_traceFrom_0 {P : vP} {l : Launch} {ad : Nat → Nat} {N : Nat} {r : Int32} {t1 : vSt} (hX : vOK P l shC ad (vR 3 70) cX3_traceFrom RX3 10) (hR : (∀ pc lv, narrow .int (.int r) = .int r → decode cX3_traceFrom pc = .ok (.ireturn, 1) → P t1 pc lv [.int r]))  {a1 : Int32} {a2 : Int32} {s : vSt} (h : gC_Paths_traceFrom_0 N a1 a2 s = some (r, t1)) : P s 0 [(0, .ref (ad 41)), (1, .int a1), (2, .int a2), (3, .ref (ad 3))] [] := by
  unfold gC_Paths_traceFrom_0 at h
  refine v_aload_n hX dX3_traceFrom_0 rfl 0 rfl ?_
  refine v_iload_n hX dX3_traceFrom_1 rfl 1 rfl ?_
  refine v_iload_n hX dX3_traceFrom_2 rfl 2 rfl ?_
  obtain ⟨p1, hp1, h⟩ := bsome h
  refine v_callVI (o := 41) hX (mC_Paths_leastFrom hp1 l ad) kM_X3_leastFrom kV_X3_leastFrom km_3_80 (by decide) (fun _ => rfl) rfl rfl rfl (Nat.le_of_ble_eq_true rfl) (by decide) dX3_traceFrom_3 ?_
  refine v_istore (lv' := [(4, .int p1.1), (0, .ref (ad 41)), (1, .int a1), (2, .int a2), (3, .ref (ad 3))]) hX dX3_traceFrom_6 (by decide) rfl ?_
  refine v_iload hX dX3_traceFrom_8 0 rfl ?_
  refine v_ldc hX kc_3_76 dX3_traceFrom_10 ?_
  refine v_icmp_ne (tgt := 18) hX dX3_traceFrom_12 (by decide) h (fun h => ?_) (fun h => ?_)
  · refine v_bipush (v := (-2)) hX dX3_traceFrom_15 (by decide) ?_
    exact v_retI hR h dX3_traceFrom_17
  · refine v_iload hX dX3_traceFrom_18 0 rfl ?_
    refine v_istore (lv' := [(5, .int p1.1), (4, .int p1.1), (0, .ref (ad 41)), (1, .int a1), (2, .int a2), (3, .ref (ad 3))]) hX dX3_traceFrom_20 (by decide) rfl ?_
    refine v_iload_n hX dX3_traceFrom_22 rfl 3 rfl ?_
    refine v_istore (lv' := [(6, .int a1), (5, .int p1.1), (4, .int p1.1), (0, .ref (ad 41)), (1, .int a1), (2, .int a2), (3, .ref (ad 3))]) hX dX3_traceFrom_23 (by decide) rfl ?_
    refine v_iload_n hX dX3_traceFrom_25 rfl 5 rfl ?_
    refine v_istore (lv' := [(7, .int a2), (6, .int a1), (5, .int p1.1), (4, .int p1.1), (0, .ref (ad 41)), (1, .int a1), (2, .int a2), (3, .ref (ad 3))]) hX dX3_traceFrom_26 (by decide) rfl ?_
    refine v_aload_n hX dX3_traceFrom_28 rfl 7 rfl ?_
    obtain ⟨z2, hz2, h⟩ := bsome h
    refine v_callVV (o := 3) hX (mC_Numbers_clear_row hz2 l ad) kM_X2_clear kV_X2_clear km_3_104 (by decide) (fun _ => rfl) rfl rfl rfl (Nat.le_of_ble_eq_true rfl) (by decide) dX3_traceFrom_29 ?_
    refine v_iconst (v := 0) hX dX3_traceFrom_32 (by decide) ?_
    refine v_istore (lv' := [(8, .int 0), (7, .int a2), (6, .int a1), (5, .int p1.1), (4, .int p1.1), (0, .ref (ad 41)), (1, .int a1), (2, .int a2), (3, .ref (ad 3))]) hX dX3_traceFrom_33 (by decide) rfl ?_
    exact v_sub hX [5, 8, 4, 3, 2, 1, 0] (by rfl) (wC_Paths_traceFrom_35 hX hR  N _ _ _ _ _ _ h)
noncomputable def fC_Paths_traceFrom (N : Nat) (a1 : Int32) (a2 : Int32) (s : vSt) : Option (Int32 × vSt) := gC_Paths_traceFrom_0 N a1 a2 s
theorem mC_Paths_traceFrom {N : Nat} {a1 : Int32} {a2 : Int32} {s : vSt} {r : Int32} {t1 : vSt} (h : fC_Paths_traceFrom N a1 a2 s = some (r, t1)) (l : Launch) (ad : Nat → Nat) : vMI l shC ad yX3_traceFrom cX3_traceFrom 10 .int 3 70 s [.ref (ad 41), .int a1, .int a2, .ref (ad 3)] r t1 :=
  vMI_of (by decide +kernel) (Nat.le_of_ble_eq_true rfl) (fun P hX hR => wC_Paths_traceFrom_0 hX hR h)
-- C_EachAddsALine_soonestPast
noncomputable def gC_EachAddsALine_soonestPast_0 (N : Nat)  (a1 : Int32) (a2 : Int32) (a3 : Int32) (a4 : Int32) (s : vSt) : Option (Int32 × vSt) :=
  (fC_Paths_spread N a1 a3 a4 (-1) s).bind fun z1 =>
  (ld z1 42 9 a2).bind fun v2 =>
  if v2 = (-1) then
    some ((-2), z1)
  else
    (fC_Paths_aim N a2 v2 a4 0 z1).bind fun z3 =>
    (fC_Paths_traceFrom N a1 a3 z3).bind fun p4 =>
    some (v2, p4.2)
set_option maxRecDepth 4000 in
theorem wC_EachAddsALine_soonestPast_0 {P : vP} {l : Launch} {ad : Nat → Nat} {N : Nat} {r : Int32} {t1 : vSt} (hX : vOK P l shC ad (vR 5 123) cX11_soonestPast RX11 6) (hR : (∀ pc lv, narrow .int (.int r) = .int r → decode cX11_soonestPast pc = .ok (.ireturn, 1) → P t1 pc lv [.int r]))  {a1 : Int32} {a2 : Int32} {a3 : Int32} {a4 : Int32} {s : vSt} (h : gC_EachAddsALine_soonestPast_0 N a1 a2 a3 a4 s = some (r, t1)) : P s 0 [(0, .ref (ad 0)), (1, .int a1), (2, .int a2), (3, .int a3), (4, .int a4)] [] := by
  unfold gC_EachAddsALine_soonestPast_0 at h
  refine v_aload_n hX dX11_soonestPast_0 rfl 0 rfl ?_
  refine gfC_0_7 hX kf_11_69 dX11_soonestPast_1 ?_
  refine v_iload_n hX dX11_soonestPast_4 rfl 1 rfl ?_
  refine v_iload_n hX dX11_soonestPast_5 rfl 3 rfl ?_
  refine v_iload hX dX11_soonestPast_6 4 rfl ?_
  refine v_iconst (v := (-1)) hX dX11_soonestPast_8 (by decide) ?_
  obtain ⟨z1, hz1, h⟩ := bsome h
  refine v_callVV (o := 41) hX (mC_Paths_spread hz1 l ad) kM_X3_spread kV_X3_spread km_11_244 (by decide) (fun _ => rfl) rfl rfl rfl (Nat.le_of_ble_eq_true rfl) (by decide) dX11_soonestPast_9 ?_
  refine v_aload_n hX dX11_soonestPast_12 rfl 0 rfl ?_
  refine gfC_0_7 hX kf_11_69 dX11_soonestPast_13 ?_
  refine gfC_41_0 hX kf_11_250 dX11_soonestPast_16 ?_
  refine v_iload_n hX dX11_soonestPast_19 rfl 2 rfl ?_
  refine alC_42 hX dX11_soonestPast_20 h (fun v2 h => ?_)
  refine v_istore (lv' := [(5, .int v2), (0, .ref (ad 0)), (1, .int a1), (2, .int a2), (3, .int a3), (4, .int a4)]) hX dX11_soonestPast_21 (by decide) rfl ?_
  refine v_iload hX dX11_soonestPast_23 0 rfl ?_
  refine v_iconst (v := (-1)) hX dX11_soonestPast_25 (by decide) ?_
  refine v_icmp_ne (tgt := 32) hX dX11_soonestPast_26 (by decide) h (fun h => ?_) (fun h => ?_)
  · refine v_bipush (v := (-2)) hX dX11_soonestPast_29 (by decide) ?_
    exact v_retI hR h dX11_soonestPast_31
  · refine v_aload_n hX dX11_soonestPast_32 rfl 1 rfl ?_
    refine gfC_0_7 hX kf_11_69 dX11_soonestPast_33 ?_
    refine v_iload_n hX dX11_soonestPast_36 rfl 3 rfl ?_
    refine v_iload hX dX11_soonestPast_37 0 rfl ?_
    refine v_iload hX dX11_soonestPast_39 5 rfl ?_
    refine v_iconst (v := 0) hX dX11_soonestPast_41 (by decide) ?_
    obtain ⟨z3, hz3, h⟩ := bsome h
    refine v_callVV (o := 41) hX (mC_Paths_aim hz3 l ad) kM_X3_aim kV_X3_aim km_11_212 (by decide) (fun _ => rfl) rfl rfl rfl (Nat.le_of_ble_eq_true rfl) (by decide) dX11_soonestPast_42 ?_
    refine v_aload_n hX dX11_soonestPast_45 rfl 1 rfl ?_
    refine gfC_0_7 hX kf_11_69 dX11_soonestPast_46 ?_
    refine v_iload_n hX dX11_soonestPast_49 rfl 2 rfl ?_
    refine v_iload_n hX dX11_soonestPast_50 rfl 4 rfl ?_
    refine v_aload_n hX dX11_soonestPast_51 rfl 1 rfl ?_
    refine gfC_0_1 hX kf_11_19 dX11_soonestPast_52 ?_
    obtain ⟨p4, hp4, h⟩ := bsome h
    refine v_callVI (o := 41) hX (mC_Paths_traceFrom hp4 l ad) kM_X3_traceFrom kV_X3_traceFrom km_11_215 (by decide) (fun _ => rfl) rfl rfl rfl (Nat.le_of_ble_eq_true rfl) (by decide) dX11_soonestPast_55 ?_
    refine v_pop hX dX11_soonestPast_58 rfl ?_
    refine v_iload hX dX11_soonestPast_59 0 rfl ?_
    exact v_retI hR h dX11_soonestPast_61
noncomputable def fC_EachAddsALine_soonestPast (N : Nat) (a1 : Int32) (a2 : Int32) (a3 : Int32) (a4 : Int32) (s : vSt) : Option (Int32 × vSt) := gC_EachAddsALine_soonestPast_0 N a1 a2 a3 a4 s
theorem mC_EachAddsALine_soonestPast {N : Nat} {a1 : Int32} {a2 : Int32} {a3 : Int32} {a4 : Int32} {s : vSt} {r : Int32} {t1 : vSt} (h : fC_EachAddsALine_soonestPast N a1 a2 a3 a4 s = some (r, t1)) (l : Launch) (ad : Nat → Nat) : vMI l shC ad yX11_soonestPast cX11_soonestPast 6 .int 5 123 s [.ref (ad 0), .int a1, .int a2, .int a3, .int a4] r t1 :=
  vMI_of (by decide +kernel) (Nat.le_of_ble_eq_true rfl) (fun P hX hR => wC_EachAddsALine_soonestPast_0 hX hR h)
-- C_EachAddsALine_soonest
noncomputable def gC_EachAddsALine_soonest_0 (N : Nat)  (a1 : Int32) (a2 : Int32) (a3 : Int32) (s : vSt) : Option (Int32 × vSt) :=
  (fC_EachAddsALine_isTrip N a1 a2 a3 s).bind fun p1 =>
  if p1.1 = 0 then
    some ((-1), p1.2)
  else
    (fC_EachAddsALine_soonestPast N a1 a2 a3 0 p1.2).bind fun p2 =>
    some (p2.1, p2.2)
set_option maxRecDepth 4000 in
theorem wC_EachAddsALine_soonest_0 {P : vP} {l : Launch} {ad : Nat → Nat} {N : Nat} {r : Int32} {t1 : vSt} (hX : vOK P l shC ad (vR 6 148) cX11_soonest RX11 4) (hR : (∀ pc lv, narrow .int (.int r) = .int r → decode cX11_soonest pc = .ok (.ireturn, 1) → P t1 pc lv [.int r]))  {a1 : Int32} {a2 : Int32} {a3 : Int32} {s : vSt} (h : gC_EachAddsALine_soonest_0 N a1 a2 a3 s = some (r, t1)) : P s 0 [(0, .ref (ad 0)), (1, .int a1), (2, .int a2), (3, .int a3)] [] := by
  unfold gC_EachAddsALine_soonest_0 at h
  refine v_aload_n hX dX11_soonest_0 rfl 0 rfl ?_
  refine v_iload_n hX dX11_soonest_1 rfl 1 rfl ?_
  refine v_iload_n hX dX11_soonest_2 rfl 2 rfl ?_
  refine v_iload_n hX dX11_soonest_3 rfl 3 rfl ?_
  obtain ⟨p1, hp1, h⟩ := bsome h
  refine v_callVI (o := 0) hX (mC_EachAddsALine_isTrip hp1 l ad) kM_X11_isTrip kV_X11_isTrip km_11_201 (by decide) (fun _ => rfl) rfl rfl rfl (Nat.le_of_ble_eq_true rfl) (by decide) dX11_soonest_4 ?_
  refine v_if_eq (tgt := 21) hX dX11_soonest_7 (by decide) h (fun h => ?_) (fun h => ?_)
  · refine v_iconst (v := (-1)) hX dX11_soonest_21 (by decide) ?_
    exact v_retI hR h dX11_soonest_22
  · refine v_aload_n hX dX11_soonest_10 rfl 0 rfl ?_
    refine v_iload_n hX dX11_soonest_11 rfl 1 rfl ?_
    refine v_iload_n hX dX11_soonest_12 rfl 2 rfl ?_
    refine v_iload_n hX dX11_soonest_13 rfl 3 rfl ?_
    refine v_iconst (v := 0) hX dX11_soonest_14 (by decide) ?_
    obtain ⟨p2, hp2, h⟩ := bsome h
    refine v_callVI (o := 0) hX (mC_EachAddsALine_soonestPast hp2 l ad) kM_X11_soonestPast kV_X11_soonestPast km_11_205 (by decide) (fun _ => rfl) rfl rfl rfl (Nat.le_of_ble_eq_true rfl) (by decide) dX11_soonest_15 ?_
    refine v_goto (tgt := 22) hX dX11_soonest_18 (by decide) ?_
    exact v_retI hR h dX11_soonest_22
noncomputable def fC_EachAddsALine_soonest (N : Nat) (a1 : Int32) (a2 : Int32) (a3 : Int32) (s : vSt) : Option (Int32 × vSt) := gC_EachAddsALine_soonest_0 N a1 a2 a3 s
theorem mC_EachAddsALine_soonest {N : Nat} {a1 : Int32} {a2 : Int32} {a3 : Int32} {s : vSt} {r : Int32} {t1 : vSt} (h : fC_EachAddsALine_soonest N a1 a2 a3 s = some (r, t1)) (l : Launch) (ad : Nat → Nat) : vMI l shC ad yX11_soonest cX11_soonest 4 .int 6 148 s [.ref (ad 0), .int a1, .int a2, .int a3] r t1 :=
  vMI_of (by decide +kernel) (Nat.le_of_ble_eq_true rfl) (fun P hX hR => wC_EachAddsALine_soonest_0 hX hR h)
-- C_Paths_latestStart
noncomputable def gC_Paths_latestStart_57 (N : Nat) (r15 : Int32 → Int32 → Int32 → vSt → Option (Int32 × vSt)) (a1 : Int32) (a4 : Int32) (a5 : Int32) (s : vSt) : Option (Int32 × vSt) :=
  (some (a5 + 1 : Int32)).bind fun v1 =>
  r15 a1 a4 v1 s
set_option maxRecDepth 4000 in
theorem wC_Paths_latestStart_57 {P : vP} {l : Launch} {ad : Nat → Nat} {N : Nat} {r15 : Int32 → Int32 → Int32 → vSt → Option (Int32 × vSt)} {r : Int32} {t1 : vSt} (hX : vOK P l shC ad (vR 5 123) cX3_latestStart RX3 6) (hR : (∀ pc lv, narrow .int (.int r) = .int r → decode cX3_latestStart pc = .ok (.ireturn, 1) → P t1 pc lv [.int r])) (H15 : ∀ (a1 : Int32) (a4 : Int32) (a5 : Int32) (s : vSt), r15 a1 a4 a5 s = some (r, t1) → P s 15 [(0, .ref (ad 41)), (1, .int a1), (4, .int a4), (5, .int a5)] []) {a1 : Int32} {a4 : Int32} {a5 : Int32} {s : vSt} (h : gC_Paths_latestStart_57 N r15 a1 a4 a5 s = some (r, t1)) : P s 57 [(0, .ref (ad 41)), (1, .int a1), (4, .int a4), (5, .int a5)] [] := by
  unfold gC_Paths_latestStart_57 at h
  refine v_iincN hX dX3_latestStart_57 (j := 3) rfl (c := 1) (by decide) (by decide) h (fun v1 h => ?_)
  refine v_show (lv' := [(5, .int v1), (0, .ref (ad 41)), (1, .int a1), (4, .int a4)]) hX rfl ?_
  refine v_goto (tgt := 15) hX dX3_latestStart_60 (by decide) ?_
  exact v_sub hX [1, 2, 3, 0] (by rfl) (H15 _ _ _ _ h)
noncomputable def gC_Paths_latestStart_15 (N : Nat)  : Nat → Int32 → Int32 → Int32 → vSt → Option (Int32 × vSt)
  | 0, _, _, _, _ => none
  | n + 1, a1, a4, a5, s =>
    if (s.1 9 7) ≤ a5 then
      some (a4, s)
    else
      (fC_Paths_weightBy N a5 a1 0 s).bind fun p1 =>
      if p1.1 = 1048576 then
        gC_Paths_latestStart_57 N (gC_Paths_latestStart_15 N n) a1 a4 a5 p1.2
      else
        (ld p1.2 13 20 a5).bind fun v2 =>
        (some (if a4 < v2 then v2 else a4 : Int32)).bind fun v3 =>
        gC_Paths_latestStart_57 N (gC_Paths_latestStart_15 N n) a1 v3 a5 p1.2
set_option maxRecDepth 4000 in
theorem wC_Paths_latestStart_15 {P : vP} {l : Launch} {ad : Nat → Nat} {N : Nat} {r : Int32} {t1 : vSt} (hX : vOK P l shC ad (vR 5 123) cX3_latestStart RX3 6) (hR : (∀ pc lv, narrow .int (.int r) = .int r → decode cX3_latestStart pc = .ok (.ireturn, 1) → P t1 pc lv [.int r]))  : ∀ (n : Nat) (a1 : Int32) (a4 : Int32) (a5 : Int32) (s : vSt), gC_Paths_latestStart_15 N n a1 a4 a5 s = some (r, t1) → P s 15 [(0, .ref (ad 41)), (1, .int a1), (4, .int a4), (5, .int a5)] [] := by
  intro n
  induction n with
  | zero => intro a1 a4 a5 s h; cases h
  | succ n ih =>
    intro a1 a4 a5 s h
    unfold gC_Paths_latestStart_15 at h
    refine v_iload hX dX3_latestStart_15 3 rfl ?_
    refine v_aload_n hX dX3_latestStart_17 rfl 0 rfl ?_
    refine gfC_41_3 hX kf_3_25 dX3_latestStart_18 ?_
    refine gfC_9_7 hX kf_3_35 dX3_latestStart_21 ?_
    refine v_icmp_ge (tgt := 63) hX dX3_latestStart_24 (by decide) h (fun h => ?_) (fun h => ?_)
    · refine v_iload hX dX3_latestStart_63 2 rfl ?_
      exact v_retI hR h dX3_latestStart_65
    · refine v_aload_n hX dX3_latestStart_27 rfl 0 rfl ?_
      refine v_iload hX dX3_latestStart_28 3 rfl ?_
      refine v_iload_n hX dX3_latestStart_30 rfl 1 rfl ?_
      refine v_iconst (v := 0) hX dX3_latestStart_31 (by decide) ?_
      obtain ⟨p1, hp1, h⟩ := bsome h
      refine v_callVI (o := 41) hX (mC_Paths_weightBy hp1 l ad) kM_X3_weightBy kV_X3_weightBy km_3_88 (by decide) (fun _ => rfl) rfl rfl rfl (Nat.le_of_ble_eq_true rfl) (by decide) dX3_latestStart_32 ?_
      refine v_ldc hX kc_3_76 dX3_latestStart_35 ?_
      refine v_icmp_eq (tgt := 57) hX dX3_latestStart_37 (by decide) h (fun h => ?_) (fun h => ?_)
      · exact v_sub hX [0, 1, 2, 3] (by rfl) (wC_Paths_latestStart_57 hX hR ih h)
      · refine v_iload hX dX3_latestStart_40 2 rfl ?_
        refine v_aload_n hX dX3_latestStart_42 rfl 0 rfl ?_
        refine gfC_41_3 hX kf_3_25 dX3_latestStart_43 ?_
        refine gfC_9_3 hX kf_3_41 dX3_latestStart_46 ?_
        refine v_iload hX dX3_latestStart_49 3 rfl ?_
        refine alC_13 hX dX3_latestStart_51 h (fun v2 h => ?_)
        refine v_max hX km_3_122 kS_J9_max_7cf53 kI_Math kC_max (Nat.le_of_ble_eq_true rfl) (Nat.le_of_ble_eq_true rfl) dX3_latestStart_52 ?_
        refine v_nmI hX h (fun v3 h => ?_)
        refine v_istore (lv' := [(4, .int v3), (0, .ref (ad 41)), (1, .int a1), (5, .int a5)]) hX dX3_latestStart_55 (by decide) rfl ?_
        exact v_sub hX [1, 2, 0, 3] (by rfl) (wC_Paths_latestStart_57 hX hR ih h)
noncomputable def gC_Paths_latestStart_0 (N : Nat)  (a1 : Int32) (a2 : Int32) (a3 : Int32) (s : vSt) : Option (Int32 × vSt) :=
  (fC_Paths_aim N a2 a3 0 0 s).bind fun z1 =>
  (some ((-2) : Int32)).bind fun v2 =>
  gC_Paths_latestStart_15 N N a1 v2 0 z1
set_option maxRecDepth 4000 in
theorem wC_Paths_latestStart_0 {P : vP} {l : Launch} {ad : Nat → Nat} {N : Nat} {r : Int32} {t1 : vSt} (hX : vOK P l shC ad (vR 5 123) cX3_latestStart RX3 6) (hR : (∀ pc lv, narrow .int (.int r) = .int r → decode cX3_latestStart pc = .ok (.ireturn, 1) → P t1 pc lv [.int r]))  {a1 : Int32} {a2 : Int32} {a3 : Int32} {s : vSt} (h : gC_Paths_latestStart_0 N a1 a2 a3 s = some (r, t1)) : P s 0 [(0, .ref (ad 41)), (1, .int a1), (2, .int a2), (3, .int a3)] [] := by
  unfold gC_Paths_latestStart_0 at h
  refine v_aload_n hX dX3_latestStart_0 rfl 0 rfl ?_
  refine v_iload_n hX dX3_latestStart_1 rfl 2 rfl ?_
  refine v_iload_n hX dX3_latestStart_2 rfl 3 rfl ?_
  refine v_iconst (v := 0) hX dX3_latestStart_3 (by decide) ?_
  refine v_iconst (v := 0) hX dX3_latestStart_4 (by decide) ?_
  obtain ⟨z1, hz1, h⟩ := bsome h
  refine v_callVV (o := 41) hX (mC_Paths_aim hz1 l ad) kM_X3_aim kV_X3_aim km_3_119 (by decide) (fun _ => rfl) rfl rfl rfl (Nat.le_of_ble_eq_true rfl) (by decide) dX3_latestStart_5 ?_
  refine v_bipush (v := (-2)) hX dX3_latestStart_8 (by decide) ?_
  refine v_nmI hX h (fun v2 h => ?_)
  refine v_istore (lv' := [(4, .int v2), (0, .ref (ad 41)), (1, .int a1), (2, .int a2), (3, .int a3)]) hX dX3_latestStart_10 (by decide) rfl ?_
  refine v_iconst (v := 0) hX dX3_latestStart_12 (by decide) ?_
  refine v_istore (lv' := [(5, .int 0), (4, .int v2), (0, .ref (ad 41)), (1, .int a1), (2, .int a2), (3, .int a3)]) hX dX3_latestStart_13 (by decide) rfl ?_
  exact v_sub hX [2, 3, 1, 0] (by rfl) (wC_Paths_latestStart_15 hX hR  N _ _ _ _ h)
noncomputable def fC_Paths_latestStart (N : Nat) (a1 : Int32) (a2 : Int32) (a3 : Int32) (s : vSt) : Option (Int32 × vSt) := gC_Paths_latestStart_0 N a1 a2 a3 s
theorem mC_Paths_latestStart {N : Nat} {a1 : Int32} {a2 : Int32} {a3 : Int32} {s : vSt} {r : Int32} {t1 : vSt} (h : fC_Paths_latestStart N a1 a2 a3 s = some (r, t1)) (l : Launch) (ad : Nat → Nat) : vMI l shC ad yX3_latestStart cX3_latestStart 6 .int 5 123 s [.ref (ad 41), .int a1, .int a2, .int a3] r t1 :=
  vMI_of (by decide +kernel) (Nat.le_of_ble_eq_true rfl) (fun P hX hR => wC_Paths_latestStart_0 hX hR h)
-- C_EachAddsALine_latest
noncomputable def gC_EachAddsALine_latest_0 (N : Nat)  (a1 : Int32) (a2 : Int32) (a3 : Int32) (s : vSt) : Option (Int32 × vSt) :=
  (fC_EachAddsALine_isTrip N a1 a2 a3 s).bind fun p1 =>
  if p1.1 = 0 then
    some ((-1), p1.2)
  else
    (fC_Paths_latestStart N a1 a2 a3 p1.2).bind fun p2 =>
    some (p2.1, p2.2)
set_option maxRecDepth 4000 in
theorem wC_EachAddsALine_latest_0 {P : vP} {l : Launch} {ad : Nat → Nat} {N : Nat} {r : Int32} {t1 : vSt} (hX : vOK P l shC ad (vR 6 148) cX11_latest RX11 4) (hR : (∀ pc lv, narrow .int (.int r) = .int r → decode cX11_latest pc = .ok (.ireturn, 1) → P t1 pc lv [.int r]))  {a1 : Int32} {a2 : Int32} {a3 : Int32} {s : vSt} (h : gC_EachAddsALine_latest_0 N a1 a2 a3 s = some (r, t1)) : P s 0 [(0, .ref (ad 0)), (1, .int a1), (2, .int a2), (3, .int a3)] [] := by
  unfold gC_EachAddsALine_latest_0 at h
  refine v_aload_n hX dX11_latest_0 rfl 0 rfl ?_
  refine v_iload_n hX dX11_latest_1 rfl 1 rfl ?_
  refine v_iload_n hX dX11_latest_2 rfl 2 rfl ?_
  refine v_iload_n hX dX11_latest_3 rfl 3 rfl ?_
  obtain ⟨p1, hp1, h⟩ := bsome h
  refine v_callVI (o := 0) hX (mC_EachAddsALine_isTrip hp1 l ad) kM_X11_isTrip kV_X11_isTrip km_11_201 (by decide) (fun _ => rfl) rfl rfl rfl (Nat.le_of_ble_eq_true rfl) (by decide) dX11_latest_4 ?_
  refine v_if_eq (tgt := 23) hX dX11_latest_7 (by decide) h (fun h => ?_) (fun h => ?_)
  · refine v_iconst (v := (-1)) hX dX11_latest_23 (by decide) ?_
    exact v_retI hR h dX11_latest_24
  · refine v_aload_n hX dX11_latest_10 rfl 0 rfl ?_
    refine gfC_0_7 hX kf_11_69 dX11_latest_11 ?_
    refine v_iload_n hX dX11_latest_14 rfl 1 rfl ?_
    refine v_iload_n hX dX11_latest_15 rfl 2 rfl ?_
    refine v_iload_n hX dX11_latest_16 rfl 3 rfl ?_
    obtain ⟨p2, hp2, h⟩ := bsome h
    refine v_callVI (o := 41) hX (mC_Paths_latestStart hp2 l ad) kM_X3_latestStart kV_X3_latestStart km_11_208 (by decide) (fun _ => rfl) rfl rfl rfl (Nat.le_of_ble_eq_true rfl) (by decide) dX11_latest_17 ?_
    refine v_goto (tgt := 24) hX dX11_latest_20 (by decide) ?_
    exact v_retI hR h dX11_latest_24
noncomputable def fC_EachAddsALine_latest (N : Nat) (a1 : Int32) (a2 : Int32) (a3 : Int32) (s : vSt) : Option (Int32 × vSt) := gC_EachAddsALine_latest_0 N a1 a2 a3 s
theorem mC_EachAddsALine_latest {N : Nat} {a1 : Int32} {a2 : Int32} {a3 : Int32} {s : vSt} {r : Int32} {t1 : vSt} (h : fC_EachAddsALine_latest N a1 a2 a3 s = some (r, t1)) (l : Launch) (ad : Nat → Nat) : vMI l shC ad yX11_latest cX11_latest 4 .int 6 148 s [.ref (ad 0), .int a1, .int a2, .int a3] r t1 :=
  vMI_of (by decide +kernel) (Nat.le_of_ble_eq_true rfl) (fun P hX hR => wC_EachAddsALine_latest_0 hX hR h)
-- C_EachAddsALine_hands
noncomputable def gC_EachAddsALine_hands_0 (N : Nat)  (a1 : Int32) (a2 : Int32) (a3 : Int32) (s : vSt) : Option (Int32 × vSt) :=
  (fC_EachAddsALine_isTrip N a1 a2 a3 s).bind fun p1 =>
  if p1.1 = 0 then
    some ((-1), p1.2)
  else
    (fC_Paths_aim N a2 99 0 0 p1.2).bind fun z2 =>
    (fC_Paths_traceFrom N a1 a3 z2).bind fun p3 =>
    some (p3.1, p3.2)
set_option maxRecDepth 4000 in
theorem wC_EachAddsALine_hands_0 {P : vP} {l : Launch} {ad : Nat → Nat} {N : Nat} {r : Int32} {t1 : vSt} (hX : vOK P l shC ad (vR 5 123) cX11_hands RX11 4) (hR : (∀ pc lv, narrow .int (.int r) = .int r → decode cX11_hands pc = .ok (.ireturn, 1) → P t1 pc lv [.int r]))  {a1 : Int32} {a2 : Int32} {a3 : Int32} {s : vSt} (h : gC_EachAddsALine_hands_0 N a1 a2 a3 s = some (r, t1)) : P s 0 [(0, .ref (ad 0)), (1, .int a1), (2, .int a2), (3, .int a3)] [] := by
  unfold gC_EachAddsALine_hands_0 at h
  refine v_aload_n hX dX11_hands_0 rfl 0 rfl ?_
  refine v_iload_n hX dX11_hands_1 rfl 1 rfl ?_
  refine v_iload_n hX dX11_hands_2 rfl 2 rfl ?_
  refine v_iload_n hX dX11_hands_3 rfl 3 rfl ?_
  obtain ⟨p1, hp1, h⟩ := bsome h
  refine v_callVI (o := 0) hX (mC_EachAddsALine_isTrip hp1 l ad) kM_X11_isTrip kV_X11_isTrip km_11_201 (by decide) (fun _ => rfl) rfl rfl rfl (Nat.le_of_ble_eq_true rfl) (by decide) dX11_hands_4 ?_
  refine v_if_ne (tgt := 12) hX dX11_hands_7 (by decide) h (fun h => ?_) (fun h => ?_)
  · refine v_iconst (v := (-1)) hX dX11_hands_10 (by decide) ?_
    exact v_retI hR h dX11_hands_11
  · refine v_aload_n hX dX11_hands_12 rfl 0 rfl ?_
    refine gfC_0_7 hX kf_11_69 dX11_hands_13 ?_
    refine v_iload_n hX dX11_hands_16 rfl 2 rfl ?_
    refine v_bipush (v := 99) hX dX11_hands_17 (by decide) ?_
    refine v_iconst (v := 0) hX dX11_hands_19 (by decide) ?_
    refine v_iconst (v := 0) hX dX11_hands_20 (by decide) ?_
    obtain ⟨z2, hz2, h⟩ := bsome h
    refine v_callVV (o := 41) hX (mC_Paths_aim hz2 l ad) kM_X3_aim kV_X3_aim km_11_212 (by decide) (fun _ => rfl) rfl rfl rfl (Nat.le_of_ble_eq_true rfl) (by decide) dX11_hands_21 ?_
    refine v_aload_n hX dX11_hands_24 rfl 0 rfl ?_
    refine gfC_0_7 hX kf_11_69 dX11_hands_25 ?_
    refine v_iload_n hX dX11_hands_28 rfl 1 rfl ?_
    refine v_iload_n hX dX11_hands_29 rfl 3 rfl ?_
    refine v_aload_n hX dX11_hands_30 rfl 0 rfl ?_
    refine gfC_0_1 hX kf_11_19 dX11_hands_31 ?_
    obtain ⟨p3, hp3, h⟩ := bsome h
    refine v_callVI (o := 41) hX (mC_Paths_traceFrom hp3 l ad) kM_X3_traceFrom kV_X3_traceFrom km_11_215 (by decide) (fun _ => rfl) rfl rfl rfl (Nat.le_of_ble_eq_true rfl) (by decide) dX11_hands_34 ?_
    exact v_retI hR h dX11_hands_37
noncomputable def fC_EachAddsALine_hands (N : Nat) (a1 : Int32) (a2 : Int32) (a3 : Int32) (s : vSt) : Option (Int32 × vSt) := gC_EachAddsALine_hands_0 N a1 a2 a3 s
theorem mC_EachAddsALine_hands {N : Nat} {a1 : Int32} {a2 : Int32} {a3 : Int32} {s : vSt} {r : Int32} {t1 : vSt} (h : fC_EachAddsALine_hands N a1 a2 a3 s = some (r, t1)) (l : Launch) (ad : Nat → Nat) : vMI l shC ad yX11_hands cX11_hands 4 .int 5 123 s [.ref (ad 0), .int a1, .int a2, .int a3] r t1 :=
  vMI_of (by decide +kernel) (Nat.le_of_ble_eq_true rfl) (fun P hX hR => wC_EachAddsALine_hands_0 hX hR h)
-- C_EachAddsALine_bargain
noncomputable def gC_EachAddsALine_bargain_0 (N : Nat)  (a1 : Int32) (a2 : Int32) (a3 : Int32) (a4 : Int32) (s : vSt) : Option (Int32 × vSt) :=
  (fC_EachAddsALine_isTrip N a1 a2 a3 s).bind fun p1 =>
  if p1.1 = 0 then
    some ((-1), p1.2)
  else
    (fC_EachAddsALine_isHour N a4 p1.2).bind fun p2 =>
    if p2.1 = 0 then
      some ((-1), p2.2)
    else
      (fC_Paths_aim N a2 a4 0 1 p2.2).bind fun z3 =>
      (fC_Paths_traceFrom N a1 a3 z3).bind fun p4 =>
      some (p4.1, p4.2)
set_option maxRecDepth 4000 in
theorem wC_EachAddsALine_bargain_0 {P : vP} {l : Launch} {ad : Nat → Nat} {N : Nat} {r : Int32} {t1 : vSt} (hX : vOK P l shC ad (vR 5 123) cX11_bargain RX11 5) (hR : (∀ pc lv, narrow .int (.int r) = .int r → decode cX11_bargain pc = .ok (.ireturn, 1) → P t1 pc lv [.int r]))  {a1 : Int32} {a2 : Int32} {a3 : Int32} {a4 : Int32} {s : vSt} (h : gC_EachAddsALine_bargain_0 N a1 a2 a3 a4 s = some (r, t1)) : P s 0 [(0, .ref (ad 0)), (1, .int a1), (2, .int a2), (3, .int a3), (4, .int a4)] [] := by
  unfold gC_EachAddsALine_bargain_0 at h
  refine v_aload_n hX dX11_bargain_0 rfl 0 rfl ?_
  refine v_iload_n hX dX11_bargain_1 rfl 1 rfl ?_
  refine v_iload_n hX dX11_bargain_2 rfl 2 rfl ?_
  refine v_iload_n hX dX11_bargain_3 rfl 3 rfl ?_
  obtain ⟨p1, hp1, h⟩ := bsome h
  refine v_callVI (o := 0) hX (mC_EachAddsALine_isTrip hp1 l ad) kM_X11_isTrip kV_X11_isTrip km_11_201 (by decide) (fun _ => rfl) rfl rfl rfl (Nat.le_of_ble_eq_true rfl) (by decide) dX11_bargain_4 ?_
  refine v_if_eq (tgt := 18) hX dX11_bargain_7 (by decide) h (fun h => ?_) (fun h => ?_)
  · refine v_iconst (v := (-1)) hX dX11_bargain_18 (by decide) ?_
    exact v_retI hR h dX11_bargain_19
  · refine v_iload hX dX11_bargain_10 4 rfl ?_
    obtain ⟨p2, hp2, h⟩ := bsome h
    refine v_callSI hX (mC_EachAddsALine_isHour hp2 l ad) kM_X11_isHour kS_X11_isHour km_11_145 rfl rfl (Nat.le_of_ble_eq_true rfl) (by decide) dX11_bargain_12 ?_
    refine v_if_ne (tgt := 20) hX dX11_bargain_15 (by decide) h (fun h => ?_) (fun h => ?_)
    · refine v_iconst (v := (-1)) hX dX11_bargain_18 (by decide) ?_
      exact v_retI hR h dX11_bargain_19
    · refine v_aload_n hX dX11_bargain_20 rfl 0 rfl ?_
      refine gfC_0_7 hX kf_11_69 dX11_bargain_21 ?_
      refine v_iload_n hX dX11_bargain_24 rfl 2 rfl ?_
      refine v_iload hX dX11_bargain_25 4 rfl ?_
      refine v_iconst (v := 0) hX dX11_bargain_27 (by decide) ?_
      refine v_iconst (v := 1) hX dX11_bargain_28 (by decide) ?_
      obtain ⟨z3, hz3, h⟩ := bsome h
      refine v_callVV (o := 41) hX (mC_Paths_aim hz3 l ad) kM_X3_aim kV_X3_aim km_11_212 (by decide) (fun _ => rfl) rfl rfl rfl (Nat.le_of_ble_eq_true rfl) (by decide) dX11_bargain_29 ?_
      refine v_aload_n hX dX11_bargain_32 rfl 0 rfl ?_
      refine gfC_0_7 hX kf_11_69 dX11_bargain_33 ?_
      refine v_iload_n hX dX11_bargain_36 rfl 1 rfl ?_
      refine v_iload_n hX dX11_bargain_37 rfl 3 rfl ?_
      refine v_aload_n hX dX11_bargain_38 rfl 0 rfl ?_
      refine gfC_0_1 hX kf_11_19 dX11_bargain_39 ?_
      obtain ⟨p4, hp4, h⟩ := bsome h
      refine v_callVI (o := 41) hX (mC_Paths_traceFrom hp4 l ad) kM_X3_traceFrom kV_X3_traceFrom km_11_215 (by decide) (fun _ => rfl) rfl rfl rfl (Nat.le_of_ble_eq_true rfl) (by decide) dX11_bargain_42 ?_
      exact v_retI hR h dX11_bargain_45
noncomputable def fC_EachAddsALine_bargain (N : Nat) (a1 : Int32) (a2 : Int32) (a3 : Int32) (a4 : Int32) (s : vSt) : Option (Int32 × vSt) := gC_EachAddsALine_bargain_0 N a1 a2 a3 a4 s
theorem mC_EachAddsALine_bargain {N : Nat} {a1 : Int32} {a2 : Int32} {a3 : Int32} {a4 : Int32} {s : vSt} {r : Int32} {t1 : vSt} (h : fC_EachAddsALine_bargain N a1 a2 a3 a4 s = some (r, t1)) (l : Launch) (ad : Nat → Nat) : vMI l shC ad yX11_bargain cX11_bargain 5 .int 5 123 s [.ref (ad 0), .int a1, .int a2, .int a3, .int a4] r t1 :=
  vMI_of (by decide +kernel) (Nat.le_of_ble_eq_true rfl) (fun P hX hR => wC_EachAddsALine_bargain_0 hX hR h)
-- C_EachAddsALine_cheapest
noncomputable def gC_EachAddsALine_cheapest_0 (N : Nat)  (a1 : Int32) (a2 : Int32) (a3 : Int32) (s : vSt) : Option (Int32 × vSt) :=
  (fC_EachAddsALine_bargain N a1 a2 a3 99 s).bind fun p1 =>
  some (p1.1, p1.2)
set_option maxRecDepth 4000 in
theorem wC_EachAddsALine_cheapest_0 {P : vP} {l : Launch} {ad : Nat → Nat} {N : Nat} {r : Int32} {t1 : vSt} (hX : vOK P l shC ad (vR 6 147) cX11_cheapest RX11 4) (hR : (∀ pc lv, narrow .int (.int r) = .int r → decode cX11_cheapest pc = .ok (.ireturn, 1) → P t1 pc lv [.int r]))  {a1 : Int32} {a2 : Int32} {a3 : Int32} {s : vSt} (h : gC_EachAddsALine_cheapest_0 N a1 a2 a3 s = some (r, t1)) : P s 0 [(0, .ref (ad 0)), (1, .int a1), (2, .int a2), (3, .int a3)] [] := by
  unfold gC_EachAddsALine_cheapest_0 at h
  refine v_aload_n hX dX11_cheapest_0 rfl 0 rfl ?_
  refine v_iload_n hX dX11_cheapest_1 rfl 1 rfl ?_
  refine v_iload_n hX dX11_cheapest_2 rfl 2 rfl ?_
  refine v_iload_n hX dX11_cheapest_3 rfl 3 rfl ?_
  refine v_bipush (v := 99) hX dX11_cheapest_4 (by decide) ?_
  obtain ⟨p1, hp1, h⟩ := bsome h
  refine v_callVI (o := 0) hX (mC_EachAddsALine_bargain hp1 l ad) kM_X11_bargain kV_X11_bargain km_11_219 (by decide) (fun _ => rfl) rfl rfl rfl (Nat.le_of_ble_eq_true rfl) (by decide) dX11_cheapest_6 ?_
  exact v_retI hR h dX11_cheapest_9
noncomputable def fC_EachAddsALine_cheapest (N : Nat) (a1 : Int32) (a2 : Int32) (a3 : Int32) (s : vSt) : Option (Int32 × vSt) := gC_EachAddsALine_cheapest_0 N a1 a2 a3 s
theorem mC_EachAddsALine_cheapest {N : Nat} {a1 : Int32} {a2 : Int32} {a3 : Int32} {s : vSt} {r : Int32} {t1 : vSt} (h : fC_EachAddsALine_cheapest N a1 a2 a3 s = some (r, t1)) (l : Launch) (ad : Nat → Nat) : vMI l shC ad yX11_cheapest cX11_cheapest 4 .int 6 147 s [.ref (ad 0), .int a1, .int a2, .int a3] r t1 :=
  vMI_of (by decide +kernel) (Nat.le_of_ble_eq_true rfl) (fun P hX hR => wC_EachAddsALine_cheapest_0 hX hR h)
-- C_Roads_everybody
noncomputable def gC_Roads_everybody_0 (N : Nat)   (s : vSt) : Option (Int32 × vSt) :=
  some (((1 : Int32) <<< ((s.1 9 6) &&& 31)) - 1, s)
set_option maxRecDepth 4000 in
theorem wC_Roads_everybody_0 {P : vP} {l : Launch} {ad : Nat → Nat} {N : Nat} {r : Int32} {t1 : vSt} (hX : vOK P l shC ad (vR 0 0) cX6_everybody RX6 1) (hR : (∀ pc lv, narrow .int (.int r) = .int r → decode cX6_everybody pc = .ok (.ireturn, 1) → P t1 pc lv [.int r]))   {s : vSt} (h : gC_Roads_everybody_0 N s = some (r, t1)) : P s 0 [(0, .ref (ad 9))] [] := by
  unfold gC_Roads_everybody_0 at h
  refine v_iconst (v := 1) hX dX6_everybody_0 (by decide) ?_
  refine v_aload_n hX dX6_everybody_1 rfl 0 rfl ?_
  refine gfC_9_6 hX kf_6_30 dX6_everybody_2 ?_
  refine v_ishl hX dX6_everybody_5 ?_
  refine v_iconst (v := 1) hX dX6_everybody_6 (by decide) ?_
  refine v_isub hX dX6_everybody_7 ?_
  exact v_retI hR h dX6_everybody_8
noncomputable def fC_Roads_everybody (N : Nat)  (s : vSt) : Option (Int32 × vSt) := gC_Roads_everybody_0 N s
theorem mC_Roads_everybody {N : Nat}  {s : vSt} {r : Int32} {t1 : vSt} (h : fC_Roads_everybody N s = some (r, t1)) (l : Launch) (ad : Nat → Nat) : vMI l shC ad yX6_everybody cX6_everybody 1 .int 0 0 s [.ref (ad 9)] r t1 :=
  vMI_of (by decide +kernel) (Nat.le_of_ble_eq_true rfl) (fun P hX hR => wC_Roads_everybody_0 hX hR h)
-- C_EachAddsALine_without
noncomputable def gC_EachAddsALine_without_0 (N : Nat)  (a1 : Int32) (a2 : Int32) (a3 : Int32) (a4 : Int32) (s : vSt) : Option (Int32 × vSt) :=
  (fC_EachAddsALine_isTrip N a1 a2 a3 s).bind fun p1 =>
  if p1.1 = 0 then
    some ((-1), p1.2)
  else
    (fC_Roads_everybody N p1.2).bind fun p2 =>
    if (a4 &&& (p2.1 ^^^ (-1))) = 0 then
      (fC_EachAddsALine_soonestPast N a1 a2 a3 a4 p2.2).bind fun p3 =>
      some (p3.1, p3.2)
    else
      some ((-1), p2.2)
set_option maxRecDepth 4000 in
theorem wC_EachAddsALine_without_0 {P : vP} {l : Launch} {ad : Nat → Nat} {N : Nat} {r : Int32} {t1 : vSt} (hX : vOK P l shC ad (vR 6 148) cX11_without RX11 5) (hR : (∀ pc lv, narrow .int (.int r) = .int r → decode cX11_without pc = .ok (.ireturn, 1) → P t1 pc lv [.int r]))  {a1 : Int32} {a2 : Int32} {a3 : Int32} {a4 : Int32} {s : vSt} (h : gC_EachAddsALine_without_0 N a1 a2 a3 a4 s = some (r, t1)) : P s 0 [(0, .ref (ad 0)), (1, .int a1), (2, .int a2), (3, .int a3), (4, .int a4)] [] := by
  unfold gC_EachAddsALine_without_0 at h
  refine v_aload_n hX dX11_without_0 rfl 0 rfl ?_
  refine v_iload_n hX dX11_without_1 rfl 1 rfl ?_
  refine v_iload_n hX dX11_without_2 rfl 2 rfl ?_
  refine v_iload_n hX dX11_without_3 rfl 3 rfl ?_
  obtain ⟨p1, hp1, h⟩ := bsome h
  refine v_callVI (o := 0) hX (mC_EachAddsALine_isTrip hp1 l ad) kM_X11_isTrip kV_X11_isTrip km_11_201 (by decide) (fun _ => rfl) rfl rfl rfl (Nat.le_of_ble_eq_true rfl) (by decide) dX11_without_4 ?_
  refine v_if_eq (tgt := 25) hX dX11_without_7 (by decide) h (fun h => ?_) (fun h => ?_)
  · refine v_iconst (v := (-1)) hX dX11_without_25 (by decide) ?_
    exact v_retI hR h dX11_without_26
  · refine v_iload hX dX11_without_10 4 rfl ?_
    refine v_aload_n hX dX11_without_12 rfl 0 rfl ?_
    refine gfC_0_2 hX kf_11_26 dX11_without_13 ?_
    obtain ⟨p2, hp2, h⟩ := bsome h
    refine v_callVI (o := 9) hX (mC_Roads_everybody hp2 l ad) kM_X6_everybody kV_X6_everybody km_11_222 (by decide) (fun _ => rfl) rfl rfl rfl (Nat.le_of_ble_eq_true rfl) (by decide) dX11_without_16 ?_
    refine v_iconst (v := (-1)) hX dX11_without_19 (by decide) ?_
    refine v_ixor hX dX11_without_20 ?_
    refine v_iand hX dX11_without_21 ?_
    refine v_if_eq (tgt := 27) hX dX11_without_22 (by decide) h (fun h => ?_) (fun h => ?_)
    · refine v_aload_n hX dX11_without_27 rfl 0 rfl ?_
      refine v_iload_n hX dX11_without_28 rfl 1 rfl ?_
      refine v_iload_n hX dX11_without_29 rfl 2 rfl ?_
      refine v_iload_n hX dX11_without_30 rfl 3 rfl ?_
      refine v_iload hX dX11_without_31 4 rfl ?_
      obtain ⟨p3, hp3, h⟩ := bsome h
      refine v_callVI (o := 0) hX (mC_EachAddsALine_soonestPast hp3 l ad) kM_X11_soonestPast kV_X11_soonestPast km_11_205 (by decide) (fun _ => rfl) rfl rfl rfl (Nat.le_of_ble_eq_true rfl) (by decide) dX11_without_33 ?_
      exact v_retI hR h dX11_without_36
    · refine v_iconst (v := (-1)) hX dX11_without_25 (by decide) ?_
      exact v_retI hR h dX11_without_26
noncomputable def fC_EachAddsALine_without (N : Nat) (a1 : Int32) (a2 : Int32) (a3 : Int32) (a4 : Int32) (s : vSt) : Option (Int32 × vSt) := gC_EachAddsALine_without_0 N a1 a2 a3 a4 s
theorem mC_EachAddsALine_without {N : Nat} {a1 : Int32} {a2 : Int32} {a3 : Int32} {a4 : Int32} {s : vSt} {r : Int32} {t1 : vSt} (h : fC_EachAddsALine_without N a1 a2 a3 a4 s = some (r, t1)) (l : Launch) (ad : Nat → Nat) : vMI l shC ad yX11_without cX11_without 5 .int 6 148 s [.ref (ad 0), .int a1, .int a2, .int a3, .int a4] r t1 :=
  vMI_of (by decide +kernel) (Nat.le_of_ble_eq_true rfl) (fun P hX hR => wC_EachAddsALine_without_0 hX hR h)
-- C_Paths_waysOn
noncomputable def gC_Paths_waysOn_71 (N : Nat) (r5 : Int32 → Int32 → Int64 → Int32 → vSt → Option (Int64 × vSt)) (a1 : Int32) (a2 : Int32) (a3 : Int64) (a5 : Int32) (s : vSt) : Option (Int64 × vSt) :=
  (some (a5 + 1 : Int32)).bind fun v1 =>
  r5 a1 a2 a3 v1 s
set_option maxRecDepth 4000 in
theorem wC_Paths_waysOn_71 {P : vP} {l : Launch} {ad : Nat → Nat} {N : Nat} {r5 : Int32 → Int32 → Int64 → Int32 → vSt → Option (Int64 × vSt)} {r : Int64} {t1 : vSt} (hX : vOK P l shC ad (vR 1 22) cX3_waysOn RX3 6) (hR : (∀ pc lv, decode cX3_waysOn pc = .ok (.lreturn, 1) → P t1 pc lv [.long r])) (H5 : ∀ (a1 : Int32) (a2 : Int32) (a3 : Int64) (a5 : Int32) (s : vSt), r5 a1 a2 a3 a5 s = some (r, t1) → P s 5 [(0, .ref (ad 41)), (1, .int a1), (2, .int a2), (3, .long a3), (5, .int a5)] []) {a1 : Int32} {a2 : Int32} {a3 : Int64} {a5 : Int32} {s : vSt} (h : gC_Paths_waysOn_71 N r5 a1 a2 a3 a5 s = some (r, t1)) : P s 71 [(0, .ref (ad 41)), (1, .int a1), (2, .int a2), (3, .long a3), (5, .int a5)] [] := by
  unfold gC_Paths_waysOn_71 at h
  refine v_iincN hX dX3_waysOn_71 (j := 4) rfl (c := 1) (by decide) (by decide) h (fun v1 h => ?_)
  refine v_show (lv' := [(5, .int v1), (0, .ref (ad 41)), (1, .int a1), (2, .int a2), (3, .long a3)]) hX rfl ?_
  refine v_goto (tgt := 5) hX dX3_waysOn_74 (by decide) ?_
  exact v_sub hX [1, 2, 3, 4, 0] (by rfl) (H5 _ _ _ _ _ h)
noncomputable def gC_Paths_waysOn_5 (N : Nat)  : Nat → Int32 → Int32 → Int64 → Int32 → vSt → Option (Int64 × vSt)
  | 0, _, _, _, _, _ => none
  | n + 1, a1, a2, a3, a5, s =>
    if (s.1 9 7) ≤ a5 then
      some (a3, s)
    else
      (fC_Roads_isAt N a1 a5 s).bind fun p1 =>
      if p1.1 = 0 then
        gC_Paths_waysOn_71 N (gC_Paths_waysOn_5 N n) a1 a2 a3 a5 p1.2
      else
        (ld p1.2 13 20 a5).bind fun v2 =>
        if v2 < a2 then
          gC_Paths_waysOn_71 N (gC_Paths_waysOn_5 N n) a1 a2 a3 a5 p1.2
        else
          (fC_Roads_otherAt N a5 a1 p1.2).bind fun p3 =>
          (fC_Roads_placeOf N a5 p3.1 p3.2).bind fun p4 =>
          (ldL p4.2 44 40 p4.1).bind fun v5 =>
          (some (a3 + v5 : Int64)).bind fun v6 =>
          gC_Paths_waysOn_71 N (gC_Paths_waysOn_5 N n) a1 a2 v6 a5 p4.2
set_option maxRecDepth 4000 in
theorem wC_Paths_waysOn_5 {P : vP} {l : Launch} {ad : Nat → Nat} {N : Nat} {r : Int64} {t1 : vSt} (hX : vOK P l shC ad (vR 1 22) cX3_waysOn RX3 6) (hR : (∀ pc lv, decode cX3_waysOn pc = .ok (.lreturn, 1) → P t1 pc lv [.long r]))  : ∀ (n : Nat) (a1 : Int32) (a2 : Int32) (a3 : Int64) (a5 : Int32) (s : vSt), gC_Paths_waysOn_5 N n a1 a2 a3 a5 s = some (r, t1) → P s 5 [(0, .ref (ad 41)), (1, .int a1), (2, .int a2), (3, .long a3), (5, .int a5)] [] := by
  intro n
  induction n with
  | zero => intro a1 a2 a3 a5 s h; cases h
  | succ n ih =>
    intro a1 a2 a3 a5 s h
    unfold gC_Paths_waysOn_5 at h
    refine v_iload hX dX3_waysOn_5 4 rfl ?_
    refine v_aload_n hX dX3_waysOn_7 rfl 0 rfl ?_
    refine gfC_41_3 hX kf_3_25 dX3_waysOn_8 ?_
    refine gfC_9_7 hX kf_3_35 dX3_waysOn_11 ?_
    refine v_icmp_ge (tgt := 77) hX dX3_waysOn_14 (by decide) h (fun h => ?_) (fun h => ?_)
    · refine v_lload_n hX dX3_waysOn_77 rfl 3 rfl ?_
      exact v_retL hR h dX3_waysOn_78
    · refine v_aload_n hX dX3_waysOn_17 rfl 0 rfl ?_
      refine gfC_41_3 hX kf_3_25 dX3_waysOn_18 ?_
      refine v_iload_n hX dX3_waysOn_21 rfl 1 rfl ?_
      refine v_iload hX dX3_waysOn_22 4 rfl ?_
      obtain ⟨p1, hp1, h⟩ := bsome h
      refine v_callVI (o := 9) hX (mC_Roads_isAt hp1 l ad) kM_X6_isAt kV_X6_isAt km_3_92 (by decide) (fun _ => rfl) rfl rfl rfl (Nat.le_of_ble_eq_true rfl) (by decide) dX3_waysOn_24 ?_
      refine v_if_eq (tgt := 71) hX dX3_waysOn_27 (by decide) h (fun h => ?_) (fun h => ?_)
      · exact v_sub hX [0, 1, 2, 3, 4] (by rfl) (wC_Paths_waysOn_71 hX hR ih h)
      · refine v_aload_n hX dX3_waysOn_30 rfl 0 rfl ?_
        refine gfC_41_3 hX kf_3_25 dX3_waysOn_31 ?_
        refine gfC_9_3 hX kf_3_41 dX3_waysOn_34 ?_
        refine v_iload hX dX3_waysOn_37 4 rfl ?_
        refine alC_13 hX dX3_waysOn_39 h (fun v2 h => ?_)
        refine v_iload_n hX dX3_waysOn_40 rfl 2 rfl ?_
        refine v_icmp_lt (tgt := 71) hX dX3_waysOn_41 (by decide) h (fun h => ?_) (fun h => ?_)
        · exact v_sub hX [0, 1, 2, 3, 4] (by rfl) (wC_Paths_waysOn_71 hX hR ih h)
        · refine v_lload_n hX dX3_waysOn_44 rfl 3 rfl ?_
          refine v_aload_n hX dX3_waysOn_45 rfl 0 rfl ?_
          refine gfC_41_5 hX kf_3_18 dX3_waysOn_46 ?_
          refine v_aload_n hX dX3_waysOn_49 rfl 0 rfl ?_
          refine gfC_41_3 hX kf_3_25 dX3_waysOn_50 ?_
          refine v_iload hX dX3_waysOn_53 4 rfl ?_
          refine v_aload_n hX dX3_waysOn_55 rfl 0 rfl ?_
          refine gfC_41_3 hX kf_3_25 dX3_waysOn_56 ?_
          refine v_iload hX dX3_waysOn_59 4 rfl ?_
          refine v_iload_n hX dX3_waysOn_61 rfl 1 rfl ?_
          obtain ⟨p3, hp3, h⟩ := bsome h
          refine v_callVI (o := 9) hX (mC_Roads_otherAt hp3 l ad) kM_X6_otherAt kV_X6_otherAt km_3_54 (by decide) (fun _ => rfl) rfl rfl rfl (Nat.le_of_ble_eq_true rfl) (by decide) dX3_waysOn_62 ?_
          obtain ⟨p4, hp4, h⟩ := bsome h
          refine v_callVI (o := 9) hX (mC_Roads_placeOf hp4 l ad) kM_X6_placeOf kV_X6_placeOf km_3_95 (by decide) (fun _ => rfl) rfl rfl rfl (Nat.le_of_ble_eq_true rfl) (by decide) dX3_waysOn_65 ?_
          refine alC_44 hX dX3_waysOn_68 h (fun v5 h => ?_)
          refine v_ladd hX dX3_waysOn_69 ?_
          refine v_nmL hX h (fun v6 h => ?_)
          refine v_lstore_n (lv' := [(3, .long v6), (0, .ref (ad 41)), (1, .int a1), (2, .int a2), (5, .int a5)]) hX dX3_waysOn_70 rfl (by decide) rfl ?_
          exact v_sub hX [1, 2, 3, 0, 4] (by rfl) (wC_Paths_waysOn_71 hX hR ih h)
noncomputable def gC_Paths_waysOn_0 (N : Nat)  (a1 : Int32) (a2 : Int32) (s : vSt) : Option (Int64 × vSt) :=
  gC_Paths_waysOn_5 N N a1 a2 0 0 s
set_option maxRecDepth 4000 in
theorem wC_Paths_waysOn_0 {P : vP} {l : Launch} {ad : Nat → Nat} {N : Nat} {r : Int64} {t1 : vSt} (hX : vOK P l shC ad (vR 1 22) cX3_waysOn RX3 6) (hR : (∀ pc lv, decode cX3_waysOn pc = .ok (.lreturn, 1) → P t1 pc lv [.long r]))  {a1 : Int32} {a2 : Int32} {s : vSt} (h : gC_Paths_waysOn_0 N a1 a2 s = some (r, t1)) : P s 0 [(0, .ref (ad 41)), (1, .int a1), (2, .int a2)] [] := by
  unfold gC_Paths_waysOn_0 at h
  refine v_lconst (v := 0) hX dX3_waysOn_0 (by decide) ?_
  refine v_lstore_n (lv' := [(3, .long 0), (0, .ref (ad 41)), (1, .int a1), (2, .int a2)]) hX dX3_waysOn_1 rfl (by decide) rfl ?_
  refine v_iconst (v := 0) hX dX3_waysOn_2 (by decide) ?_
  refine v_istore (lv' := [(5, .int 0), (3, .long 0), (0, .ref (ad 41)), (1, .int a1), (2, .int a2)]) hX dX3_waysOn_3 (by decide) rfl ?_
  exact v_sub hX [2, 3, 4, 1, 0] (by rfl) (wC_Paths_waysOn_5 hX hR  N _ _ _ _ _ h)
noncomputable def fC_Paths_waysOn (N : Nat) (a1 : Int32) (a2 : Int32) (s : vSt) : Option (Int64 × vSt) := gC_Paths_waysOn_0 N a1 a2 s
theorem mC_Paths_waysOn {N : Nat} {a1 : Int32} {a2 : Int32} {s : vSt} {r : Int64} {t1 : vSt} (h : fC_Paths_waysOn N a1 a2 s = some (r, t1)) (l : Launch) (ad : Nat → Nat) : vML l shC ad yX3_waysOn cX3_waysOn 6 1 22 s [.ref (ad 41), .int a1, .int a2] r t1 :=
  vML_of (by decide +kernel) (Nat.le_of_ble_eq_true rfl) (fun P hX hR => wC_Paths_waysOn_0 hX hR h)
-- C_Paths_waysBehind
noncomputable def gC_Paths_waysBehind_19 (N : Nat)  (a1 : Int32) (a3 : Int32) (k0 : Int32) (s : vSt) : Option (Int64 × vSt) :=
  (fC_Roads_readyAt N a1 s).bind fun p1 =>
  (fC_Paths_waysOn N a3 p1.1 p1.2).bind fun p2 =>
  some (((k0 : Int32).toInt64) + p2.1, p2.2)
set_option maxRecDepth 4000 in
theorem wC_Paths_waysBehind_19 {P : vP} {l : Launch} {ad : Nat → Nat} {N : Nat} {r : Int64} {t1 : vSt} (hX : vOK P l shC ad (vR 2 47) cX3_waysBehind RX3 4) (hR : (∀ pc lv, decode cX3_waysBehind pc = .ok (.lreturn, 1) → P t1 pc lv [.long r]))  {a1 : Int32} {a3 : Int32} {k0 : Int32} {s : vSt} (h : gC_Paths_waysBehind_19 N a1 a3 k0 s = some (r, t1)) : P s 19 [(0, .ref (ad 41)), (1, .int a1), (3, .int a3)] [.int k0] := by
  unfold gC_Paths_waysBehind_19 at h
  refine v_i2l hX dX3_waysBehind_19 ?_
  refine v_aload_n hX dX3_waysBehind_20 rfl 0 rfl ?_
  refine v_iload_n hX dX3_waysBehind_21 rfl 2 rfl ?_
  refine v_aload_n hX dX3_waysBehind_22 rfl 0 rfl ?_
  refine gfC_41_3 hX kf_3_25 dX3_waysBehind_23 ?_
  refine v_iload_n hX dX3_waysBehind_26 rfl 1 rfl ?_
  obtain ⟨p1, hp1, h⟩ := bsome h
  refine v_callVI (o := 9) hX (mC_Roads_readyAt hp1 l ad) kM_X6_readyAt kV_X6_readyAt km_3_77 (by decide) (fun _ => rfl) rfl rfl rfl (Nat.le_of_ble_eq_true rfl) (by decide) dX3_waysBehind_27 ?_
  obtain ⟨p2, hp2, h⟩ := bsome h
  refine v_callVL (o := 41) hX (mC_Paths_waysOn hp2 l ad) kM_X3_waysOn kV_X3_waysOn km_3_129 (by decide) (fun _ => rfl) rfl rfl rfl (Nat.le_of_ble_eq_true rfl) (by decide) dX3_waysBehind_30 ?_
  refine v_ladd hX dX3_waysBehind_33 ?_
  exact v_retL hR h dX3_waysBehind_34
noncomputable def gC_Paths_waysBehind_0 (N : Nat)  (a1 : Int32) (a2 : Int32) (s : vSt) : Option (Int64 × vSt) :=
  (fC_Roads_getterAt N a1 s).bind fun p1 =>
  if p1.1 = a2 then
    gC_Paths_waysBehind_19 N a1 p1.1 1 p1.2
  else
    gC_Paths_waysBehind_19 N a1 p1.1 0 p1.2
set_option maxRecDepth 4000 in
theorem wC_Paths_waysBehind_0 {P : vP} {l : Launch} {ad : Nat → Nat} {N : Nat} {r : Int64} {t1 : vSt} (hX : vOK P l shC ad (vR 2 47) cX3_waysBehind RX3 4) (hR : (∀ pc lv, decode cX3_waysBehind pc = .ok (.lreturn, 1) → P t1 pc lv [.long r]))  {a1 : Int32} {a2 : Int32} {s : vSt} (h : gC_Paths_waysBehind_0 N a1 a2 s = some (r, t1)) : P s 0 [(0, .ref (ad 41)), (1, .int a1), (2, .int a2)] [] := by
  unfold gC_Paths_waysBehind_0 at h
  refine v_aload_n hX dX3_waysBehind_0 rfl 0 rfl ?_
  refine gfC_41_3 hX kf_3_25 dX3_waysBehind_1 ?_
  refine v_iload_n hX dX3_waysBehind_4 rfl 1 rfl ?_
  obtain ⟨p1, hp1, h⟩ := bsome h
  refine v_callVI (o := 9) hX (mC_Roads_getterAt hp1 l ad) kM_X6_getterAt kV_X6_getterAt km_3_72 (by decide) (fun _ => rfl) rfl rfl rfl (Nat.le_of_ble_eq_true rfl) (by decide) dX3_waysBehind_5 ?_
  refine v_istore_n (lv' := [(3, .int p1.1), (0, .ref (ad 41)), (1, .int a1), (2, .int a2)]) hX dX3_waysBehind_8 rfl (by decide) rfl ?_
  refine v_iload_n hX dX3_waysBehind_9 rfl 0 rfl ?_
  refine v_iload_n hX dX3_waysBehind_10 rfl 3 rfl ?_
  refine v_icmp_ne (tgt := 18) hX dX3_waysBehind_11 (by decide) h (fun h => ?_) (fun h => ?_)
  · refine v_iconst (v := 1) hX dX3_waysBehind_14 (by decide) ?_
    refine v_goto (tgt := 19) hX dX3_waysBehind_15 (by decide) ?_
    exact v_sub hX [1, 2, 0] (by rfl) (wC_Paths_waysBehind_19 hX hR  h)
  · refine v_iconst (v := 0) hX dX3_waysBehind_18 (by decide) ?_
    exact v_sub hX [1, 2, 0] (by rfl) (wC_Paths_waysBehind_19 hX hR  h)
noncomputable def fC_Paths_waysBehind (N : Nat) (a1 : Int32) (a2 : Int32) (s : vSt) : Option (Int64 × vSt) := gC_Paths_waysBehind_0 N a1 a2 s
theorem mC_Paths_waysBehind {N : Nat} {a1 : Int32} {a2 : Int32} {s : vSt} {r : Int64} {t1 : vSt} (h : fC_Paths_waysBehind N a1 a2 s = some (r, t1)) (l : Launch) (ad : Nat → Nat) : vML l shC ad yX3_waysBehind cX3_waysBehind 4 2 47 s [.ref (ad 41), .int a1, .int a2] r t1 :=
  vML_of (by decide +kernel) (Nat.le_of_ble_eq_true rfl) (fun P hX hR => wC_Paths_waysBehind_0 hX hR h)
-- C_Paths_countWays
noncomputable def gC_Paths_countWays_11 (N : Nat)  : Nat → Int32 → Int32 → Int32 → Int32 → vSt → Option (Int64 × vSt)
  | 0, _, _, _, _, _ => none
  | n + 1, a1, a2, a3, a4, s =>
    if a4 < 0 then
      (fC_Paths_waysOn N a1 a3 s).bind fun p1 =>
      some (p1.1, p1.2)
    else
      (ld s 15 20 a4).bind fun v2 =>
      (fC_Paths_waysBehind N ((2 : Int32) * v2) a2 s).bind fun p3 =>
      (stoL p3.2 44 40 ((2 : Int32) * v2) p3.1).bind fun z4 =>
      (fC_Paths_waysBehind N (((2 : Int32) * v2) + 1) a2 z4).bind fun p5 =>
      (stoL p5.2 44 40 (((2 : Int32) * v2) + 1) p5.1).bind fun z6 =>
      (some (a4 + (-1) : Int32)).bind fun v7 =>
      gC_Paths_countWays_11 N n a1 a2 a3 v7 z6
set_option maxRecDepth 4000 in
theorem wC_Paths_countWays_11 {P : vP} {l : Launch} {ad : Nat → Nat} {N : Nat} {r : Int64} {t1 : vSt} (hX : vOK P l shC ad (vR 3 70) cX3_countWays RX3 6) (hR : (∀ pc lv, decode cX3_countWays pc = .ok (.lreturn, 1) → P t1 pc lv [.long r]))  : ∀ (n : Nat) (a1 : Int32) (a2 : Int32) (a3 : Int32) (a4 : Int32) (s : vSt), gC_Paths_countWays_11 N n a1 a2 a3 a4 s = some (r, t1) → P s 11 [(0, .ref (ad 41)), (1, .int a1), (2, .int a2), (3, .int a3), (4, .int a4)] [] := by
  intro n
  induction n with
  | zero => intro a1 a2 a3 a4 s h; cases h
  | succ n ih =>
    intro a1 a2 a3 a4 s h
    unfold gC_Paths_countWays_11 at h
    refine v_iload hX dX3_countWays_11 4 rfl ?_
    refine v_if_lt (tgt := 74) hX dX3_countWays_13 (by decide) h (fun h => ?_) (fun h => ?_)
    · refine v_aload_n hX dX3_countWays_74 rfl 0 rfl ?_
      refine v_iload_n hX dX3_countWays_75 rfl 1 rfl ?_
      refine v_iload_n hX dX3_countWays_76 rfl 3 rfl ?_
      obtain ⟨p1, hp1, h⟩ := bsome h
      refine v_callVL (o := 41) hX (mC_Paths_waysOn hp1 l ad) kM_X3_waysOn kV_X3_waysOn km_3_129 (by decide) (fun _ => rfl) rfl rfl rfl (Nat.le_of_ble_eq_true rfl) (by decide) dX3_countWays_77 ?_
      exact v_retL hR h dX3_countWays_80
    · refine v_aload_n hX dX3_countWays_16 rfl 0 rfl ?_
      refine gfC_41_3 hX kf_3_25 dX3_countWays_17 ?_
      refine gfC_9_5 hX kf_3_38 dX3_countWays_20 ?_
      refine v_iload hX dX3_countWays_23 4 rfl ?_
      refine alC_15 hX dX3_countWays_25 h (fun v2 h => ?_)
      refine v_istore (lv' := [(5, .int v2), (0, .ref (ad 41)), (1, .int a1), (2, .int a2), (3, .int a3), (4, .int a4)]) hX dX3_countWays_26 (by decide) rfl ?_
      refine v_aload_n hX dX3_countWays_28 rfl 1 rfl ?_
      refine gfC_41_5 hX kf_3_18 dX3_countWays_29 ?_
      refine v_iconst (v := 2) hX dX3_countWays_32 (by decide) ?_
      refine v_iload hX dX3_countWays_33 0 rfl ?_
      refine v_imul hX dX3_countWays_35 ?_
      refine v_aload_n hX dX3_countWays_36 rfl 1 rfl ?_
      refine v_iconst (v := 2) hX dX3_countWays_37 (by decide) ?_
      refine v_iload hX dX3_countWays_38 0 rfl ?_
      refine v_imul hX dX3_countWays_40 ?_
      refine v_iload_n hX dX3_countWays_41 rfl 3 rfl ?_
      obtain ⟨p3, hp3, h⟩ := bsome h
      refine v_callVL (o := 41) hX (mC_Paths_waysBehind hp3 l ad) kM_X3_waysBehind kV_X3_waysBehind km_3_125 (by decide) (fun _ => rfl) rfl rfl rfl (Nat.le_of_ble_eq_true rfl) (by decide) dX3_countWays_42 ?_
      refine asC_44 hX dX3_countWays_45 h (fun z4 h => ?_)
      refine v_aload_n hX dX3_countWays_46 rfl 1 rfl ?_
      refine gfC_41_5 hX kf_3_18 dX3_countWays_47 ?_
      refine v_iconst (v := 2) hX dX3_countWays_50 (by decide) ?_
      refine v_iload hX dX3_countWays_51 0 rfl ?_
      refine v_imul hX dX3_countWays_53 ?_
      refine v_iconst (v := 1) hX dX3_countWays_54 (by decide) ?_
      refine v_iadd hX dX3_countWays_55 ?_
      refine v_aload_n hX dX3_countWays_56 rfl 1 rfl ?_
      refine v_iconst (v := 2) hX dX3_countWays_57 (by decide) ?_
      refine v_iload hX dX3_countWays_58 0 rfl ?_
      refine v_imul hX dX3_countWays_60 ?_
      refine v_iconst (v := 1) hX dX3_countWays_61 (by decide) ?_
      refine v_iadd hX dX3_countWays_62 ?_
      refine v_iload_n hX dX3_countWays_63 rfl 3 rfl ?_
      obtain ⟨p5, hp5, h⟩ := bsome h
      refine v_callVL (o := 41) hX (mC_Paths_waysBehind hp5 l ad) kM_X3_waysBehind kV_X3_waysBehind km_3_125 (by decide) (fun _ => rfl) rfl rfl rfl (Nat.le_of_ble_eq_true rfl) (by decide) dX3_countWays_64 ?_
      refine asC_44 hX dX3_countWays_67 h (fun z6 h => ?_)
      refine v_iincN hX dX3_countWays_68 (j := 5) rfl (c := (-1)) (by decide) (by decide) h (fun v7 h => ?_)
      refine v_show (lv' := [(4, .int v7), (5, .int v2), (0, .ref (ad 41)), (1, .int a1), (2, .int a2), (3, .int a3)]) hX rfl ?_
      refine v_goto (tgt := 11) hX dX3_countWays_71 (by decide) ?_
      exact v_sub hX [2, 3, 4, 5, 0] (by rfl) (ih _ _ _ _ _ h)
noncomputable def gC_Paths_countWays_0 (N : Nat)  (a1 : Int32) (a2 : Int32) (a3 : Int32) (s : vSt) : Option (Int64 × vSt) :=
  (some ((s.1 9 7) - 1 : Int32)).bind fun v1 =>
  gC_Paths_countWays_11 N N a1 a2 a3 v1 s
set_option maxRecDepth 4000 in
theorem wC_Paths_countWays_0 {P : vP} {l : Launch} {ad : Nat → Nat} {N : Nat} {r : Int64} {t1 : vSt} (hX : vOK P l shC ad (vR 3 70) cX3_countWays RX3 6) (hR : (∀ pc lv, decode cX3_countWays pc = .ok (.lreturn, 1) → P t1 pc lv [.long r]))  {a1 : Int32} {a2 : Int32} {a3 : Int32} {s : vSt} (h : gC_Paths_countWays_0 N a1 a2 a3 s = some (r, t1)) : P s 0 [(0, .ref (ad 41)), (1, .int a1), (2, .int a2), (3, .int a3)] [] := by
  unfold gC_Paths_countWays_0 at h
  refine v_aload_n hX dX3_countWays_0 rfl 0 rfl ?_
  refine gfC_41_3 hX kf_3_25 dX3_countWays_1 ?_
  refine gfC_9_7 hX kf_3_35 dX3_countWays_4 ?_
  refine v_iconst (v := 1) hX dX3_countWays_7 (by decide) ?_
  refine v_isub hX dX3_countWays_8 ?_
  refine v_nmI hX h (fun v1 h => ?_)
  refine v_istore (lv' := [(4, .int v1), (0, .ref (ad 41)), (1, .int a1), (2, .int a2), (3, .int a3)]) hX dX3_countWays_9 (by decide) rfl ?_
  exact v_sub hX [1, 2, 3, 4, 0] (by rfl) (wC_Paths_countWays_11 hX hR  N _ _ _ _ _ h)
noncomputable def fC_Paths_countWays (N : Nat) (a1 : Int32) (a2 : Int32) (a3 : Int32) (s : vSt) : Option (Int64 × vSt) := gC_Paths_countWays_0 N a1 a2 a3 s
theorem mC_Paths_countWays {N : Nat} {a1 : Int32} {a2 : Int32} {a3 : Int32} {s : vSt} {r : Int64} {t1 : vSt} (h : fC_Paths_countWays N a1 a2 a3 s = some (r, t1)) (l : Launch) (ad : Nat → Nat) : vML l shC ad yX3_countWays cX3_countWays 6 3 70 s [.ref (ad 41), .int a1, .int a2, .int a3] r t1 :=
  vML_of (by decide +kernel) (Nat.le_of_ble_eq_true rfl) (fun P hX hR => wC_Paths_countWays_0 hX hR h)
-- C_EachAddsALine_ways
noncomputable def gC_EachAddsALine_ways_0 (N : Nat)  (a1 : Int32) (a2 : Int32) (a3 : Int32) (s : vSt) : Option (Int64 × vSt) :=
  (fC_EachAddsALine_isTrip N a1 a2 a3 s).bind fun p1 =>
  if p1.1 = 0 then
    some ((-1), p1.2)
  else
    (fC_Paths_countWays N a1 a2 a3 p1.2).bind fun p2 =>
    some (p2.1, p2.2)
set_option maxRecDepth 4000 in
theorem wC_EachAddsALine_ways_0 {P : vP} {l : Launch} {ad : Nat → Nat} {N : Nat} {r : Int64} {t1 : vSt} (hX : vOK P l shC ad (vR 4 95) cX11_ways RX11 4) (hR : (∀ pc lv, decode cX11_ways pc = .ok (.lreturn, 1) → P t1 pc lv [.long r]))  {a1 : Int32} {a2 : Int32} {a3 : Int32} {s : vSt} (h : gC_EachAddsALine_ways_0 N a1 a2 a3 s = some (r, t1)) : P s 0 [(0, .ref (ad 0)), (1, .int a1), (2, .int a2), (3, .int a3)] [] := by
  unfold gC_EachAddsALine_ways_0 at h
  refine v_aload_n hX dX11_ways_0 rfl 0 rfl ?_
  refine v_iload_n hX dX11_ways_1 rfl 1 rfl ?_
  refine v_iload_n hX dX11_ways_2 rfl 2 rfl ?_
  refine v_iload_n hX dX11_ways_3 rfl 3 rfl ?_
  obtain ⟨p1, hp1, h⟩ := bsome h
  refine v_callVI (o := 0) hX (mC_EachAddsALine_isTrip hp1 l ad) kM_X11_isTrip kV_X11_isTrip km_11_201 (by decide) (fun _ => rfl) rfl rfl rfl (Nat.le_of_ble_eq_true rfl) (by decide) dX11_ways_4 ?_
  refine v_if_eq (tgt := 23) hX dX11_ways_7 (by decide) h (fun h => ?_) (fun h => ?_)
  · refine v_ldc2 hX kc_11_229 dX11_ways_23 ?_
    exact v_retL hR h dX11_ways_26
  · refine v_aload_n hX dX11_ways_10 rfl 0 rfl ?_
    refine gfC_0_7 hX kf_11_69 dX11_ways_11 ?_
    refine v_iload_n hX dX11_ways_14 rfl 1 rfl ?_
    refine v_iload_n hX dX11_ways_15 rfl 2 rfl ?_
    refine v_iload_n hX dX11_ways_16 rfl 3 rfl ?_
    obtain ⟨p2, hp2, h⟩ := bsome h
    refine v_callVL (o := 41) hX (mC_Paths_countWays hp2 l ad) kM_X3_countWays kV_X3_countWays km_11_225 (by decide) (fun _ => rfl) rfl rfl rfl (Nat.le_of_ble_eq_true rfl) (by decide) dX11_ways_17 ?_
    refine v_goto (tgt := 26) hX dX11_ways_20 (by decide) ?_
    exact v_retL hR h dX11_ways_26
noncomputable def fC_EachAddsALine_ways (N : Nat) (a1 : Int32) (a2 : Int32) (a3 : Int32) (s : vSt) : Option (Int64 × vSt) := gC_EachAddsALine_ways_0 N a1 a2 a3 s
theorem mC_EachAddsALine_ways {N : Nat} {a1 : Int32} {a2 : Int32} {a3 : Int32} {s : vSt} {r : Int64} {t1 : vSt} (h : fC_EachAddsALine_ways N a1 a2 a3 s = some (r, t1)) (l : Launch) (ad : Nat → Nat) : vML l shC ad yX11_ways cX11_ways 4 4 95 s [.ref (ad 0), .int a1, .int a2, .int a3] r t1 :=
  vML_of (by decide +kernel) (Nat.le_of_ble_eq_true rfl) (fun P hX hR => wC_EachAddsALine_ways_0 hX hR h)
-- C_Paths_neededMeetings
noncomputable def gC_Paths_neededMeetings_66 (N : Nat) (r26 : Int32 → Int32 → Int32 → Int32 → Int32 → vSt → Option (Int32 × vSt)) (a1 : Int32) (a2 : Int32) (a3 : Int32) (a4 : Int32) (a5 : Int32) (s : vSt) : Option (Int32 × vSt) :=
  (some (a5 + 1 : Int32)).bind fun v1 =>
  r26 a1 a2 a3 a4 v1 s
set_option maxRecDepth 4000 in
theorem wC_Paths_neededMeetings_66 {P : vP} {l : Launch} {ad : Nat → Nat} {N : Nat} {r26 : Int32 → Int32 → Int32 → Int32 → Int32 → vSt → Option (Int32 × vSt)} {r : Int32} {t1 : vSt} (hX : vOK P l shC ad (vR 3 74) cX3_neededMeetings RX3 6) (hR : (∀ pc lv, narrow .int (.int r) = .int r → decode cX3_neededMeetings pc = .ok (.ireturn, 1) → P t1 pc lv [.int r])) (H26 : ∀ (a1 : Int32) (a2 : Int32) (a3 : Int32) (a4 : Int32) (a5 : Int32) (s : vSt), r26 a1 a2 a3 a4 a5 s = some (r, t1) → P s 26 [(0, .ref (ad 41)), (1, .int a1), (2, .int a2), (3, .int a3), (4, .int a4), (5, .int a5)] []) {a1 : Int32} {a2 : Int32} {a3 : Int32} {a4 : Int32} {a5 : Int32} {s : vSt} (h : gC_Paths_neededMeetings_66 N r26 a1 a2 a3 a4 a5 s = some (r, t1)) : P s 66 [(0, .ref (ad 41)), (1, .int a1), (2, .int a2), (3, .int a3), (4, .int a4), (5, .int a5)] [] := by
  unfold gC_Paths_neededMeetings_66 at h
  refine v_iincN hX dX3_neededMeetings_66 (j := 5) rfl (c := 1) (by decide) (by decide) h (fun v1 h => ?_)
  refine v_show (lv' := [(5, .int v1), (0, .ref (ad 41)), (1, .int a1), (2, .int a2), (3, .int a3), (4, .int a4)]) hX rfl ?_
  refine v_goto (tgt := 26) hX dX3_neededMeetings_69 (by decide) ?_
  exact v_sub hX [1, 2, 3, 4, 5, 0] (by rfl) (H26 _ _ _ _ _ _ h)
noncomputable def gC_Paths_neededMeetings_26 (N : Nat)  : Nat → Int32 → Int32 → Int32 → Int32 → Int32 → vSt → Option (Int32 × vSt)
  | 0, _, _, _, _, _, _ => none
  | n + 1, a1, a2, a3, a4, a5, s =>
    if (s.1 9 7) ≤ a5 then
      some (a4, s)
    else
      (fC_Paths_spread N a1 a3 0 a5 s).bind fun z1 =>
      (ld z1 42 9 a2).bind fun v2 =>
      if v2 = (-1) then
        (some (a4 ||| ((1 : Int32) <<< (a5 &&& 31)) : Int32)).bind fun v3 =>
        gC_Paths_neededMeetings_66 N (gC_Paths_neededMeetings_26 N n) a1 a2 a3 v3 a5 z1
      else
        gC_Paths_neededMeetings_66 N (gC_Paths_neededMeetings_26 N n) a1 a2 a3 a4 a5 z1
set_option maxRecDepth 4000 in
theorem wC_Paths_neededMeetings_26 {P : vP} {l : Launch} {ad : Nat → Nat} {N : Nat} {r : Int32} {t1 : vSt} (hX : vOK P l shC ad (vR 3 74) cX3_neededMeetings RX3 6) (hR : (∀ pc lv, narrow .int (.int r) = .int r → decode cX3_neededMeetings pc = .ok (.ireturn, 1) → P t1 pc lv [.int r]))  : ∀ (n : Nat) (a1 : Int32) (a2 : Int32) (a3 : Int32) (a4 : Int32) (a5 : Int32) (s : vSt), gC_Paths_neededMeetings_26 N n a1 a2 a3 a4 a5 s = some (r, t1) → P s 26 [(0, .ref (ad 41)), (1, .int a1), (2, .int a2), (3, .int a3), (4, .int a4), (5, .int a5)] [] := by
  intro n
  induction n with
  | zero => intro a1 a2 a3 a4 a5 s h; cases h
  | succ n ih =>
    intro a1 a2 a3 a4 a5 s h
    unfold gC_Paths_neededMeetings_26 at h
    refine v_iload hX dX3_neededMeetings_26 5 rfl ?_
    refine v_aload_n hX dX3_neededMeetings_28 rfl 0 rfl ?_
    refine gfC_41_3 hX kf_3_25 dX3_neededMeetings_29 ?_
    refine gfC_9_7 hX kf_3_35 dX3_neededMeetings_32 ?_
    refine v_icmp_ge (tgt := 72) hX dX3_neededMeetings_35 (by decide) h (fun h => ?_) (fun h => ?_)
    · refine v_iload hX dX3_neededMeetings_72 4 rfl ?_
      exact v_retI hR h dX3_neededMeetings_74
    · refine v_aload_n hX dX3_neededMeetings_38 rfl 0 rfl ?_
      refine v_iload_n hX dX3_neededMeetings_39 rfl 1 rfl ?_
      refine v_iload_n hX dX3_neededMeetings_40 rfl 3 rfl ?_
      refine v_iconst (v := 0) hX dX3_neededMeetings_41 (by decide) ?_
      refine v_iload hX dX3_neededMeetings_42 5 rfl ?_
      obtain ⟨z1, hz1, h⟩ := bsome h
      refine v_callVV (o := 41) hX (mC_Paths_spread hz1 l ad) kM_X3_spread kV_X3_spread km_3_132 (by decide) (fun _ => rfl) rfl rfl rfl (Nat.le_of_ble_eq_true rfl) (by decide) dX3_neededMeetings_44 ?_
      refine v_aload_n hX dX3_neededMeetings_47 rfl 0 rfl ?_
      refine gfC_41_0 hX kf_3_9 dX3_neededMeetings_48 ?_
      refine v_iload_n hX dX3_neededMeetings_51 rfl 2 rfl ?_
      refine alC_42 hX dX3_neededMeetings_52 h (fun v2 h => ?_)
      refine v_iconst (v := (-1)) hX dX3_neededMeetings_53 (by decide) ?_
      refine v_icmp_ne (tgt := 66) hX dX3_neededMeetings_54 (by decide) h (fun h => ?_) (fun h => ?_)
      · refine v_iload hX dX3_neededMeetings_57 4 rfl ?_
        refine v_iconst (v := 1) hX dX3_neededMeetings_59 (by decide) ?_
        refine v_iload hX dX3_neededMeetings_60 5 rfl ?_
        refine v_ishl hX dX3_neededMeetings_62 ?_
        refine v_ior hX dX3_neededMeetings_63 ?_
        refine v_nmI hX h (fun v3 h => ?_)
        refine v_istore (lv' := [(4, .int v3), (0, .ref (ad 41)), (1, .int a1), (2, .int a2), (3, .int a3), (5, .int a5)]) hX dX3_neededMeetings_64 (by decide) rfl ?_
        exact v_sub hX [1, 2, 3, 4, 0, 5] (by rfl) (wC_Paths_neededMeetings_66 hX hR ih h)
      · exact v_sub hX [0, 1, 2, 3, 4, 5] (by rfl) (wC_Paths_neededMeetings_66 hX hR ih h)
noncomputable def gC_Paths_neededMeetings_0 (N : Nat)  (a1 : Int32) (a2 : Int32) (a3 : Int32) (s : vSt) : Option (Int32 × vSt) :=
  (fC_Paths_spread N a1 a3 0 (-1) s).bind fun z1 =>
  (ld z1 42 9 a2).bind fun v2 =>
  if v2 = (-1) then
    some (0, z1)
  else
    gC_Paths_neededMeetings_26 N N a1 a2 a3 0 0 z1
set_option maxRecDepth 4000 in
theorem wC_Paths_neededMeetings_0 {P : vP} {l : Launch} {ad : Nat → Nat} {N : Nat} {r : Int32} {t1 : vSt} (hX : vOK P l shC ad (vR 3 74) cX3_neededMeetings RX3 6) (hR : (∀ pc lv, narrow .int (.int r) = .int r → decode cX3_neededMeetings pc = .ok (.ireturn, 1) → P t1 pc lv [.int r]))  {a1 : Int32} {a2 : Int32} {a3 : Int32} {s : vSt} (h : gC_Paths_neededMeetings_0 N a1 a2 a3 s = some (r, t1)) : P s 0 [(0, .ref (ad 41)), (1, .int a1), (2, .int a2), (3, .int a3)] [] := by
  unfold gC_Paths_neededMeetings_0 at h
  refine v_aload_n hX dX3_neededMeetings_0 rfl 0 rfl ?_
  refine v_iload_n hX dX3_neededMeetings_1 rfl 1 rfl ?_
  refine v_iload_n hX dX3_neededMeetings_2 rfl 3 rfl ?_
  refine v_iconst (v := 0) hX dX3_neededMeetings_3 (by decide) ?_
  refine v_iconst (v := (-1)) hX dX3_neededMeetings_4 (by decide) ?_
  obtain ⟨z1, hz1, h⟩ := bsome h
  refine v_callVV (o := 41) hX (mC_Paths_spread hz1 l ad) kM_X3_spread kV_X3_spread km_3_132 (by decide) (fun _ => rfl) rfl rfl rfl (Nat.le_of_ble_eq_true rfl) (by decide) dX3_neededMeetings_5 ?_
  refine v_aload_n hX dX3_neededMeetings_8 rfl 0 rfl ?_
  refine gfC_41_0 hX kf_3_9 dX3_neededMeetings_9 ?_
  refine v_iload_n hX dX3_neededMeetings_12 rfl 2 rfl ?_
  refine alC_42 hX dX3_neededMeetings_13 h (fun v2 h => ?_)
  refine v_iconst (v := (-1)) hX dX3_neededMeetings_14 (by decide) ?_
  refine v_icmp_ne (tgt := 20) hX dX3_neededMeetings_15 (by decide) h (fun h => ?_) (fun h => ?_)
  · refine v_iconst (v := 0) hX dX3_neededMeetings_18 (by decide) ?_
    exact v_retI hR h dX3_neededMeetings_19
  · refine v_iconst (v := 0) hX dX3_neededMeetings_20 (by decide) ?_
    refine v_istore (lv' := [(4, .int 0), (0, .ref (ad 41)), (1, .int a1), (2, .int a2), (3, .int a3)]) hX dX3_neededMeetings_21 (by decide) rfl ?_
    refine v_iconst (v := 0) hX dX3_neededMeetings_23 (by decide) ?_
    refine v_istore (lv' := [(5, .int 0), (4, .int 0), (0, .ref (ad 41)), (1, .int a1), (2, .int a2), (3, .int a3)]) hX dX3_neededMeetings_24 (by decide) rfl ?_
    exact v_sub hX [2, 3, 4, 5, 1, 0] (by rfl) (wC_Paths_neededMeetings_26 hX hR  N _ _ _ _ _ _ h)
noncomputable def fC_Paths_neededMeetings (N : Nat) (a1 : Int32) (a2 : Int32) (a3 : Int32) (s : vSt) : Option (Int32 × vSt) := gC_Paths_neededMeetings_0 N a1 a2 a3 s
theorem mC_Paths_neededMeetings {N : Nat} {a1 : Int32} {a2 : Int32} {a3 : Int32} {s : vSt} {r : Int32} {t1 : vSt} (h : fC_Paths_neededMeetings N a1 a2 a3 s = some (r, t1)) (l : Launch) (ad : Nat → Nat) : vMI l shC ad yX3_neededMeetings cX3_neededMeetings 6 .int 3 74 s [.ref (ad 41), .int a1, .int a2, .int a3] r t1 :=
  vMI_of (by decide +kernel) (Nat.le_of_ble_eq_true rfl) (fun P hX hR => wC_Paths_neededMeetings_0 hX hR h)
-- C_EachAddsALine_needs
noncomputable def gC_EachAddsALine_needs_0 (N : Nat)  (a1 : Int32) (a2 : Int32) (a3 : Int32) (s : vSt) : Option (Int32 × vSt) :=
  (fC_EachAddsALine_isTrip N a1 a2 a3 s).bind fun p1 =>
  if p1.1 = 0 then
    some ((-1), p1.2)
  else
    (fC_Paths_neededMeetings N a1 a2 a3 p1.2).bind fun p2 =>
    some (p2.1, p2.2)
set_option maxRecDepth 4000 in
theorem wC_EachAddsALine_needs_0 {P : vP} {l : Launch} {ad : Nat → Nat} {N : Nat} {r : Int32} {t1 : vSt} (hX : vOK P l shC ad (vR 4 99) cX11_needs RX11 4) (hR : (∀ pc lv, narrow .int (.int r) = .int r → decode cX11_needs pc = .ok (.ireturn, 1) → P t1 pc lv [.int r]))  {a1 : Int32} {a2 : Int32} {a3 : Int32} {s : vSt} (h : gC_EachAddsALine_needs_0 N a1 a2 a3 s = some (r, t1)) : P s 0 [(0, .ref (ad 0)), (1, .int a1), (2, .int a2), (3, .int a3)] [] := by
  unfold gC_EachAddsALine_needs_0 at h
  refine v_aload_n hX dX11_needs_0 rfl 0 rfl ?_
  refine v_iload_n hX dX11_needs_1 rfl 1 rfl ?_
  refine v_iload_n hX dX11_needs_2 rfl 2 rfl ?_
  refine v_iload_n hX dX11_needs_3 rfl 3 rfl ?_
  obtain ⟨p1, hp1, h⟩ := bsome h
  refine v_callVI (o := 0) hX (mC_EachAddsALine_isTrip hp1 l ad) kM_X11_isTrip kV_X11_isTrip km_11_201 (by decide) (fun _ => rfl) rfl rfl rfl (Nat.le_of_ble_eq_true rfl) (by decide) dX11_needs_4 ?_
  refine v_if_eq (tgt := 23) hX dX11_needs_7 (by decide) h (fun h => ?_) (fun h => ?_)
  · refine v_iconst (v := (-1)) hX dX11_needs_23 (by decide) ?_
    exact v_retI hR h dX11_needs_24
  · refine v_aload_n hX dX11_needs_10 rfl 0 rfl ?_
    refine gfC_0_7 hX kf_11_69 dX11_needs_11 ?_
    refine v_iload_n hX dX11_needs_14 rfl 1 rfl ?_
    refine v_iload_n hX dX11_needs_15 rfl 2 rfl ?_
    refine v_iload_n hX dX11_needs_16 rfl 3 rfl ?_
    obtain ⟨p2, hp2, h⟩ := bsome h
    refine v_callVI (o := 41) hX (mC_Paths_neededMeetings hp2 l ad) kM_X3_neededMeetings kV_X3_neededMeetings km_11_231 (by decide) (fun _ => rfl) rfl rfl rfl (Nat.le_of_ble_eq_true rfl) (by decide) dX11_needs_17 ?_
    refine v_goto (tgt := 24) hX dX11_needs_20 (by decide) ?_
    exact v_retI hR h dX11_needs_24
noncomputable def fC_EachAddsALine_needs (N : Nat) (a1 : Int32) (a2 : Int32) (a3 : Int32) (s : vSt) : Option (Int32 × vSt) := gC_EachAddsALine_needs_0 N a1 a2 a3 s
theorem mC_EachAddsALine_needs {N : Nat} {a1 : Int32} {a2 : Int32} {a3 : Int32} {s : vSt} {r : Int32} {t1 : vSt} (h : fC_EachAddsALine_needs N a1 a2 a3 s = some (r, t1)) (l : Launch) (ad : Nat → Nat) : vMI l shC ad yX11_needs cX11_needs 4 .int 4 99 s [.ref (ad 0), .int a1, .int a2, .int a3] r t1 :=
  vMI_of (by decide +kernel) (Nat.le_of_ble_eq_true rfl) (fun P hX hR => wC_EachAddsALine_needs_0 hX hR h)
-- C_Paths_idlePeople
noncomputable def gC_Paths_idlePeople_145 (N : Nat) (r29 : Int32 → Int32 → Int32 → Int32 → vSt → Option (Int32 × vSt)) (a1 : Int32) (a3 : Int32) (a4 : Int32) (a5 : Int32) (s : vSt) : Option (Int32 × vSt) :=
  (some (a5 + 1 : Int32)).bind fun v1 =>
  r29 a1 a3 a4 v1 s
set_option maxRecDepth 4000 in
theorem wC_Paths_idlePeople_145 {P : vP} {l : Launch} {ad : Nat → Nat} {N : Nat} {r29 : Int32 → Int32 → Int32 → Int32 → vSt → Option (Int32 × vSt)} {r : Int32} {t1 : vSt} (hX : vOK P l shC ad (vR 5 123) cX3_idlePeople RX3 10) (hR : (∀ pc lv, narrow .int (.int r) = .int r → decode cX3_idlePeople pc = .ok (.ireturn, 1) → P t1 pc lv [.int r])) (H29 : ∀ (a1 : Int32) (a3 : Int32) (a4 : Int32) (a5 : Int32) (s : vSt), r29 a1 a3 a4 a5 s = some (r, t1) → P s 29 [(0, .ref (ad 41)), (1, .int a1), (3, .int a3), (4, .int a4), (5, .int a5)] []) {a1 : Int32} {a3 : Int32} {a4 : Int32} {a5 : Int32} {s : vSt} (h : gC_Paths_idlePeople_145 N r29 a1 a3 a4 a5 s = some (r, t1)) : P s 145 [(0, .ref (ad 41)), (1, .int a1), (3, .int a3), (4, .int a4), (5, .int a5)] [] := by
  unfold gC_Paths_idlePeople_145 at h
  refine v_iincN hX dX3_idlePeople_145 (j := 4) rfl (c := 1) (by decide) (by decide) h (fun v1 h => ?_)
  refine v_show (lv' := [(5, .int v1), (0, .ref (ad 41)), (1, .int a1), (3, .int a3), (4, .int a4)]) hX rfl ?_
  refine v_goto (tgt := 29) hX dX3_idlePeople_148 (by decide) ?_
  exact v_sub hX [1, 2, 3, 4, 0] (by rfl) (H29 _ _ _ _ _ h)
noncomputable def gC_Paths_idlePeople_117 (N : Nat) (r29 : Int32 → Int32 → Int32 → Int32 → vSt → Option (Int32 × vSt)) (a1 : Int32) (a3 : Int32) (a4 : Int32) (a5 : Int32) (a7 : Int32) (k0 : Int32) (s : vSt) : Option (Int32 × vSt) :=
  if k0 = 0 then
    gC_Paths_idlePeople_145 N r29 a1 a3 a4 a5 s
  else
    (ld s 43 40 a5).bind fun v1 =>
    if v1 = 1048576 then
      gC_Paths_idlePeople_145 N r29 a1 a3 a4 a5 s
    else
      (some (a4 ||| ((1 : Int32) <<< (a7 &&& 31)) : Int32)).bind fun v2 =>
      gC_Paths_idlePeople_145 N r29 a1 a3 v2 a5 s
set_option maxRecDepth 4000 in
theorem wC_Paths_idlePeople_117 {P : vP} {l : Launch} {ad : Nat → Nat} {N : Nat} {r29 : Int32 → Int32 → Int32 → Int32 → vSt → Option (Int32 × vSt)} {r : Int32} {t1 : vSt} (hX : vOK P l shC ad (vR 5 123) cX3_idlePeople RX3 10) (hR : (∀ pc lv, narrow .int (.int r) = .int r → decode cX3_idlePeople pc = .ok (.ireturn, 1) → P t1 pc lv [.int r])) (H29 : ∀ (a1 : Int32) (a3 : Int32) (a4 : Int32) (a5 : Int32) (s : vSt), r29 a1 a3 a4 a5 s = some (r, t1) → P s 29 [(0, .ref (ad 41)), (1, .int a1), (3, .int a3), (4, .int a4), (5, .int a5)] []) {a1 : Int32} {a3 : Int32} {a4 : Int32} {a5 : Int32} {a7 : Int32} {k0 : Int32} {s : vSt} (h : gC_Paths_idlePeople_117 N r29 a1 a3 a4 a5 a7 k0 s = some (r, t1)) : P s 117 [(0, .ref (ad 41)), (1, .int a1), (3, .int a3), (4, .int a4), (5, .int a5), (7, .int a7)] [.int k0] := by
  unfold gC_Paths_idlePeople_117 at h
  refine v_istore (lv' := [(9, .int k0), (0, .ref (ad 41)), (1, .int a1), (3, .int a3), (4, .int a4), (5, .int a5), (7, .int a7)]) hX dX3_idlePeople_117 (by decide) rfl ?_
  refine v_iload hX dX3_idlePeople_119 0 rfl ?_
  refine v_if_eq (tgt := 145) hX dX3_idlePeople_121 (by decide) h (fun h => ?_) (fun h => ?_)
  · exact v_sub hX [1, 2, 3, 4, 5] (by rfl) (wC_Paths_idlePeople_145 hX hR H29 h)
  · refine v_aload_n hX dX3_idlePeople_124 rfl 1 rfl ?_
    refine gfC_41_4 hX kf_3_15 dX3_idlePeople_125 ?_
    refine v_iload hX dX3_idlePeople_128 5 rfl ?_
    refine alC_43 hX dX3_idlePeople_130 h (fun v1 h => ?_)
    refine v_ldc hX kc_3_76 dX3_idlePeople_131 ?_
    refine v_icmp_eq (tgt := 145) hX dX3_idlePeople_133 (by decide) h (fun h => ?_) (fun h => ?_)
    · exact v_sub hX [1, 2, 3, 4, 5] (by rfl) (wC_Paths_idlePeople_145 hX hR H29 h)
    · refine v_iload hX dX3_idlePeople_136 4 rfl ?_
      refine v_iconst (v := 1) hX dX3_idlePeople_138 (by decide) ?_
      refine v_iload hX dX3_idlePeople_139 6 rfl ?_
      refine v_ishl hX dX3_idlePeople_141 ?_
      refine v_ior hX dX3_idlePeople_142 ?_
      refine v_nmI hX h (fun v2 h => ?_)
      refine v_istore (lv' := [(4, .int v2), (9, .int k0), (0, .ref (ad 41)), (1, .int a1), (3, .int a3), (5, .int a5), (7, .int a7)]) hX dX3_idlePeople_143 (by decide) rfl ?_
      exact v_sub hX [2, 3, 4, 0, 5] (by rfl) (wC_Paths_idlePeople_145 hX hR H29 h)
noncomputable def gC_Paths_idlePeople_29 (N : Nat)  : Nat → Int32 → Int32 → Int32 → Int32 → vSt → Option (Int32 × vSt)
  | 0, _, _, _, _, _ => none
  | n + 1, a1, a3, a4, a5, s =>
    if ((2 : Int32) * (s.1 9 7)) ≤ a5 then
      (fC_Roads_everybody N s).bind fun p1 =>
      some (p1.1 &&& (a4 ^^^ (-1)), p1.2)
    else
      (some (a5 >>> (1 &&& 31) : Int32)).bind fun v2 =>
      (fC_Roads_getterAt N a5 s).bind fun p3 =>
      (fC_Roads_otherAt N v2 p3.1 p3.2).bind fun p4 =>
      if p4.1 = a1 then
        (ld p4.2 13 20 v2).bind fun v5 =>
        if v5 < a3 then
          gC_Paths_idlePeople_117 N (gC_Paths_idlePeople_29 N n) a1 a3 a4 a5 p3.1 0 p4.2
        else
          gC_Paths_idlePeople_117 N (gC_Paths_idlePeople_29 N n) a1 a3 a4 a5 p3.1 1 p4.2
      else
        (ld p4.2 13 20 v2).bind fun v6 =>
        (fC_Paths_hasRead N p4.1 v6 p4.2).bind fun p7 =>
        gC_Paths_idlePeople_117 N (gC_Paths_idlePeople_29 N n) a1 a3 a4 a5 p3.1 p7.1 p7.2
set_option maxRecDepth 4000 in
theorem wC_Paths_idlePeople_29 {P : vP} {l : Launch} {ad : Nat → Nat} {N : Nat} {r : Int32} {t1 : vSt} (hX : vOK P l shC ad (vR 5 123) cX3_idlePeople RX3 10) (hR : (∀ pc lv, narrow .int (.int r) = .int r → decode cX3_idlePeople pc = .ok (.ireturn, 1) → P t1 pc lv [.int r]))  : ∀ (n : Nat) (a1 : Int32) (a3 : Int32) (a4 : Int32) (a5 : Int32) (s : vSt), gC_Paths_idlePeople_29 N n a1 a3 a4 a5 s = some (r, t1) → P s 29 [(0, .ref (ad 41)), (1, .int a1), (3, .int a3), (4, .int a4), (5, .int a5)] [] := by
  intro n
  induction n with
  | zero => intro a1 a3 a4 a5 s h; cases h
  | succ n ih =>
    intro a1 a3 a4 a5 s h
    unfold gC_Paths_idlePeople_29 at h
    refine v_iload hX dX3_idlePeople_29 4 rfl ?_
    refine v_iconst (v := 2) hX dX3_idlePeople_31 (by decide) ?_
    refine v_aload_n hX dX3_idlePeople_32 rfl 0 rfl ?_
    refine gfC_41_3 hX kf_3_25 dX3_idlePeople_33 ?_
    refine gfC_9_7 hX kf_3_35 dX3_idlePeople_36 ?_
    refine v_imul hX dX3_idlePeople_39 ?_
    refine v_icmp_ge (tgt := 151) hX dX3_idlePeople_40 (by decide) h (fun h => ?_) (fun h => ?_)
    · refine v_aload_n hX dX3_idlePeople_151 rfl 0 rfl ?_
      refine gfC_41_3 hX kf_3_25 dX3_idlePeople_152 ?_
      obtain ⟨p1, hp1, h⟩ := bsome h
      refine v_callVI (o := 9) hX (mC_Roads_everybody hp1 l ad) kM_X6_everybody kV_X6_everybody km_3_135 (by decide) (fun _ => rfl) rfl rfl rfl (Nat.le_of_ble_eq_true rfl) (by decide) dX3_idlePeople_155 ?_
      refine v_iload hX dX3_idlePeople_158 3 rfl ?_
      refine v_iconst (v := (-1)) hX dX3_idlePeople_160 (by decide) ?_
      refine v_ixor hX dX3_idlePeople_161 ?_
      refine v_iand hX dX3_idlePeople_162 ?_
      exact v_retI hR h dX3_idlePeople_163
    · refine v_iload hX dX3_idlePeople_43 4 rfl ?_
      refine v_iconst (v := 1) hX dX3_idlePeople_45 (by decide) ?_
      refine v_ishr hX dX3_idlePeople_46 ?_
      refine v_nmI hX h (fun v2 h => ?_)
      refine v_istore (lv' := [(6, .int v2), (0, .ref (ad 41)), (1, .int a1), (3, .int a3), (4, .int a4), (5, .int a5)]) hX dX3_idlePeople_47 (by decide) rfl ?_
      refine v_aload_n hX dX3_idlePeople_49 rfl 1 rfl ?_
      refine gfC_41_3 hX kf_3_25 dX3_idlePeople_50 ?_
      refine v_iload hX dX3_idlePeople_53 5 rfl ?_
      obtain ⟨p3, hp3, h⟩ := bsome h
      refine v_callVI (o := 9) hX (mC_Roads_getterAt hp3 l ad) kM_X6_getterAt kV_X6_getterAt km_3_72 (by decide) (fun _ => rfl) rfl rfl rfl (Nat.le_of_ble_eq_true rfl) (by decide) dX3_idlePeople_55 ?_
      refine v_istore (lv' := [(7, .int p3.1), (6, .int v2), (0, .ref (ad 41)), (1, .int a1), (3, .int a3), (4, .int a4), (5, .int a5)]) hX dX3_idlePeople_58 (by decide) rfl ?_
      refine v_aload_n hX dX3_idlePeople_60 rfl 2 rfl ?_
      refine gfC_41_3 hX kf_3_25 dX3_idlePeople_61 ?_
      refine v_iload hX dX3_idlePeople_64 1 rfl ?_
      refine v_iload hX dX3_idlePeople_66 0 rfl ?_
      obtain ⟨p4, hp4, h⟩ := bsome h
      refine v_callVI (o := 9) hX (mC_Roads_otherAt hp4 l ad) kM_X6_otherAt kV_X6_otherAt km_3_54 (by decide) (fun _ => rfl) rfl rfl rfl (Nat.le_of_ble_eq_true rfl) (by decide) dX3_idlePeople_68 ?_
      refine v_istore (lv' := [(8, .int p4.1), (7, .int p3.1), (6, .int v2), (0, .ref (ad 41)), (1, .int a1), (3, .int a3), (4, .int a4), (5, .int a5)]) hX dX3_idlePeople_71 (by decide) rfl ?_
      refine v_iload hX dX3_idlePeople_73 0 rfl ?_
      refine v_iload_n hX dX3_idlePeople_75 rfl 4 rfl ?_
      refine v_icmp_ne (tgt := 101) hX dX3_idlePeople_76 (by decide) h (fun h => ?_) (fun h => ?_)
      · refine v_aload_n hX dX3_idlePeople_79 rfl 3 rfl ?_
        refine gfC_41_3 hX kf_3_25 dX3_idlePeople_80 ?_
        refine gfC_9_3 hX kf_3_41 dX3_idlePeople_83 ?_
        refine v_iload hX dX3_idlePeople_86 2 rfl ?_
        refine alC_13 hX dX3_idlePeople_88 h (fun v5 h => ?_)
        refine v_iload_n hX dX3_idlePeople_89 rfl 5 rfl ?_
        refine v_icmp_lt (tgt := 97) hX dX3_idlePeople_90 (by decide) h (fun h => ?_) (fun h => ?_)
        · refine v_iconst (v := 0) hX dX3_idlePeople_97 (by decide) ?_
          refine v_goto (tgt := 117) hX dX3_idlePeople_98 (by decide) ?_
          exact v_sub hX [3, 4, 5, 6, 7, 1] (by rfl) (wC_Paths_idlePeople_117 hX hR ih h)
        · refine v_iconst (v := 1) hX dX3_idlePeople_93 (by decide) ?_
          refine v_goto (tgt := 117) hX dX3_idlePeople_94 (by decide) ?_
          exact v_sub hX [3, 4, 5, 6, 7, 1] (by rfl) (wC_Paths_idlePeople_117 hX hR ih h)
      · refine v_aload_n hX dX3_idlePeople_101 rfl 3 rfl ?_
        refine v_iload hX dX3_idlePeople_102 0 rfl ?_
        refine v_aload_n hX dX3_idlePeople_104 rfl 3 rfl ?_
        refine gfC_41_3 hX kf_3_25 dX3_idlePeople_105 ?_
        refine gfC_9_3 hX kf_3_41 dX3_idlePeople_108 ?_
        refine v_iload hX dX3_idlePeople_111 2 rfl ?_
        refine alC_13 hX dX3_idlePeople_113 h (fun v6 h => ?_)
        obtain ⟨p7, hp7, h⟩ := bsome h
        refine v_callVI (o := 41) hX (mC_Paths_hasRead hp7 l ad) kM_X3_hasRead kV_X3_hasRead km_3_58 (by decide) (fun _ => rfl) rfl rfl rfl (Nat.le_of_ble_eq_true rfl) (by decide) dX3_idlePeople_114 ?_
        exact v_sub hX [3, 4, 5, 6, 7, 1] (by rfl) (wC_Paths_idlePeople_117 hX hR ih h)
noncomputable def gC_Paths_idlePeople_0 (N : Nat)  (a1 : Int32) (a2 : Int32) (a3 : Int32) (s : vSt) : Option (Int32 × vSt) :=
  (fC_Paths_aim N a2 99 0 0 s).bind fun z1 =>
  (fC_Paths_spread N a1 a3 0 (-1) z1).bind fun z2 =>
  (some (((1 : Int32) <<< (a1 &&& 31)) ||| ((1 : Int32) <<< (a2 &&& 31)) : Int32)).bind fun v3 =>
  gC_Paths_idlePeople_29 N N a1 a3 v3 0 z2
set_option maxRecDepth 4000 in
theorem wC_Paths_idlePeople_0 {P : vP} {l : Launch} {ad : Nat → Nat} {N : Nat} {r : Int32} {t1 : vSt} (hX : vOK P l shC ad (vR 5 123) cX3_idlePeople RX3 10) (hR : (∀ pc lv, narrow .int (.int r) = .int r → decode cX3_idlePeople pc = .ok (.ireturn, 1) → P t1 pc lv [.int r]))  {a1 : Int32} {a2 : Int32} {a3 : Int32} {s : vSt} (h : gC_Paths_idlePeople_0 N a1 a2 a3 s = some (r, t1)) : P s 0 [(0, .ref (ad 41)), (1, .int a1), (2, .int a2), (3, .int a3)] [] := by
  unfold gC_Paths_idlePeople_0 at h
  refine v_aload_n hX dX3_idlePeople_0 rfl 0 rfl ?_
  refine v_iload_n hX dX3_idlePeople_1 rfl 2 rfl ?_
  refine v_bipush (v := 99) hX dX3_idlePeople_2 (by decide) ?_
  refine v_iconst (v := 0) hX dX3_idlePeople_4 (by decide) ?_
  refine v_iconst (v := 0) hX dX3_idlePeople_5 (by decide) ?_
  obtain ⟨z1, hz1, h⟩ := bsome h
  refine v_callVV (o := 41) hX (mC_Paths_aim hz1 l ad) kM_X3_aim kV_X3_aim km_3_119 (by decide) (fun _ => rfl) rfl rfl rfl (Nat.le_of_ble_eq_true rfl) (by decide) dX3_idlePeople_6 ?_
  refine v_aload_n hX dX3_idlePeople_9 rfl 0 rfl ?_
  refine v_iload_n hX dX3_idlePeople_10 rfl 1 rfl ?_
  refine v_iload_n hX dX3_idlePeople_11 rfl 3 rfl ?_
  refine v_iconst (v := 0) hX dX3_idlePeople_12 (by decide) ?_
  refine v_iconst (v := (-1)) hX dX3_idlePeople_13 (by decide) ?_
  obtain ⟨z2, hz2, h⟩ := bsome h
  refine v_callVV (o := 41) hX (mC_Paths_spread hz2 l ad) kM_X3_spread kV_X3_spread km_3_132 (by decide) (fun _ => rfl) rfl rfl rfl (Nat.le_of_ble_eq_true rfl) (by decide) dX3_idlePeople_14 ?_
  refine v_iconst (v := 1) hX dX3_idlePeople_17 (by decide) ?_
  refine v_iload_n hX dX3_idlePeople_18 rfl 1 rfl ?_
  refine v_ishl hX dX3_idlePeople_19 ?_
  refine v_iconst (v := 1) hX dX3_idlePeople_20 (by decide) ?_
  refine v_iload_n hX dX3_idlePeople_21 rfl 2 rfl ?_
  refine v_ishl hX dX3_idlePeople_22 ?_
  refine v_ior hX dX3_idlePeople_23 ?_
  refine v_nmI hX h (fun v3 h => ?_)
  refine v_istore (lv' := [(4, .int v3), (0, .ref (ad 41)), (1, .int a1), (2, .int a2), (3, .int a3)]) hX dX3_idlePeople_24 (by decide) rfl ?_
  refine v_iconst (v := 0) hX dX3_idlePeople_26 (by decide) ?_
  refine v_istore (lv' := [(5, .int 0), (4, .int v3), (0, .ref (ad 41)), (1, .int a1), (2, .int a2), (3, .int a3)]) hX dX3_idlePeople_27 (by decide) rfl ?_
  exact v_sub hX [2, 3, 5, 1, 0] (by rfl) (wC_Paths_idlePeople_29 hX hR  N _ _ _ _ _ h)
noncomputable def fC_Paths_idlePeople (N : Nat) (a1 : Int32) (a2 : Int32) (a3 : Int32) (s : vSt) : Option (Int32 × vSt) := gC_Paths_idlePeople_0 N a1 a2 a3 s
theorem mC_Paths_idlePeople {N : Nat} {a1 : Int32} {a2 : Int32} {a3 : Int32} {s : vSt} {r : Int32} {t1 : vSt} (h : fC_Paths_idlePeople N a1 a2 a3 s = some (r, t1)) (l : Launch) (ad : Nat → Nat) : vMI l shC ad yX3_idlePeople cX3_idlePeople 10 .int 5 123 s [.ref (ad 41), .int a1, .int a2, .int a3] r t1 :=
  vMI_of (by decide +kernel) (Nat.le_of_ble_eq_true rfl) (fun P hX hR => wC_Paths_idlePeople_0 hX hR h)
