-- M_EachAddsALineModel_thrown
noncomputable def gM_EachAddsALineModel_thrown_0 (N : Nat)   (s : vSt) : Option (Int32 × vSt) :=
  some (s.1 0 11, s)
set_option maxRecDepth 4000 in
theorem wM_EachAddsALineModel_thrown_0 {P : vP} {l : Launch} {ad : Nat → Nat} {N : Nat} {r : Int32} {t1 : vSt} (hX : vOK P l shM ad (vR 0 0) cX12_thrown RX12 1) (hR : (∀ pc lv, narrow .int (.int r) = .int r → decode cX12_thrown pc = .ok (.ireturn, 1) → P t1 pc lv [.int r]))   {s : vSt} (h : gM_EachAddsALineModel_thrown_0 N s = some (r, t1)) : P s 0 [(0, .ref (ad 0))] [] := by
  unfold gM_EachAddsALineModel_thrown_0 at h
  refine v_aload_n hX dX12_thrown_0 rfl 0 rfl ?_
  refine gfM_0_11 hX kf_12_96 dX12_thrown_1 ?_
  exact v_retI hR h dX12_thrown_4
noncomputable def fM_EachAddsALineModel_thrown (N : Nat)  (s : vSt) : Option (Int32 × vSt) := gM_EachAddsALineModel_thrown_0 N s
theorem mM_EachAddsALineModel_thrown {N : Nat}  {s : vSt} {r : Int32} {t1 : vSt} (h : fM_EachAddsALineModel_thrown N s = some (r, t1)) (l : Launch) (ad : Nat → Nat) : vMI l shM ad yX12_thrown cX12_thrown 1 .int 0 0 s [.ref (ad 0)] r t1 :=
  vMI_of (by decide +kernel) (Nat.le_of_ble_eq_true rfl) (fun P hX hR => wM_EachAddsALineModel_thrown_0 hX hR h)
-- M_EachAddsALineModel_sign
noncomputable def gM_EachAddsALineModel_sign_20 (N : Nat)  : Nat → Int32 → Int32 → vSt → Option (Int32 × vSt)
  | 0, _, _, _ => none
  | n + 1, a1, a2, s =>
    if a2 < 0 then
      some (s.1 0 8, s)
    else
      (some (s1 s 0 8 ((s.1 0 8) + 1))).bind fun z1 =>
      (sto z1 6 80 (s.1 0 8) (vp_nar .byte ((a1 >>> (((8 : Int32) * a2) &&& 31) : Int32).toInt8.toInt32))).bind fun z2 =>
      (some (a2 + (-1) : Int32)).bind fun v3 =>
      gM_EachAddsALineModel_sign_20 N n a1 v3 z2
set_option maxRecDepth 4000 in
theorem wM_EachAddsALineModel_sign_20 {P : vP} {l : Launch} {ad : Nat → Nat} {N : Nat} {r : Int32} {t1 : vSt} (hX : vOK P l shM ad (vR 0 0) cX12_sign RX12 3) (hR : (∀ pc lv, narrow .int (.int r) = .int r → decode cX12_sign pc = .ok (.ireturn, 1) → P t1 pc lv [.int r]))  : ∀ (n : Nat) (a1 : Int32) (a2 : Int32) (s : vSt), gM_EachAddsALineModel_sign_20 N n a1 a2 s = some (r, t1) → P s 20 [(0, .ref (ad 0)), (1, .int a1), (2, .int a2)] [] := by
  intro n
  induction n with
  | zero => intro a1 a2 s h; cases h
  | succ n ih =>
    intro a1 a2 s h
    unfold gM_EachAddsALineModel_sign_20 at h
    refine v_iload_n hX dX12_sign_20 rfl 2 rfl ?_
    refine v_if_lt (tgt := 53) hX dX12_sign_21 (by decide) h (fun h => ?_) (fun h => ?_)
    · refine v_aload_n hX dX12_sign_53 rfl 0 rfl ?_
      refine gfM_0_8 hX kf_12_112 dX12_sign_54 ?_
      exact v_retI hR h dX12_sign_57
    · refine v_aload_n hX dX12_sign_24 rfl 0 rfl ?_
      refine gfM_0_7 hX kf_12_25 dX12_sign_25 ?_
      refine v_aload_n hX dX12_sign_28 rfl 0 rfl ?_
      refine v_dup hX dX12_sign_29 rfl ?_
      refine gfM_0_8 hX kf_12_112 dX12_sign_30 ?_
      refine v_dup_x1 hX dX12_sign_33 rfl rfl ?_
      refine v_iconst (v := 1) hX dX12_sign_34 (by decide) ?_
      refine v_iadd hX dX12_sign_35 ?_
      refine pfM_0_8 hX kf_12_112 dX12_sign_36 h (fun z1 h => ?_)
      refine v_iload_n hX dX12_sign_39 rfl 1 rfl ?_
      refine v_bipush (v := 8) hX dX12_sign_40 (by decide) ?_
      refine v_iload_n hX dX12_sign_42 rfl 2 rfl ?_
      refine v_imul hX dX12_sign_43 ?_
      refine v_ishr hX dX12_sign_44 ?_
      refine v_i2b hX dX12_sign_45 ?_
      refine asM_6 hX dX12_sign_46 h (fun z2 h => ?_)
      refine v_iincN hX dX12_sign_47 (j := 2) rfl (c := (-1)) (by decide) (by decide) h (fun v3 h => ?_)
      refine v_show (lv' := [(2, .int v3), (0, .ref (ad 0)), (1, .int a1)]) hX rfl ?_
      refine v_goto (tgt := 20) hX dX12_sign_50 (by decide) ?_
      exact v_sub hX [1, 2, 0] (by rfl) (ih _ _ _ h)
noncomputable def gM_EachAddsALineModel_sign_0 (N : Nat)  (a1 : Int32) (s : vSt) : Option (Int32 × vSt) :=
  (some (s1 s 0 11 0)).bind fun z1 =>
  if ((z1.1 0 8) + 4) ≤ 80 then
    gM_EachAddsALineModel_sign_20 N N a1 3 z1
  else
    some ((-1), z1)
set_option maxRecDepth 4000 in
theorem wM_EachAddsALineModel_sign_0 {P : vP} {l : Launch} {ad : Nat → Nat} {N : Nat} {r : Int32} {t1 : vSt} (hX : vOK P l shM ad (vR 0 0) cX12_sign RX12 3) (hR : (∀ pc lv, narrow .int (.int r) = .int r → decode cX12_sign pc = .ok (.ireturn, 1) → P t1 pc lv [.int r]))  {a1 : Int32} {s : vSt} (h : gM_EachAddsALineModel_sign_0 N a1 s = some (r, t1)) : P s 0 [(0, .ref (ad 0)), (1, .int a1)] [] := by
  unfold gM_EachAddsALineModel_sign_0 at h
  refine v_aload_n hX dX12_sign_0 rfl 0 rfl ?_
  refine v_iconst (v := 0) hX dX12_sign_1 (by decide) ?_
  refine pfM_0_11 hX kf_12_96 dX12_sign_2 h (fun z1 h => ?_)
  refine v_aload_n hX dX12_sign_5 rfl 0 rfl ?_
  refine gfM_0_8 hX kf_12_112 dX12_sign_6 ?_
  refine v_iconst (v := 4) hX dX12_sign_9 (by decide) ?_
  refine v_iadd hX dX12_sign_10 ?_
  refine v_bipush (v := 80) hX dX12_sign_11 (by decide) ?_
  refine v_icmp_le (tgt := 18) hX dX12_sign_13 (by decide) h (fun h => ?_) (fun h => ?_)
  · refine v_iconst (v := 3) hX dX12_sign_18 (by decide) ?_
    refine v_istore_n (lv' := [(2, .int 3), (0, .ref (ad 0)), (1, .int a1)]) hX dX12_sign_19 rfl (by decide) rfl ?_
    exact v_sub hX [1, 2, 0] (by rfl) (wM_EachAddsALineModel_sign_20 hX hR  N _ _ _ h)
  · refine v_iconst (v := (-1)) hX dX12_sign_16 (by decide) ?_
    exact v_retI hR h dX12_sign_17
noncomputable def fM_EachAddsALineModel_sign (N : Nat) (a1 : Int32) (s : vSt) : Option (Int32 × vSt) := gM_EachAddsALineModel_sign_0 N a1 s
theorem mM_EachAddsALineModel_sign {N : Nat} {a1 : Int32} {s : vSt} {r : Int32} {t1 : vSt} (h : fM_EachAddsALineModel_sign N a1 s = some (r, t1)) (l : Launch) (ad : Nat → Nat) : vMI l shM ad yX12_sign cX12_sign 3 .int 0 0 s [.ref (ad 0), .int a1] r t1 :=
  vMI_of (by decide +kernel) (Nat.le_of_ble_eq_true rfl) (fun P hX hR => wM_EachAddsALineModel_sign_0 hX hR h)
-- M_EachAddsALineModel_in
noncomputable def gM_EachAddsALineModel_in_14 (N : Nat)   (s : vSt) : Option (Int32 × vSt) :=
  some (0, s)
set_option maxRecDepth 4000 in
theorem wM_EachAddsALineModel_in_14 {P : vP} {l : Launch} {ad : Nat → Nat} {N : Nat} {r : Int32} {t1 : vSt} (hX : vOK P l shM ad (vR 0 0) cX12_in RX12 3) (hR : (∀ pc lv, narrow .boolean (.int r) = .int r → decode cX12_in pc = .ok (.ireturn, 1) → P t1 pc lv [.int r]))   {s : vSt} (h : gM_EachAddsALineModel_in_14 N s = some (r, t1)) : P s 14 [] [] := by
  unfold gM_EachAddsALineModel_in_14 at h
  refine v_iconst (v := 0) hX dX12_in_14 (by decide) ?_
  exact v_retZ0 hR h dX12_in_15
noncomputable def gM_EachAddsALineModel_in_0 (N : Nat)  (a0 : Int32) (a1 : Int32) (a2 : Int32) (s : vSt) : Option (Int32 × vSt) :=
  if a0 < a1 then
    gM_EachAddsALineModel_in_14 N s
  else
    if a2 < a0 then
      gM_EachAddsALineModel_in_14 N s
    else
      some (1, s)
set_option maxRecDepth 4000 in
theorem wM_EachAddsALineModel_in_0 {P : vP} {l : Launch} {ad : Nat → Nat} {N : Nat} {r : Int32} {t1 : vSt} (hX : vOK P l shM ad (vR 0 0) cX12_in RX12 3) (hR : (∀ pc lv, narrow .boolean (.int r) = .int r → decode cX12_in pc = .ok (.ireturn, 1) → P t1 pc lv [.int r]))  {a0 : Int32} {a1 : Int32} {a2 : Int32} {s : vSt} (h : gM_EachAddsALineModel_in_0 N a0 a1 a2 s = some (r, t1)) : P s 0 [(0, .int a0), (1, .int a1), (2, .int a2)] [] := by
  unfold gM_EachAddsALineModel_in_0 at h
  refine v_iload_n hX dX12_in_0 rfl 0 rfl ?_
  refine v_iload_n hX dX12_in_1 rfl 1 rfl ?_
  refine v_icmp_lt (tgt := 14) hX dX12_in_2 (by decide) h (fun h => ?_) (fun h => ?_)
  · exact v_sub hX [] (by rfl) (wM_EachAddsALineModel_in_14 hX hR  h)
  · refine v_iload_n hX dX12_in_5 rfl 0 rfl ?_
    refine v_iload_n hX dX12_in_6 rfl 2 rfl ?_
    refine v_icmp_gt (tgt := 14) hX dX12_in_7 (by decide) h (fun h => ?_) (fun h => ?_)
    · exact v_sub hX [] (by rfl) (wM_EachAddsALineModel_in_14 hX hR  h)
    · refine v_iconst (v := 1) hX dX12_in_10 (by decide) ?_
      refine v_goto (tgt := 15) hX dX12_in_11 (by decide) ?_
      exact v_retZ1 hR h dX12_in_15
noncomputable def fM_EachAddsALineModel_in (N : Nat) (a0 : Int32) (a1 : Int32) (a2 : Int32) (s : vSt) : Option (Int32 × vSt) := gM_EachAddsALineModel_in_0 N a0 a1 a2 s
theorem mM_EachAddsALineModel_in {N : Nat} {a0 : Int32} {a1 : Int32} {a2 : Int32} {s : vSt} {r : Int32} {t1 : vSt} (h : fM_EachAddsALineModel_in N a0 a1 a2 s = some (r, t1)) (l : Launch) (ad : Nat → Nat) : vMI l shM ad yX12_in cX12_in 3 .boolean 0 0 s [.int a0, .int a1, .int a2] r t1 :=
  vMI_of (by decide +kernel) (Nat.le_of_ble_eq_true rfl) (fun P hX hR => wM_EachAddsALineModel_in_0 hX hR h)
-- M_EachAddsALineModel_end
noncomputable def gM_EachAddsALineModel_end_0 (N : Nat)  (a1 : Int32) (s : vSt) : Option (Int32 × vSt) :=
  (some (s1 s 0 11 0)).bind fun z1 =>
  (fM_EachAddsALineModel_in N a1 0 (z1.1 0 8) z1).bind fun p2 =>
  if p2.1 = 0 then
    some (0, p2.2)
  else
    (some (s1 p2.2 0 8 a1)).bind fun z3 =>
    some (1, z3)
set_option maxRecDepth 4000 in
theorem wM_EachAddsALineModel_end_0 {P : vP} {l : Launch} {ad : Nat → Nat} {N : Nat} {r : Int32} {t1 : vSt} (hX : vOK P l shM ad (vR 1 22) cX12_end RX12 2) (hR : (∀ pc lv, narrow .boolean (.int r) = .int r → decode cX12_end pc = .ok (.ireturn, 1) → P t1 pc lv [.int r]))  {a1 : Int32} {s : vSt} (h : gM_EachAddsALineModel_end_0 N a1 s = some (r, t1)) : P s 0 [(0, .ref (ad 0)), (1, .int a1)] [] := by
  unfold gM_EachAddsALineModel_end_0 at h
  refine v_aload_n hX dX12_end_0 rfl 0 rfl ?_
  refine v_iconst (v := 0) hX dX12_end_1 (by decide) ?_
  refine pfM_0_11 hX kf_12_96 dX12_end_2 h (fun z1 h => ?_)
  refine v_iload_n hX dX12_end_5 rfl 1 rfl ?_
  refine v_iconst (v := 0) hX dX12_end_6 (by decide) ?_
  refine v_aload_n hX dX12_end_7 rfl 0 rfl ?_
  refine gfM_0_8 hX kf_12_112 dX12_end_8 ?_
  obtain ⟨p2, hp2, h⟩ := bsome h
  refine v_callSI hX (mM_EachAddsALineModel_in hp2 l ad) kM_X12_in kS_X12_in km_12_105 rfl rfl (Nat.le_of_ble_eq_true rfl) (by decide) dX12_end_11 ?_
  refine v_if_ne (tgt := 19) hX dX12_end_14 (by decide) h (fun h => ?_) (fun h => ?_)
  · refine v_iconst (v := 0) hX dX12_end_17 (by decide) ?_
    exact v_retZ0 hR h dX12_end_18
  · refine v_aload_n hX dX12_end_19 rfl 0 rfl ?_
    refine v_iload_n hX dX12_end_20 rfl 1 rfl ?_
    refine pfM_0_8 hX kf_12_112 dX12_end_21 h (fun z3 h => ?_)
    refine v_iconst (v := 1) hX dX12_end_24 (by decide) ?_
    exact v_retZ1 hR h dX12_end_25
noncomputable def fM_EachAddsALineModel_end (N : Nat) (a1 : Int32) (s : vSt) : Option (Int32 × vSt) := gM_EachAddsALineModel_end_0 N a1 s
theorem mM_EachAddsALineModel_end {N : Nat} {a1 : Int32} {s : vSt} {r : Int32} {t1 : vSt} (h : fM_EachAddsALineModel_end N a1 s = some (r, t1)) (l : Launch) (ad : Nat → Nat) : vMI l shM ad yX12_end cX12_end 2 .boolean 1 22 s [.ref (ad 0), .int a1] r t1 :=
  vMI_of (by decide +kernel) (Nat.le_of_ble_eq_true rfl) (fun P hX hR => wM_EachAddsALineModel_end_0 hX hR h)
-- M_EachAddsALineModel_fine
noncomputable def gM_EachAddsALineModel_fine_0 (N : Nat)   (s : vSt) : Option (Int32 × vSt) :=
  if (s.1 0 16) = (-1) then
    some (1, s)
  else
    some (0, s)
set_option maxRecDepth 4000 in
theorem wM_EachAddsALineModel_fine_0 {P : vP} {l : Launch} {ad : Nat → Nat} {N : Nat} {r : Int32} {t1 : vSt} (hX : vOK P l shM ad (vR 0 0) cX12_fine RX12 1) (hR : (∀ pc lv, narrow .boolean (.int r) = .int r → decode cX12_fine pc = .ok (.ireturn, 1) → P t1 pc lv [.int r]))   {s : vSt} (h : gM_EachAddsALineModel_fine_0 N s = some (r, t1)) : P s 0 [(0, .ref (ad 0))] [] := by
  unfold gM_EachAddsALineModel_fine_0 at h
  refine v_aload_n hX dX12_fine_0 rfl 0 rfl ?_
  refine gfM_0_16 hX kf_12_127 dX12_fine_1 ?_
  refine v_iconst (v := (-1)) hX dX12_fine_4 (by decide) ?_
  refine v_icmp_ne (tgt := 12) hX dX12_fine_5 (by decide) h (fun h => ?_) (fun h => ?_)
  · refine v_iconst (v := 1) hX dX12_fine_8 (by decide) ?_
    refine v_goto (tgt := 13) hX dX12_fine_9 (by decide) ?_
    exact v_retZ1 hR h dX12_fine_13
  · refine v_iconst (v := 0) hX dX12_fine_12 (by decide) ?_
    exact v_retZ0 hR h dX12_fine_13
noncomputable def fM_EachAddsALineModel_fine (N : Nat)  (s : vSt) : Option (Int32 × vSt) := gM_EachAddsALineModel_fine_0 N s
theorem mM_EachAddsALineModel_fine {N : Nat}  {s : vSt} {r : Int32} {t1 : vSt} (h : fM_EachAddsALineModel_fine N s = some (r, t1)) (l : Launch) (ad : Nat → Nat) : vMI l shM ad yX12_fine cX12_fine 1 .boolean 0 0 s [.ref (ad 0)] r t1 :=
  vMI_of (by decide +kernel) (Nat.le_of_ble_eq_true rfl) (fun P hX hR => wM_EachAddsALineModel_fine_0 hX hR h)
-- M_EachAddsALineModel_here
noncomputable def gM_EachAddsALineModel_here_34 (N : Nat)   (s : vSt) : Option (Int32 × vSt) :=
  some ((-1), s)
set_option maxRecDepth 4000 in
theorem wM_EachAddsALineModel_here_34 {P : vP} {l : Launch} {ad : Nat → Nat} {N : Nat} {r : Int32} {t1 : vSt} (hX : vOK P l shM ad (vR 0 0) cX12_here RX12 1) (hR : (∀ pc lv, narrow .int (.int r) = .int r → decode cX12_here pc = .ok (.ireturn, 1) → P t1 pc lv [.int r]))   {s : vSt} (h : gM_EachAddsALineModel_here_34 N s = some (r, t1)) : P s 34 [] [] := by
  unfold gM_EachAddsALineModel_here_34 at h
  refine v_iconst (v := (-1)) hX dX12_here_34 (by decide) ?_
  exact v_retI hR h dX12_here_35
noncomputable def gM_EachAddsALineModel_here_0 (N : Nat)   (s : vSt) : Option (Int32 × vSt) :=
  if (s.1 0 13) ≤ (s.1 0 15) then
    gM_EachAddsALineModel_here_34 N s
  else
    if (s.1 0 14) ≤ (s.1 0 15) then
      gM_EachAddsALineModel_here_34 N s
    else
      if s.1 0 12 = 6 then
        (ld s 6 80 (s.1 0 15)).bind fun v1 =>
        some (v1, s)
      else
      if s.1 0 12 = 8 then
        (ld s 8 40 (s.1 0 15)).bind fun v2 =>
        some (v2, s)
      else
        none
set_option maxRecDepth 4000 in
theorem wM_EachAddsALineModel_here_0 {P : vP} {l : Launch} {ad : Nat → Nat} {N : Nat} {r : Int32} {t1 : vSt} (hX : vOK P l shM ad (vR 0 0) cX12_here RX12 1) (hR : (∀ pc lv, narrow .int (.int r) = .int r → decode cX12_here pc = .ok (.ireturn, 1) → P t1 pc lv [.int r]))   {s : vSt} (h : gM_EachAddsALineModel_here_0 N s = some (r, t1)) : P s 0 [(0, .ref (ad 0))] [] := by
  unfold gM_EachAddsALineModel_here_0 at h
  refine v_aload_n hX dX12_here_0 rfl 0 rfl ?_
  refine gfM_0_15 hX kf_12_124 dX12_here_1 ?_
  refine v_aload_n hX dX12_here_4 rfl 0 rfl ?_
  refine gfM_0_13 hX kf_12_118 dX12_here_5 ?_
  refine v_icmp_ge (tgt := 34) hX dX12_here_8 (by decide) h (fun h => ?_) (fun h => ?_)
  · exact v_sub hX [] (by rfl) (wM_EachAddsALineModel_here_34 hX hR  h)
  · refine v_aload_n hX dX12_here_11 rfl 0 rfl ?_
    refine gfM_0_15 hX kf_12_124 dX12_here_12 ?_
    refine v_aload_n hX dX12_here_15 rfl 0 rfl ?_
    refine gfM_0_14 hX kf_12_121 dX12_here_16 ?_
    refine v_icmp_ge (tgt := 34) hX dX12_here_19 (by decide) h (fun h => ?_) (fun h => ?_)
    · exact v_sub hX [] (by rfl) (wM_EachAddsALineModel_here_34 hX hR  h)
    · refine v_aload_n hX dX12_here_22 rfl 0 rfl ?_
      rcases ifs h with ⟨hc, h⟩ | ⟨hc, h⟩
      · refine gfM_0_12_m_text hX hc kf_12_115 dX12_here_23 ?_
        refine v_aload_n hX dX12_here_26 rfl 0 rfl ?_
        refine gfM_0_15 hX kf_12_124 dX12_here_27 ?_
        refine alM_6 hX dX12_here_30 h (fun v1 h => ?_)
        refine v_goto (tgt := 35) hX dX12_here_31 (by decide) ?_
        exact v_retI hR h dX12_here_35
      rcases ifs h with ⟨hc, h⟩ | ⟨hc, h⟩
      · refine gfM_0_12_m_rule hX hc kf_12_115 dX12_here_23 ?_
        refine v_aload_n hX dX12_here_26 rfl 0 rfl ?_
        refine gfM_0_15 hX kf_12_124 dX12_here_27 ?_
        refine alM_8 hX dX12_here_30 h (fun v2 h => ?_)
        refine v_goto (tgt := 35) hX dX12_here_31 (by decide) ?_
        exact v_retI hR h dX12_here_35
      cases h
noncomputable def fM_EachAddsALineModel_here (N : Nat)  (s : vSt) : Option (Int32 × vSt) := gM_EachAddsALineModel_here_0 N s
theorem mM_EachAddsALineModel_here {N : Nat}  {s : vSt} {r : Int32} {t1 : vSt} (h : fM_EachAddsALineModel_here N s = some (r, t1)) (l : Launch) (ad : Nat → Nat) : vMI l shM ad yX12_here cX12_here 1 .int 0 0 s [.ref (ad 0)] r t1 :=
  vMI_of (by decide +kernel) (Nat.le_of_ble_eq_true rfl) (fun P hX hR => wM_EachAddsALineModel_here_0 hX hR h)
-- M_EachAddsALineModel_passes
noncomputable def gM_EachAddsALineModel_passes_0 (N : Nat)  (a1 : Int32) (s : vSt) : Option (Int32 × vSt) :=
  (fM_EachAddsALineModel_fine N s).bind fun p1 =>
  if p1.1 = 0 then
    some (0, p1.2)
  else
    (fM_EachAddsALineModel_here N p1.2).bind fun p2 =>
    if p2.1 = a1 then
      (some (s1 p2.2 0 15 ((p2.2.1 0 15) + 1))).bind fun z3 =>
      some (1, z3)
    else
      some (0, p2.2)
set_option maxRecDepth 4000 in
theorem wM_EachAddsALineModel_passes_0 {P : vP} {l : Launch} {ad : Nat → Nat} {N : Nat} {r : Int32} {t1 : vSt} (hX : vOK P l shM ad (vR 1 20) cX12_passes RX12 2) (hR : (∀ pc lv, narrow .boolean (.int r) = .int r → decode cX12_passes pc = .ok (.ireturn, 1) → P t1 pc lv [.int r]))  {a1 : Int32} {s : vSt} (h : gM_EachAddsALineModel_passes_0 N a1 s = some (r, t1)) : P s 0 [(0, .ref (ad 0)), (1, .int a1)] [] := by
  unfold gM_EachAddsALineModel_passes_0 at h
  refine v_aload_n hX dX12_passes_0 rfl 0 rfl ?_
  obtain ⟨p1, hp1, h⟩ := bsome h
  refine v_callVI (o := 0) hX (mM_EachAddsALineModel_fine hp1 l ad) kM_X12_fine kV_X12_fine km_12_130 (by decide) (fun _ => rfl) rfl rfl rfl (Nat.le_of_ble_eq_true rfl) (by decide) dX12_passes_1 ?_
  refine v_if_eq (tgt := 15) hX dX12_passes_4 (by decide) h (fun h => ?_) (fun h => ?_)
  · refine v_iconst (v := 0) hX dX12_passes_15 (by decide) ?_
    exact v_retZ0 hR h dX12_passes_16
  · refine v_aload_n hX dX12_passes_7 rfl 0 rfl ?_
    obtain ⟨p2, hp2, h⟩ := bsome h
    refine v_callVI (o := 0) hX (mM_EachAddsALineModel_here hp2 l ad) kM_X12_here kV_X12_here km_12_134 (by decide) (fun _ => rfl) rfl rfl rfl (Nat.le_of_ble_eq_true rfl) (by decide) dX12_passes_8 ?_
    refine v_iload_n hX dX12_passes_11 rfl 1 rfl ?_
    refine v_icmp_eq (tgt := 17) hX dX12_passes_12 (by decide) h (fun h => ?_) (fun h => ?_)
    · refine v_aload_n hX dX12_passes_17 rfl 0 rfl ?_
      refine v_dup hX dX12_passes_18 rfl ?_
      refine gfM_0_15 hX kf_12_124 dX12_passes_19 ?_
      refine v_iconst (v := 1) hX dX12_passes_22 (by decide) ?_
      refine v_iadd hX dX12_passes_23 ?_
      refine pfM_0_15 hX kf_12_124 dX12_passes_24 h (fun z3 h => ?_)
      refine v_iconst (v := 1) hX dX12_passes_27 (by decide) ?_
      exact v_retZ1 hR h dX12_passes_28
    · refine v_iconst (v := 0) hX dX12_passes_15 (by decide) ?_
      exact v_retZ0 hR h dX12_passes_16
noncomputable def fM_EachAddsALineModel_passes (N : Nat) (a1 : Int32) (s : vSt) : Option (Int32 × vSt) := gM_EachAddsALineModel_passes_0 N a1 s
theorem mM_EachAddsALineModel_passes {N : Nat} {a1 : Int32} {s : vSt} {r : Int32} {t1 : vSt} (h : fM_EachAddsALineModel_passes N a1 s = some (r, t1)) (l : Launch) (ad : Nat → Nat) : vMI l shM ad yX12_passes cX12_passes 2 .boolean 1 20 s [.ref (ad 0), .int a1] r t1 :=
  vMI_of (by decide +kernel) (Nat.le_of_ble_eq_true rfl) (fun P hX hR => wM_EachAddsALineModel_passes_0 hX hR h)
-- M_EachAddsALineModel_fault
noncomputable def gM_EachAddsALineModel_fault_0 (N : Nat)  (a1 : Int32) (s : vSt) : Option (vSt) :=
  (fM_EachAddsALineModel_fine N s).bind fun p1 =>
  if p1.1 = 0 then
    some p1.2
  else
    (some (s1 p1.2 0 16 a1)).bind fun z2 =>
    some z2
set_option maxRecDepth 4000 in
theorem wM_EachAddsALineModel_fault_0 {P : vP} {l : Launch} {ad : Nat → Nat} {N : Nat} {t1 : vSt} (hX : vOK P l shM ad (vR 1 20) cX12_fault RX12 2) (hR : (∀ pc lv, decode cX12_fault pc = .ok (.return_, 1) → P t1 pc lv []))  {a1 : Int32} {s : vSt} (h : gM_EachAddsALineModel_fault_0 N a1 s = some t1) : P s 0 [(0, .ref (ad 0)), (1, .int a1)] [] := by
  unfold gM_EachAddsALineModel_fault_0 at h
  refine v_aload_n hX dX12_fault_0 rfl 0 rfl ?_
  obtain ⟨p1, hp1, h⟩ := bsome h
  refine v_callVI (o := 0) hX (mM_EachAddsALineModel_fine hp1 l ad) kM_X12_fine kV_X12_fine km_12_130 (by decide) (fun _ => rfl) rfl rfl rfl (Nat.le_of_ble_eq_true rfl) (by decide) dX12_fault_1 ?_
  refine v_if_eq (tgt := 12) hX dX12_fault_4 (by decide) h (fun h => ?_) (fun h => ?_)
  · exact v_retV hR h dX12_fault_12
  · refine v_aload_n hX dX12_fault_7 rfl 0 rfl ?_
    refine v_iload_n hX dX12_fault_8 rfl 1 rfl ?_
    refine pfM_0_16 hX kf_12_127 dX12_fault_9 h (fun z2 h => ?_)
    exact v_retV hR h dX12_fault_12
noncomputable def fM_EachAddsALineModel_fault (N : Nat) (a1 : Int32) (s : vSt) : Option (vSt) := gM_EachAddsALineModel_fault_0 N a1 s
theorem mM_EachAddsALineModel_fault {N : Nat} {a1 : Int32} {s : vSt} {t1 : vSt} (h : fM_EachAddsALineModel_fault N a1 s = some t1) (l : Launch) (ad : Nat → Nat) : vMV l shM ad yX12_fault cX12_fault 2 1 20 s [.ref (ad 0), .int a1] t1 :=
  vMV_of (by decide +kernel) (Nat.le_of_ble_eq_true rfl) (fun P hX hR => wM_EachAddsALineModel_fault_0 hX hR h)
-- M_EachAddsALineModel_number
noncomputable def gM_EachAddsALineModel_number_66 (N : Nat)  (a2 : Int32) (a3 : Int32) (s : vSt) : Option (Int32 × vSt) :=
  if (s.1 0 15) = a2 then
    (fM_EachAddsALineModel_fault N (s.1 0 15) s).bind fun z1 =>
    some (a3, z1)
  else
    some (a3, s)
set_option maxRecDepth 4000 in
theorem wM_EachAddsALineModel_number_66 {P : vP} {l : Launch} {ad : Nat → Nat} {N : Nat} {r : Int32} {t1 : vSt} (hX : vOK P l shM ad (vR 2 41) cX12_number RX12 4) (hR : (∀ pc lv, narrow .int (.int r) = .int r → decode cX12_number pc = .ok (.ireturn, 1) → P t1 pc lv [.int r]))  {a2 : Int32} {a3 : Int32} {s : vSt} (h : gM_EachAddsALineModel_number_66 N a2 a3 s = some (r, t1)) : P s 66 [(0, .ref (ad 0)), (2, .int a2), (3, .int a3)] [] := by
  unfold gM_EachAddsALineModel_number_66 at h
  refine v_aload_n hX dX12_number_66 rfl 0 rfl ?_
  refine gfM_0_15 hX kf_12_124 dX12_number_67 ?_
  refine v_iload_n hX dX12_number_70 rfl 1 rfl ?_
  refine v_icmp_ne (tgt := 82) hX dX12_number_71 (by decide) h (fun h => ?_) (fun h => ?_)
  · refine v_aload_n hX dX12_number_74 rfl 0 rfl ?_
    refine v_aload_n hX dX12_number_75 rfl 0 rfl ?_
    refine gfM_0_15 hX kf_12_124 dX12_number_76 ?_
    obtain ⟨z1, hz1, h⟩ := bsome h
    refine v_callVV (o := 0) hX (mM_EachAddsALineModel_fault hz1 l ad) kM_X12_fault kV_X12_fault km_12_138 (by decide) (fun _ => rfl) rfl rfl rfl (Nat.le_of_ble_eq_true rfl) (by decide) dX12_number_79 ?_
    refine v_iload_n hX dX12_number_82 rfl 2 rfl ?_
    exact v_retI hR h dX12_number_83
  · refine v_iload_n hX dX12_number_82 rfl 2 rfl ?_
    exact v_retI hR h dX12_number_83
noncomputable def gM_EachAddsALineModel_number_16 (N : Nat)  : Nat → Int32 → Int32 → Int32 → vSt → Option (Int32 × vSt)
  | 0, _, _, _, _ => none
  | n + 1, a1, a2, a3, s =>
    if (a2 + a1) ≤ (s.1 0 15) then
      gM_EachAddsALineModel_number_66 N a2 a3 s
    else
      (fM_EachAddsALineModel_here N s).bind fun p1 =>
      (fM_EachAddsALineModel_in N p1.1 48 57 p1.2).bind fun p2 =>
      if p2.1 = 0 then
        gM_EachAddsALineModel_number_66 N a2 a3 p2.2
      else
        (fM_EachAddsALineModel_here N p2.2).bind fun p3 =>
        (some ((((10 : Int32) * a3) + p3.1) - 48 : Int32)).bind fun v4 =>
        (some (s1 p3.2 0 15 ((p3.2.1 0 15) + 1))).bind fun z5 =>
        gM_EachAddsALineModel_number_16 N n a1 a2 v4 z5
set_option maxRecDepth 4000 in
theorem wM_EachAddsALineModel_number_16 {P : vP} {l : Launch} {ad : Nat → Nat} {N : Nat} {r : Int32} {t1 : vSt} (hX : vOK P l shM ad (vR 2 41) cX12_number RX12 4) (hR : (∀ pc lv, narrow .int (.int r) = .int r → decode cX12_number pc = .ok (.ireturn, 1) → P t1 pc lv [.int r]))  : ∀ (n : Nat) (a1 : Int32) (a2 : Int32) (a3 : Int32) (s : vSt), gM_EachAddsALineModel_number_16 N n a1 a2 a3 s = some (r, t1) → P s 16 [(0, .ref (ad 0)), (1, .int a1), (2, .int a2), (3, .int a3)] [] := by
  intro n
  induction n with
  | zero => intro a1 a2 a3 s h; cases h
  | succ n ih =>
    intro a1 a2 a3 s h
    unfold gM_EachAddsALineModel_number_16 at h
    refine v_aload_n hX dX12_number_16 rfl 0 rfl ?_
    refine gfM_0_15 hX kf_12_124 dX12_number_17 ?_
    refine v_iload_n hX dX12_number_20 rfl 2 rfl ?_
    refine v_iload_n hX dX12_number_21 rfl 1 rfl ?_
    refine v_iadd hX dX12_number_22 ?_
    refine v_icmp_ge (tgt := 66) hX dX12_number_23 (by decide) h (fun h => ?_) (fun h => ?_)
    · exact v_sub hX [0, 2, 3] (by rfl) (wM_EachAddsALineModel_number_66 hX hR  h)
    · refine v_aload_n hX dX12_number_26 rfl 0 rfl ?_
      obtain ⟨p1, hp1, h⟩ := bsome h
      refine v_callVI (o := 0) hX (mM_EachAddsALineModel_here hp1 l ad) kM_X12_here kV_X12_here km_12_134 (by decide) (fun _ => rfl) rfl rfl rfl (Nat.le_of_ble_eq_true rfl) (by decide) dX12_number_27 ?_
      refine v_bipush (v := 48) hX dX12_number_30 (by decide) ?_
      refine v_bipush (v := 57) hX dX12_number_32 (by decide) ?_
      obtain ⟨p2, hp2, h⟩ := bsome h
      refine v_callSI hX (mM_EachAddsALineModel_in hp2 l ad) kM_X12_in kS_X12_in km_12_105 rfl rfl (Nat.le_of_ble_eq_true rfl) (by decide) dX12_number_34 ?_
      refine v_if_eq (tgt := 66) hX dX12_number_37 (by decide) h (fun h => ?_) (fun h => ?_)
      · exact v_sub hX [0, 2, 3] (by rfl) (wM_EachAddsALineModel_number_66 hX hR  h)
      · refine v_bipush (v := 10) hX dX12_number_40 (by decide) ?_
        refine v_iload_n hX dX12_number_42 rfl 3 rfl ?_
        refine v_imul hX dX12_number_43 ?_
        refine v_aload_n hX dX12_number_44 rfl 0 rfl ?_
        obtain ⟨p3, hp3, h⟩ := bsome h
        refine v_callVI (o := 0) hX (mM_EachAddsALineModel_here hp3 l ad) kM_X12_here kV_X12_here km_12_134 (by decide) (fun _ => rfl) rfl rfl rfl (Nat.le_of_ble_eq_true rfl) (by decide) dX12_number_45 ?_
        refine v_iadd hX dX12_number_48 ?_
        refine v_bipush (v := 48) hX dX12_number_49 (by decide) ?_
        refine v_isub hX dX12_number_51 ?_
        refine v_nmI hX h (fun v4 h => ?_)
        refine v_istore_n (lv' := [(3, .int v4), (0, .ref (ad 0)), (1, .int a1), (2, .int a2)]) hX dX12_number_52 rfl (by decide) rfl ?_
        refine v_aload_n hX dX12_number_53 rfl 1 rfl ?_
        refine v_dup hX dX12_number_54 rfl ?_
        refine gfM_0_15 hX kf_12_124 dX12_number_55 ?_
        refine v_iconst (v := 1) hX dX12_number_58 (by decide) ?_
        refine v_iadd hX dX12_number_59 ?_
        refine pfM_0_15 hX kf_12_124 dX12_number_60 h (fun z5 h => ?_)
        refine v_goto (tgt := 16) hX dX12_number_63 (by decide) ?_
        exact v_sub hX [1, 2, 3, 0] (by rfl) (ih _ _ _ _ h)
noncomputable def gM_EachAddsALineModel_number_0 (N : Nat)  (a1 : Int32) (s : vSt) : Option (Int32 × vSt) :=
  (fM_EachAddsALineModel_fine N s).bind fun p1 =>
  if p1.1 = 0 then
    some (0, p1.2)
  else
    (some (p1.2.1 0 15 : Int32)).bind fun v2 =>
    gM_EachAddsALineModel_number_16 N N a1 v2 0 p1.2
set_option maxRecDepth 4000 in
theorem wM_EachAddsALineModel_number_0 {P : vP} {l : Launch} {ad : Nat → Nat} {N : Nat} {r : Int32} {t1 : vSt} (hX : vOK P l shM ad (vR 2 41) cX12_number RX12 4) (hR : (∀ pc lv, narrow .int (.int r) = .int r → decode cX12_number pc = .ok (.ireturn, 1) → P t1 pc lv [.int r]))  {a1 : Int32} {s : vSt} (h : gM_EachAddsALineModel_number_0 N a1 s = some (r, t1)) : P s 0 [(0, .ref (ad 0)), (1, .int a1)] [] := by
  unfold gM_EachAddsALineModel_number_0 at h
  refine v_aload_n hX dX12_number_0 rfl 0 rfl ?_
  obtain ⟨p1, hp1, h⟩ := bsome h
  refine v_callVI (o := 0) hX (mM_EachAddsALineModel_fine hp1 l ad) kM_X12_fine kV_X12_fine km_12_130 (by decide) (fun _ => rfl) rfl rfl rfl (Nat.le_of_ble_eq_true rfl) (by decide) dX12_number_1 ?_
  refine v_if_ne (tgt := 9) hX dX12_number_4 (by decide) h (fun h => ?_) (fun h => ?_)
  · refine v_iconst (v := 0) hX dX12_number_7 (by decide) ?_
    exact v_retI hR h dX12_number_8
  · refine v_aload_n hX dX12_number_9 rfl 0 rfl ?_
    refine gfM_0_15 hX kf_12_124 dX12_number_10 ?_
    refine v_nmI hX h (fun v2 h => ?_)
    refine v_istore_n (lv' := [(2, .int v2), (0, .ref (ad 0)), (1, .int a1)]) hX dX12_number_13 rfl (by decide) rfl ?_
    refine v_iconst (v := 0) hX dX12_number_14 (by decide) ?_
    refine v_istore_n (lv' := [(3, .int 0), (2, .int v2), (0, .ref (ad 0)), (1, .int a1)]) hX dX12_number_15 rfl (by decide) rfl ?_
    exact v_sub hX [2, 3, 1, 0] (by rfl) (wM_EachAddsALineModel_number_16 hX hR  N _ _ _ _ h)
noncomputable def fM_EachAddsALineModel_number (N : Nat) (a1 : Int32) (s : vSt) : Option (Int32 × vSt) := gM_EachAddsALineModel_number_0 N a1 s
theorem mM_EachAddsALineModel_number {N : Nat} {a1 : Int32} {s : vSt} {r : Int32} {t1 : vSt} (h : fM_EachAddsALineModel_number N a1 s = some (r, t1)) (l : Launch) (ad : Nat → Nat) : vMI l shM ad yX12_number cX12_number 4 .int 2 41 s [.ref (ad 0), .int a1] r t1 :=
  vMI_of (by decide +kernel) (Nat.le_of_ble_eq_true rfl) (fun P hX hR => wM_EachAddsALineModel_number_0 hX hR h)
-- M_EachAddsALineModel_letter
noncomputable def gM_EachAddsALineModel_letter_0 (N : Nat)  (a1 : Int32) (s : vSt) : Option (Int32 × vSt) :=
  (fM_EachAddsALineModel_fine N s).bind fun p1 =>
  if p1.1 = 0 then
    some (0, p1.2)
  else
    (fM_EachAddsALineModel_here N p1.2).bind fun p2 =>
    (fM_EachAddsALineModel_in N p2.1 97 (((97 : Int32) + a1) - 1) p2.2).bind fun p3 =>
    if p3.1 = 0 then
      (fM_EachAddsALineModel_fault N (p3.2.1 0 15) p3.2).bind fun z4 =>
      some (0, z4)
    else
      (some (s1 p3.2 0 15 ((p3.2.1 0 15) + 1))).bind fun z5 =>
      if z5.1 0 12 = 6 then
        (ld z5 6 80 ((z5.1 0 15) - 1)).bind fun v6 =>
        some (v6 - 97, z5)
      else
      if z5.1 0 12 = 8 then
        (ld z5 8 40 ((z5.1 0 15) - 1)).bind fun v7 =>
        some (v7 - 97, z5)
      else
        none
set_option maxRecDepth 4000 in
theorem wM_EachAddsALineModel_letter_0 {P : vP} {l : Launch} {ad : Nat → Nat} {N : Nat} {r : Int32} {t1 : vSt} (hX : vOK P l shM ad (vR 2 41) cX12_letter RX12 2) (hR : (∀ pc lv, narrow .int (.int r) = .int r → decode cX12_letter pc = .ok (.ireturn, 1) → P t1 pc lv [.int r]))  {a1 : Int32} {s : vSt} (h : gM_EachAddsALineModel_letter_0 N a1 s = some (r, t1)) : P s 0 [(0, .ref (ad 0)), (1, .int a1)] [] := by
  unfold gM_EachAddsALineModel_letter_0 at h
  refine v_aload_n hX dX12_letter_0 rfl 0 rfl ?_
  obtain ⟨p1, hp1, h⟩ := bsome h
  refine v_callVI (o := 0) hX (mM_EachAddsALineModel_fine hp1 l ad) kM_X12_fine kV_X12_fine km_12_130 (by decide) (fun _ => rfl) rfl rfl rfl (Nat.le_of_ble_eq_true rfl) (by decide) dX12_letter_1 ?_
  refine v_if_ne (tgt := 9) hX dX12_letter_4 (by decide) h (fun h => ?_) (fun h => ?_)
  · refine v_iconst (v := 0) hX dX12_letter_7 (by decide) ?_
    exact v_retI hR h dX12_letter_8
  · refine v_aload_n hX dX12_letter_9 rfl 0 rfl ?_
    obtain ⟨p2, hp2, h⟩ := bsome h
    refine v_callVI (o := 0) hX (mM_EachAddsALineModel_here hp2 l ad) kM_X12_here kV_X12_here km_12_134 (by decide) (fun _ => rfl) rfl rfl rfl (Nat.le_of_ble_eq_true rfl) (by decide) dX12_letter_10 ?_
    refine v_bipush (v := 97) hX dX12_letter_13 (by decide) ?_
    refine v_bipush (v := 97) hX dX12_letter_15 (by decide) ?_
    refine v_iload_n hX dX12_letter_17 rfl 1 rfl ?_
    refine v_iadd hX dX12_letter_18 ?_
    refine v_iconst (v := 1) hX dX12_letter_19 (by decide) ?_
    refine v_isub hX dX12_letter_20 ?_
    obtain ⟨p3, hp3, h⟩ := bsome h
    refine v_callSI hX (mM_EachAddsALineModel_in hp3 l ad) kM_X12_in kS_X12_in km_12_105 rfl rfl (Nat.le_of_ble_eq_true rfl) (by decide) dX12_letter_21 ?_
    refine v_if_ne (tgt := 37) hX dX12_letter_24 (by decide) h (fun h => ?_) (fun h => ?_)
    · refine v_aload_n hX dX12_letter_27 rfl 0 rfl ?_
      refine v_aload_n hX dX12_letter_28 rfl 0 rfl ?_
      refine gfM_0_15 hX kf_12_124 dX12_letter_29 ?_
      obtain ⟨z4, hz4, h⟩ := bsome h
      refine v_callVV (o := 0) hX (mM_EachAddsALineModel_fault hz4 l ad) kM_X12_fault kV_X12_fault km_12_138 (by decide) (fun _ => rfl) rfl rfl rfl (Nat.le_of_ble_eq_true rfl) (by decide) dX12_letter_32 ?_
      refine v_iconst (v := 0) hX dX12_letter_35 (by decide) ?_
      exact v_retI hR h dX12_letter_36
    · refine v_aload_n hX dX12_letter_37 rfl 0 rfl ?_
      refine v_dup hX dX12_letter_38 rfl ?_
      refine gfM_0_15 hX kf_12_124 dX12_letter_39 ?_
      refine v_iconst (v := 1) hX dX12_letter_42 (by decide) ?_
      refine v_iadd hX dX12_letter_43 ?_
      refine pfM_0_15 hX kf_12_124 dX12_letter_44 h (fun z5 h => ?_)
      refine v_aload_n hX dX12_letter_47 rfl 0 rfl ?_
      rcases ifs h with ⟨hc, h⟩ | ⟨hc, h⟩
      · refine gfM_0_12_m_text hX hc kf_12_115 dX12_letter_48 ?_
        refine v_aload_n hX dX12_letter_51 rfl 0 rfl ?_
        refine gfM_0_15 hX kf_12_124 dX12_letter_52 ?_
        refine v_iconst (v := 1) hX dX12_letter_55 (by decide) ?_
        refine v_isub hX dX12_letter_56 ?_
        refine alM_6 hX dX12_letter_57 h (fun v6 h => ?_)
        refine v_bipush (v := 97) hX dX12_letter_58 (by decide) ?_
        refine v_isub hX dX12_letter_60 ?_
        exact v_retI hR h dX12_letter_61
      rcases ifs h with ⟨hc, h⟩ | ⟨hc, h⟩
      · refine gfM_0_12_m_rule hX hc kf_12_115 dX12_letter_48 ?_
        refine v_aload_n hX dX12_letter_51 rfl 0 rfl ?_
        refine gfM_0_15 hX kf_12_124 dX12_letter_52 ?_
        refine v_iconst (v := 1) hX dX12_letter_55 (by decide) ?_
        refine v_isub hX dX12_letter_56 ?_
        refine alM_8 hX dX12_letter_57 h (fun v7 h => ?_)
        refine v_bipush (v := 97) hX dX12_letter_58 (by decide) ?_
        refine v_isub hX dX12_letter_60 ?_
        exact v_retI hR h dX12_letter_61
      cases h
noncomputable def fM_EachAddsALineModel_letter (N : Nat) (a1 : Int32) (s : vSt) : Option (Int32 × vSt) := gM_EachAddsALineModel_letter_0 N a1 s
theorem mM_EachAddsALineModel_letter {N : Nat} {a1 : Int32} {s : vSt} {r : Int32} {t1 : vSt} (h : fM_EachAddsALineModel_letter N a1 s = some (r, t1)) (l : Launch) (ad : Nat → Nat) : vMI l shM ad yX12_letter cX12_letter 2 .int 2 41 s [.ref (ad 0), .int a1] r t1 :=
  vMI_of (by decide +kernel) (Nat.le_of_ble_eq_true rfl) (fun P hX hR => wM_EachAddsALineModel_letter_0 hX hR h)
-- M_EachAddsALineModel_begin_m_text
noncomputable def gM_EachAddsALineModel_begin_m_text_0 (N : Nat)  (a2 : Int32) (a3 : Int32) (s : vSt) : Option (vSt) :=
  (some (s1 s 0 12 6)).bind fun z1 =>
  (some (s1 z1 0 13 a2)).bind fun z2 =>
  (some (s1 z2 0 14 a3)).bind fun z3 =>
  (some (s1 z3 0 15 0)).bind fun z4 =>
  (some (s1 z4 0 16 (-1))).bind fun z5 =>
  some z5
set_option maxRecDepth 4000 in
theorem wM_EachAddsALineModel_begin_m_text_0 {P : vP} {l : Launch} {ad : Nat → Nat} {N : Nat} {t1 : vSt} (hX : vOK P l shM ad (vR 0 0) cX12_begin RX12 4) (hR : (∀ pc lv, decode cX12_begin pc = .ok (.return_, 1) → P t1 pc lv []))  {a2 : Int32} {a3 : Int32} {s : vSt} (h : gM_EachAddsALineModel_begin_m_text_0 N a2 a3 s = some t1) : P s 0 [(0, .ref (ad 0)), (1, .ref (ad 6)), (2, .int a2), (3, .int a3)] [] := by
  unfold gM_EachAddsALineModel_begin_m_text_0 at h
  refine v_aload_n hX dX12_begin_0 rfl 0 rfl ?_
  refine v_aload_n hX dX12_begin_1 rfl 1 rfl ?_
  refine pfM_0_12_m_text hX kf_12_115 dX12_begin_2 h (fun z1 h => ?_)
  refine v_aload_n hX dX12_begin_5 rfl 0 rfl ?_
  refine v_iload_n hX dX12_begin_6 rfl 2 rfl ?_
  refine pfM_0_13 hX kf_12_118 dX12_begin_7 h (fun z2 h => ?_)
  refine v_aload_n hX dX12_begin_10 rfl 0 rfl ?_
  refine v_iload_n hX dX12_begin_11 rfl 3 rfl ?_
  refine pfM_0_14 hX kf_12_121 dX12_begin_12 h (fun z3 h => ?_)
  refine v_aload_n hX dX12_begin_15 rfl 0 rfl ?_
  refine v_iconst (v := 0) hX dX12_begin_16 (by decide) ?_
  refine pfM_0_15 hX kf_12_124 dX12_begin_17 h (fun z4 h => ?_)
  refine v_aload_n hX dX12_begin_20 rfl 0 rfl ?_
  refine v_iconst (v := (-1)) hX dX12_begin_21 (by decide) ?_
  refine pfM_0_16 hX kf_12_127 dX12_begin_22 h (fun z5 h => ?_)
  exact v_retV hR h dX12_begin_25
noncomputable def fM_EachAddsALineModel_begin_m_text (N : Nat) (a2 : Int32) (a3 : Int32) (s : vSt) : Option (vSt) := gM_EachAddsALineModel_begin_m_text_0 N a2 a3 s
theorem mM_EachAddsALineModel_begin_m_text {N : Nat} {a2 : Int32} {a3 : Int32} {s : vSt} {t1 : vSt} (h : fM_EachAddsALineModel_begin_m_text N a2 a3 s = some t1) (l : Launch) (ad : Nat → Nat) : vMV l shM ad yX12_begin cX12_begin 4 0 0 s [.ref (ad 0), .ref (ad 6), .int a2, .int a3] t1 :=
  vMV_of (by decide +kernel) (Nat.le_of_ble_eq_true rfl) (fun P hX hR => wM_EachAddsALineModel_begin_m_text_0 hX hR h)
-- M_EachAddsALineModel_roads
noncomputable def gM_EachAddsALineModel_roads_249 (N : Nat) (r48 : Int32 → Int32 → Int32 → Int32 → vSt → Option (Int32 × vSt)) (a1 : Int32) (a2 : Int32) (a3 : Int32) (s : vSt) : Option (Int32 × vSt) :=
  (some (a3 + 1 : Int32)).bind fun v1 =>
  (fM_EachAddsALineModel_passes N 59 s).bind fun p2 =>
  r48 a1 a2 v1 p2.1 p2.2
set_option maxRecDepth 4000 in
theorem wM_EachAddsALineModel_roads_249 {P : vP} {l : Launch} {ad : Nat → Nat} {N : Nat} {r48 : Int32 → Int32 → Int32 → Int32 → vSt → Option (Int32 × vSt)} {r : Int32} {t1 : vSt} (hX : vOK P l shM ad (vR 3 64) cX12_roads RX12 5) (hR : (∀ pc lv, narrow .int (.int r) = .int r → decode cX12_roads pc = .ok (.ireturn, 1) → P t1 pc lv [.int r])) (H48 : ∀ (a1 : Int32) (a2 : Int32) (a3 : Int32) (a4 : Int32) (s : vSt), r48 a1 a2 a3 a4 s = some (r, t1) → P s 48 [(0, .ref (ad 0)), (1, .int a1), (2, .int a2), (3, .int a3), (4, .int a4)] []) {a1 : Int32} {a2 : Int32} {a3 : Int32} {s : vSt} (h : gM_EachAddsALineModel_roads_249 N r48 a1 a2 a3 s = some (r, t1)) : P s 249 [(0, .ref (ad 0)), (1, .int a1), (2, .int a2), (3, .int a3)] [] := by
  unfold gM_EachAddsALineModel_roads_249 at h
  refine v_iincN hX dX12_roads_249 (j := 3) rfl (c := 1) (by decide) (by decide) h (fun v1 h => ?_)
  refine v_show (lv' := [(3, .int v1), (0, .ref (ad 0)), (1, .int a1), (2, .int a2)]) hX rfl ?_
  refine v_aload_n hX dX12_roads_252 rfl 1 rfl ?_
  refine v_bipush (v := 59) hX dX12_roads_253 (by decide) ?_
  obtain ⟨p2, hp2, h⟩ := bsome h
  refine v_callVI (o := 0) hX (mM_EachAddsALineModel_passes hp2 l ad) kM_X12_passes kV_X12_passes km_12_153 (by decide) (fun _ => rfl) rfl rfl rfl (Nat.le_of_ble_eq_true rfl) (by decide) dX12_roads_255 ?_
  refine v_istore (lv' := [(4, .int p2.1), (3, .int v1), (0, .ref (ad 0)), (1, .int a1), (2, .int a2)]) hX dX12_roads_258 (by decide) rfl ?_
  refine v_goto (tgt := 48) hX dX12_roads_260 (by decide) ?_
  exact v_sub hX [2, 3, 4, 1, 0] (by rfl) (H48 _ _ _ _ _ h)
noncomputable def gM_EachAddsALineModel_roads_111 (N : Nat) (r48 : Int32 → Int32 → Int32 → Int32 → vSt → Option (Int32 × vSt)) (a1 : Int32) (a2 : Int32) (a3 : Int32) (s : vSt) : Option (Int32 × vSt) :=
  (some (a1 + 1 : Int32)).bind fun v1 =>
  gM_EachAddsALineModel_roads_249 N r48 v1 a2 a3 s
set_option maxRecDepth 4000 in
theorem wM_EachAddsALineModel_roads_111 {P : vP} {l : Launch} {ad : Nat → Nat} {N : Nat} {r48 : Int32 → Int32 → Int32 → Int32 → vSt → Option (Int32 × vSt)} {r : Int32} {t1 : vSt} (hX : vOK P l shM ad (vR 3 64) cX12_roads RX12 5) (hR : (∀ pc lv, narrow .int (.int r) = .int r → decode cX12_roads pc = .ok (.ireturn, 1) → P t1 pc lv [.int r])) (H48 : ∀ (a1 : Int32) (a2 : Int32) (a3 : Int32) (a4 : Int32) (s : vSt), r48 a1 a2 a3 a4 s = some (r, t1) → P s 48 [(0, .ref (ad 0)), (1, .int a1), (2, .int a2), (3, .int a3), (4, .int a4)] []) {a1 : Int32} {a2 : Int32} {a3 : Int32} {s : vSt} (h : gM_EachAddsALineModel_roads_111 N r48 a1 a2 a3 s = some (r, t1)) : P s 111 [(0, .ref (ad 0)), (1, .int a1), (2, .int a2), (3, .int a3)] [] := by
  unfold gM_EachAddsALineModel_roads_111 at h
  refine v_iincN hX dX12_roads_111 (j := 1) rfl (c := 1) (by decide) (by decide) h (fun v1 h => ?_)
  refine v_show (lv' := [(1, .int v1), (0, .ref (ad 0)), (2, .int a2), (3, .int a3)]) hX rfl ?_
  refine v_goto (tgt := 249) hX dX12_roads_114 (by decide) ?_
  exact v_sub hX [1, 0, 2, 3] (by rfl) (wM_EachAddsALineModel_roads_249 hX hR H48 h)
noncomputable def gM_EachAddsALineModel_roads_89 (N : Nat) (r48 : Int32 → Int32 → Int32 → Int32 → vSt → Option (Int32 × vSt)) (a1 : Int32) (a2 : Int32) (a3 : Int32) (s : vSt) : Option (Int32 × vSt) :=
  (fM_EachAddsALineModel_fault N (s.1 0 15) s).bind fun z1 =>
  gM_EachAddsALineModel_roads_111 N r48 a1 a2 a3 z1
set_option maxRecDepth 4000 in
theorem wM_EachAddsALineModel_roads_89 {P : vP} {l : Launch} {ad : Nat → Nat} {N : Nat} {r48 : Int32 → Int32 → Int32 → Int32 → vSt → Option (Int32 × vSt)} {r : Int32} {t1 : vSt} (hX : vOK P l shM ad (vR 3 64) cX12_roads RX12 5) (hR : (∀ pc lv, narrow .int (.int r) = .int r → decode cX12_roads pc = .ok (.ireturn, 1) → P t1 pc lv [.int r])) (H48 : ∀ (a1 : Int32) (a2 : Int32) (a3 : Int32) (a4 : Int32) (s : vSt), r48 a1 a2 a3 a4 s = some (r, t1) → P s 48 [(0, .ref (ad 0)), (1, .int a1), (2, .int a2), (3, .int a3), (4, .int a4)] []) {a1 : Int32} {a2 : Int32} {a3 : Int32} {s : vSt} (h : gM_EachAddsALineModel_roads_89 N r48 a1 a2 a3 s = some (r, t1)) : P s 89 [(0, .ref (ad 0)), (1, .int a1), (2, .int a2), (3, .int a3)] [] := by
  unfold gM_EachAddsALineModel_roads_89 at h
  refine v_aload_n hX dX12_roads_89 rfl 0 rfl ?_
  refine v_aload_n hX dX12_roads_90 rfl 0 rfl ?_
  refine gfM_0_15 hX kf_12_124 dX12_roads_91 ?_
  obtain ⟨z1, hz1, h⟩ := bsome h
  refine v_callVV (o := 0) hX (mM_EachAddsALineModel_fault hz1 l ad) kM_X12_fault kV_X12_fault km_12_138 (by decide) (fun _ => rfl) rfl rfl rfl (Nat.le_of_ble_eq_true rfl) (by decide) dX12_roads_94 ?_
  refine v_goto (tgt := 111) hX dX12_roads_97 (by decide) ?_
  exact v_sub hX [0, 1, 2, 3] (by rfl) (wM_EachAddsALineModel_roads_111 hX hR H48 h)
noncomputable def gM_EachAddsALineModel_roads_137 (N : Nat) (r48 : Int32 → Int32 → Int32 → Int32 → vSt → Option (Int32 × vSt)) (a1 : Int32) (a2 : Int32) (a3 : Int32) (s : vSt) : Option (Int32 × vSt) :=
  (fM_EachAddsALineModel_fault N (s.1 0 15) s).bind fun z1 =>
  gM_EachAddsALineModel_roads_249 N r48 a1 a2 a3 z1
set_option maxRecDepth 4000 in
theorem wM_EachAddsALineModel_roads_137 {P : vP} {l : Launch} {ad : Nat → Nat} {N : Nat} {r48 : Int32 → Int32 → Int32 → Int32 → vSt → Option (Int32 × vSt)} {r : Int32} {t1 : vSt} (hX : vOK P l shM ad (vR 3 64) cX12_roads RX12 5) (hR : (∀ pc lv, narrow .int (.int r) = .int r → decode cX12_roads pc = .ok (.ireturn, 1) → P t1 pc lv [.int r])) (H48 : ∀ (a1 : Int32) (a2 : Int32) (a3 : Int32) (a4 : Int32) (s : vSt), r48 a1 a2 a3 a4 s = some (r, t1) → P s 48 [(0, .ref (ad 0)), (1, .int a1), (2, .int a2), (3, .int a3), (4, .int a4)] []) {a1 : Int32} {a2 : Int32} {a3 : Int32} {s : vSt} (h : gM_EachAddsALineModel_roads_137 N r48 a1 a2 a3 s = some (r, t1)) : P s 137 [(0, .ref (ad 0)), (1, .int a1), (2, .int a2), (3, .int a3)] [] := by
  unfold gM_EachAddsALineModel_roads_137 at h
  refine v_aload_n hX dX12_roads_137 rfl 0 rfl ?_
  refine v_aload_n hX dX12_roads_138 rfl 0 rfl ?_
  refine gfM_0_15 hX kf_12_124 dX12_roads_139 ?_
  obtain ⟨z1, hz1, h⟩ := bsome h
  refine v_callVV (o := 0) hX (mM_EachAddsALineModel_fault hz1 l ad) kM_X12_fault kV_X12_fault km_12_138 (by decide) (fun _ => rfl) rfl rfl rfl (Nat.le_of_ble_eq_true rfl) (by decide) dX12_roads_142 ?_
  refine v_goto (tgt := 249) hX dX12_roads_145 (by decide) ?_
  exact v_sub hX [0, 1, 2, 3] (by rfl) (wM_EachAddsALineModel_roads_249 hX hR H48 h)
noncomputable def gM_EachAddsALineModel_roads_245 (N : Nat) (r48 : Int32 → Int32 → Int32 → Int32 → vSt → Option (Int32 × vSt)) (a1 : Int32) (a2 : Int32) (a3 : Int32) (k1 : Int32) (k2 : Int32) (s : vSt) : Option (Int32 × vSt) :=
  (sto s 5 20 k1 k2).bind fun z1 =>
  (some (a2 + 1 : Int32)).bind fun v2 =>
  gM_EachAddsALineModel_roads_249 N r48 a1 v2 a3 z1
set_option maxRecDepth 4000 in
theorem wM_EachAddsALineModel_roads_245 {P : vP} {l : Launch} {ad : Nat → Nat} {N : Nat} {r48 : Int32 → Int32 → Int32 → Int32 → vSt → Option (Int32 × vSt)} {r : Int32} {t1 : vSt} (hX : vOK P l shM ad (vR 3 64) cX12_roads RX12 5) (hR : (∀ pc lv, narrow .int (.int r) = .int r → decode cX12_roads pc = .ok (.ireturn, 1) → P t1 pc lv [.int r])) (H48 : ∀ (a1 : Int32) (a2 : Int32) (a3 : Int32) (a4 : Int32) (s : vSt), r48 a1 a2 a3 a4 s = some (r, t1) → P s 48 [(0, .ref (ad 0)), (1, .int a1), (2, .int a2), (3, .int a3), (4, .int a4)] []) {a1 : Int32} {a2 : Int32} {a3 : Int32} {k1 : Int32} {k2 : Int32} {s : vSt} (h : gM_EachAddsALineModel_roads_245 N r48 a1 a2 a3 k1 k2 s = some (r, t1)) : P s 245 [(0, .ref (ad 0)), (1, .int a1), (2, .int a2), (3, .int a3)] [.int k2, .int k1, .ref (ad 5)] := by
  unfold gM_EachAddsALineModel_roads_245 at h
  refine asM_5 hX dX12_roads_245 h (fun z1 h => ?_)
  refine v_iincN hX dX12_roads_246 (j := 2) rfl (c := 1) (by decide) (by decide) h (fun v2 h => ?_)
  refine v_show (lv' := [(2, .int v2), (0, .ref (ad 0)), (1, .int a1), (3, .int a3)]) hX rfl ?_
  exact v_sub hX [1, 2, 0, 3] (by rfl) (wM_EachAddsALineModel_roads_249 hX hR H48 h)
noncomputable def gM_EachAddsALineModel_roads_211 (N : Nat) (r48 : Int32 → Int32 → Int32 → Int32 → vSt → Option (Int32 × vSt)) (a1 : Int32) (a2 : Int32) (a3 : Int32) (s : vSt) : Option (Int32 × vSt) :=
  (fM_EachAddsALineModel_number N 2 s).bind fun p1 =>
  (sto p1.2 4 20 a2 p1.1).bind fun z2 =>
  (fM_EachAddsALineModel_passes N 42 z2).bind fun p3 =>
  if p3.1 = 0 then
    gM_EachAddsALineModel_roads_245 N r48 a1 a2 a3 a2 0 p3.2
  else
    (fM_EachAddsALineModel_number N 1 p3.2).bind fun p4 =>
    gM_EachAddsALineModel_roads_245 N r48 a1 a2 a3 a2 p4.1 p4.2
set_option maxRecDepth 4000 in
theorem wM_EachAddsALineModel_roads_211 {P : vP} {l : Launch} {ad : Nat → Nat} {N : Nat} {r48 : Int32 → Int32 → Int32 → Int32 → vSt → Option (Int32 × vSt)} {r : Int32} {t1 : vSt} (hX : vOK P l shM ad (vR 3 64) cX12_roads RX12 5) (hR : (∀ pc lv, narrow .int (.int r) = .int r → decode cX12_roads pc = .ok (.ireturn, 1) → P t1 pc lv [.int r])) (H48 : ∀ (a1 : Int32) (a2 : Int32) (a3 : Int32) (a4 : Int32) (s : vSt), r48 a1 a2 a3 a4 s = some (r, t1) → P s 48 [(0, .ref (ad 0)), (1, .int a1), (2, .int a2), (3, .int a3), (4, .int a4)] []) {a1 : Int32} {a2 : Int32} {a3 : Int32} {s : vSt} (h : gM_EachAddsALineModel_roads_211 N r48 a1 a2 a3 s = some (r, t1)) : P s 211 [(0, .ref (ad 0)), (1, .int a1), (2, .int a2), (3, .int a3)] [] := by
  unfold gM_EachAddsALineModel_roads_211 at h
  refine v_aload_n hX dX12_roads_211 rfl 0 rfl ?_
  refine gfM_0_5 hX kf_12_19 dX12_roads_212 ?_
  refine v_iload_n hX dX12_roads_215 rfl 2 rfl ?_
  refine v_aload_n hX dX12_roads_216 rfl 0 rfl ?_
  refine v_iconst (v := 2) hX dX12_roads_217 (by decide) ?_
  obtain ⟨p1, hp1, h⟩ := bsome h
  refine v_callVI (o := 0) hX (mM_EachAddsALineModel_number hp1 l ad) kM_X12_number kV_X12_number km_12_146 (by decide) (fun _ => rfl) rfl rfl rfl (Nat.le_of_ble_eq_true rfl) (by decide) dX12_roads_218 ?_
  refine asM_4 hX dX12_roads_221 h (fun z2 h => ?_)
  refine v_aload_n hX dX12_roads_222 rfl 0 rfl ?_
  refine gfM_0_6 hX kf_12_22 dX12_roads_223 ?_
  refine v_iload_n hX dX12_roads_226 rfl 2 rfl ?_
  refine v_aload_n hX dX12_roads_227 rfl 0 rfl ?_
  refine v_bipush (v := 42) hX dX12_roads_228 (by decide) ?_
  obtain ⟨p3, hp3, h⟩ := bsome h
  refine v_callVI (o := 0) hX (mM_EachAddsALineModel_passes hp3 l ad) kM_X12_passes kV_X12_passes km_12_153 (by decide) (fun _ => rfl) rfl rfl rfl (Nat.le_of_ble_eq_true rfl) (by decide) dX12_roads_230 ?_
  refine v_if_eq (tgt := 244) hX dX12_roads_233 (by decide) h (fun h => ?_) (fun h => ?_)
  · refine v_iconst (v := 0) hX dX12_roads_244 (by decide) ?_
    exact v_sub hX [0, 1, 2, 3] (by rfl) (wM_EachAddsALineModel_roads_245 hX hR H48 h)
  · refine v_aload_n hX dX12_roads_236 rfl 0 rfl ?_
    refine v_iconst (v := 1) hX dX12_roads_237 (by decide) ?_
    obtain ⟨p4, hp4, h⟩ := bsome h
    refine v_callVI (o := 0) hX (mM_EachAddsALineModel_number hp4 l ad) kM_X12_number kV_X12_number km_12_146 (by decide) (fun _ => rfl) rfl rfl rfl (Nat.le_of_ble_eq_true rfl) (by decide) dX12_roads_238 ?_
    refine v_goto (tgt := 245) hX dX12_roads_241 (by decide) ?_
    exact v_sub hX [0, 1, 2, 3] (by rfl) (wM_EachAddsALineModel_roads_245 hX hR H48 h)
noncomputable def gM_EachAddsALineModel_roads_183 (N : Nat) (r48 : Int32 → Int32 → Int32 → Int32 → vSt → Option (Int32 × vSt)) (a1 : Int32) (a2 : Int32) (a3 : Int32) (s : vSt) : Option (Int32 × vSt) :=
  (fM_EachAddsALineModel_letter N a1 s).bind fun p1 =>
  (sto p1.2 3 20 a2 p1.1).bind fun z2 =>
  (fM_EachAddsALineModel_passes N 64 z2).bind fun p3 =>
  if p3.1 = 0 then
    (fM_EachAddsALineModel_fault N (p3.2.1 0 15) p3.2).bind fun z4 =>
    gM_EachAddsALineModel_roads_211 N r48 a1 a2 a3 z4
  else
    gM_EachAddsALineModel_roads_211 N r48 a1 a2 a3 p3.2
set_option maxRecDepth 4000 in
theorem wM_EachAddsALineModel_roads_183 {P : vP} {l : Launch} {ad : Nat → Nat} {N : Nat} {r48 : Int32 → Int32 → Int32 → Int32 → vSt → Option (Int32 × vSt)} {r : Int32} {t1 : vSt} (hX : vOK P l shM ad (vR 3 64) cX12_roads RX12 5) (hR : (∀ pc lv, narrow .int (.int r) = .int r → decode cX12_roads pc = .ok (.ireturn, 1) → P t1 pc lv [.int r])) (H48 : ∀ (a1 : Int32) (a2 : Int32) (a3 : Int32) (a4 : Int32) (s : vSt), r48 a1 a2 a3 a4 s = some (r, t1) → P s 48 [(0, .ref (ad 0)), (1, .int a1), (2, .int a2), (3, .int a3), (4, .int a4)] []) {a1 : Int32} {a2 : Int32} {a3 : Int32} {s : vSt} (h : gM_EachAddsALineModel_roads_183 N r48 a1 a2 a3 s = some (r, t1)) : P s 183 [(0, .ref (ad 0)), (1, .int a1), (2, .int a2), (3, .int a3)] [] := by
  unfold gM_EachAddsALineModel_roads_183 at h
  refine v_aload_n hX dX12_roads_183 rfl 0 rfl ?_
  refine gfM_0_4 hX kf_12_16 dX12_roads_184 ?_
  refine v_iload_n hX dX12_roads_187 rfl 2 rfl ?_
  refine v_aload_n hX dX12_roads_188 rfl 0 rfl ?_
  refine v_iload_n hX dX12_roads_189 rfl 1 rfl ?_
  obtain ⟨p1, hp1, h⟩ := bsome h
  refine v_callVI (o := 0) hX (mM_EachAddsALineModel_letter hp1 l ad) kM_X12_letter kV_X12_letter km_12_150 (by decide) (fun _ => rfl) rfl rfl rfl (Nat.le_of_ble_eq_true rfl) (by decide) dX12_roads_190 ?_
  refine asM_3 hX dX12_roads_193 h (fun z2 h => ?_)
  refine v_aload_n hX dX12_roads_194 rfl 0 rfl ?_
  refine v_bipush (v := 64) hX dX12_roads_195 (by decide) ?_
  obtain ⟨p3, hp3, h⟩ := bsome h
  refine v_callVI (o := 0) hX (mM_EachAddsALineModel_passes hp3 l ad) kM_X12_passes kV_X12_passes km_12_153 (by decide) (fun _ => rfl) rfl rfl rfl (Nat.le_of_ble_eq_true rfl) (by decide) dX12_roads_197 ?_
  refine v_if_ne (tgt := 211) hX dX12_roads_200 (by decide) h (fun h => ?_) (fun h => ?_)
  · refine v_aload_n hX dX12_roads_203 rfl 0 rfl ?_
    refine v_aload_n hX dX12_roads_204 rfl 0 rfl ?_
    refine gfM_0_15 hX kf_12_124 dX12_roads_205 ?_
    obtain ⟨z4, hz4, h⟩ := bsome h
    refine v_callVV (o := 0) hX (mM_EachAddsALineModel_fault hz4 l ad) kM_X12_fault kV_X12_fault km_12_138 (by decide) (fun _ => rfl) rfl rfl rfl (Nat.le_of_ble_eq_true rfl) (by decide) dX12_roads_208 ?_
    exact v_sub hX [0, 1, 2, 3] (by rfl) (wM_EachAddsALineModel_roads_211 hX hR H48 h)
  · exact v_sub hX [0, 1, 2, 3] (by rfl) (wM_EachAddsALineModel_roads_211 hX hR H48 h)
noncomputable def gM_EachAddsALineModel_roads_282 (N : Nat)  (a1 : Int32) (a2 : Int32) (a3 : Int32) (s : vSt) : Option (Int32 × vSt) :=
  (fM_EachAddsALineModel_fine N s).bind fun p1 =>
  if p1.1 = 0 then
    some (((-1) : Int32) - (p1.2.1 0 16), p1.2)
  else
    (some (s1 p1.2 0 0 a1)).bind fun z2 =>
    (some (s1 z2 0 2 a2)).bind fun z3 =>
    some (a3, z3)
set_option maxRecDepth 4000 in
theorem wM_EachAddsALineModel_roads_282 {P : vP} {l : Launch} {ad : Nat → Nat} {N : Nat} {r : Int32} {t1 : vSt} (hX : vOK P l shM ad (vR 3 64) cX12_roads RX12 5) (hR : (∀ pc lv, narrow .int (.int r) = .int r → decode cX12_roads pc = .ok (.ireturn, 1) → P t1 pc lv [.int r]))  {a1 : Int32} {a2 : Int32} {a3 : Int32} {s : vSt} (h : gM_EachAddsALineModel_roads_282 N a1 a2 a3 s = some (r, t1)) : P s 282 [(0, .ref (ad 0)), (1, .int a1), (2, .int a2), (3, .int a3)] [] := by
  unfold gM_EachAddsALineModel_roads_282 at h
  refine v_aload_n hX dX12_roads_282 rfl 0 rfl ?_
  obtain ⟨p1, hp1, h⟩ := bsome h
  refine v_callVI (o := 0) hX (mM_EachAddsALineModel_fine hp1 l ad) kM_X12_fine kV_X12_fine km_12_130 (by decide) (fun _ => rfl) rfl rfl rfl (Nat.le_of_ble_eq_true rfl) (by decide) dX12_roads_283 ?_
  refine v_if_ne (tgt := 296) hX dX12_roads_286 (by decide) h (fun h => ?_) (fun h => ?_)
  · refine v_iconst (v := (-1)) hX dX12_roads_289 (by decide) ?_
    refine v_aload_n hX dX12_roads_290 rfl 0 rfl ?_
    refine gfM_0_16 hX kf_12_127 dX12_roads_291 ?_
    refine v_isub hX dX12_roads_294 ?_
    exact v_retI hR h dX12_roads_295
  · refine v_aload_n hX dX12_roads_296 rfl 0 rfl ?_
    refine v_iload_n hX dX12_roads_297 rfl 1 rfl ?_
    refine pfM_0_0 hX kf_12_102 dX12_roads_298 h (fun z2 h => ?_)
    refine v_aload_n hX dX12_roads_301 rfl 0 rfl ?_
    refine v_iload_n hX dX12_roads_302 rfl 2 rfl ?_
    refine pfM_0_2 hX kf_12_109 dX12_roads_303 h (fun z3 h => ?_)
    refine v_iload_n hX dX12_roads_306 rfl 3 rfl ?_
    exact v_retI hR h dX12_roads_307
noncomputable def gM_EachAddsALineModel_roads_263 (N : Nat)  (a1 : Int32) (a2 : Int32) (a3 : Int32) (s : vSt) : Option (Int32 × vSt) :=
  if (s.1 0 13) ≤ (s.1 0 15) then
    gM_EachAddsALineModel_roads_282 N a1 a2 a3 s
  else
    (fM_EachAddsALineModel_fault N (s.1 0 15) s).bind fun z1 =>
    gM_EachAddsALineModel_roads_282 N a1 a2 a3 z1
set_option maxRecDepth 4000 in
theorem wM_EachAddsALineModel_roads_263 {P : vP} {l : Launch} {ad : Nat → Nat} {N : Nat} {r : Int32} {t1 : vSt} (hX : vOK P l shM ad (vR 3 64) cX12_roads RX12 5) (hR : (∀ pc lv, narrow .int (.int r) = .int r → decode cX12_roads pc = .ok (.ireturn, 1) → P t1 pc lv [.int r]))  {a1 : Int32} {a2 : Int32} {a3 : Int32} {s : vSt} (h : gM_EachAddsALineModel_roads_263 N a1 a2 a3 s = some (r, t1)) : P s 263 [(0, .ref (ad 0)), (1, .int a1), (2, .int a2), (3, .int a3)] [] := by
  unfold gM_EachAddsALineModel_roads_263 at h
  refine v_aload_n hX dX12_roads_263 rfl 0 rfl ?_
  refine gfM_0_15 hX kf_12_124 dX12_roads_264 ?_
  refine v_aload_n hX dX12_roads_267 rfl 0 rfl ?_
  refine gfM_0_13 hX kf_12_118 dX12_roads_268 ?_
  refine v_icmp_ge (tgt := 282) hX dX12_roads_271 (by decide) h (fun h => ?_) (fun h => ?_)
  · exact v_sub hX [0, 1, 2, 3] (by rfl) (wM_EachAddsALineModel_roads_282 hX hR  h)
  · refine v_aload_n hX dX12_roads_274 rfl 0 rfl ?_
    refine v_aload_n hX dX12_roads_275 rfl 0 rfl ?_
    refine gfM_0_15 hX kf_12_124 dX12_roads_276 ?_
    obtain ⟨z1, hz1, h⟩ := bsome h
    refine v_callVV (o := 0) hX (mM_EachAddsALineModel_fault hz1 l ad) kM_X12_fault kV_X12_fault km_12_138 (by decide) (fun _ => rfl) rfl rfl rfl (Nat.le_of_ble_eq_true rfl) (by decide) dX12_roads_279 ?_
    exact v_sub hX [0, 1, 2, 3] (by rfl) (wM_EachAddsALineModel_roads_282 hX hR  h)
noncomputable def gM_EachAddsALineModel_roads_48 (N : Nat)  : Nat → Int32 → Int32 → Int32 → Int32 → vSt → Option (Int32 × vSt)
  | 0, _, _, _, _, _ => none
  | n + 1, a1, a2, a3, a4, s =>
    if a4 = 0 then
      gM_EachAddsALineModel_roads_263 N a1 a2 a3 s
    else
      (fM_EachAddsALineModel_fine N s).bind fun p1 =>
      if p1.1 = 0 then
        gM_EachAddsALineModel_roads_263 N a1 a2 a3 p1.2
      else
        (fM_EachAddsALineModel_here N p1.2).bind fun p2 =>
        (fM_EachAddsALineModel_in N p2.1 48 57 p2.2).bind fun p3 =>
        if p3.1 = 0 then
          if a2 = 20 then
            gM_EachAddsALineModel_roads_137 N (gM_EachAddsALineModel_roads_48 N n) a1 a2 a3 p3.2
          else
            (fM_EachAddsALineModel_here N p3.2).bind fun p4 =>
            (fM_EachAddsALineModel_in N p4.1 97 105 p4.2).bind fun p5 =>
            if p5.1 = 0 then
              gM_EachAddsALineModel_roads_137 N (gM_EachAddsALineModel_roads_48 N n) a1 a2 a3 p5.2
            else
              (fM_EachAddsALineModel_letter N a1 p5.2).bind fun p6 =>
              (sto p6.2 2 20 a2 p6.1).bind fun z7 =>
              (fM_EachAddsALineModel_here N z7).bind fun p8 =>
              (ld p8.2 2 20 a2).bind fun v9 =>
              if p8.1 = ((97 : Int32) + v9) then
                (fM_EachAddsALineModel_fault N (p8.2.1 0 15) p8.2).bind fun z10 =>
                gM_EachAddsALineModel_roads_183 N (gM_EachAddsALineModel_roads_48 N n) a1 a2 a3 z10
              else
                gM_EachAddsALineModel_roads_183 N (gM_EachAddsALineModel_roads_48 N n) a1 a2 a3 p8.2
        else
          if a1 = 9 then
            gM_EachAddsALineModel_roads_89 N (gM_EachAddsALineModel_roads_48 N n) a1 a2 a3 p3.2
          else
            (fM_EachAddsALineModel_here N p3.2).bind fun p11 =>
            if p11.1 = 48 then
              gM_EachAddsALineModel_roads_89 N (gM_EachAddsALineModel_roads_48 N n) a1 a2 a3 p11.2
            else
              (fM_EachAddsALineModel_number N 1 p11.2).bind fun p12 =>
              (sto p12.2 1 9 a1 p12.1).bind fun z13 =>
              gM_EachAddsALineModel_roads_111 N (gM_EachAddsALineModel_roads_48 N n) a1 a2 a3 z13
set_option maxRecDepth 4000 in
theorem wM_EachAddsALineModel_roads_48 {P : vP} {l : Launch} {ad : Nat → Nat} {N : Nat} {r : Int32} {t1 : vSt} (hX : vOK P l shM ad (vR 3 64) cX12_roads RX12 5) (hR : (∀ pc lv, narrow .int (.int r) = .int r → decode cX12_roads pc = .ok (.ireturn, 1) → P t1 pc lv [.int r]))  : ∀ (n : Nat) (a1 : Int32) (a2 : Int32) (a3 : Int32) (a4 : Int32) (s : vSt), gM_EachAddsALineModel_roads_48 N n a1 a2 a3 a4 s = some (r, t1) → P s 48 [(0, .ref (ad 0)), (1, .int a1), (2, .int a2), (3, .int a3), (4, .int a4)] [] := by
  intro n
  induction n with
  | zero => intro a1 a2 a3 a4 s h; cases h
  | succ n ih =>
    intro a1 a2 a3 a4 s h
    unfold gM_EachAddsALineModel_roads_48 at h
    refine v_iload hX dX12_roads_48 4 rfl ?_
    refine v_if_eq (tgt := 263) hX dX12_roads_50 (by decide) h (fun h => ?_) (fun h => ?_)
    · exact v_sub hX [0, 1, 2, 3] (by rfl) (wM_EachAddsALineModel_roads_263 hX hR  h)
    · refine v_aload_n hX dX12_roads_53 rfl 0 rfl ?_
      obtain ⟨p1, hp1, h⟩ := bsome h
      refine v_callVI (o := 0) hX (mM_EachAddsALineModel_fine hp1 l ad) kM_X12_fine kV_X12_fine km_12_130 (by decide) (fun _ => rfl) rfl rfl rfl (Nat.le_of_ble_eq_true rfl) (by decide) dX12_roads_54 ?_
      refine v_if_eq (tgt := 263) hX dX12_roads_57 (by decide) h (fun h => ?_) (fun h => ?_)
      · exact v_sub hX [0, 1, 2, 3] (by rfl) (wM_EachAddsALineModel_roads_263 hX hR  h)
      · refine v_aload_n hX dX12_roads_60 rfl 0 rfl ?_
        obtain ⟨p2, hp2, h⟩ := bsome h
        refine v_callVI (o := 0) hX (mM_EachAddsALineModel_here hp2 l ad) kM_X12_here kV_X12_here km_12_134 (by decide) (fun _ => rfl) rfl rfl rfl (Nat.le_of_ble_eq_true rfl) (by decide) dX12_roads_61 ?_
        refine v_bipush (v := 48) hX dX12_roads_64 (by decide) ?_
        refine v_bipush (v := 57) hX dX12_roads_66 (by decide) ?_
        obtain ⟨p3, hp3, h⟩ := bsome h
        refine v_callSI hX (mM_EachAddsALineModel_in hp3 l ad) kM_X12_in kS_X12_in km_12_105 rfl rfl (Nat.le_of_ble_eq_true rfl) (by decide) dX12_roads_68 ?_
        refine v_if_eq (tgt := 117) hX dX12_roads_71 (by decide) h (fun h => ?_) (fun h => ?_)
        · refine v_iload_n hX dX12_roads_117 rfl 2 rfl ?_
          refine v_bipush (v := 20) hX dX12_roads_118 (by decide) ?_
          refine v_icmp_eq (tgt := 137) hX dX12_roads_120 (by decide) h (fun h => ?_) (fun h => ?_)
          · exact v_sub hX [0, 1, 2, 3] (by rfl) (wM_EachAddsALineModel_roads_137 hX hR ih h)
          · refine v_aload_n hX dX12_roads_123 rfl 0 rfl ?_
            obtain ⟨p4, hp4, h⟩ := bsome h
            refine v_callVI (o := 0) hX (mM_EachAddsALineModel_here hp4 l ad) kM_X12_here kV_X12_here km_12_134 (by decide) (fun _ => rfl) rfl rfl rfl (Nat.le_of_ble_eq_true rfl) (by decide) dX12_roads_124 ?_
            refine v_bipush (v := 97) hX dX12_roads_127 (by decide) ?_
            refine v_bipush (v := 105) hX dX12_roads_129 (by decide) ?_
            obtain ⟨p5, hp5, h⟩ := bsome h
            refine v_callSI hX (mM_EachAddsALineModel_in hp5 l ad) kM_X12_in kS_X12_in km_12_105 rfl rfl (Nat.le_of_ble_eq_true rfl) (by decide) dX12_roads_131 ?_
            refine v_if_ne (tgt := 148) hX dX12_roads_134 (by decide) h (fun h => ?_) (fun h => ?_)
            · exact v_sub hX [0, 1, 2, 3] (by rfl) (wM_EachAddsALineModel_roads_137 hX hR ih h)
            · refine v_aload_n hX dX12_roads_148 rfl 0 rfl ?_
              refine gfM_0_3 hX kf_12_13 dX12_roads_149 ?_
              refine v_iload_n hX dX12_roads_152 rfl 2 rfl ?_
              refine v_aload_n hX dX12_roads_153 rfl 0 rfl ?_
              refine v_iload_n hX dX12_roads_154 rfl 1 rfl ?_
              obtain ⟨p6, hp6, h⟩ := bsome h
              refine v_callVI (o := 0) hX (mM_EachAddsALineModel_letter hp6 l ad) kM_X12_letter kV_X12_letter km_12_150 (by decide) (fun _ => rfl) rfl rfl rfl (Nat.le_of_ble_eq_true rfl) (by decide) dX12_roads_155 ?_
              refine asM_2 hX dX12_roads_158 h (fun z7 h => ?_)
              refine v_aload_n hX dX12_roads_159 rfl 0 rfl ?_
              obtain ⟨p8, hp8, h⟩ := bsome h
              refine v_callVI (o := 0) hX (mM_EachAddsALineModel_here hp8 l ad) kM_X12_here kV_X12_here km_12_134 (by decide) (fun _ => rfl) rfl rfl rfl (Nat.le_of_ble_eq_true rfl) (by decide) dX12_roads_160 ?_
              refine v_bipush (v := 97) hX dX12_roads_163 (by decide) ?_
              refine v_aload_n hX dX12_roads_165 rfl 0 rfl ?_
              refine gfM_0_3 hX kf_12_13 dX12_roads_166 ?_
              refine v_iload_n hX dX12_roads_169 rfl 2 rfl ?_
              refine alM_2 hX dX12_roads_170 h (fun v9 h => ?_)
              refine v_iadd hX dX12_roads_171 ?_
              refine v_icmp_ne (tgt := 183) hX dX12_roads_172 (by decide) h (fun h => ?_) (fun h => ?_)
              · refine v_aload_n hX dX12_roads_175 rfl 0 rfl ?_
                refine v_aload_n hX dX12_roads_176 rfl 0 rfl ?_
                refine gfM_0_15 hX kf_12_124 dX12_roads_177 ?_
                obtain ⟨z10, hz10, h⟩ := bsome h
                refine v_callVV (o := 0) hX (mM_EachAddsALineModel_fault hz10 l ad) kM_X12_fault kV_X12_fault km_12_138 (by decide) (fun _ => rfl) rfl rfl rfl (Nat.le_of_ble_eq_true rfl) (by decide) dX12_roads_180 ?_
                exact v_sub hX [0, 1, 2, 3] (by rfl) (wM_EachAddsALineModel_roads_183 hX hR ih h)
              · exact v_sub hX [0, 1, 2, 3] (by rfl) (wM_EachAddsALineModel_roads_183 hX hR ih h)
        · refine v_iload_n hX dX12_roads_74 rfl 1 rfl ?_
          refine v_bipush (v := 9) hX dX12_roads_75 (by decide) ?_
          refine v_icmp_eq (tgt := 89) hX dX12_roads_77 (by decide) h (fun h => ?_) (fun h => ?_)
          · exact v_sub hX [0, 1, 2, 3] (by rfl) (wM_EachAddsALineModel_roads_89 hX hR ih h)
          · refine v_aload_n hX dX12_roads_80 rfl 0 rfl ?_
            obtain ⟨p11, hp11, h⟩ := bsome h
            refine v_callVI (o := 0) hX (mM_EachAddsALineModel_here hp11 l ad) kM_X12_here kV_X12_here km_12_134 (by decide) (fun _ => rfl) rfl rfl rfl (Nat.le_of_ble_eq_true rfl) (by decide) dX12_roads_81 ?_
            refine v_bipush (v := 48) hX dX12_roads_84 (by decide) ?_
            refine v_icmp_ne (tgt := 100) hX dX12_roads_86 (by decide) h (fun h => ?_) (fun h => ?_)
            · exact v_sub hX [0, 1, 2, 3] (by rfl) (wM_EachAddsALineModel_roads_89 hX hR ih h)
            · refine v_aload_n hX dX12_roads_100 rfl 0 rfl ?_
              refine gfM_0_1 hX kf_12_9 dX12_roads_101 ?_
              refine v_iload_n hX dX12_roads_104 rfl 1 rfl ?_
              refine v_aload_n hX dX12_roads_105 rfl 0 rfl ?_
              refine v_iconst (v := 1) hX dX12_roads_106 (by decide) ?_
              obtain ⟨p12, hp12, h⟩ := bsome h
              refine v_callVI (o := 0) hX (mM_EachAddsALineModel_number hp12 l ad) kM_X12_number kV_X12_number km_12_146 (by decide) (fun _ => rfl) rfl rfl rfl (Nat.le_of_ble_eq_true rfl) (by decide) dX12_roads_107 ?_
              refine asM_1 hX dX12_roads_110 h (fun z13 h => ?_)
              exact v_sub hX [0, 1, 2, 3] (by rfl) (wM_EachAddsALineModel_roads_111 hX hR ih h)
noncomputable def gM_EachAddsALineModel_roads_0 (N : Nat)   (s : vSt) : Option (Int32 × vSt) :=
  (some (s1 s 0 11 0)).bind fun z1 =>
  (fM_EachAddsALineModel_begin_m_text N (z1.1 0 8) 76 z1).bind fun z2 =>
  (some (s1 z2 0 8 0)).bind fun z3 =>
  if (z3.1 0 13) = 0 then
    some (0, z3)
  else
    (some (z3.1 0 0 : Int32)).bind fun v4 =>
    (some (z3.1 0 2 : Int32)).bind fun v5 =>
    gM_EachAddsALineModel_roads_48 N N v4 v5 0 1 z3
set_option maxRecDepth 4000 in
theorem wM_EachAddsALineModel_roads_0 {P : vP} {l : Launch} {ad : Nat → Nat} {N : Nat} {r : Int32} {t1 : vSt} (hX : vOK P l shM ad (vR 3 64) cX12_roads RX12 5) (hR : (∀ pc lv, narrow .int (.int r) = .int r → decode cX12_roads pc = .ok (.ireturn, 1) → P t1 pc lv [.int r]))   {s : vSt} (h : gM_EachAddsALineModel_roads_0 N s = some (r, t1)) : P s 0 [(0, .ref (ad 0))] [] := by
  unfold gM_EachAddsALineModel_roads_0 at h
  refine v_aload_n hX dX12_roads_0 rfl 0 rfl ?_
  refine v_iconst (v := 0) hX dX12_roads_1 (by decide) ?_
  refine pfM_0_11 hX kf_12_96 dX12_roads_2 h (fun z1 h => ?_)
  refine v_aload_n hX dX12_roads_5 rfl 0 rfl ?_
  refine v_aload_n hX dX12_roads_6 rfl 0 rfl ?_
  refine gfM_0_7 hX kf_12_25 dX12_roads_7 ?_
  refine v_aload_n hX dX12_roads_10 rfl 0 rfl ?_
  refine gfM_0_8 hX kf_12_112 dX12_roads_11 ?_
  refine v_bipush (v := 76) hX dX12_roads_14 (by decide) ?_
  obtain ⟨z2, hz2, h⟩ := bsome h
  refine v_callVV (o := 0) hX (mM_EachAddsALineModel_begin_m_text hz2 l ad) kM_X12_begin kV_X12_begin km_12_142 (by decide) (fun _ => rfl) rfl rfl rfl (Nat.le_of_ble_eq_true rfl) (by decide) dX12_roads_16 ?_
  refine v_aload_n hX dX12_roads_19 rfl 0 rfl ?_
  refine v_iconst (v := 0) hX dX12_roads_20 (by decide) ?_
  refine pfM_0_8 hX kf_12_112 dX12_roads_21 h (fun z3 h => ?_)
  refine v_aload_n hX dX12_roads_24 rfl 0 rfl ?_
  refine gfM_0_13 hX kf_12_118 dX12_roads_25 ?_
  refine v_if_ne (tgt := 33) hX dX12_roads_28 (by decide) h (fun h => ?_) (fun h => ?_)
  · refine v_iconst (v := 0) hX dX12_roads_31 (by decide) ?_
    exact v_retI hR h dX12_roads_32
  · refine v_aload_n hX dX12_roads_33 rfl 0 rfl ?_
    refine gfM_0_0 hX kf_12_102 dX12_roads_34 ?_
    refine v_nmI hX h (fun v4 h => ?_)
    refine v_istore_n (lv' := [(1, .int v4), (0, .ref (ad 0))]) hX dX12_roads_37 rfl (by decide) rfl ?_
    refine v_aload_n hX dX12_roads_38 rfl 1 rfl ?_
    refine gfM_0_2 hX kf_12_109 dX12_roads_39 ?_
    refine v_nmI hX h (fun v5 h => ?_)
    refine v_istore_n (lv' := [(2, .int v5), (1, .int v4), (0, .ref (ad 0))]) hX dX12_roads_42 rfl (by decide) rfl ?_
    refine v_iconst (v := 0) hX dX12_roads_43 (by decide) ?_
    refine v_istore_n (lv' := [(3, .int 0), (2, .int v5), (1, .int v4), (0, .ref (ad 0))]) hX dX12_roads_44 rfl (by decide) rfl ?_
    refine v_iconst (v := 1) hX dX12_roads_45 (by decide) ?_
    refine v_istore (lv' := [(4, .int 1), (3, .int 0), (2, .int v5), (1, .int v4), (0, .ref (ad 0))]) hX dX12_roads_46 (by decide) rfl ?_
    exact v_sub hX [4, 3, 2, 1, 0] (by rfl) (wM_EachAddsALineModel_roads_48 hX hR  N _ _ _ _ _ h)
noncomputable def fM_EachAddsALineModel_roads (N : Nat)  (s : vSt) : Option (Int32 × vSt) := gM_EachAddsALineModel_roads_0 N s
theorem mM_EachAddsALineModel_roads {N : Nat}  {s : vSt} {r : Int32} {t1 : vSt} (h : fM_EachAddsALineModel_roads N s = some (r, t1)) (l : Launch) (ad : Nat → Nat) : vMI l shM ad yX12_roads cX12_roads 5 .int 3 64 s [.ref (ad 0)] r t1 :=
  vMI_of (by decide +kernel) (Nat.le_of_ble_eq_true rfl) (fun P hX hR => wM_EachAddsALineModel_roads_0 hX hR h)
-- M_EachAddsALineModel_product
noncomputable def gM_EachAddsALineModel_product_87 (N : Nat) (rE : Int32 → vSt → Option (Int32 × vSt)) (r6 : Int32 → Int32 → vSt → Option (Int32 × vSt)) (a1 : Int32) (k0 : Int32) (s : vSt) : Option (Int32 × vSt) :=
  r6 a1 k0 s
set_option maxRecDepth 4000 in
theorem wM_EachAddsALineModel_product_87 {P : vP} {l : Launch} {ad : Nat → Nat} {N : Nat} {rE : Int32 → vSt → Option (Int32 × vSt)} {fE nE : Nat} {r6 : Int32 → Int32 → vSt → Option (Int32 × vSt)} {r : Int32} {t1 : vSt} (HE : ∀ a s r t, rE a s = some (r, t) → vMI l shM ad yX12_thing cX12_thing 4 .int fE nE s [.ref (ad 0), .int a] r t) (hX : vOK P l shM ad (vR (fE + 1) (nE + 23)) cX12_product RX12 5) (hR : (∀ pc lv, narrow .int (.int r) = .int r → decode cX12_product pc = .ok (.ireturn, 1) → P t1 pc lv [.int r])) (H6 : ∀ (a1 : Int32) (a2 : Int32) (s : vSt), r6 a1 a2 s = some (r, t1) → P s 6 [(0, .ref (ad 0)), (1, .int a1), (2, .int a2)] []) {a1 : Int32} {k0 : Int32} {s : vSt} (h : gM_EachAddsALineModel_product_87 N rE r6 a1 k0 s = some (r, t1)) : P s 87 [(0, .ref (ad 0)), (1, .int a1)] [.int k0] := by
  unfold gM_EachAddsALineModel_product_87 at h
  refine v_istore_n (lv' := [(2, .int k0), (0, .ref (ad 0)), (1, .int a1)]) hX dX12_product_87 rfl (by decide) rfl ?_
  refine v_goto (tgt := 6) hX dX12_product_88 (by decide) ?_
  exact v_sub hX [1, 2, 0] (by rfl) (H6 _ _ _ h)
noncomputable def gM_EachAddsALineModel_product_45 (N : Nat) (rE : Int32 → vSt → Option (Int32 × vSt)) (r6 : Int32 → Int32 → vSt → Option (Int32 × vSt)) (a1 : Int32) (a2 : Int32) (k0 : Int32) (s : vSt) : Option (Int32 × vSt) :=
  (some (s1 s 0 15 ((s.1 0 15) + 1))).bind fun z1 =>
  (rE a1 z1).bind fun p2 =>
  if k0 = 0 then
    if p2.1 = 0 then
      gM_EachAddsALineModel_product_87 N rE r6 a1 0 p2.2
    else
      if p2.1 = 0 then none else
      gM_EachAddsALineModel_product_87 N rE r6 a1 (a2 / p2.1) p2.2
  else
    gM_EachAddsALineModel_product_87 N rE r6 a1 (a2 * p2.1) p2.2
set_option maxRecDepth 4000 in
theorem wM_EachAddsALineModel_product_45 {P : vP} {l : Launch} {ad : Nat → Nat} {N : Nat} {rE : Int32 → vSt → Option (Int32 × vSt)} {fE nE : Nat} {r6 : Int32 → Int32 → vSt → Option (Int32 × vSt)} {r : Int32} {t1 : vSt} (HE : ∀ a s r t, rE a s = some (r, t) → vMI l shM ad yX12_thing cX12_thing 4 .int fE nE s [.ref (ad 0), .int a] r t) (hX : vOK P l shM ad (vR (fE + 1) (nE + 23)) cX12_product RX12 5) (hR : (∀ pc lv, narrow .int (.int r) = .int r → decode cX12_product pc = .ok (.ireturn, 1) → P t1 pc lv [.int r])) (H6 : ∀ (a1 : Int32) (a2 : Int32) (s : vSt), r6 a1 a2 s = some (r, t1) → P s 6 [(0, .ref (ad 0)), (1, .int a1), (2, .int a2)] []) {a1 : Int32} {a2 : Int32} {k0 : Int32} {s : vSt} (h : gM_EachAddsALineModel_product_45 N rE r6 a1 a2 k0 s = some (r, t1)) : P s 45 [(0, .ref (ad 0)), (1, .int a1), (2, .int a2)] [.int k0] := by
  unfold gM_EachAddsALineModel_product_45 at h
  refine v_istore_n (lv' := [(3, .int k0), (0, .ref (ad 0)), (1, .int a1), (2, .int a2)]) hX dX12_product_45 rfl (by decide) rfl ?_
  refine v_aload_n hX dX12_product_46 rfl 1 rfl ?_
  refine v_dup hX dX12_product_47 rfl ?_
  refine gfM_0_15 hX kf_12_124 dX12_product_48 ?_
  refine v_iconst (v := 1) hX dX12_product_51 (by decide) ?_
  refine v_iadd hX dX12_product_52 ?_
  refine pfM_0_15 hX kf_12_124 dX12_product_53 h (fun z1 h => ?_)
  refine v_aload_n hX dX12_product_56 rfl 1 rfl ?_
  refine v_iload_n hX dX12_product_57 rfl 2 rfl ?_
  obtain ⟨p2, hp2, h⟩ := bsome h
  refine v_callVI (o := 0) hX (HE _ _ _ _ hp2) kM_X12_thing kV_X12_thing km_12_163 (by decide) (fun _ => rfl) rfl rfl rfl (Nat.le_of_ble_eq_true rfl) ⟨by show _ ≤ _; unfold vR; simp only []; omega, by show _ ≤ _; unfold vR; simp only []; omega⟩ dX12_product_58 ?_
  refine v_istore (lv' := [(4, .int p2.1), (3, .int k0), (0, .ref (ad 0)), (1, .int a1), (2, .int a2)]) hX dX12_product_61 (by decide) rfl ?_
  refine v_iload_n hX dX12_product_63 rfl 1 rfl ?_
  refine v_if_eq (tgt := 74) hX dX12_product_64 (by decide) h (fun h => ?_) (fun h => ?_)
  · refine v_iload hX dX12_product_74 0 rfl ?_
    refine v_if_ne (tgt := 83) hX dX12_product_76 (by decide) h (fun h => ?_) (fun h => ?_)
    · refine v_iconst (v := 0) hX dX12_product_79 (by decide) ?_
      refine v_goto (tgt := 87) hX dX12_product_80 (by decide) ?_
      exact v_sub hX [2, 3] (by rfl) (wM_EachAddsALineModel_product_87 HE hX hR H6 h)
    · refine v_iload_n hX dX12_product_83 rfl 4 rfl ?_
      refine v_iload hX dX12_product_84 0 rfl ?_
      obtain ⟨hz, h⟩ := nzsome h
      refine v_idiv hX dX12_product_86 hz ?_
      exact v_sub hX [2, 3] (by rfl) (wM_EachAddsALineModel_product_87 HE hX hR H6 h)
  · refine v_iload_n hX dX12_product_67 rfl 4 rfl ?_
    refine v_iload hX dX12_product_68 0 rfl ?_
    refine v_imul hX dX12_product_70 ?_
    refine v_goto (tgt := 87) hX dX12_product_71 (by decide) ?_
    exact v_sub hX [2, 3] (by rfl) (wM_EachAddsALineModel_product_87 HE hX hR H6 h)
noncomputable def gM_EachAddsALineModel_product_31 (N : Nat) (rE : Int32 → vSt → Option (Int32 × vSt)) (r6 : Int32 → Int32 → vSt → Option (Int32 × vSt)) (a1 : Int32) (a2 : Int32) (s : vSt) : Option (Int32 × vSt) :=
  (fM_EachAddsALineModel_here N s).bind fun p1 =>
  if p1.1 = 42 then
    gM_EachAddsALineModel_product_45 N rE r6 a1 a2 1 p1.2
  else
    gM_EachAddsALineModel_product_45 N rE r6 a1 a2 0 p1.2
set_option maxRecDepth 4000 in
theorem wM_EachAddsALineModel_product_31 {P : vP} {l : Launch} {ad : Nat → Nat} {N : Nat} {rE : Int32 → vSt → Option (Int32 × vSt)} {fE nE : Nat} {r6 : Int32 → Int32 → vSt → Option (Int32 × vSt)} {r : Int32} {t1 : vSt} (HE : ∀ a s r t, rE a s = some (r, t) → vMI l shM ad yX12_thing cX12_thing 4 .int fE nE s [.ref (ad 0), .int a] r t) (hX : vOK P l shM ad (vR (fE + 1) (nE + 23)) cX12_product RX12 5) (hR : (∀ pc lv, narrow .int (.int r) = .int r → decode cX12_product pc = .ok (.ireturn, 1) → P t1 pc lv [.int r])) (H6 : ∀ (a1 : Int32) (a2 : Int32) (s : vSt), r6 a1 a2 s = some (r, t1) → P s 6 [(0, .ref (ad 0)), (1, .int a1), (2, .int a2)] []) {a1 : Int32} {a2 : Int32} {s : vSt} (h : gM_EachAddsALineModel_product_31 N rE r6 a1 a2 s = some (r, t1)) : P s 31 [(0, .ref (ad 0)), (1, .int a1), (2, .int a2)] [] := by
  unfold gM_EachAddsALineModel_product_31 at h
  refine v_aload_n hX dX12_product_31 rfl 0 rfl ?_
  obtain ⟨p1, hp1, h⟩ := bsome h
  refine v_callVI (o := 0) hX (mM_EachAddsALineModel_here hp1 l ad) kM_X12_here kV_X12_here km_12_134 (by decide) (fun _ => rfl) rfl rfl rfl (Nat.le_of_ble_eq_true rfl) ⟨by show _ ≤ _; unfold vR; simp only []; omega, by show _ ≤ _; unfold vR; simp only []; omega⟩ dX12_product_32 ?_
  refine v_bipush (v := 42) hX dX12_product_35 (by decide) ?_
  refine v_icmp_ne (tgt := 44) hX dX12_product_37 (by decide) h (fun h => ?_) (fun h => ?_)
  · refine v_iconst (v := 1) hX dX12_product_40 (by decide) ?_
    refine v_goto (tgt := 45) hX dX12_product_41 (by decide) ?_
    exact v_sub hX [0, 1, 2] (by rfl) (wM_EachAddsALineModel_product_45 HE hX hR H6 h)
  · refine v_iconst (v := 0) hX dX12_product_44 (by decide) ?_
    exact v_sub hX [0, 1, 2] (by rfl) (wM_EachAddsALineModel_product_45 HE hX hR H6 h)
noncomputable def gM_EachAddsALineModel_product_6 (N : Nat) (rE : Int32 → vSt → Option (Int32 × vSt))  : Nat → Int32 → Int32 → vSt → Option (Int32 × vSt)
  | 0, _, _, _ => none
  | n + 1, a1, a2, s =>
    (fM_EachAddsALineModel_fine N s).bind fun p1 =>
    if p1.1 = 0 then
      some (a2, p1.2)
    else
      (fM_EachAddsALineModel_here N p1.2).bind fun p2 =>
      if p2.1 = 42 then
        gM_EachAddsALineModel_product_31 N rE (gM_EachAddsALineModel_product_6 N rE n) a1 a2 p2.2
      else
        (fM_EachAddsALineModel_here N p2.2).bind fun p3 =>
        if p3.1 = 47 then
          gM_EachAddsALineModel_product_31 N rE (gM_EachAddsALineModel_product_6 N rE n) a1 a2 p3.2
        else
          some (a2, p3.2)
set_option maxRecDepth 4000 in
theorem wM_EachAddsALineModel_product_6 {P : vP} {l : Launch} {ad : Nat → Nat} {N : Nat} {rE : Int32 → vSt → Option (Int32 × vSt)} {fE nE : Nat} {r : Int32} {t1 : vSt} (HE : ∀ a s r t, rE a s = some (r, t) → vMI l shM ad yX12_thing cX12_thing 4 .int fE nE s [.ref (ad 0), .int a] r t) (hX : vOK P l shM ad (vR (fE + 1) (nE + 23)) cX12_product RX12 5) (hR : (∀ pc lv, narrow .int (.int r) = .int r → decode cX12_product pc = .ok (.ireturn, 1) → P t1 pc lv [.int r]))  : ∀ (n : Nat) (a1 : Int32) (a2 : Int32) (s : vSt), gM_EachAddsALineModel_product_6 N rE n a1 a2 s = some (r, t1) → P s 6 [(0, .ref (ad 0)), (1, .int a1), (2, .int a2)] [] := by
  intro n
  induction n with
  | zero => intro a1 a2 s h; cases h
  | succ n ih =>
    intro a1 a2 s h
    unfold gM_EachAddsALineModel_product_6 at h
    refine v_aload_n hX dX12_product_6 rfl 0 rfl ?_
    obtain ⟨p1, hp1, h⟩ := bsome h
    refine v_callVI (o := 0) hX (mM_EachAddsALineModel_fine hp1 l ad) kM_X12_fine kV_X12_fine km_12_130 (by decide) (fun _ => rfl) rfl rfl rfl (Nat.le_of_ble_eq_true rfl) ⟨by show _ ≤ _; unfold vR; simp only []; omega, by show _ ≤ _; unfold vR; simp only []; omega⟩ dX12_product_7 ?_
    refine v_if_eq (tgt := 91) hX dX12_product_10 (by decide) h (fun h => ?_) (fun h => ?_)
    · refine v_iload_n hX dX12_product_91 rfl 2 rfl ?_
      exact v_retI hR h dX12_product_92
    · refine v_aload_n hX dX12_product_13 rfl 0 rfl ?_
      obtain ⟨p2, hp2, h⟩ := bsome h
      refine v_callVI (o := 0) hX (mM_EachAddsALineModel_here hp2 l ad) kM_X12_here kV_X12_here km_12_134 (by decide) (fun _ => rfl) rfl rfl rfl (Nat.le_of_ble_eq_true rfl) ⟨by show _ ≤ _; unfold vR; simp only []; omega, by show _ ≤ _; unfold vR; simp only []; omega⟩ dX12_product_14 ?_
      refine v_bipush (v := 42) hX dX12_product_17 (by decide) ?_
      refine v_icmp_eq (tgt := 31) hX dX12_product_19 (by decide) h (fun h => ?_) (fun h => ?_)
      · exact v_sub hX [0, 1, 2] (by rfl) (wM_EachAddsALineModel_product_31 HE hX hR ih h)
      · refine v_aload_n hX dX12_product_22 rfl 0 rfl ?_
        obtain ⟨p3, hp3, h⟩ := bsome h
        refine v_callVI (o := 0) hX (mM_EachAddsALineModel_here hp3 l ad) kM_X12_here kV_X12_here km_12_134 (by decide) (fun _ => rfl) rfl rfl rfl (Nat.le_of_ble_eq_true rfl) ⟨by show _ ≤ _; unfold vR; simp only []; omega, by show _ ≤ _; unfold vR; simp only []; omega⟩ dX12_product_23 ?_
        refine v_bipush (v := 47) hX dX12_product_26 (by decide) ?_
        refine v_icmp_ne (tgt := 91) hX dX12_product_28 (by decide) h (fun h => ?_) (fun h => ?_)
        · exact v_sub hX [0, 1, 2] (by rfl) (wM_EachAddsALineModel_product_31 HE hX hR ih h)
        · refine v_iload_n hX dX12_product_91 rfl 2 rfl ?_
          exact v_retI hR h dX12_product_92
noncomputable def gM_EachAddsALineModel_product_0 (N : Nat) (rE : Int32 → vSt → Option (Int32 × vSt))  (a1 : Int32) (s : vSt) : Option (Int32 × vSt) :=
  (rE a1 s).bind fun p1 =>
  gM_EachAddsALineModel_product_6 N rE N a1 p1.1 p1.2
set_option maxRecDepth 4000 in
theorem wM_EachAddsALineModel_product_0 {P : vP} {l : Launch} {ad : Nat → Nat} {N : Nat} {rE : Int32 → vSt → Option (Int32 × vSt)} {fE nE : Nat} {r : Int32} {t1 : vSt} (HE : ∀ a s r t, rE a s = some (r, t) → vMI l shM ad yX12_thing cX12_thing 4 .int fE nE s [.ref (ad 0), .int a] r t) (hX : vOK P l shM ad (vR (fE + 1) (nE + 23)) cX12_product RX12 5) (hR : (∀ pc lv, narrow .int (.int r) = .int r → decode cX12_product pc = .ok (.ireturn, 1) → P t1 pc lv [.int r]))  {a1 : Int32} {s : vSt} (h : gM_EachAddsALineModel_product_0 N rE a1 s = some (r, t1)) : P s 0 [(0, .ref (ad 0)), (1, .int a1)] [] := by
  unfold gM_EachAddsALineModel_product_0 at h
  refine v_aload_n hX dX12_product_0 rfl 0 rfl ?_
  refine v_iload_n hX dX12_product_1 rfl 1 rfl ?_
  obtain ⟨p1, hp1, h⟩ := bsome h
  refine v_callVI (o := 0) hX (HE _ _ _ _ hp1) kM_X12_thing kV_X12_thing km_12_163 (by decide) (fun _ => rfl) rfl rfl rfl (Nat.le_of_ble_eq_true rfl) ⟨by show _ ≤ _; unfold vR; simp only []; omega, by show _ ≤ _; unfold vR; simp only []; omega⟩ dX12_product_2 ?_
  refine v_istore_n (lv' := [(2, .int p1.1), (0, .ref (ad 0)), (1, .int a1)]) hX dX12_product_5 rfl (by decide) rfl ?_
  exact v_sub hX [1, 2, 0] (by rfl) (wM_EachAddsALineModel_product_6 HE hX hR  N _ _ _ h)
noncomputable def fM_EachAddsALineModel_product (N : Nat) (rE : Int32 → vSt → Option (Int32 × vSt)) (a1 : Int32) (s : vSt) : Option (Int32 × vSt) := gM_EachAddsALineModel_product_0 N rE a1 s
theorem mM_EachAddsALineModel_product {l : Launch} {ad : Nat → Nat} {N : Nat} {rE : Int32 → vSt → Option (Int32 × vSt)} {fE nE : Nat} (HE : ∀ a s r t, rE a s = some (r, t) → vMI l shM ad yX12_thing cX12_thing 4 .int fE nE s [.ref (ad 0), .int a] r t)  {a1 : Int32} {s : vSt} {r : Int32} {t1 : vSt} (h : fM_EachAddsALineModel_product N rE a1 s = some (r, t1)) : vMI l shM ad yX12_product cX12_product 5 .int (fE + 1) (nE + 23) s [.ref (ad 0), .int a1] r t1 :=
  vMI_of (by decide +kernel) (Nat.le_of_ble_eq_true rfl) (fun P hX hR => wM_EachAddsALineModel_product_0 HE hX hR h)
-- M_EachAddsALineModel_sum
noncomputable def gM_EachAddsALineModel_sum_78 (N : Nat) (rE : Int32 → vSt → Option (Int32 × vSt)) (r6 : Int32 → Int32 → vSt → Option (Int32 × vSt)) (a1 : Int32) (k0 : Int32) (s : vSt) : Option (Int32 × vSt) :=
  r6 a1 k0 s
set_option maxRecDepth 4000 in
theorem wM_EachAddsALineModel_sum_78 {P : vP} {l : Launch} {ad : Nat → Nat} {N : Nat} {rE : Int32 → vSt → Option (Int32 × vSt)} {fE nE : Nat} {r6 : Int32 → Int32 → vSt → Option (Int32 × vSt)} {r : Int32} {t1 : vSt} (HE : ∀ a s r t, rE a s = some (r, t) → vMI l shM ad yX12_thing cX12_thing 4 .int fE nE s [.ref (ad 0), .int a] r t) (hX : vOK P l shM ad (vR (fE + 2) (nE + 47)) cX12_sum RX12 5) (hR : (∀ pc lv, narrow .int (.int r) = .int r → decode cX12_sum pc = .ok (.ireturn, 1) → P t1 pc lv [.int r])) (H6 : ∀ (a1 : Int32) (a2 : Int32) (s : vSt), r6 a1 a2 s = some (r, t1) → P s 6 [(0, .ref (ad 0)), (1, .int a1), (2, .int a2)] []) {a1 : Int32} {k0 : Int32} {s : vSt} (h : gM_EachAddsALineModel_sum_78 N rE r6 a1 k0 s = some (r, t1)) : P s 78 [(0, .ref (ad 0)), (1, .int a1)] [.int k0] := by
  unfold gM_EachAddsALineModel_sum_78 at h
  refine v_istore_n (lv' := [(2, .int k0), (0, .ref (ad 0)), (1, .int a1)]) hX dX12_sum_78 rfl (by decide) rfl ?_
  refine v_goto (tgt := 6) hX dX12_sum_79 (by decide) ?_
  exact v_sub hX [1, 2, 0] (by rfl) (H6 _ _ _ h)
noncomputable def gM_EachAddsALineModel_sum_45 (N : Nat) (rE : Int32 → vSt → Option (Int32 × vSt)) (r6 : Int32 → Int32 → vSt → Option (Int32 × vSt)) (a1 : Int32) (a2 : Int32) (k0 : Int32) (s : vSt) : Option (Int32 × vSt) :=
  (some (s1 s 0 15 ((s.1 0 15) + 1))).bind fun z1 =>
  (fM_EachAddsALineModel_product N rE a1 z1).bind fun p2 =>
  if k0 = 0 then
    gM_EachAddsALineModel_sum_78 N rE r6 a1 (a2 - p2.1) p2.2
  else
    gM_EachAddsALineModel_sum_78 N rE r6 a1 (a2 + p2.1) p2.2
set_option maxRecDepth 4000 in
theorem wM_EachAddsALineModel_sum_45 {P : vP} {l : Launch} {ad : Nat → Nat} {N : Nat} {rE : Int32 → vSt → Option (Int32 × vSt)} {fE nE : Nat} {r6 : Int32 → Int32 → vSt → Option (Int32 × vSt)} {r : Int32} {t1 : vSt} (HE : ∀ a s r t, rE a s = some (r, t) → vMI l shM ad yX12_thing cX12_thing 4 .int fE nE s [.ref (ad 0), .int a] r t) (hX : vOK P l shM ad (vR (fE + 2) (nE + 47)) cX12_sum RX12 5) (hR : (∀ pc lv, narrow .int (.int r) = .int r → decode cX12_sum pc = .ok (.ireturn, 1) → P t1 pc lv [.int r])) (H6 : ∀ (a1 : Int32) (a2 : Int32) (s : vSt), r6 a1 a2 s = some (r, t1) → P s 6 [(0, .ref (ad 0)), (1, .int a1), (2, .int a2)] []) {a1 : Int32} {a2 : Int32} {k0 : Int32} {s : vSt} (h : gM_EachAddsALineModel_sum_45 N rE r6 a1 a2 k0 s = some (r, t1)) : P s 45 [(0, .ref (ad 0)), (1, .int a1), (2, .int a2)] [.int k0] := by
  unfold gM_EachAddsALineModel_sum_45 at h
  refine v_istore_n (lv' := [(3, .int k0), (0, .ref (ad 0)), (1, .int a1), (2, .int a2)]) hX dX12_sum_45 rfl (by decide) rfl ?_
  refine v_aload_n hX dX12_sum_46 rfl 1 rfl ?_
  refine v_dup hX dX12_sum_47 rfl ?_
  refine gfM_0_15 hX kf_12_124 dX12_sum_48 ?_
  refine v_iconst (v := 1) hX dX12_sum_51 (by decide) ?_
  refine v_iadd hX dX12_sum_52 ?_
  refine pfM_0_15 hX kf_12_124 dX12_sum_53 h (fun z1 h => ?_)
  refine v_aload_n hX dX12_sum_56 rfl 1 rfl ?_
  refine v_iload_n hX dX12_sum_57 rfl 2 rfl ?_
  obtain ⟨p2, hp2, h⟩ := bsome h
  refine v_callVI (o := 0) hX (mM_EachAddsALineModel_product HE hp2) kM_X12_product kV_X12_product km_12_160 (by decide) (fun _ => rfl) rfl rfl rfl (Nat.le_of_ble_eq_true rfl) ⟨by show _ ≤ _; unfold vR; simp only []; omega, by show _ ≤ _; unfold vR; simp only []; omega⟩ dX12_sum_58 ?_
  refine v_istore (lv' := [(4, .int p2.1), (3, .int k0), (0, .ref (ad 0)), (1, .int a1), (2, .int a2)]) hX dX12_sum_61 (by decide) rfl ?_
  refine v_iload_n hX dX12_sum_63 rfl 1 rfl ?_
  refine v_if_eq (tgt := 74) hX dX12_sum_64 (by decide) h (fun h => ?_) (fun h => ?_)
  · refine v_iload_n hX dX12_sum_74 rfl 4 rfl ?_
    refine v_iload hX dX12_sum_75 0 rfl ?_
    refine v_isub hX dX12_sum_77 ?_
    exact v_sub hX [2, 3] (by rfl) (wM_EachAddsALineModel_sum_78 HE hX hR H6 h)
  · refine v_iload_n hX dX12_sum_67 rfl 4 rfl ?_
    refine v_iload hX dX12_sum_68 0 rfl ?_
    refine v_iadd hX dX12_sum_70 ?_
    refine v_goto (tgt := 78) hX dX12_sum_71 (by decide) ?_
    exact v_sub hX [2, 3] (by rfl) (wM_EachAddsALineModel_sum_78 HE hX hR H6 h)
noncomputable def gM_EachAddsALineModel_sum_31 (N : Nat) (rE : Int32 → vSt → Option (Int32 × vSt)) (r6 : Int32 → Int32 → vSt → Option (Int32 × vSt)) (a1 : Int32) (a2 : Int32) (s : vSt) : Option (Int32 × vSt) :=
  (fM_EachAddsALineModel_here N s).bind fun p1 =>
  if p1.1 = 43 then
    gM_EachAddsALineModel_sum_45 N rE r6 a1 a2 1 p1.2
  else
    gM_EachAddsALineModel_sum_45 N rE r6 a1 a2 0 p1.2
set_option maxRecDepth 4000 in
theorem wM_EachAddsALineModel_sum_31 {P : vP} {l : Launch} {ad : Nat → Nat} {N : Nat} {rE : Int32 → vSt → Option (Int32 × vSt)} {fE nE : Nat} {r6 : Int32 → Int32 → vSt → Option (Int32 × vSt)} {r : Int32} {t1 : vSt} (HE : ∀ a s r t, rE a s = some (r, t) → vMI l shM ad yX12_thing cX12_thing 4 .int fE nE s [.ref (ad 0), .int a] r t) (hX : vOK P l shM ad (vR (fE + 2) (nE + 47)) cX12_sum RX12 5) (hR : (∀ pc lv, narrow .int (.int r) = .int r → decode cX12_sum pc = .ok (.ireturn, 1) → P t1 pc lv [.int r])) (H6 : ∀ (a1 : Int32) (a2 : Int32) (s : vSt), r6 a1 a2 s = some (r, t1) → P s 6 [(0, .ref (ad 0)), (1, .int a1), (2, .int a2)] []) {a1 : Int32} {a2 : Int32} {s : vSt} (h : gM_EachAddsALineModel_sum_31 N rE r6 a1 a2 s = some (r, t1)) : P s 31 [(0, .ref (ad 0)), (1, .int a1), (2, .int a2)] [] := by
  unfold gM_EachAddsALineModel_sum_31 at h
  refine v_aload_n hX dX12_sum_31 rfl 0 rfl ?_
  obtain ⟨p1, hp1, h⟩ := bsome h
  refine v_callVI (o := 0) hX (mM_EachAddsALineModel_here hp1 l ad) kM_X12_here kV_X12_here km_12_134 (by decide) (fun _ => rfl) rfl rfl rfl (Nat.le_of_ble_eq_true rfl) ⟨by show _ ≤ _; unfold vR; simp only []; omega, by show _ ≤ _; unfold vR; simp only []; omega⟩ dX12_sum_32 ?_
  refine v_bipush (v := 43) hX dX12_sum_35 (by decide) ?_
  refine v_icmp_ne (tgt := 44) hX dX12_sum_37 (by decide) h (fun h => ?_) (fun h => ?_)
  · refine v_iconst (v := 1) hX dX12_sum_40 (by decide) ?_
    refine v_goto (tgt := 45) hX dX12_sum_41 (by decide) ?_
    exact v_sub hX [0, 1, 2] (by rfl) (wM_EachAddsALineModel_sum_45 HE hX hR H6 h)
  · refine v_iconst (v := 0) hX dX12_sum_44 (by decide) ?_
    exact v_sub hX [0, 1, 2] (by rfl) (wM_EachAddsALineModel_sum_45 HE hX hR H6 h)
noncomputable def gM_EachAddsALineModel_sum_6 (N : Nat) (rE : Int32 → vSt → Option (Int32 × vSt))  : Nat → Int32 → Int32 → vSt → Option (Int32 × vSt)
  | 0, _, _, _ => none
  | n + 1, a1, a2, s =>
    (fM_EachAddsALineModel_fine N s).bind fun p1 =>
    if p1.1 = 0 then
      some (a2, p1.2)
    else
      (fM_EachAddsALineModel_here N p1.2).bind fun p2 =>
      if p2.1 = 43 then
        gM_EachAddsALineModel_sum_31 N rE (gM_EachAddsALineModel_sum_6 N rE n) a1 a2 p2.2
      else
        (fM_EachAddsALineModel_here N p2.2).bind fun p3 =>
        if p3.1 = 45 then
          gM_EachAddsALineModel_sum_31 N rE (gM_EachAddsALineModel_sum_6 N rE n) a1 a2 p3.2
        else
          some (a2, p3.2)
set_option maxRecDepth 4000 in
theorem wM_EachAddsALineModel_sum_6 {P : vP} {l : Launch} {ad : Nat → Nat} {N : Nat} {rE : Int32 → vSt → Option (Int32 × vSt)} {fE nE : Nat} {r : Int32} {t1 : vSt} (HE : ∀ a s r t, rE a s = some (r, t) → vMI l shM ad yX12_thing cX12_thing 4 .int fE nE s [.ref (ad 0), .int a] r t) (hX : vOK P l shM ad (vR (fE + 2) (nE + 47)) cX12_sum RX12 5) (hR : (∀ pc lv, narrow .int (.int r) = .int r → decode cX12_sum pc = .ok (.ireturn, 1) → P t1 pc lv [.int r]))  : ∀ (n : Nat) (a1 : Int32) (a2 : Int32) (s : vSt), gM_EachAddsALineModel_sum_6 N rE n a1 a2 s = some (r, t1) → P s 6 [(0, .ref (ad 0)), (1, .int a1), (2, .int a2)] [] := by
  intro n
  induction n with
  | zero => intro a1 a2 s h; cases h
  | succ n ih =>
    intro a1 a2 s h
    unfold gM_EachAddsALineModel_sum_6 at h
    refine v_aload_n hX dX12_sum_6 rfl 0 rfl ?_
    obtain ⟨p1, hp1, h⟩ := bsome h
    refine v_callVI (o := 0) hX (mM_EachAddsALineModel_fine hp1 l ad) kM_X12_fine kV_X12_fine km_12_130 (by decide) (fun _ => rfl) rfl rfl rfl (Nat.le_of_ble_eq_true rfl) ⟨by show _ ≤ _; unfold vR; simp only []; omega, by show _ ≤ _; unfold vR; simp only []; omega⟩ dX12_sum_7 ?_
    refine v_if_eq (tgt := 82) hX dX12_sum_10 (by decide) h (fun h => ?_) (fun h => ?_)
    · refine v_iload_n hX dX12_sum_82 rfl 2 rfl ?_
      exact v_retI hR h dX12_sum_83
    · refine v_aload_n hX dX12_sum_13 rfl 0 rfl ?_
      obtain ⟨p2, hp2, h⟩ := bsome h
      refine v_callVI (o := 0) hX (mM_EachAddsALineModel_here hp2 l ad) kM_X12_here kV_X12_here km_12_134 (by decide) (fun _ => rfl) rfl rfl rfl (Nat.le_of_ble_eq_true rfl) ⟨by show _ ≤ _; unfold vR; simp only []; omega, by show _ ≤ _; unfold vR; simp only []; omega⟩ dX12_sum_14 ?_
      refine v_bipush (v := 43) hX dX12_sum_17 (by decide) ?_
      refine v_icmp_eq (tgt := 31) hX dX12_sum_19 (by decide) h (fun h => ?_) (fun h => ?_)
      · exact v_sub hX [0, 1, 2] (by rfl) (wM_EachAddsALineModel_sum_31 HE hX hR ih h)
      · refine v_aload_n hX dX12_sum_22 rfl 0 rfl ?_
        obtain ⟨p3, hp3, h⟩ := bsome h
        refine v_callVI (o := 0) hX (mM_EachAddsALineModel_here hp3 l ad) kM_X12_here kV_X12_here km_12_134 (by decide) (fun _ => rfl) rfl rfl rfl (Nat.le_of_ble_eq_true rfl) ⟨by show _ ≤ _; unfold vR; simp only []; omega, by show _ ≤ _; unfold vR; simp only []; omega⟩ dX12_sum_23 ?_
        refine v_bipush (v := 45) hX dX12_sum_26 (by decide) ?_
        refine v_icmp_ne (tgt := 82) hX dX12_sum_28 (by decide) h (fun h => ?_) (fun h => ?_)
        · exact v_sub hX [0, 1, 2] (by rfl) (wM_EachAddsALineModel_sum_31 HE hX hR ih h)
        · refine v_iload_n hX dX12_sum_82 rfl 2 rfl ?_
          exact v_retI hR h dX12_sum_83
noncomputable def gM_EachAddsALineModel_sum_0 (N : Nat) (rE : Int32 → vSt → Option (Int32 × vSt))  (a1 : Int32) (s : vSt) : Option (Int32 × vSt) :=
  (fM_EachAddsALineModel_product N rE a1 s).bind fun p1 =>
  gM_EachAddsALineModel_sum_6 N rE N a1 p1.1 p1.2
set_option maxRecDepth 4000 in
theorem wM_EachAddsALineModel_sum_0 {P : vP} {l : Launch} {ad : Nat → Nat} {N : Nat} {rE : Int32 → vSt → Option (Int32 × vSt)} {fE nE : Nat} {r : Int32} {t1 : vSt} (HE : ∀ a s r t, rE a s = some (r, t) → vMI l shM ad yX12_thing cX12_thing 4 .int fE nE s [.ref (ad 0), .int a] r t) (hX : vOK P l shM ad (vR (fE + 2) (nE + 47)) cX12_sum RX12 5) (hR : (∀ pc lv, narrow .int (.int r) = .int r → decode cX12_sum pc = .ok (.ireturn, 1) → P t1 pc lv [.int r]))  {a1 : Int32} {s : vSt} (h : gM_EachAddsALineModel_sum_0 N rE a1 s = some (r, t1)) : P s 0 [(0, .ref (ad 0)), (1, .int a1)] [] := by
  unfold gM_EachAddsALineModel_sum_0 at h
  refine v_aload_n hX dX12_sum_0 rfl 0 rfl ?_
  refine v_iload_n hX dX12_sum_1 rfl 1 rfl ?_
  obtain ⟨p1, hp1, h⟩ := bsome h
  refine v_callVI (o := 0) hX (mM_EachAddsALineModel_product HE hp1) kM_X12_product kV_X12_product km_12_160 (by decide) (fun _ => rfl) rfl rfl rfl (Nat.le_of_ble_eq_true rfl) ⟨by show _ ≤ _; unfold vR; simp only []; omega, by show _ ≤ _; unfold vR; simp only []; omega⟩ dX12_sum_2 ?_
  refine v_istore_n (lv' := [(2, .int p1.1), (0, .ref (ad 0)), (1, .int a1)]) hX dX12_sum_5 rfl (by decide) rfl ?_
  exact v_sub hX [1, 2, 0] (by rfl) (wM_EachAddsALineModel_sum_6 HE hX hR  N _ _ _ h)
noncomputable def fM_EachAddsALineModel_sum (N : Nat) (rE : Int32 → vSt → Option (Int32 × vSt)) (a1 : Int32) (s : vSt) : Option (Int32 × vSt) := gM_EachAddsALineModel_sum_0 N rE a1 s
theorem mM_EachAddsALineModel_sum {l : Launch} {ad : Nat → Nat} {N : Nat} {rE : Int32 → vSt → Option (Int32 × vSt)} {fE nE : Nat} (HE : ∀ a s r t, rE a s = some (r, t) → vMI l shM ad yX12_thing cX12_thing 4 .int fE nE s [.ref (ad 0), .int a] r t)  {a1 : Int32} {s : vSt} {r : Int32} {t1 : vSt} (h : fM_EachAddsALineModel_sum N rE a1 s = some (r, t1)) : vMI l shM ad yX12_sum cX12_sum 5 .int (fE + 2) (nE + 47) s [.ref (ad 0), .int a1] r t1 :=
  vMI_of (by decide +kernel) (Nat.le_of_ble_eq_true rfl) (fun P hX hR => wM_EachAddsALineModel_sum_0 HE hX hR h)
-- M_EachAddsALineModel_held
noncomputable def gM_EachAddsALineModel_held_0 (N : Nat) (rE : Int32 → vSt → Option (Int32 × vSt))  (a1 : Int32) (s : vSt) : Option (Int32 × vSt) :=
  (fM_EachAddsALineModel_sum N rE a1 s).bind fun p1 =>
  (fM_EachAddsALineModel_passes N 60 p1.2).bind fun p2 =>
  if p2.1 = 0 then
    (fM_EachAddsALineModel_passes N 62 p2.2).bind fun p3 =>
    if p3.1 = 0 then
      (fM_EachAddsALineModel_passes N 61 p3.2).bind fun p4 =>
      if p4.1 = 0 then
        some (p1.1, p4.2)
      else
        (fM_EachAddsALineModel_sum N rE a1 p4.2).bind fun p5 =>
        if p1.1 = p5.1 then
          some (1, p5.2)
        else
          some (0, p5.2)
    else
      (fM_EachAddsALineModel_sum N rE a1 p3.2).bind fun p6 =>
      if p1.1 ≤ p6.1 then
        some (0, p6.2)
      else
        some (1, p6.2)
  else
    (fM_EachAddsALineModel_sum N rE a1 p2.2).bind fun p7 =>
    if p7.1 ≤ p1.1 then
      some (0, p7.2)
    else
      some (1, p7.2)
set_option maxRecDepth 4000 in
theorem wM_EachAddsALineModel_held_0 {P : vP} {l : Launch} {ad : Nat → Nat} {N : Nat} {rE : Int32 → vSt → Option (Int32 × vSt)} {fE nE : Nat} {r : Int32} {t1 : vSt} (HE : ∀ a s r t, rE a s = some (r, t) → vMI l shM ad yX12_thing cX12_thing 4 .int fE nE s [.ref (ad 0), .int a] r t) (hX : vOK P l shM ad (vR (fE + 3) (nE + 71)) cX12_held RX12 3) (hR : (∀ pc lv, narrow .int (.int r) = .int r → decode cX12_held pc = .ok (.ireturn, 1) → P t1 pc lv [.int r]))  {a1 : Int32} {s : vSt} (h : gM_EachAddsALineModel_held_0 N rE a1 s = some (r, t1)) : P s 0 [(0, .ref (ad 0)), (1, .int a1)] [] := by
  unfold gM_EachAddsALineModel_held_0 at h
  refine v_aload_n hX dX12_held_0 rfl 0 rfl ?_
  refine v_iload_n hX dX12_held_1 rfl 1 rfl ?_
  obtain ⟨p1, hp1, h⟩ := bsome h
  refine v_callVI (o := 0) hX (mM_EachAddsALineModel_sum HE hp1) kM_X12_sum kV_X12_sum km_12_157 (by decide) (fun _ => rfl) rfl rfl rfl (Nat.le_of_ble_eq_true rfl) ⟨by show _ ≤ _; unfold vR; simp only []; omega, by show _ ≤ _; unfold vR; simp only []; omega⟩ dX12_held_2 ?_
  refine v_istore_n (lv' := [(2, .int p1.1), (0, .ref (ad 0)), (1, .int a1)]) hX dX12_held_5 rfl (by decide) rfl ?_
  refine v_aload_n hX dX12_held_6 rfl 1 rfl ?_
  refine v_bipush (v := 60) hX dX12_held_7 (by decide) ?_
  obtain ⟨p2, hp2, h⟩ := bsome h
  refine v_callVI (o := 0) hX (mM_EachAddsALineModel_passes hp2 l ad) kM_X12_passes kV_X12_passes km_12_153 (by decide) (fun _ => rfl) rfl rfl rfl (Nat.le_of_ble_eq_true rfl) ⟨by show _ ≤ _; unfold vR; simp only []; omega, by show _ ≤ _; unfold vR; simp only []; omega⟩ dX12_held_9 ?_
  refine v_if_eq (tgt := 30) hX dX12_held_12 (by decide) h (fun h => ?_) (fun h => ?_)
  · refine v_aload_n hX dX12_held_30 rfl 1 rfl ?_
    refine v_bipush (v := 62) hX dX12_held_31 (by decide) ?_
    obtain ⟨p3, hp3, h⟩ := bsome h
    refine v_callVI (o := 0) hX (mM_EachAddsALineModel_passes hp3 l ad) kM_X12_passes kV_X12_passes km_12_153 (by decide) (fun _ => rfl) rfl rfl rfl (Nat.le_of_ble_eq_true rfl) ⟨by show _ ≤ _; unfold vR; simp only []; omega, by show _ ≤ _; unfold vR; simp only []; omega⟩ dX12_held_33 ?_
    refine v_if_eq (tgt := 54) hX dX12_held_36 (by decide) h (fun h => ?_) (fun h => ?_)
    · refine v_aload_n hX dX12_held_54 rfl 1 rfl ?_
      refine v_bipush (v := 61) hX dX12_held_55 (by decide) ?_
      obtain ⟨p4, hp4, h⟩ := bsome h
      refine v_callVI (o := 0) hX (mM_EachAddsALineModel_passes hp4 l ad) kM_X12_passes kV_X12_passes km_12_153 (by decide) (fun _ => rfl) rfl rfl rfl (Nat.le_of_ble_eq_true rfl) ⟨by show _ ≤ _; unfold vR; simp only []; omega, by show _ ≤ _; unfold vR; simp only []; omega⟩ dX12_held_57 ?_
      refine v_if_eq (tgt := 78) hX dX12_held_60 (by decide) h (fun h => ?_) (fun h => ?_)
      · refine v_iload_n hX dX12_held_78 rfl 0 rfl ?_
        exact v_retI hR h dX12_held_79
      · refine v_iload_n hX dX12_held_63 rfl 0 rfl ?_
        refine v_aload_n hX dX12_held_64 rfl 1 rfl ?_
        refine v_iload_n hX dX12_held_65 rfl 2 rfl ?_
        obtain ⟨p5, hp5, h⟩ := bsome h
        refine v_callVI (o := 0) hX (mM_EachAddsALineModel_sum HE hp5) kM_X12_sum kV_X12_sum km_12_157 (by decide) (fun _ => rfl) rfl rfl rfl (Nat.le_of_ble_eq_true rfl) ⟨by show _ ≤ _; unfold vR; simp only []; omega, by show _ ≤ _; unfold vR; simp only []; omega⟩ dX12_held_66 ?_
        refine v_icmp_ne (tgt := 76) hX dX12_held_69 (by decide) h (fun h => ?_) (fun h => ?_)
        · refine v_iconst (v := 1) hX dX12_held_72 (by decide) ?_
          refine v_goto (tgt := 77) hX dX12_held_73 (by decide) ?_
          exact v_retI hR h dX12_held_77
        · refine v_iconst (v := 0) hX dX12_held_76 (by decide) ?_
          exact v_retI hR h dX12_held_77
    · refine v_iload_n hX dX12_held_39 rfl 0 rfl ?_
      refine v_aload_n hX dX12_held_40 rfl 1 rfl ?_
      refine v_iload_n hX dX12_held_41 rfl 2 rfl ?_
      obtain ⟨p6, hp6, h⟩ := bsome h
      refine v_callVI (o := 0) hX (mM_EachAddsALineModel_sum HE hp6) kM_X12_sum kV_X12_sum km_12_157 (by decide) (fun _ => rfl) rfl rfl rfl (Nat.le_of_ble_eq_true rfl) ⟨by show _ ≤ _; unfold vR; simp only []; omega, by show _ ≤ _; unfold vR; simp only []; omega⟩ dX12_held_42 ?_
      refine v_icmp_le (tgt := 52) hX dX12_held_45 (by decide) h (fun h => ?_) (fun h => ?_)
      · refine v_iconst (v := 0) hX dX12_held_52 (by decide) ?_
        exact v_retI hR h dX12_held_53
      · refine v_iconst (v := 1) hX dX12_held_48 (by decide) ?_
        refine v_goto (tgt := 53) hX dX12_held_49 (by decide) ?_
        exact v_retI hR h dX12_held_53
  · refine v_iload_n hX dX12_held_15 rfl 0 rfl ?_
    refine v_aload_n hX dX12_held_16 rfl 1 rfl ?_
    refine v_iload_n hX dX12_held_17 rfl 2 rfl ?_
    obtain ⟨p7, hp7, h⟩ := bsome h
    refine v_callVI (o := 0) hX (mM_EachAddsALineModel_sum HE hp7) kM_X12_sum kV_X12_sum km_12_157 (by decide) (fun _ => rfl) rfl rfl rfl (Nat.le_of_ble_eq_true rfl) ⟨by show _ ≤ _; unfold vR; simp only []; omega, by show _ ≤ _; unfold vR; simp only []; omega⟩ dX12_held_18 ?_
    refine v_icmp_ge (tgt := 28) hX dX12_held_21 (by decide) h (fun h => ?_) (fun h => ?_)
    · refine v_iconst (v := 0) hX dX12_held_28 (by decide) ?_
      exact v_retI hR h dX12_held_29
    · refine v_iconst (v := 1) hX dX12_held_24 (by decide) ?_
      refine v_goto (tgt := 29) hX dX12_held_25 (by decide) ?_
      exact v_retI hR h dX12_held_29
noncomputable def fM_EachAddsALineModel_held (N : Nat) (rE : Int32 → vSt → Option (Int32 × vSt)) (a1 : Int32) (s : vSt) : Option (Int32 × vSt) := gM_EachAddsALineModel_held_0 N rE a1 s
theorem mM_EachAddsALineModel_held {l : Launch} {ad : Nat → Nat} {N : Nat} {rE : Int32 → vSt → Option (Int32 × vSt)} {fE nE : Nat} (HE : ∀ a s r t, rE a s = some (r, t) → vMI l shM ad yX12_thing cX12_thing 4 .int fE nE s [.ref (ad 0), .int a] r t)  {a1 : Int32} {s : vSt} {r : Int32} {t1 : vSt} (h : fM_EachAddsALineModel_held N rE a1 s = some (r, t1)) : vMI l shM ad yX12_held cX12_held 3 .int (fE + 3) (nE + 71) s [.ref (ad 0), .int a1] r t1 :=
  vMI_of (by decide +kernel) (Nat.le_of_ble_eq_true rfl) (fun P hX hR => wM_EachAddsALineModel_held_0 HE hX hR h)
-- M_EachAddsALineModel_thing
noncomputable def gM_EachAddsALineModel_thing_147 (N : Nat) (rE : Int32 → vSt → Option (Int32 × vSt))  (a2 : Int32) (s : vSt) : Option (Int32 × vSt) :=
  (some (s1 s 0 15 ((s.1 0 15) + 1))).bind fun z1 =>
  if (z1.1 0 19) = 0 then
    some (0, z1)
  else
    if a2 = 102 then
      some (z1.1 0 24, z1)
    else
    if a2 = 103 then
      some (z1.1 0 21, z1)
    else
    if a2 = 104 then
      some (z1.1 0 22, z1)
    else
    if a2 = 105 then
      some (z1.1 0 20, z1)
    else
    if a2 = 106 then
      some (z1.1 0 26, z1)
    else
    if a2 = 107 then
      some (z1.1 0 26, z1)
    else
    if a2 = 108 then
      some (z1.1 0 25, z1)
    else
    if a2 = 109 then
      some (z1.1 0 26, z1)
    else
    if a2 = 110 then
      some (z1.1 0 23, z1)
    else
    if a2 < 102 ∨ 110 < a2 then
      some (z1.1 0 26, z1)
    else none
set_option maxRecDepth 4000 in
theorem wM_EachAddsALineModel_thing_147 {P : vP} {l : Launch} {ad : Nat → Nat} {N : Nat} {rE : Int32 → vSt → Option (Int32 × vSt)} {fE nE : Nat} {r : Int32} {t1 : vSt} (HE : ∀ a s r t, rE a s = some (r, t) → vMI l shM ad yX12_thing cX12_thing 4 .int fE nE s [.ref (ad 0), .int a] r t) (hX : vOK P l shM ad (vR (fE + 4) (nE + 93)) cX12_thing RX12 4) (hR : (∀ pc lv, narrow .int (.int r) = .int r → decode cX12_thing pc = .ok (.ireturn, 1) → P t1 pc lv [.int r]))  {a2 : Int32} {s : vSt} (h : gM_EachAddsALineModel_thing_147 N rE a2 s = some (r, t1)) : P s 147 [(0, .ref (ad 0)), (2, .int a2)] [] := by
  unfold gM_EachAddsALineModel_thing_147 at h
  refine v_aload_n hX dX12_thing_147 rfl 0 rfl ?_
  refine v_dup hX dX12_thing_148 rfl ?_
  refine gfM_0_15 hX kf_12_124 dX12_thing_149 ?_
  refine v_iconst (v := 1) hX dX12_thing_152 (by decide) ?_
  refine v_iadd hX dX12_thing_153 ?_
  refine pfM_0_15 hX kf_12_124 dX12_thing_154 h (fun z1 h => ?_)
  refine v_aload_n hX dX12_thing_157 rfl 0 rfl ?_
  refine gfM_0_19 hX kf_12_169 dX12_thing_158 ?_
  refine v_if_ne (tgt := 166) hX dX12_thing_161 (by decide) h (fun h => ?_) (fun h => ?_)
  · refine v_iconst (v := 0) hX dX12_thing_164 (by decide) ?_
    exact v_retI hR h dX12_thing_165
  · refine v_iload_n hX dX12_thing_166 rfl 1 rfl ?_
    rcases ifs h with ⟨hc, h⟩ | ⟨hn102, h⟩
    · refine v_tblIn (tgt := 236) (off := 69) hX dX12_thing_167 (by rw [hc]; decide) (by rw [hc]; decide) (by rw [hc]; rfl) (by decide) ?_
      refine v_aload_n hX dX12_thing_236 rfl 0 rfl ?_
      refine gfM_0_24 hX kf_12_185 dX12_thing_237 ?_
      exact v_retI hR h dX12_thing_240
    rcases ifs h with ⟨hc, h⟩ | ⟨hn103, h⟩
    · refine v_tblIn (tgt := 221) (off := 54) hX dX12_thing_167 (by rw [hc]; decide) (by rw [hc]; decide) (by rw [hc]; rfl) (by decide) ?_
      refine v_aload_n hX dX12_thing_221 rfl 0 rfl ?_
      refine gfM_0_21 hX kf_12_176 dX12_thing_222 ?_
      exact v_retI hR h dX12_thing_225
    rcases ifs h with ⟨hc, h⟩ | ⟨hn104, h⟩
    · refine v_tblIn (tgt := 226) (off := 59) hX dX12_thing_167 (by rw [hc]; decide) (by rw [hc]; decide) (by rw [hc]; rfl) (by decide) ?_
      refine v_aload_n hX dX12_thing_226 rfl 0 rfl ?_
      refine gfM_0_22 hX kf_12_179 dX12_thing_227 ?_
      exact v_retI hR h dX12_thing_230
    rcases ifs h with ⟨hc, h⟩ | ⟨hn105, h⟩
    · refine v_tblIn (tgt := 216) (off := 49) hX dX12_thing_167 (by rw [hc]; decide) (by rw [hc]; decide) (by rw [hc]; rfl) (by decide) ?_
      refine v_aload_n hX dX12_thing_216 rfl 0 rfl ?_
      refine gfM_0_20 hX kf_12_173 dX12_thing_217 ?_
      exact v_retI hR h dX12_thing_220
    rcases ifs h with ⟨hc, h⟩ | ⟨hn106, h⟩
    · refine v_tblIn (tgt := 246) (off := 79) hX dX12_thing_167 (by rw [hc]; decide) (by rw [hc]; decide) (by rw [hc]; rfl) (by decide) ?_
      refine v_aload_n hX dX12_thing_246 rfl 0 rfl ?_
      refine gfM_0_26 hX kf_12_191 dX12_thing_247 ?_
      exact v_retI hR h dX12_thing_250
    rcases ifs h with ⟨hc, h⟩ | ⟨hn107, h⟩
    · refine v_tblIn (tgt := 246) (off := 79) hX dX12_thing_167 (by rw [hc]; decide) (by rw [hc]; decide) (by rw [hc]; rfl) (by decide) ?_
      refine v_aload_n hX dX12_thing_246 rfl 0 rfl ?_
      refine gfM_0_26 hX kf_12_191 dX12_thing_247 ?_
      exact v_retI hR h dX12_thing_250
    rcases ifs h with ⟨hc, h⟩ | ⟨hn108, h⟩
    · refine v_tblIn (tgt := 241) (off := 74) hX dX12_thing_167 (by rw [hc]; decide) (by rw [hc]; decide) (by rw [hc]; rfl) (by decide) ?_
      refine v_aload_n hX dX12_thing_241 rfl 0 rfl ?_
      refine gfM_0_25 hX kf_12_188 dX12_thing_242 ?_
      exact v_retI hR h dX12_thing_245
    rcases ifs h with ⟨hc, h⟩ | ⟨hn109, h⟩
    · refine v_tblIn (tgt := 246) (off := 79) hX dX12_thing_167 (by rw [hc]; decide) (by rw [hc]; decide) (by rw [hc]; rfl) (by decide) ?_
      refine v_aload_n hX dX12_thing_246 rfl 0 rfl ?_
      refine gfM_0_26 hX kf_12_191 dX12_thing_247 ?_
      exact v_retI hR h dX12_thing_250
    rcases ifs h with ⟨hc, h⟩ | ⟨hn110, h⟩
    · refine v_tblIn (tgt := 231) (off := 64) hX dX12_thing_167 (by rw [hc]; decide) (by rw [hc]; decide) (by rw [hc]; rfl) (by decide) ?_
      refine v_aload_n hX dX12_thing_231 rfl 0 rfl ?_
      refine gfM_0_23 hX kf_12_182 dX12_thing_232 ?_
      exact v_retI hR h dX12_thing_235
    obtain ⟨hc, h⟩ := gsome h
    refine v_tblOut (tgt := 246) hX dX12_thing_167 (tblo (lo := 102) (hi := 110) (by decide) (by decide) hc) (by decide) ?_
    refine v_aload_n hX dX12_thing_246 rfl 0 rfl ?_
    refine gfM_0_26 hX kf_12_191 dX12_thing_247 ?_
    exact v_retI hR h dX12_thing_250
noncomputable def gM_EachAddsALineModel_thing_78 (N : Nat) (rE : Int32 → vSt → Option (Int32 × vSt))  (a2 : Int32) (s : vSt) : Option (Int32 × vSt) :=
  (fM_EachAddsALineModel_in N a2 48 57 s).bind fun p1 =>
  if p1.1 = 0 then
    if a2 = 105 then
      gM_EachAddsALineModel_thing_147 N rE a2 p1.2
    else
      if a2 = 103 then
        gM_EachAddsALineModel_thing_147 N rE a2 p1.2
      else
        if a2 = 104 then
          gM_EachAddsALineModel_thing_147 N rE a2 p1.2
        else
          if a2 = 110 then
            gM_EachAddsALineModel_thing_147 N rE a2 p1.2
          else
            if a2 = 102 then
              gM_EachAddsALineModel_thing_147 N rE a2 p1.2
            else
              if a2 = 108 then
                gM_EachAddsALineModel_thing_147 N rE a2 p1.2
              else
                if a2 = 115 then
                  gM_EachAddsALineModel_thing_147 N rE a2 p1.2
                else
                  (fM_EachAddsALineModel_fault N (p1.2.1 0 15) p1.2).bind fun z2 =>
                  some (0, z2)
  else
    (fM_EachAddsALineModel_number N 3 p1.2).bind fun p3 =>
    some (p3.1, p3.2)
set_option maxRecDepth 4000 in
theorem wM_EachAddsALineModel_thing_78 {P : vP} {l : Launch} {ad : Nat → Nat} {N : Nat} {rE : Int32 → vSt → Option (Int32 × vSt)} {fE nE : Nat} {r : Int32} {t1 : vSt} (HE : ∀ a s r t, rE a s = some (r, t) → vMI l shM ad yX12_thing cX12_thing 4 .int fE nE s [.ref (ad 0), .int a] r t) (hX : vOK P l shM ad (vR (fE + 4) (nE + 93)) cX12_thing RX12 4) (hR : (∀ pc lv, narrow .int (.int r) = .int r → decode cX12_thing pc = .ok (.ireturn, 1) → P t1 pc lv [.int r]))  {a2 : Int32} {s : vSt} (h : gM_EachAddsALineModel_thing_78 N rE a2 s = some (r, t1)) : P s 78 [(0, .ref (ad 0)), (2, .int a2)] [] := by
  unfold gM_EachAddsALineModel_thing_78 at h
  refine v_iload_n hX dX12_thing_78 rfl 1 rfl ?_
  refine v_bipush (v := 48) hX dX12_thing_79 (by decide) ?_
  refine v_bipush (v := 57) hX dX12_thing_81 (by decide) ?_
  obtain ⟨p1, hp1, h⟩ := bsome h
  refine v_callSI hX (mM_EachAddsALineModel_in hp1 l ad) kM_X12_in kS_X12_in km_12_105 rfl rfl (Nat.le_of_ble_eq_true rfl) ⟨by show _ ≤ _; unfold vR; simp only []; omega, by show _ ≤ _; unfold vR; simp only []; omega⟩ dX12_thing_83 ?_
  refine v_if_eq (tgt := 95) hX dX12_thing_86 (by decide) h (fun h => ?_) (fun h => ?_)
  · refine v_iload_n hX dX12_thing_95 rfl 1 rfl ?_
    refine v_bipush (v := 105) hX dX12_thing_96 (by decide) ?_
    refine v_icmp_eq (tgt := 147) hX dX12_thing_98 (by decide) h (fun h => ?_) (fun h => ?_)
    · exact v_sub hX [0, 1] (by rfl) (wM_EachAddsALineModel_thing_147 HE hX hR  h)
    · refine v_iload_n hX dX12_thing_101 rfl 1 rfl ?_
      refine v_bipush (v := 103) hX dX12_thing_102 (by decide) ?_
      refine v_icmp_eq (tgt := 147) hX dX12_thing_104 (by decide) h (fun h => ?_) (fun h => ?_)
      · exact v_sub hX [0, 1] (by rfl) (wM_EachAddsALineModel_thing_147 HE hX hR  h)
      · refine v_iload_n hX dX12_thing_107 rfl 1 rfl ?_
        refine v_bipush (v := 104) hX dX12_thing_108 (by decide) ?_
        refine v_icmp_eq (tgt := 147) hX dX12_thing_110 (by decide) h (fun h => ?_) (fun h => ?_)
        · exact v_sub hX [0, 1] (by rfl) (wM_EachAddsALineModel_thing_147 HE hX hR  h)
        · refine v_iload_n hX dX12_thing_113 rfl 1 rfl ?_
          refine v_bipush (v := 110) hX dX12_thing_114 (by decide) ?_
          refine v_icmp_eq (tgt := 147) hX dX12_thing_116 (by decide) h (fun h => ?_) (fun h => ?_)
          · exact v_sub hX [0, 1] (by rfl) (wM_EachAddsALineModel_thing_147 HE hX hR  h)
          · refine v_iload_n hX dX12_thing_119 rfl 1 rfl ?_
            refine v_bipush (v := 102) hX dX12_thing_120 (by decide) ?_
            refine v_icmp_eq (tgt := 147) hX dX12_thing_122 (by decide) h (fun h => ?_) (fun h => ?_)
            · exact v_sub hX [0, 1] (by rfl) (wM_EachAddsALineModel_thing_147 HE hX hR  h)
            · refine v_iload_n hX dX12_thing_125 rfl 1 rfl ?_
              refine v_bipush (v := 108) hX dX12_thing_126 (by decide) ?_
              refine v_icmp_eq (tgt := 147) hX dX12_thing_128 (by decide) h (fun h => ?_) (fun h => ?_)
              · exact v_sub hX [0, 1] (by rfl) (wM_EachAddsALineModel_thing_147 HE hX hR  h)
              · refine v_iload_n hX dX12_thing_131 rfl 1 rfl ?_
                refine v_bipush (v := 115) hX dX12_thing_132 (by decide) ?_
                refine v_icmp_eq (tgt := 147) hX dX12_thing_134 (by decide) h (fun h => ?_) (fun h => ?_)
                · exact v_sub hX [0, 1] (by rfl) (wM_EachAddsALineModel_thing_147 HE hX hR  h)
                · refine v_aload_n hX dX12_thing_137 rfl 0 rfl ?_
                  refine v_aload_n hX dX12_thing_138 rfl 0 rfl ?_
                  refine gfM_0_15 hX kf_12_124 dX12_thing_139 ?_
                  obtain ⟨z2, hz2, h⟩ := bsome h
                  refine v_callVV (o := 0) hX (mM_EachAddsALineModel_fault hz2 l ad) kM_X12_fault kV_X12_fault km_12_138 (by decide) (fun _ => rfl) rfl rfl rfl (Nat.le_of_ble_eq_true rfl) ⟨by show _ ≤ _; unfold vR; simp only []; omega, by show _ ≤ _; unfold vR; simp only []; omega⟩ dX12_thing_142 ?_
                  refine v_iconst (v := 0) hX dX12_thing_145 (by decide) ?_
                  exact v_retI hR h dX12_thing_146
  · refine v_aload_n hX dX12_thing_89 rfl 0 rfl ?_
    refine v_iconst (v := 3) hX dX12_thing_90 (by decide) ?_
    obtain ⟨p3, hp3, h⟩ := bsome h
    refine v_callVI (o := 0) hX (mM_EachAddsALineModel_number hp3 l ad) kM_X12_number kV_X12_number km_12_146 (by decide) (fun _ => rfl) rfl rfl rfl (Nat.le_of_ble_eq_true rfl) ⟨by show _ ≤ _; unfold vR; simp only []; omega, by show _ ≤ _; unfold vR; simp only []; omega⟩ dX12_thing_91 ?_
    exact v_retI hR h dX12_thing_94
noncomputable def gM_EachAddsALineModel_thing_0 (N : Nat) (rE : Int32 → vSt → Option (Int32 × vSt))  (a1 : Int32) (s : vSt) : Option (Int32 × vSt) :=
  (fM_EachAddsALineModel_passes N 45 s).bind fun p1 =>
  if p1.1 = 0 then
    (fM_EachAddsALineModel_fine N p1.2).bind fun p2 =>
    if p2.1 = 0 then
      some (0, p2.2)
    else
      (fM_EachAddsALineModel_here N p2.2).bind fun p3 =>
      if p3.1 = 40 then
        if 4 ≤ a1 then
          gM_EachAddsALineModel_thing_78 N rE p3.1 p3.2
        else
          (some (s1 p3.2 0 15 ((p3.2.1 0 15) + 1))).bind fun z4 =>
          (fM_EachAddsALineModel_held N rE (a1 + 1) z4).bind fun p5 =>
          (fM_EachAddsALineModel_passes N 41 p5.2).bind fun p6 =>
          if p6.1 = 0 then
            (fM_EachAddsALineModel_fault N (p6.2.1 0 15) p6.2).bind fun z7 =>
            some (p5.1, z7)
          else
            some (p5.1, p6.2)
      else
        gM_EachAddsALineModel_thing_78 N rE p3.1 p3.2
  else
    (rE a1 p1.2).bind fun p8 =>
    some (-p8.1, p8.2)
set_option maxRecDepth 4000 in
theorem wM_EachAddsALineModel_thing_0 {P : vP} {l : Launch} {ad : Nat → Nat} {N : Nat} {rE : Int32 → vSt → Option (Int32 × vSt)} {fE nE : Nat} {r : Int32} {t1 : vSt} (HE : ∀ a s r t, rE a s = some (r, t) → vMI l shM ad yX12_thing cX12_thing 4 .int fE nE s [.ref (ad 0), .int a] r t) (hX : vOK P l shM ad (vR (fE + 4) (nE + 93)) cX12_thing RX12 4) (hR : (∀ pc lv, narrow .int (.int r) = .int r → decode cX12_thing pc = .ok (.ireturn, 1) → P t1 pc lv [.int r]))  {a1 : Int32} {s : vSt} (h : gM_EachAddsALineModel_thing_0 N rE a1 s = some (r, t1)) : P s 0 [(0, .ref (ad 0)), (1, .int a1)] [] := by
  unfold gM_EachAddsALineModel_thing_0 at h
  refine v_aload_n hX dX12_thing_0 rfl 0 rfl ?_
  refine v_bipush (v := 45) hX dX12_thing_1 (by decide) ?_
  obtain ⟨p1, hp1, h⟩ := bsome h
  refine v_callVI (o := 0) hX (mM_EachAddsALineModel_passes hp1 l ad) kM_X12_passes kV_X12_passes km_12_153 (by decide) (fun _ => rfl) rfl rfl rfl (Nat.le_of_ble_eq_true rfl) ⟨by show _ ≤ _; unfold vR; simp only []; omega, by show _ ≤ _; unfold vR; simp only []; omega⟩ dX12_thing_3 ?_
  refine v_if_eq (tgt := 16) hX dX12_thing_6 (by decide) h (fun h => ?_) (fun h => ?_)
  · refine v_aload_n hX dX12_thing_16 rfl 0 rfl ?_
    obtain ⟨p2, hp2, h⟩ := bsome h
    refine v_callVI (o := 0) hX (mM_EachAddsALineModel_fine hp2 l ad) kM_X12_fine kV_X12_fine km_12_130 (by decide) (fun _ => rfl) rfl rfl rfl (Nat.le_of_ble_eq_true rfl) ⟨by show _ ≤ _; unfold vR; simp only []; omega, by show _ ≤ _; unfold vR; simp only []; omega⟩ dX12_thing_17 ?_
    refine v_if_ne (tgt := 25) hX dX12_thing_20 (by decide) h (fun h => ?_) (fun h => ?_)
    · refine v_iconst (v := 0) hX dX12_thing_23 (by decide) ?_
      exact v_retI hR h dX12_thing_24
    · refine v_aload_n hX dX12_thing_25 rfl 0 rfl ?_
      obtain ⟨p3, hp3, h⟩ := bsome h
      refine v_callVI (o := 0) hX (mM_EachAddsALineModel_here hp3 l ad) kM_X12_here kV_X12_here km_12_134 (by decide) (fun _ => rfl) rfl rfl rfl (Nat.le_of_ble_eq_true rfl) ⟨by show _ ≤ _; unfold vR; simp only []; omega, by show _ ≤ _; unfold vR; simp only []; omega⟩ dX12_thing_26 ?_
      refine v_istore_n (lv' := [(2, .int p3.1), (0, .ref (ad 0)), (1, .int a1)]) hX dX12_thing_29 rfl (by decide) rfl ?_
      refine v_iload_n hX dX12_thing_30 rfl 0 rfl ?_
      refine v_bipush (v := 40) hX dX12_thing_31 (by decide) ?_
      refine v_icmp_ne (tgt := 78) hX dX12_thing_33 (by decide) h (fun h => ?_) (fun h => ?_)
      · refine v_iload_n hX dX12_thing_36 rfl 2 rfl ?_
        refine v_iconst (v := 4) hX dX12_thing_37 (by decide) ?_
        refine v_icmp_ge (tgt := 78) hX dX12_thing_38 (by decide) h (fun h => ?_) (fun h => ?_)
        · exact v_sub hX [1, 0] (by rfl) (wM_EachAddsALineModel_thing_78 HE hX hR  h)
        · refine v_aload_n hX dX12_thing_41 rfl 1 rfl ?_
          refine v_dup hX dX12_thing_42 rfl ?_
          refine gfM_0_15 hX kf_12_124 dX12_thing_43 ?_
          refine v_iconst (v := 1) hX dX12_thing_46 (by decide) ?_
          refine v_iadd hX dX12_thing_47 ?_
          refine pfM_0_15 hX kf_12_124 dX12_thing_48 h (fun z4 h => ?_)
          refine v_aload_n hX dX12_thing_51 rfl 1 rfl ?_
          refine v_iload_n hX dX12_thing_52 rfl 2 rfl ?_
          refine v_iconst (v := 1) hX dX12_thing_53 (by decide) ?_
          refine v_iadd hX dX12_thing_54 ?_
          obtain ⟨p5, hp5, h⟩ := bsome h
          refine v_callVI (o := 0) hX (mM_EachAddsALineModel_held HE hp5) kM_X12_held kV_X12_held km_12_166 (by decide) (fun _ => rfl) rfl rfl rfl (Nat.le_of_ble_eq_true rfl) ⟨by show _ ≤ _; unfold vR; simp only []; omega, by show _ ≤ _; unfold vR; simp only []; omega⟩ dX12_thing_55 ?_
          refine v_istore_n (lv' := [(3, .int p5.1), (2, .int p3.1), (0, .ref (ad 0)), (1, .int a1)]) hX dX12_thing_58 rfl (by decide) rfl ?_
          refine v_aload_n hX dX12_thing_59 rfl 2 rfl ?_
          refine v_bipush (v := 41) hX dX12_thing_60 (by decide) ?_
          obtain ⟨p6, hp6, h⟩ := bsome h
          refine v_callVI (o := 0) hX (mM_EachAddsALineModel_passes hp6 l ad) kM_X12_passes kV_X12_passes km_12_153 (by decide) (fun _ => rfl) rfl rfl rfl (Nat.le_of_ble_eq_true rfl) ⟨by show _ ≤ _; unfold vR; simp only []; omega, by show _ ≤ _; unfold vR; simp only []; omega⟩ dX12_thing_62 ?_
          refine v_if_ne (tgt := 76) hX dX12_thing_65 (by decide) h (fun h => ?_) (fun h => ?_)
          · refine v_aload_n hX dX12_thing_68 rfl 2 rfl ?_
            refine v_aload_n hX dX12_thing_69 rfl 2 rfl ?_
            refine gfM_0_15 hX kf_12_124 dX12_thing_70 ?_
            obtain ⟨z7, hz7, h⟩ := bsome h
            refine v_callVV (o := 0) hX (mM_EachAddsALineModel_fault hz7 l ad) kM_X12_fault kV_X12_fault km_12_138 (by decide) (fun _ => rfl) rfl rfl rfl (Nat.le_of_ble_eq_true rfl) ⟨by show _ ≤ _; unfold vR; simp only []; omega, by show _ ≤ _; unfold vR; simp only []; omega⟩ dX12_thing_73 ?_
            refine v_iload_n hX dX12_thing_76 rfl 0 rfl ?_
            exact v_retI hR h dX12_thing_77
          · refine v_iload_n hX dX12_thing_76 rfl 0 rfl ?_
            exact v_retI hR h dX12_thing_77
      · exact v_sub hX [1, 0] (by rfl) (wM_EachAddsALineModel_thing_78 HE hX hR  h)
  · refine v_aload_n hX dX12_thing_9 rfl 0 rfl ?_
    refine v_iload_n hX dX12_thing_10 rfl 1 rfl ?_
    obtain ⟨p8, hp8, h⟩ := bsome h
    refine v_callVI (o := 0) hX (HE _ _ _ _ hp8) kM_X12_thing kV_X12_thing km_12_163 (by decide) (fun _ => rfl) rfl rfl rfl (Nat.le_of_ble_eq_true rfl) ⟨by show _ ≤ _; unfold vR; simp only []; omega, by show _ ≤ _; unfold vR; simp only []; omega⟩ dX12_thing_11 ?_
    refine v_ineg hX dX12_thing_14 ?_
    exact v_retI hR h dX12_thing_15
noncomputable def fM_EachAddsALineModel_thing (N : Nat) : Nat → Int32 → vSt → Option (Int32 × vSt)
  | 0, _, _ => none
  | d + 1, a1, s => gM_EachAddsALineModel_thing_0 N (fM_EachAddsALineModel_thing N d) a1 s
theorem mM_EachAddsALineModel_thing {N : Nat} (d : Nat) {a1 : Int32} {s : vSt} {r : Int32} {t1 : vSt} (h : fM_EachAddsALineModel_thing N d a1 s = some (r, t1)) (l : Launch) (ad : Nat → Nat) : vMI l shM ad yX12_thing cX12_thing 4 .int (4 * d) (93 * d) s [.ref (ad 0), .int a1] r t1 := by
  induction d generalizing a1 s r t1 with
  | zero => cases h
  | succ d ih =>
    rw [show 4 * (d + 1) = 4 * d + 4 from rfl, show 93 * (d + 1) = 93 * d + 93 from rfl]
    exact vMI_of (by decide +kernel) (Nat.le_of_ble_eq_true rfl) (fun P hX hR => wM_EachAddsALineModel_thing_0 (fE := 4 * d) (nE := 93 * d) (fun _ _ _ _ z => ih z) hX hR h)
-- M_EachAddsALineModel_rule
noncomputable def gM_EachAddsALineModel_rule_73 (N : Nat)  : Nat → Int32 → Int32 → vSt → Option (Int32 × vSt)
  | 0, _, _, _ => none
  | n + 1, a1, a2, s =>
    if a1 ≤ a2 then
      (some (s1 s 0 18 a1)).bind fun z1 =>
      some (0, z1)
    else
      (ld s 6 80 a2).bind fun v2 =>
      (sto s 8 40 a2 (vp_nar .byte v2)).bind fun z3 =>
      (some (a2 + 1 : Int32)).bind fun v4 =>
      gM_EachAddsALineModel_rule_73 N n a1 v4 z3
set_option maxRecDepth 4000 in
theorem wM_EachAddsALineModel_rule_73 {P : vP} {l : Launch} {ad : Nat → Nat} {N : Nat} {r : Int32} {t1 : vSt} (hX : vOK P l shM ad (vR 196 4557) cX12_rule RX12 3) (hR : (∀ pc lv, narrow .int (.int r) = .int r → decode cX12_rule pc = .ok (.ireturn, 1) → P t1 pc lv [.int r]))  : ∀ (n : Nat) (a1 : Int32) (a2 : Int32) (s : vSt), gM_EachAddsALineModel_rule_73 N n a1 a2 s = some (r, t1) → P s 73 [(0, .ref (ad 0)), (1, .int a1), (2, .int a2)] [] := by
  intro n
  induction n with
  | zero => intro a1 a2 s h; cases h
  | succ n ih =>
    intro a1 a2 s h
    unfold gM_EachAddsALineModel_rule_73 at h
    refine v_iload_n hX dX12_rule_73 rfl 2 rfl ?_
    refine v_iload_n hX dX12_rule_74 rfl 1 rfl ?_
    refine v_icmp_ge (tgt := 96) hX dX12_rule_75 (by decide) h (fun h => ?_) (fun h => ?_)
    · refine v_aload_n hX dX12_rule_96 rfl 0 rfl ?_
      refine v_iload_n hX dX12_rule_97 rfl 1 rfl ?_
      refine pfM_0_18 hX kf_12_194 dX12_rule_98 h (fun z1 h => ?_)
      refine v_iconst (v := 0) hX dX12_rule_101 (by decide) ?_
      exact v_retI hR h dX12_rule_102
    · refine v_aload_n hX dX12_rule_78 rfl 0 rfl ?_
      refine gfM_0_17 hX kf_12_32 dX12_rule_79 ?_
      refine v_iload_n hX dX12_rule_82 rfl 2 rfl ?_
      refine v_aload_n hX dX12_rule_83 rfl 0 rfl ?_
      refine gfM_0_7 hX kf_12_25 dX12_rule_84 ?_
      refine v_iload_n hX dX12_rule_87 rfl 2 rfl ?_
      refine alM_6 hX dX12_rule_88 h (fun v2 h => ?_)
      refine asM_8 hX dX12_rule_89 h (fun z3 h => ?_)
      refine v_iincN hX dX12_rule_90 (j := 2) rfl (c := 1) (by decide) (by decide) h (fun v4 h => ?_)
      refine v_show (lv' := [(2, .int v4), (0, .ref (ad 0)), (1, .int a1)]) hX rfl ?_
      refine v_goto (tgt := 73) hX dX12_rule_93 (by decide) ?_
      exact v_sub hX [1, 2, 0] (by rfl) (ih _ _ _ h)
noncomputable def gM_EachAddsALineModel_rule_71 (N : Nat)  (a1 : Int32) (s : vSt) : Option (Int32 × vSt) :=
  gM_EachAddsALineModel_rule_73 N N a1 0 s
set_option maxRecDepth 4000 in
theorem wM_EachAddsALineModel_rule_71 {P : vP} {l : Launch} {ad : Nat → Nat} {N : Nat} {r : Int32} {t1 : vSt} (hX : vOK P l shM ad (vR 196 4557) cX12_rule RX12 3) (hR : (∀ pc lv, narrow .int (.int r) = .int r → decode cX12_rule pc = .ok (.ireturn, 1) → P t1 pc lv [.int r]))  {a1 : Int32} {s : vSt} (h : gM_EachAddsALineModel_rule_71 N a1 s = some (r, t1)) : P s 71 [(0, .ref (ad 0)), (1, .int a1)] [] := by
  unfold gM_EachAddsALineModel_rule_71 at h
  refine v_iconst (v := 0) hX dX12_rule_71 (by decide) ?_
  refine v_istore_n (lv' := [(2, .int 0), (0, .ref (ad 0)), (1, .int a1)]) hX dX12_rule_72 rfl (by decide) rfl ?_
  exact v_sub hX [1, 2, 0] (by rfl) (wM_EachAddsALineModel_rule_73 hX hR  N _ _ _ h)
noncomputable def gM_EachAddsALineModel_rule_57 (N : Nat)  (a1 : Int32) (s : vSt) : Option (Int32 × vSt) :=
  (fM_EachAddsALineModel_fine N s).bind fun p1 =>
  if p1.1 = 0 then
    some (((-1) : Int32) - (p1.2.1 0 16), p1.2)
  else
    gM_EachAddsALineModel_rule_71 N a1 p1.2
set_option maxRecDepth 4000 in
theorem wM_EachAddsALineModel_rule_57 {P : vP} {l : Launch} {ad : Nat → Nat} {N : Nat} {r : Int32} {t1 : vSt} (hX : vOK P l shM ad (vR 196 4557) cX12_rule RX12 3) (hR : (∀ pc lv, narrow .int (.int r) = .int r → decode cX12_rule pc = .ok (.ireturn, 1) → P t1 pc lv [.int r]))  {a1 : Int32} {s : vSt} (h : gM_EachAddsALineModel_rule_57 N a1 s = some (r, t1)) : P s 57 [(0, .ref (ad 0)), (1, .int a1)] [] := by
  unfold gM_EachAddsALineModel_rule_57 at h
  refine v_aload_n hX dX12_rule_57 rfl 0 rfl ?_
  obtain ⟨p1, hp1, h⟩ := bsome h
  refine v_callVI (o := 0) hX (mM_EachAddsALineModel_fine hp1 l ad) kM_X12_fine kV_X12_fine km_12_130 (by decide) (fun _ => rfl) rfl rfl rfl (Nat.le_of_ble_eq_true rfl) (by decide) dX12_rule_58 ?_
  refine v_if_ne (tgt := 71) hX dX12_rule_61 (by decide) h (fun h => ?_) (fun h => ?_)
  · refine v_iconst (v := (-1)) hX dX12_rule_64 (by decide) ?_
    refine v_aload_n hX dX12_rule_65 rfl 0 rfl ?_
    refine gfM_0_16 hX kf_12_127 dX12_rule_66 ?_
    refine v_isub hX dX12_rule_69 ?_
    exact v_retI hR h dX12_rule_70
  · exact v_sub hX [0, 1] (by rfl) (wM_EachAddsALineModel_rule_71 hX hR  h)
noncomputable def gM_EachAddsALineModel_rule_0 (N : Nat)   (s : vSt) : Option (Int32 × vSt) :=
  (some (s1 s 0 11 0)).bind fun z1 =>
  (some (z1.1 0 8 : Int32)).bind fun v2 =>
  (fM_EachAddsALineModel_begin_m_text N v2 40 z1).bind fun z3 =>
  (some (s1 z3 0 8 0)).bind fun z4 =>
  (some (s1 z4 0 19 0)).bind fun z5 =>
  if v2 ≤ 0 then
    gM_EachAddsALineModel_rule_71 N v2 z5
  else
    (fM_EachAddsALineModel_held N (fM_EachAddsALineModel_thing N 48) 0 z5).bind fun p6 =>
    if v2 ≤ (p6.2.1 0 15) then
      gM_EachAddsALineModel_rule_57 N v2 p6.2
    else
      (fM_EachAddsALineModel_fault N (p6.2.1 0 15) p6.2).bind fun z7 =>
      gM_EachAddsALineModel_rule_57 N v2 z7
set_option maxRecDepth 4000 in
theorem wM_EachAddsALineModel_rule_0 {P : vP} {l : Launch} {ad : Nat → Nat} {N : Nat} {r : Int32} {t1 : vSt} (hX : vOK P l shM ad (vR 196 4557) cX12_rule RX12 3) (hR : (∀ pc lv, narrow .int (.int r) = .int r → decode cX12_rule pc = .ok (.ireturn, 1) → P t1 pc lv [.int r]))   {s : vSt} (h : gM_EachAddsALineModel_rule_0 N s = some (r, t1)) : P s 0 [(0, .ref (ad 0))] [] := by
  unfold gM_EachAddsALineModel_rule_0 at h
  refine v_aload_n hX dX12_rule_0 rfl 0 rfl ?_
  refine v_iconst (v := 0) hX dX12_rule_1 (by decide) ?_
  refine pfM_0_11 hX kf_12_96 dX12_rule_2 h (fun z1 h => ?_)
  refine v_aload_n hX dX12_rule_5 rfl 0 rfl ?_
  refine gfM_0_8 hX kf_12_112 dX12_rule_6 ?_
  refine v_nmI hX h (fun v2 h => ?_)
  refine v_istore_n (lv' := [(1, .int v2), (0, .ref (ad 0))]) hX dX12_rule_9 rfl (by decide) rfl ?_
  refine v_aload_n hX dX12_rule_10 rfl 1 rfl ?_
  refine v_aload_n hX dX12_rule_11 rfl 1 rfl ?_
  refine gfM_0_7 hX kf_12_25 dX12_rule_12 ?_
  refine v_iload_n hX dX12_rule_15 rfl 0 rfl ?_
  refine v_bipush (v := 40) hX dX12_rule_16 (by decide) ?_
  obtain ⟨z3, hz3, h⟩ := bsome h
  refine v_callVV (o := 0) hX (mM_EachAddsALineModel_begin_m_text hz3 l ad) kM_X12_begin kV_X12_begin km_12_142 (by decide) (fun _ => rfl) rfl rfl rfl (Nat.le_of_ble_eq_true rfl) (by decide) dX12_rule_18 ?_
  refine v_aload_n hX dX12_rule_21 rfl 1 rfl ?_
  refine v_iconst (v := 0) hX dX12_rule_22 (by decide) ?_
  refine pfM_0_8 hX kf_12_112 dX12_rule_23 h (fun z4 h => ?_)
  refine v_aload_n hX dX12_rule_26 rfl 1 rfl ?_
  refine v_iconst (v := 0) hX dX12_rule_27 (by decide) ?_
  refine pfM_0_19 hX (Or.inl rfl) kf_12_169 dX12_rule_28 h (fun z5 h => ?_)
  refine v_iload_n hX dX12_rule_31 rfl 0 rfl ?_
  refine v_if_le (tgt := 71) hX dX12_rule_32 (by decide) h (fun h => ?_) (fun h => ?_)
  · exact v_sub hX [1, 0] (by rfl) (wM_EachAddsALineModel_rule_71 hX hR  h)
  · refine v_aload_n hX dX12_rule_35 rfl 1 rfl ?_
    refine v_iconst (v := 0) hX dX12_rule_36 (by decide) ?_
    obtain ⟨p6, hp6, h⟩ := bsome h
    refine v_callVI (o := 0) hX (mM_EachAddsALineModel_held (fun _ _ _ _ z => mM_EachAddsALineModel_thing 48 z l ad) hp6) kM_X12_held kV_X12_held km_12_166 (by decide) (fun _ => rfl) rfl rfl rfl (Nat.le_of_ble_eq_true rfl) (by decide) dX12_rule_37 ?_
    refine v_pop hX dX12_rule_40 rfl ?_
    refine v_aload_n hX dX12_rule_41 rfl 1 rfl ?_
    refine gfM_0_15 hX kf_12_124 dX12_rule_42 ?_
    refine v_iload_n hX dX12_rule_45 rfl 0 rfl ?_
    refine v_icmp_ge (tgt := 57) hX dX12_rule_46 (by decide) h (fun h => ?_) (fun h => ?_)
    · exact v_sub hX [1, 0] (by rfl) (wM_EachAddsALineModel_rule_57 hX hR  h)
    · refine v_aload_n hX dX12_rule_49 rfl 1 rfl ?_
      refine v_aload_n hX dX12_rule_50 rfl 1 rfl ?_
      refine gfM_0_15 hX kf_12_124 dX12_rule_51 ?_
      obtain ⟨z7, hz7, h⟩ := bsome h
      refine v_callVV (o := 0) hX (mM_EachAddsALineModel_fault hz7 l ad) kM_X12_fault kV_X12_fault km_12_138 (by decide) (fun _ => rfl) rfl rfl rfl (Nat.le_of_ble_eq_true rfl) (by decide) dX12_rule_54 ?_
      exact v_sub hX [1, 0] (by rfl) (wM_EachAddsALineModel_rule_57 hX hR  h)
noncomputable def fM_EachAddsALineModel_rule (N : Nat)  (s : vSt) : Option (Int32 × vSt) := gM_EachAddsALineModel_rule_0 N s
theorem mM_EachAddsALineModel_rule {N : Nat}  {s : vSt} {r : Int32} {t1 : vSt} (h : fM_EachAddsALineModel_rule N s = some (r, t1)) (l : Launch) (ad : Nat → Nat) : vMI l shM ad yX12_rule cX12_rule 3 .int 196 4557 s [.ref (ad 0)] r t1 :=
  vMI_of (by decide +kernel) (Nat.le_of_ble_eq_true rfl) (fun P hX hR => wM_EachAddsALineModel_rule_0 hX hR h)
-- M_EachAddsALineModel_isOne
noncomputable def gM_EachAddsALineModel_isOne_0 (N : Nat)  (a1 : Int32) (s : vSt) : Option (Int32 × vSt) :=
  (fM_EachAddsALineModel_in N a1 0 ((s.1 0 0) - 1) s).bind fun p1 =>
  if p1.1 = 0 ∨ p1.1 = 1 then some (p1.1, p1.2) else none
set_option maxRecDepth 4000 in
theorem wM_EachAddsALineModel_isOne_0 {P : vP} {l : Launch} {ad : Nat → Nat} {N : Nat} {r : Int32} {t1 : vSt} (hX : vOK P l shM ad (vR 1 22) cX12_isOne RX12 2) (hR : (∀ pc lv, narrow .boolean (.int r) = .int r → decode cX12_isOne pc = .ok (.ireturn, 1) → P t1 pc lv [.int r]))  {a1 : Int32} {s : vSt} (h : gM_EachAddsALineModel_isOne_0 N a1 s = some (r, t1)) : P s 0 [(0, .ref (ad 0)), (1, .int a1)] [] := by
  unfold gM_EachAddsALineModel_isOne_0 at h
  refine v_iload_n hX dX12_isOne_0 rfl 1 rfl ?_
  refine v_iconst (v := 0) hX dX12_isOne_1 (by decide) ?_
  refine v_aload_n hX dX12_isOne_2 rfl 0 rfl ?_
  refine gfM_0_0 hX kf_12_102 dX12_isOne_3 ?_
  refine v_iconst (v := 1) hX dX12_isOne_6 (by decide) ?_
  refine v_isub hX dX12_isOne_7 ?_
  obtain ⟨p1, hp1, h⟩ := bsome h
  refine v_callSI hX (mM_EachAddsALineModel_in hp1 l ad) kM_X12_in kS_X12_in km_12_105 rfl rfl (Nat.le_of_ble_eq_true rfl) (by decide) dX12_isOne_8 ?_
  exact v_retZ hR h dX12_isOne_11
noncomputable def fM_EachAddsALineModel_isOne (N : Nat) (a1 : Int32) (s : vSt) : Option (Int32 × vSt) := gM_EachAddsALineModel_isOne_0 N a1 s
theorem mM_EachAddsALineModel_isOne {N : Nat} {a1 : Int32} {s : vSt} {r : Int32} {t1 : vSt} (h : fM_EachAddsALineModel_isOne N a1 s = some (r, t1)) (l : Launch) (ad : Nat → Nat) : vMI l shM ad yX12_isOne cX12_isOne 2 .boolean 1 22 s [.ref (ad 0), .int a1] r t1 :=
  vMI_of (by decide +kernel) (Nat.le_of_ble_eq_true rfl) (fun P hX hR => wM_EachAddsALineModel_isOne_0 hX hR h)
-- M_EachAddsALineModel_reads
noncomputable def gM_EachAddsALineModel_reads_0 (N : Nat)  (a1 : Int32) (s : vSt) : Option (Int32 × vSt) :=
  (some (s1 s 0 11 0)).bind fun z1 =>
  (fM_EachAddsALineModel_isOne N a1 z1).bind fun p2 =>
  if p2.1 = 0 then
    some ((-1), p2.2)
  else
    (ld p2.2 1 9 a1).bind fun v3 =>
    some (v3, p2.2)
set_option maxRecDepth 4000 in
theorem wM_EachAddsALineModel_reads_0 {P : vP} {l : Launch} {ad : Nat → Nat} {N : Nat} {r : Int32} {t1 : vSt} (hX : vOK P l shM ad (vR 2 43) cX12_reads RX12 2) (hR : (∀ pc lv, narrow .int (.int r) = .int r → decode cX12_reads pc = .ok (.ireturn, 1) → P t1 pc lv [.int r]))  {a1 : Int32} {s : vSt} (h : gM_EachAddsALineModel_reads_0 N a1 s = some (r, t1)) : P s 0 [(0, .ref (ad 0)), (1, .int a1)] [] := by
  unfold gM_EachAddsALineModel_reads_0 at h
  refine v_aload_n hX dX12_reads_0 rfl 0 rfl ?_
  refine v_iconst (v := 0) hX dX12_reads_1 (by decide) ?_
  refine pfM_0_11 hX kf_12_96 dX12_reads_2 h (fun z1 h => ?_)
  refine v_aload_n hX dX12_reads_5 rfl 0 rfl ?_
  refine v_iload_n hX dX12_reads_6 rfl 1 rfl ?_
  obtain ⟨p2, hp2, h⟩ := bsome h
  refine v_callVI (o := 0) hX (mM_EachAddsALineModel_isOne hp2 l ad) kM_X12_isOne kV_X12_isOne km_12_197 (by decide) (fun _ => rfl) rfl rfl rfl (Nat.le_of_ble_eq_true rfl) (by decide) dX12_reads_7 ?_
  refine v_if_eq (tgt := 22) hX dX12_reads_10 (by decide) h (fun h => ?_) (fun h => ?_)
  · refine v_iconst (v := (-1)) hX dX12_reads_22 (by decide) ?_
    exact v_retI hR h dX12_reads_23
  · refine v_aload_n hX dX12_reads_13 rfl 0 rfl ?_
    refine gfM_0_1 hX kf_12_9 dX12_reads_14 ?_
    refine v_iload_n hX dX12_reads_17 rfl 1 rfl ?_
    refine alM_1 hX dX12_reads_18 h (fun v3 h => ?_)
    refine v_goto (tgt := 23) hX dX12_reads_19 (by decide) ?_
    exact v_retI hR h dX12_reads_23
noncomputable def fM_EachAddsALineModel_reads (N : Nat) (a1 : Int32) (s : vSt) : Option (Int32 × vSt) := gM_EachAddsALineModel_reads_0 N a1 s
theorem mM_EachAddsALineModel_reads {N : Nat} {a1 : Int32} {s : vSt} {r : Int32} {t1 : vSt} (h : fM_EachAddsALineModel_reads N a1 s = some (r, t1)) (l : Launch) (ad : Nat → Nat) : vMI l shM ad yX12_reads cX12_reads 2 .int 2 43 s [.ref (ad 0), .int a1] r t1 :=
  vMI_of (by decide +kernel) (Nat.le_of_ble_eq_true rfl) (fun P hX hR => wM_EachAddsALineModel_reads_0 hX hR h)
-- M_EachAddsALineModel_isMeeting
noncomputable def gM_EachAddsALineModel_isMeeting_0 (N : Nat)  (a1 : Int32) (s : vSt) : Option (Int32 × vSt) :=
  (fM_EachAddsALineModel_in N a1 0 ((s.1 0 2) - 1) s).bind fun p1 =>
  if p1.1 = 0 ∨ p1.1 = 1 then some (p1.1, p1.2) else none
set_option maxRecDepth 4000 in
theorem wM_EachAddsALineModel_isMeeting_0 {P : vP} {l : Launch} {ad : Nat → Nat} {N : Nat} {r : Int32} {t1 : vSt} (hX : vOK P l shM ad (vR 1 22) cX12_isMeeting RX12 2) (hR : (∀ pc lv, narrow .boolean (.int r) = .int r → decode cX12_isMeeting pc = .ok (.ireturn, 1) → P t1 pc lv [.int r]))  {a1 : Int32} {s : vSt} (h : gM_EachAddsALineModel_isMeeting_0 N a1 s = some (r, t1)) : P s 0 [(0, .ref (ad 0)), (1, .int a1)] [] := by
  unfold gM_EachAddsALineModel_isMeeting_0 at h
  refine v_iload_n hX dX12_isMeeting_0 rfl 1 rfl ?_
  refine v_iconst (v := 0) hX dX12_isMeeting_1 (by decide) ?_
  refine v_aload_n hX dX12_isMeeting_2 rfl 0 rfl ?_
  refine gfM_0_2 hX kf_12_109 dX12_isMeeting_3 ?_
  refine v_iconst (v := 1) hX dX12_isMeeting_6 (by decide) ?_
  refine v_isub hX dX12_isMeeting_7 ?_
  obtain ⟨p1, hp1, h⟩ := bsome h
  refine v_callSI hX (mM_EachAddsALineModel_in hp1 l ad) kM_X12_in kS_X12_in km_12_105 rfl rfl (Nat.le_of_ble_eq_true rfl) (by decide) dX12_isMeeting_8 ?_
  exact v_retZ hR h dX12_isMeeting_11
noncomputable def fM_EachAddsALineModel_isMeeting (N : Nat) (a1 : Int32) (s : vSt) : Option (Int32 × vSt) := gM_EachAddsALineModel_isMeeting_0 N a1 s
theorem mM_EachAddsALineModel_isMeeting {N : Nat} {a1 : Int32} {s : vSt} {r : Int32} {t1 : vSt} (h : fM_EachAddsALineModel_isMeeting N a1 s = some (r, t1)) (l : Launch) (ad : Nat → Nat) : vMI l shM ad yX12_isMeeting cX12_isMeeting 2 .boolean 1 22 s [.ref (ad 0), .int a1] r t1 :=
  vMI_of (by decide +kernel) (Nat.le_of_ble_eq_true rfl) (fun P hX hR => wM_EachAddsALineModel_isMeeting_0 hX hR h)
-- M_EachAddsALineModel_lost
noncomputable def gM_EachAddsALineModel_lost_0 (N : Nat)   (s : vSt) : Option (Int32 × vSt) :=
  (some (s1 s 0 11 1)).bind fun z1 =>
  some (0, z1)
set_option maxRecDepth 4000 in
theorem wM_EachAddsALineModel_lost_0 {P : vP} {l : Launch} {ad : Nat → Nat} {N : Nat} {r : Int32} {t1 : vSt} (hX : vOK P l shM ad (vR 0 0) cX12_lost RX12 1) (hR : (∀ pc lv, narrow .int (.int r) = .int r → decode cX12_lost pc = .ok (.ireturn, 1) → P t1 pc lv [.int r]))   {s : vSt} (h : gM_EachAddsALineModel_lost_0 N s = some (r, t1)) : P s 0 [(0, .ref (ad 0))] [] := by
  unfold gM_EachAddsALineModel_lost_0 at h
  refine v_aload_n hX dX12_lost_0 rfl 0 rfl ?_
  refine v_iconst (v := 1) hX dX12_lost_1 (by decide) ?_
  refine pfM_0_11 hX kf_12_96 dX12_lost_2 h (fun z1 h => ?_)
  refine v_iconst (v := 0) hX dX12_lost_5 (by decide) ?_
  exact v_retI hR h dX12_lost_6
noncomputable def fM_EachAddsALineModel_lost (N : Nat)  (s : vSt) : Option (Int32 × vSt) := gM_EachAddsALineModel_lost_0 N s
theorem mM_EachAddsALineModel_lost {N : Nat}  {s : vSt} {r : Int32} {t1 : vSt} (h : fM_EachAddsALineModel_lost N s = some (r, t1)) (l : Launch) (ad : Nat → Nat) : vMI l shM ad yX12_lost cX12_lost 1 .int 0 0 s [.ref (ad 0)] r t1 :=
  vMI_of (by decide +kernel) (Nat.le_of_ble_eq_true rfl) (fun P hX hR => wM_EachAddsALineModel_lost_0 hX hR h)
-- M_EachAddsALineModel_meeting
noncomputable def gM_EachAddsALineModel_meeting_0 (N : Nat)  (a1 : Int32) (a2 : Int32) (s : vSt) : Option (Int32 × vSt) :=
  (some (s1 s 0 11 0)).bind fun z1 =>
  (fM_EachAddsALineModel_isMeeting N a1 z1).bind fun p2 =>
  if p2.1 = 0 then
    (fM_EachAddsALineModel_lost N p2.2).bind fun p3 =>
    some (p3.1, p3.2)
  else
    (fM_EachAddsALineModel_in N a2 0 3 p2.2).bind fun p4 =>
    if p4.1 = 0 then
      (fM_EachAddsALineModel_lost N p4.2).bind fun p5 =>
      some (p5.1, p5.2)
    else
      if a2 = 0 then
        (ld p4.2 2 20 a1).bind fun v6 =>
        some (v6, p4.2)
      else
        if a2 = 1 then
          (ld p4.2 3 20 a1).bind fun v7 =>
          some (v7, p4.2)
        else
          if a2 = 2 then
            (ld p4.2 4 20 a1).bind fun v8 =>
            some (v8, p4.2)
          else
            (ld p4.2 5 20 a1).bind fun v9 =>
            some (v9, p4.2)
set_option maxRecDepth 4000 in
theorem wM_EachAddsALineModel_meeting_0 {P : vP} {l : Launch} {ad : Nat → Nat} {N : Nat} {r : Int32} {t1 : vSt} (hX : vOK P l shM ad (vR 2 43) cX12_meeting RX12 3) (hR : (∀ pc lv, narrow .int (.int r) = .int r → decode cX12_meeting pc = .ok (.ireturn, 1) → P t1 pc lv [.int r]))  {a1 : Int32} {a2 : Int32} {s : vSt} (h : gM_EachAddsALineModel_meeting_0 N a1 a2 s = some (r, t1)) : P s 0 [(0, .ref (ad 0)), (1, .int a1), (2, .int a2)] [] := by
  unfold gM_EachAddsALineModel_meeting_0 at h
  refine v_aload_n hX dX12_meeting_0 rfl 0 rfl ?_
  refine v_iconst (v := 0) hX dX12_meeting_1 (by decide) ?_
  refine pfM_0_11 hX kf_12_96 dX12_meeting_2 h (fun z1 h => ?_)
  refine v_aload_n hX dX12_meeting_5 rfl 0 rfl ?_
  refine v_iload_n hX dX12_meeting_6 rfl 1 rfl ?_
  obtain ⟨p2, hp2, h⟩ := bsome h
  refine v_callVI (o := 0) hX (mM_EachAddsALineModel_isMeeting hp2 l ad) kM_X12_isMeeting kV_X12_isMeeting km_12_201 (by decide) (fun _ => rfl) rfl rfl rfl (Nat.le_of_ble_eq_true rfl) (by decide) dX12_meeting_7 ?_
  refine v_if_eq (tgt := 22) hX dX12_meeting_10 (by decide) h (fun h => ?_) (fun h => ?_)
  · refine v_aload_n hX dX12_meeting_22 rfl 0 rfl ?_
    obtain ⟨p3, hp3, h⟩ := bsome h
    refine v_callVI (o := 0) hX (mM_EachAddsALineModel_lost hp3 l ad) kM_X12_lost kV_X12_lost km_12_204 (by decide) (fun _ => rfl) rfl rfl rfl (Nat.le_of_ble_eq_true rfl) (by decide) dX12_meeting_23 ?_
    exact v_retI hR h dX12_meeting_26
  · refine v_iload_n hX dX12_meeting_13 rfl 2 rfl ?_
    refine v_iconst (v := 0) hX dX12_meeting_14 (by decide) ?_
    refine v_iconst (v := 3) hX dX12_meeting_15 (by decide) ?_
    obtain ⟨p4, hp4, h⟩ := bsome h
    refine v_callSI hX (mM_EachAddsALineModel_in hp4 l ad) kM_X12_in kS_X12_in km_12_105 rfl rfl (Nat.le_of_ble_eq_true rfl) (by decide) dX12_meeting_16 ?_
    refine v_if_ne (tgt := 27) hX dX12_meeting_19 (by decide) h (fun h => ?_) (fun h => ?_)
    · refine v_aload_n hX dX12_meeting_22 rfl 0 rfl ?_
      obtain ⟨p5, hp5, h⟩ := bsome h
      refine v_callVI (o := 0) hX (mM_EachAddsALineModel_lost hp5 l ad) kM_X12_lost kV_X12_lost km_12_204 (by decide) (fun _ => rfl) rfl rfl rfl (Nat.le_of_ble_eq_true rfl) (by decide) dX12_meeting_23 ?_
      exact v_retI hR h dX12_meeting_26
    · refine v_iload_n hX dX12_meeting_27 rfl 2 rfl ?_
      refine v_if_ne (tgt := 40) hX dX12_meeting_28 (by decide) h (fun h => ?_) (fun h => ?_)
      · refine v_aload_n hX dX12_meeting_31 rfl 0 rfl ?_
        refine gfM_0_3 hX kf_12_13 dX12_meeting_32 ?_
        refine v_iload_n hX dX12_meeting_35 rfl 1 rfl ?_
        refine alM_2 hX dX12_meeting_36 h (fun v6 h => ?_)
        refine v_goto (tgt := 74) hX dX12_meeting_37 (by decide) ?_
        exact v_retI hR h dX12_meeting_74
      · refine v_iload_n hX dX12_meeting_40 rfl 2 rfl ?_
        refine v_iconst (v := 1) hX dX12_meeting_41 (by decide) ?_
        refine v_icmp_ne (tgt := 54) hX dX12_meeting_42 (by decide) h (fun h => ?_) (fun h => ?_)
        · refine v_aload_n hX dX12_meeting_45 rfl 0 rfl ?_
          refine gfM_0_4 hX kf_12_16 dX12_meeting_46 ?_
          refine v_iload_n hX dX12_meeting_49 rfl 1 rfl ?_
          refine alM_3 hX dX12_meeting_50 h (fun v7 h => ?_)
          refine v_goto (tgt := 74) hX dX12_meeting_51 (by decide) ?_
          exact v_retI hR h dX12_meeting_74
        · refine v_iload_n hX dX12_meeting_54 rfl 2 rfl ?_
          refine v_iconst (v := 2) hX dX12_meeting_55 (by decide) ?_
          refine v_icmp_ne (tgt := 68) hX dX12_meeting_56 (by decide) h (fun h => ?_) (fun h => ?_)
          · refine v_aload_n hX dX12_meeting_59 rfl 0 rfl ?_
            refine gfM_0_5 hX kf_12_19 dX12_meeting_60 ?_
            refine v_iload_n hX dX12_meeting_63 rfl 1 rfl ?_
            refine alM_4 hX dX12_meeting_64 h (fun v8 h => ?_)
            refine v_goto (tgt := 74) hX dX12_meeting_65 (by decide) ?_
            exact v_retI hR h dX12_meeting_74
          · refine v_aload_n hX dX12_meeting_68 rfl 0 rfl ?_
            refine gfM_0_6 hX kf_12_22 dX12_meeting_69 ?_
            refine v_iload_n hX dX12_meeting_72 rfl 1 rfl ?_
            refine alM_5 hX dX12_meeting_73 h (fun v9 h => ?_)
            exact v_retI hR h dX12_meeting_74
noncomputable def fM_EachAddsALineModel_meeting (N : Nat) (a1 : Int32) (a2 : Int32) (s : vSt) : Option (Int32 × vSt) := gM_EachAddsALineModel_meeting_0 N a1 a2 s
theorem mM_EachAddsALineModel_meeting {N : Nat} {a1 : Int32} {a2 : Int32} {s : vSt} {r : Int32} {t1 : vSt} (h : fM_EachAddsALineModel_meeting N a1 a2 s = some (r, t1)) (l : Launch) (ad : Nat → Nat) : vMI l shM ad yX12_meeting cX12_meeting 3 .int 2 43 s [.ref (ad 0), .int a1, .int a2] r t1 :=
  vMI_of (by decide +kernel) (Nat.le_of_ble_eq_true rfl) (fun P hX hR => wM_EachAddsALineModel_meeting_0 hX hR h)
-- M_EachAddsALineModel_slow
noncomputable def gM_EachAddsALineModel_slow_0 (N : Nat)  (a1 : Int32) (a2 : Int32) (s : vSt) : Option (Int32 × vSt) :=
  (some (s1 s 0 11 0)).bind fun z1 =>
  (fM_EachAddsALineModel_isOne N a1 z1).bind fun p2 =>
  if p2.1 = 0 then
    some ((-1), p2.2)
  else
    (fM_EachAddsALineModel_in N a2 1 9 p2.2).bind fun p3 =>
    if p3.1 = 0 then
      some ((-1), p3.2)
    else
      (ld p3.2 1 9 a1).bind fun v4 =>
      (sto p3.2 1 9 a1 a2).bind fun z5 =>
      some (v4, z5)
set_option maxRecDepth 4000 in
theorem wM_EachAddsALineModel_slow_0 {P : vP} {l : Launch} {ad : Nat → Nat} {N : Nat} {r : Int32} {t1 : vSt} (hX : vOK P l shM ad (vR 2 43) cX12_slow RX12 4) (hR : (∀ pc lv, narrow .int (.int r) = .int r → decode cX12_slow pc = .ok (.ireturn, 1) → P t1 pc lv [.int r]))  {a1 : Int32} {a2 : Int32} {s : vSt} (h : gM_EachAddsALineModel_slow_0 N a1 a2 s = some (r, t1)) : P s 0 [(0, .ref (ad 0)), (1, .int a1), (2, .int a2)] [] := by
  unfold gM_EachAddsALineModel_slow_0 at h
  refine v_aload_n hX dX12_slow_0 rfl 0 rfl ?_
  refine v_iconst (v := 0) hX dX12_slow_1 (by decide) ?_
  refine pfM_0_11 hX kf_12_96 dX12_slow_2 h (fun z1 h => ?_)
  refine v_aload_n hX dX12_slow_5 rfl 0 rfl ?_
  refine v_iload_n hX dX12_slow_6 rfl 1 rfl ?_
  obtain ⟨p2, hp2, h⟩ := bsome h
  refine v_callVI (o := 0) hX (mM_EachAddsALineModel_isOne hp2 l ad) kM_X12_isOne kV_X12_isOne km_12_197 (by decide) (fun _ => rfl) rfl rfl rfl (Nat.le_of_ble_eq_true rfl) (by decide) dX12_slow_7 ?_
  refine v_if_eq (tgt := 23) hX dX12_slow_10 (by decide) h (fun h => ?_) (fun h => ?_)
  · refine v_iconst (v := (-1)) hX dX12_slow_23 (by decide) ?_
    exact v_retI hR h dX12_slow_24
  · refine v_iload_n hX dX12_slow_13 rfl 2 rfl ?_
    refine v_iconst (v := 1) hX dX12_slow_14 (by decide) ?_
    refine v_bipush (v := 9) hX dX12_slow_15 (by decide) ?_
    obtain ⟨p3, hp3, h⟩ := bsome h
    refine v_callSI hX (mM_EachAddsALineModel_in hp3 l ad) kM_X12_in kS_X12_in km_12_105 rfl rfl (Nat.le_of_ble_eq_true rfl) (by decide) dX12_slow_17 ?_
    refine v_if_ne (tgt := 25) hX dX12_slow_20 (by decide) h (fun h => ?_) (fun h => ?_)
    · refine v_iconst (v := (-1)) hX dX12_slow_23 (by decide) ?_
      exact v_retI hR h dX12_slow_24
    · refine v_aload_n hX dX12_slow_25 rfl 0 rfl ?_
      refine gfM_0_1 hX kf_12_9 dX12_slow_26 ?_
      refine v_iload_n hX dX12_slow_29 rfl 1 rfl ?_
      refine alM_1 hX dX12_slow_30 h (fun v4 h => ?_)
      refine v_istore_n (lv' := [(3, .int v4), (0, .ref (ad 0)), (1, .int a1), (2, .int a2)]) hX dX12_slow_31 rfl (by decide) rfl ?_
      refine v_aload_n hX dX12_slow_32 rfl 1 rfl ?_
      refine gfM_0_1 hX kf_12_9 dX12_slow_33 ?_
      refine v_iload_n hX dX12_slow_36 rfl 2 rfl ?_
      refine v_iload_n hX dX12_slow_37 rfl 3 rfl ?_
      refine asM_1 hX dX12_slow_38 h (fun z5 h => ?_)
      refine v_iload_n hX dX12_slow_39 rfl 0 rfl ?_
      exact v_retI hR h dX12_slow_40
noncomputable def fM_EachAddsALineModel_slow (N : Nat) (a1 : Int32) (a2 : Int32) (s : vSt) : Option (Int32 × vSt) := gM_EachAddsALineModel_slow_0 N a1 a2 s
theorem mM_EachAddsALineModel_slow {N : Nat} {a1 : Int32} {a2 : Int32} {s : vSt} {r : Int32} {t1 : vSt} (h : fM_EachAddsALineModel_slow N a1 a2 s = some (r, t1)) (l : Launch) (ad : Nat → Nat) : vMI l shM ad yX12_slow cX12_slow 4 .int 2 43 s [.ref (ad 0), .int a1, .int a2] r t1 :=
  vMI_of (by decide +kernel) (Nat.le_of_ble_eq_true rfl) (fun P hX hR => wM_EachAddsALineModel_slow_0 hX hR h)
-- M_EachAddsALineModel_move
noncomputable def gM_EachAddsALineModel_move_62 (N : Nat)  (a1 : Int32) (a2 : Int32) (a3 : Int32) (k0 : Int32) (s : vSt) : Option (Int32 × vSt) :=
  if a2 = 0 then
    (sto s 4 20 a1 a3).bind fun z1 =>
    some (k0, z1)
  else
    (sto s 5 20 a1 a3).bind fun z2 =>
    some (k0, z2)
set_option maxRecDepth 4000 in
theorem wM_EachAddsALineModel_move_62 {P : vP} {l : Launch} {ad : Nat → Nat} {N : Nat} {r : Int32} {t1 : vSt} (hX : vOK P l shM ad (vR 2 43) cX12_move RX12 5) (hR : (∀ pc lv, narrow .int (.int r) = .int r → decode cX12_move pc = .ok (.ireturn, 1) → P t1 pc lv [.int r]))  {a1 : Int32} {a2 : Int32} {a3 : Int32} {k0 : Int32} {s : vSt} (h : gM_EachAddsALineModel_move_62 N a1 a2 a3 k0 s = some (r, t1)) : P s 62 [(0, .ref (ad 0)), (1, .int a1), (2, .int a2), (3, .int a3)] [.int k0] := by
  unfold gM_EachAddsALineModel_move_62 at h
  refine v_istore (lv' := [(4, .int k0), (0, .ref (ad 0)), (1, .int a1), (2, .int a2), (3, .int a3)]) hX dX12_move_62 (by decide) rfl ?_
  refine v_iload_n hX dX12_move_64 rfl 3 rfl ?_
  refine v_if_ne (tgt := 78) hX dX12_move_65 (by decide) h (fun h => ?_) (fun h => ?_)
  · refine v_aload_n hX dX12_move_68 rfl 1 rfl ?_
    refine gfM_0_5 hX kf_12_19 dX12_move_69 ?_
    refine v_iload_n hX dX12_move_72 rfl 2 rfl ?_
    refine v_iload_n hX dX12_move_73 rfl 4 rfl ?_
    refine asM_4 hX dX12_move_74 h (fun z1 h => ?_)
    refine v_goto (tgt := 85) hX dX12_move_75 (by decide) ?_
    refine v_iload hX dX12_move_85 0 rfl ?_
    exact v_retI hR h dX12_move_87
  · refine v_aload_n hX dX12_move_78 rfl 1 rfl ?_
    refine gfM_0_6 hX kf_12_22 dX12_move_79 ?_
    refine v_iload_n hX dX12_move_82 rfl 2 rfl ?_
    refine v_iload_n hX dX12_move_83 rfl 4 rfl ?_
    refine asM_5 hX dX12_move_84 h (fun z2 h => ?_)
    refine v_iload hX dX12_move_85 0 rfl ?_
    exact v_retI hR h dX12_move_87
noncomputable def gM_EachAddsALineModel_move_35 (N : Nat)  (a1 : Int32) (a2 : Int32) (a3 : Int32) (k0 : Int32) (k1 : Int32) (k2 : Int32) (s : vSt) : Option (Int32 × vSt) :=
  (fM_EachAddsALineModel_in N k0 k1 k2 s).bind fun p1 =>
  if p1.1 = 0 then
    some ((-1), p1.2)
  else
    if a2 = 0 then
      (ld p1.2 4 20 a1).bind fun v2 =>
      gM_EachAddsALineModel_move_62 N a1 a2 a3 v2 p1.2
    else
      (ld p1.2 5 20 a1).bind fun v3 =>
      gM_EachAddsALineModel_move_62 N a1 a2 a3 v3 p1.2
set_option maxRecDepth 4000 in
theorem wM_EachAddsALineModel_move_35 {P : vP} {l : Launch} {ad : Nat → Nat} {N : Nat} {r : Int32} {t1 : vSt} (hX : vOK P l shM ad (vR 2 43) cX12_move RX12 5) (hR : (∀ pc lv, narrow .int (.int r) = .int r → decode cX12_move pc = .ok (.ireturn, 1) → P t1 pc lv [.int r]))  {a1 : Int32} {a2 : Int32} {a3 : Int32} {k0 : Int32} {k1 : Int32} {k2 : Int32} {s : vSt} (h : gM_EachAddsALineModel_move_35 N a1 a2 a3 k0 k1 k2 s = some (r, t1)) : P s 35 [(0, .ref (ad 0)), (1, .int a1), (2, .int a2), (3, .int a3)] [.int k2, .int k1, .int k0] := by
  unfold gM_EachAddsALineModel_move_35 at h
  obtain ⟨p1, hp1, h⟩ := bsome h
  refine v_callSI hX (mM_EachAddsALineModel_in hp1 l ad) kM_X12_in kS_X12_in km_12_105 rfl rfl (Nat.le_of_ble_eq_true rfl) (by decide) dX12_move_35 ?_
  refine v_if_ne (tgt := 43) hX dX12_move_38 (by decide) h (fun h => ?_) (fun h => ?_)
  · refine v_iconst (v := (-1)) hX dX12_move_41 (by decide) ?_
    exact v_retI hR h dX12_move_42
  · refine v_iload_n hX dX12_move_43 rfl 2 rfl ?_
    refine v_if_ne (tgt := 56) hX dX12_move_44 (by decide) h (fun h => ?_) (fun h => ?_)
    · refine v_aload_n hX dX12_move_47 rfl 0 rfl ?_
      refine gfM_0_5 hX kf_12_19 dX12_move_48 ?_
      refine v_iload_n hX dX12_move_51 rfl 1 rfl ?_
      refine alM_4 hX dX12_move_52 h (fun v2 h => ?_)
      refine v_goto (tgt := 62) hX dX12_move_53 (by decide) ?_
      exact v_sub hX [0, 1, 2, 3] (by rfl) (wM_EachAddsALineModel_move_62 hX hR  h)
    · refine v_aload_n hX dX12_move_56 rfl 0 rfl ?_
      refine gfM_0_6 hX kf_12_22 dX12_move_57 ?_
      refine v_iload_n hX dX12_move_60 rfl 1 rfl ?_
      refine alM_5 hX dX12_move_61 h (fun v3 h => ?_)
      exact v_sub hX [0, 1, 2, 3] (by rfl) (wM_EachAddsALineModel_move_62 hX hR  h)
noncomputable def gM_EachAddsALineModel_move_0 (N : Nat)  (a1 : Int32) (a2 : Int32) (a3 : Int32) (s : vSt) : Option (Int32 × vSt) :=
  (some (s1 s 0 11 0)).bind fun z1 =>
  (fM_EachAddsALineModel_isMeeting N a1 z1).bind fun p2 =>
  if p2.1 = 0 then
    some ((-1), p2.2)
  else
    (fM_EachAddsALineModel_in N a2 0 1 p2.2).bind fun p3 =>
    if p3.1 = 0 then
      some ((-1), p3.2)
    else
      if a2 = 0 then
        gM_EachAddsALineModel_move_35 N a1 a2 a3 a3 0 99 p3.2
      else
        gM_EachAddsALineModel_move_35 N a1 a2 a3 a3 0 9 p3.2
set_option maxRecDepth 4000 in
theorem wM_EachAddsALineModel_move_0 {P : vP} {l : Launch} {ad : Nat → Nat} {N : Nat} {r : Int32} {t1 : vSt} (hX : vOK P l shM ad (vR 2 43) cX12_move RX12 5) (hR : (∀ pc lv, narrow .int (.int r) = .int r → decode cX12_move pc = .ok (.ireturn, 1) → P t1 pc lv [.int r]))  {a1 : Int32} {a2 : Int32} {a3 : Int32} {s : vSt} (h : gM_EachAddsALineModel_move_0 N a1 a2 a3 s = some (r, t1)) : P s 0 [(0, .ref (ad 0)), (1, .int a1), (2, .int a2), (3, .int a3)] [] := by
  unfold gM_EachAddsALineModel_move_0 at h
  refine v_aload_n hX dX12_move_0 rfl 0 rfl ?_
  refine v_iconst (v := 0) hX dX12_move_1 (by decide) ?_
  refine pfM_0_11 hX kf_12_96 dX12_move_2 h (fun z1 h => ?_)
  refine v_aload_n hX dX12_move_5 rfl 0 rfl ?_
  refine v_iload_n hX dX12_move_6 rfl 1 rfl ?_
  obtain ⟨p2, hp2, h⟩ := bsome h
  refine v_callVI (o := 0) hX (mM_EachAddsALineModel_isMeeting hp2 l ad) kM_X12_isMeeting kV_X12_isMeeting km_12_201 (by decide) (fun _ => rfl) rfl rfl rfl (Nat.le_of_ble_eq_true rfl) (by decide) dX12_move_7 ?_
  refine v_if_eq (tgt := 41) hX dX12_move_10 (by decide) h (fun h => ?_) (fun h => ?_)
  · refine v_iconst (v := (-1)) hX dX12_move_41 (by decide) ?_
    exact v_retI hR h dX12_move_42
  · refine v_iload_n hX dX12_move_13 rfl 2 rfl ?_
    refine v_iconst (v := 0) hX dX12_move_14 (by decide) ?_
    refine v_iconst (v := 1) hX dX12_move_15 (by decide) ?_
    obtain ⟨p3, hp3, h⟩ := bsome h
    refine v_callSI hX (mM_EachAddsALineModel_in hp3 l ad) kM_X12_in kS_X12_in km_12_105 rfl rfl (Nat.le_of_ble_eq_true rfl) (by decide) dX12_move_16 ?_
    refine v_if_eq (tgt := 41) hX dX12_move_19 (by decide) h (fun h => ?_) (fun h => ?_)
    · refine v_iconst (v := (-1)) hX dX12_move_41 (by decide) ?_
      exact v_retI hR h dX12_move_42
    · refine v_iload_n hX dX12_move_22 rfl 3 rfl ?_
      refine v_iconst (v := 0) hX dX12_move_23 (by decide) ?_
      refine v_iload_n hX dX12_move_24 rfl 2 rfl ?_
      refine v_if_ne (tgt := 33) hX dX12_move_25 (by decide) h (fun h => ?_) (fun h => ?_)
      · refine v_bipush (v := 99) hX dX12_move_28 (by decide) ?_
        refine v_goto (tgt := 35) hX dX12_move_30 (by decide) ?_
        exact v_sub hX [0, 1, 2, 3] (by rfl) (wM_EachAddsALineModel_move_35 hX hR  h)
      · refine v_bipush (v := 9) hX dX12_move_33 (by decide) ?_
        exact v_sub hX [0, 1, 2, 3] (by rfl) (wM_EachAddsALineModel_move_35 hX hR  h)
noncomputable def fM_EachAddsALineModel_move (N : Nat) (a1 : Int32) (a2 : Int32) (a3 : Int32) (s : vSt) : Option (Int32 × vSt) := gM_EachAddsALineModel_move_0 N a1 a2 a3 s
theorem mM_EachAddsALineModel_move {N : Nat} {a1 : Int32} {a2 : Int32} {a3 : Int32} {s : vSt} {r : Int32} {t1 : vSt} (h : fM_EachAddsALineModel_move N a1 a2 a3 s = some (r, t1)) (l : Launch) (ad : Nat → Nat) : vMI l shM ad yX12_move cX12_move 5 .int 2 43 s [.ref (ad 0), .int a1, .int a2, .int a3] r t1 :=
  vMI_of (by decide +kernel) (Nat.le_of_ble_eq_true rfl) (fun P hX hR => wM_EachAddsALineModel_move_0 hX hR h)
