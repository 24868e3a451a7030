-- C_Tales_countFits_told
noncomputable def gC_Tales_countFits_told_67 (N : Nat) (r21 : Int32 → Int32 → vSt → Option (vSt)) (a3 : Int32) (a4 : Int32) (k1 : Int32) (k2 : Int64) (s : vSt) : Option (vSt) :=
  (stoL s 48 480 k1 k2).bind fun z1 =>
  (some (a4 + 1 : Int32)).bind fun v2 =>
  r21 a3 v2 z1
set_option maxRecDepth 4000 in
theorem wC_Tales_countFits_told_67 {P : vP} {l : Launch} {ad : Nat → Nat} {N : Nat} {r21 : Int32 → Int32 → vSt → Option (vSt)} {t1 : vSt} (hX : vOK P l shC ad (vR 4 97) cX9_countFits RX9 5) (hR : (∀ pc lv, decode cX9_countFits pc = .ok (.return_, 1) → P t1 pc lv [])) (H21 : ∀ (a3 : Int32) (a4 : Int32) (s : vSt), r21 a3 a4 s = some t1 → P s 21 [(0, .ref (ad 46)), (3, .int a3), (4, .int a4)] []) {a3 : Int32} {a4 : Int32} {k1 : Int32} {k2 : Int64} {s : vSt} (h : gC_Tales_countFits_told_67 N r21 a3 a4 k1 k2 s = some t1) : P s 67 [(0, .ref (ad 46)), (3, .int a3), (4, .int a4)] [.long k2, .int k1, .ref (ad 48)] := by
  unfold gC_Tales_countFits_told_67 at h
  refine asC_48 hX dX9_countFits_67 h (fun z1 h => ?_)
  refine v_iincN hX dX9_countFits_68 (j := 2) rfl (c := 1) (by decide) (by decide) h (fun v2 h => ?_)
  refine v_show (lv' := [(4, .int v2), (0, .ref (ad 46)), (3, .int a3)]) hX rfl ?_
  refine v_goto (tgt := 21) hX dX9_countFits_71 (by decide) ?_
  exact v_sub hX [1, 2, 0] (by rfl) (H21 _ _ _ h)
noncomputable def gC_Tales_countFits_told_21 (N : Nat) (r13 : Int32 → vSt → Option (vSt)) : Nat → Int32 → Int32 → vSt → Option (vSt)
  | 0, _, _, _ => none
  | n + 1, a3, a4, s =>
    if ((2 : Int32) * (s.1 9 7)) ≤ a4 then
      (some (a3 + (-1) : Int32)).bind fun v1 =>
      r13 v1 s
    else
      (fC_Tales_isRight N a3 a4 s).bind fun p2 =>
      if p2.1 = 0 then
        gC_Tales_countFits_told_67 N (gC_Tales_countFits_told_21 N r13 n) a3 a4 ((a3 * 40) + a4) 0 p2.2
      else
        (fC_Tales_numberAt N a3 a4 p2.2).bind fun p3 =>
        gC_Tales_countFits_told_67 N (gC_Tales_countFits_told_21 N r13 n) a3 a4 ((a3 * 40) + a4) p3.1 p3.2
set_option maxRecDepth 4000 in
theorem wC_Tales_countFits_told_21 {P : vP} {l : Launch} {ad : Nat → Nat} {N : Nat} {r13 : Int32 → vSt → Option (vSt)} {t1 : vSt} (hX : vOK P l shC ad (vR 4 97) cX9_countFits RX9 5) (hR : (∀ pc lv, decode cX9_countFits pc = .ok (.return_, 1) → P t1 pc lv [])) (H13 : ∀ (a3 : Int32) (s : vSt), r13 a3 s = some t1 → P s 13 [(0, .ref (ad 46)), (3, .int a3)] []) : ∀ (n : Nat) (a3 : Int32) (a4 : Int32) (s : vSt), gC_Tales_countFits_told_21 N r13 n a3 a4 s = some t1 → P s 21 [(0, .ref (ad 46)), (3, .int a3), (4, .int a4)] [] := by
  intro n
  induction n with
  | zero => intro a3 a4 s h; cases h
  | succ n ih =>
    intro a3 a4 s h
    unfold gC_Tales_countFits_told_21 at h
    refine v_iload hX dX9_countFits_21 2 rfl ?_
    refine v_iconst (v := 2) hX dX9_countFits_23 (by decide) ?_
    refine v_aload_n hX dX9_countFits_24 rfl 0 rfl ?_
    refine gfC_46_2 hX kf_9_29 dX9_countFits_25 ?_
    refine gfC_9_7 hX kf_9_58 dX9_countFits_28 ?_
    refine v_imul hX dX9_countFits_31 ?_
    refine v_icmp_ge (tgt := 74) hX dX9_countFits_32 (by decide) h (fun h => ?_) (fun h => ?_)
    · refine v_iincN hX dX9_countFits_74 (j := 1) rfl (c := (-1)) (by decide) (by decide) h (fun v1 h => ?_)
      refine v_show (lv' := [(3, .int v1), (0, .ref (ad 46)), (4, .int a4)]) hX rfl ?_
      refine v_goto (tgt := 13) hX dX9_countFits_77 (by decide) ?_
      exact v_sub hX [1, 0] (by rfl) (H13 _ _ h)
    · refine v_aload_n hX dX9_countFits_35 rfl 0 rfl ?_
      refine gfC_46_5 hX kf_9_15 dX9_countFits_36 ?_
      refine v_iload_n hX dX9_countFits_39 rfl 1 rfl ?_
      refine v_bipush (v := 40) hX dX9_countFits_40 (by decide) ?_
      refine v_imul hX dX9_countFits_42 ?_
      refine v_iload hX dX9_countFits_43 2 rfl ?_
      refine v_iadd hX dX9_countFits_45 ?_
      refine v_aload_n hX dX9_countFits_46 rfl 0 rfl ?_
      refine v_iload_n hX dX9_countFits_47 rfl 1 rfl ?_
      refine v_iload hX dX9_countFits_48 2 rfl ?_
      obtain ⟨p2, hp2, h⟩ := bsome h
      refine v_callVI (o := 46) hX (mC_Tales_isRight hp2 l ad) kM_X9_isRight kV_X9_isRight km_9_82 (by decide) (fun _ => rfl) rfl rfl rfl (Nat.le_of_ble_eq_true rfl) (by decide) dX9_countFits_50 ?_
      refine v_if_eq (tgt := 66) hX dX9_countFits_53 (by decide) h (fun h => ?_) (fun h => ?_)
      · refine v_lconst (v := 0) hX dX9_countFits_66 (by decide) ?_
        exact v_sub hX [0, 1, 2] (by rfl) (wC_Tales_countFits_told_67 hX hR ih h)
      · refine v_aload_n hX dX9_countFits_56 rfl 0 rfl ?_
        refine v_iload_n hX dX9_countFits_57 rfl 1 rfl ?_
        refine v_iload hX dX9_countFits_58 2 rfl ?_
        obtain ⟨p3, hp3, h⟩ := bsome h
        refine v_callVL (o := 46) hX (mC_Tales_numberAt hp3 l ad) kM_X9_numberAt kV_X9_numberAt km_9_86 (by decide) (fun _ => rfl) rfl rfl rfl (Nat.le_of_ble_eq_true rfl) (by decide) dX9_countFits_60 ?_
        refine v_goto (tgt := 67) hX dX9_countFits_63 (by decide) ?_
        exact v_sub hX [0, 1, 2] (by rfl) (wC_Tales_countFits_told_67 hX hR ih h)
noncomputable def gC_Tales_countFits_told_13 (N : Nat)  : Nat → Int32 → vSt → Option (vSt)
  | 0, _, _ => none
  | n + 1, a3, s =>
    if a3 < 1 then
      some s
    else
      gC_Tales_countFits_told_21 N (gC_Tales_countFits_told_13 N n) N a3 0 s
set_option maxRecDepth 4000 in
theorem wC_Tales_countFits_told_13 {P : vP} {l : Launch} {ad : Nat → Nat} {N : Nat} {t1 : vSt} (hX : vOK P l shC ad (vR 4 97) cX9_countFits RX9 5) (hR : (∀ pc lv, decode cX9_countFits pc = .ok (.return_, 1) → P t1 pc lv []))  : ∀ (n : Nat) (a3 : Int32) (s : vSt), gC_Tales_countFits_told_13 N n a3 s = some t1 → P s 13 [(0, .ref (ad 46)), (3, .int a3)] [] := by
  intro n
  induction n with
  | zero => intro a3 s h; cases h
  | succ n ih =>
    intro a3 s h
    unfold gC_Tales_countFits_told_13 at h
    refine v_iload_n hX dX9_countFits_13 rfl 1 rfl ?_
    refine v_iconst (v := 1) hX dX9_countFits_14 (by decide) ?_
    refine v_icmp_lt (tgt := 80) hX dX9_countFits_15 (by decide) h (fun h => ?_) (fun h => ?_)
    · exact v_retV hR h dX9_countFits_80
    · refine v_iconst (v := 0) hX dX9_countFits_18 (by decide) ?_
      refine v_istore (lv' := [(4, .int 0), (0, .ref (ad 46)), (3, .int a3)]) hX dX9_countFits_19 (by decide) rfl ?_
      exact v_sub hX [1, 2, 0] (by rfl) (wC_Tales_countFits_told_21 hX hR ih N _ _ _ h)
noncomputable def gC_Tales_countFits_told_0 (N : Nat)  (a2 : Int32) (s : vSt) : Option (vSt) :=
  (fC_Tales_judge_told N a2 s).bind fun z1 =>
  (some ((z1.1 46 9) - 1 : Int32)).bind fun v2 =>
  gC_Tales_countFits_told_13 N N v2 z1
set_option maxRecDepth 4000 in
theorem wC_Tales_countFits_told_0 {P : vP} {l : Launch} {ad : Nat → Nat} {N : Nat} {t1 : vSt} (hX : vOK P l shC ad (vR 4 97) cX9_countFits RX9 5) (hR : (∀ pc lv, decode cX9_countFits pc = .ok (.return_, 1) → P t1 pc lv []))  {a2 : Int32} {s : vSt} (h : gC_Tales_countFits_told_0 N a2 s = some t1) : P s 0 [(0, .ref (ad 46)), (1, .ref (ad 5)), (2, .int a2)] [] := by
  unfold gC_Tales_countFits_told_0 at h
  refine v_aload_n hX dX9_countFits_0 rfl 0 rfl ?_
  refine v_aload_n hX dX9_countFits_1 rfl 1 rfl ?_
  refine v_iload_n hX dX9_countFits_2 rfl 2 rfl ?_
  obtain ⟨z1, hz1, h⟩ := bsome h
  refine v_callVV (o := 46) hX (mC_Tales_judge_told hz1 l ad) kM_X9_judge kV_X9_judge km_9_78 (by decide) (fun _ => rfl) rfl rfl rfl (Nat.le_of_ble_eq_true rfl) (by decide) dX9_countFits_3 ?_
  refine v_aload_n hX dX9_countFits_6 rfl 0 rfl ?_
  refine gfC_46_9 hX kf_9_37 dX9_countFits_7 ?_
  refine v_iconst (v := 1) hX dX9_countFits_10 (by decide) ?_
  refine v_isub hX dX9_countFits_11 ?_
  refine v_nmI hX h (fun v2 h => ?_)
  refine v_istore_n (lv' := [(3, .int v2), (0, .ref (ad 46)), (1, .ref (ad 5)), (2, .int a2)]) hX dX9_countFits_12 rfl (by decide) rfl ?_
  exact v_sub hX [1, 0] (by rfl) (wC_Tales_countFits_told_13 hX hR  N _ _ h)
noncomputable def fC_Tales_countFits_told (N : Nat) (a2 : Int32) (s : vSt) : Option (vSt) := gC_Tales_countFits_told_0 N a2 s
theorem mC_Tales_countFits_told {N : Nat} {a2 : Int32} {s : vSt} {t1 : vSt} (h : fC_Tales_countFits_told N a2 s = some t1) (l : Launch) (ad : Nat → Nat) : vMV l shC ad yX9_countFits cX9_countFits 5 4 97 s [.ref (ad 46), .ref (ad 5), .int a2] t1 :=
  vMV_of (by decide +kernel) (Nat.le_of_ble_eq_true rfl) (fun P hX hR => wC_Tales_countFits_told_0 hX hR h)
-- C_Tales_stepFit
noncomputable def gC_Tales_stepFit_3 (N : Nat)  : Nat → Int32 → Int32 → Int32 → Int32 → vSt → Option (Int32 × vSt)
  | 0, _, _, _, _, _ => none
  | n + 1, a1, a2, a3, a4, s =>
    if (s.1 9 7) ≤ a4 then
      some ((-1), s)
    else
      (fC_Tales_nextOf N a4 a1 a2 a3 s).bind fun p1 =>
      if p1.1 = (-1) then
        (some (a4 + 1 : Int32)).bind fun v2 =>
        gC_Tales_stepFit_3 N n a1 a2 a3 v2 p1.2
      else
        some (a4, p1.2)
set_option maxRecDepth 4000 in
theorem wC_Tales_stepFit_3 {P : vP} {l : Launch} {ad : Nat → Nat} {N : Nat} {r : Int32} {t1 : vSt} (hX : vOK P l shC ad (vR 2 47) cX9_stepFit RX9 5) (hR : (∀ pc lv, narrow .int (.int r) = .int r → decode cX9_stepFit pc = .ok (.ireturn, 1) → P t1 pc lv [.int r]))  : ∀ (n : Nat) (a1 : Int32) (a2 : Int32) (a3 : Int32) (a4 : Int32) (s : vSt), gC_Tales_stepFit_3 N n a1 a2 a3 a4 s = some (r, t1) → P s 3 [(0, .ref (ad 46)), (1, .int a1), (2, .int a2), (3, .int a3), (4, .int a4)] [] := by
  intro n
  induction n with
  | zero => intro a1 a2 a3 a4 s h; cases h
  | succ n ih =>
    intro a1 a2 a3 a4 s h
    unfold gC_Tales_stepFit_3 at h
    refine v_iload hX dX9_stepFit_3 4 rfl ?_
    refine v_aload_n hX dX9_stepFit_5 rfl 0 rfl ?_
    refine gfC_46_2 hX kf_9_29 dX9_stepFit_6 ?_
    refine gfC_9_7 hX kf_9_58 dX9_stepFit_9 ?_
    refine v_icmp_ge (tgt := 37) hX dX9_stepFit_12 (by decide) h (fun h => ?_) (fun h => ?_)
    · refine v_iconst (v := (-1)) hX dX9_stepFit_37 (by decide) ?_
      exact v_retI hR h dX9_stepFit_38
    · refine v_aload_n hX dX9_stepFit_15 rfl 0 rfl ?_
      refine v_iload hX dX9_stepFit_16 4 rfl ?_
      refine v_iload_n hX dX9_stepFit_18 rfl 1 rfl ?_
      refine v_iload_n hX dX9_stepFit_19 rfl 2 rfl ?_
      refine v_iload_n hX dX9_stepFit_20 rfl 3 rfl ?_
      obtain ⟨p1, hp1, h⟩ := bsome h
      refine v_callVI (o := 46) hX (mC_Tales_nextOf hp1 l ad) kM_X9_nextOf kV_X9_nextOf km_9_97 (by decide) (fun _ => rfl) rfl rfl rfl (Nat.le_of_ble_eq_true rfl) (by decide) dX9_stepFit_21 ?_
      refine v_iconst (v := (-1)) hX dX9_stepFit_24 (by decide) ?_
      refine v_icmp_eq (tgt := 31) hX dX9_stepFit_25 (by decide) h (fun h => ?_) (fun h => ?_)
      · refine v_iincN hX dX9_stepFit_31 (j := 4) rfl (c := 1) (by decide) (by decide) h (fun v2 h => ?_)
        refine v_show (lv' := [(4, .int v2), (0, .ref (ad 46)), (1, .int a1), (2, .int a2), (3, .int a3)]) hX rfl ?_
        refine v_goto (tgt := 3) hX dX9_stepFit_34 (by decide) ?_
        exact v_sub hX [1, 2, 3, 4, 0] (by rfl) (ih _ _ _ _ _ h)
      · refine v_iload hX dX9_stepFit_28 4 rfl ?_
        exact v_retI hR h dX9_stepFit_30
noncomputable def gC_Tales_stepFit_0 (N : Nat)  (a1 : Int32) (a2 : Int32) (a3 : Int32) (s : vSt) : Option (Int32 × vSt) :=
  gC_Tales_stepFit_3 N N a1 a2 a3 0 s
set_option maxRecDepth 4000 in
theorem wC_Tales_stepFit_0 {P : vP} {l : Launch} {ad : Nat → Nat} {N : Nat} {r : Int32} {t1 : vSt} (hX : vOK P l shC ad (vR 2 47) cX9_stepFit RX9 5) (hR : (∀ pc lv, narrow .int (.int r) = .int r → decode cX9_stepFit pc = .ok (.ireturn, 1) → P t1 pc lv [.int r]))  {a1 : Int32} {a2 : Int32} {a3 : Int32} {s : vSt} (h : gC_Tales_stepFit_0 N a1 a2 a3 s = some (r, t1)) : P s 0 [(0, .ref (ad 46)), (1, .int a1), (2, .int a2), (3, .int a3)] [] := by
  unfold gC_Tales_stepFit_0 at h
  refine v_iconst (v := 0) hX dX9_stepFit_0 (by decide) ?_
  refine v_istore (lv' := [(4, .int 0), (0, .ref (ad 46)), (1, .int a1), (2, .int a2), (3, .int a3)]) hX dX9_stepFit_1 (by decide) rfl ?_
  exact v_sub hX [1, 2, 3, 4, 0] (by rfl) (wC_Tales_stepFit_3 hX hR  N _ _ _ _ _ h)
noncomputable def fC_Tales_stepFit (N : Nat) (a1 : Int32) (a2 : Int32) (a3 : Int32) (s : vSt) : Option (Int32 × vSt) := gC_Tales_stepFit_0 N a1 a2 a3 s
theorem mC_Tales_stepFit {N : Nat} {a1 : Int32} {a2 : Int32} {a3 : Int32} {s : vSt} {r : Int32} {t1 : vSt} (h : fC_Tales_stepFit N a1 a2 a3 s = some (r, t1)) (l : Launch) (ad : Nat → Nat) : vMI l shC ad yX9_stepFit cX9_stepFit 5 .int 2 47 s [.ref (ad 46), .int a1, .int a2, .int a3] r t1 :=
  vMI_of (by decide +kernel) (Nat.le_of_ble_eq_true rfl) (fun P hX hR => wC_Tales_stepFit_0 hX hR h)
-- C_Tales_traceFit
noncomputable def gC_Tales_traceFit_13 (N : Nat)  : Nat → Int32 → Int32 → Int32 → vSt → Option (vSt)
  | 0, _, _, _, _ => none
  | n + 1, a4, a5, a6, s =>
    if (s.1 46 9) ≤ a6 then
      some s
    else
      (fC_Tales_stepFit N a4 a5 a6 s).bind fun p1 =>
      if p1.1 = (-1) then
        some p1.2
      else
        (fC_Numbers_add_row N p1.1 p1.2).bind fun z2 =>
        (fC_Roads_otherAt N p1.1 a4 z2).bind fun p3 =>
        (fC_Roads_placeOf N p1.1 p3.1 p3.2).bind fun p4 =>
        (fC_Roads_readyAt N p4.1 p4.2).bind fun p5 =>
        (some (a6 + 1 : Int32)).bind fun v6 =>
        gC_Tales_traceFit_13 N n p3.1 p5.1 v6 p5.2
set_option maxRecDepth 4000 in
theorem wC_Tales_traceFit_13 {P : vP} {l : Launch} {ad : Nat → Nat} {N : Nat} {t1 : vSt} (hX : vOK P l shC ad (vR 3 71) cX9_traceFit RX9 8) (hR : (∀ pc lv, decode cX9_traceFit pc = .ok (.return_, 1) → P t1 pc lv []))  : ∀ (n : Nat) (a4 : Int32) (a5 : Int32) (a6 : Int32) (s : vSt), gC_Tales_traceFit_13 N n a4 a5 a6 s = some t1 → P s 13 [(0, .ref (ad 46)), (3, .ref (ad 3)), (4, .int a4), (5, .int a5), (6, .int a6)] [] := by
  intro n
  induction n with
  | zero => intro a4 a5 a6 s h; cases h
  | succ n ih =>
    intro a4 a5 a6 s h
    unfold gC_Tales_traceFit_13 at h
    refine v_iload hX dX9_traceFit_13 4 rfl ?_
    refine v_aload_n hX dX9_traceFit_15 rfl 0 rfl ?_
    refine gfC_46_9 hX kf_9_37 dX9_traceFit_16 ?_
    refine v_icmp_ge (tgt := 86) hX dX9_traceFit_19 (by decide) h (fun h => ?_) (fun h => ?_)
    · exact v_retV hR h dX9_traceFit_86
    · refine v_aload_n hX dX9_traceFit_22 rfl 0 rfl ?_
      refine v_iload hX dX9_traceFit_23 2 rfl ?_
      refine v_iload hX dX9_traceFit_25 3 rfl ?_
      refine v_iload hX dX9_traceFit_27 4 rfl ?_
      obtain ⟨p1, hp1, h⟩ := bsome h
      refine v_callVI (o := 46) hX (mC_Tales_stepFit hp1 l ad) kM_X9_stepFit kV_X9_stepFit km_9_110 (by decide) (fun _ => rfl) rfl rfl rfl (Nat.le_of_ble_eq_true rfl) (by decide) dX9_traceFit_29 ?_
      refine v_istore (lv' := [(7, .int p1.1), (0, .ref (ad 46)), (3, .ref (ad 3)), (4, .int a4), (5, .int a5), (6, .int a6)]) hX dX9_traceFit_32 (by decide) rfl ?_
      refine v_iload hX dX9_traceFit_34 0 rfl ?_
      refine v_iconst (v := (-1)) hX dX9_traceFit_36 (by decide) ?_
      refine v_icmp_ne (tgt := 41) hX dX9_traceFit_37 (by decide) h (fun h => ?_) (fun h => ?_)
      · exact v_retV hR h dX9_traceFit_40
      · refine v_aload_n hX dX9_traceFit_41 rfl 2 rfl ?_
        refine v_iload hX dX9_traceFit_42 0 rfl ?_
        obtain ⟨z2, hz2, h⟩ := bsome h
        refine v_callVV (o := 3) hX (mC_Numbers_add_row hz2 l ad) kM_X2_add kV_X2_add km_9_113 (by decide) (fun _ => rfl) rfl rfl rfl (Nat.le_of_ble_eq_true rfl) (by decide) dX9_traceFit_44 ?_
        refine v_aload_n hX dX9_traceFit_47 rfl 1 rfl ?_
        refine gfC_46_2 hX kf_9_29 dX9_traceFit_48 ?_
        refine v_iload hX dX9_traceFit_51 0 rfl ?_
        refine v_iload hX dX9_traceFit_53 3 rfl ?_
        obtain ⟨p3, hp3, h⟩ := bsome h
        refine v_callVI (o := 9) hX (mC_Roads_otherAt hp3 l ad) kM_X6_otherAt kV_X6_otherAt km_9_67 (by decide) (fun _ => rfl) rfl rfl rfl (Nat.le_of_ble_eq_true rfl) (by decide) dX9_traceFit_55 ?_
        refine v_istore (lv' := [(4, .int p3.1), (7, .int p1.1), (0, .ref (ad 46)), (3, .ref (ad 3)), (5, .int a5), (6, .int a6)]) hX dX9_traceFit_58 (by decide) rfl ?_
        refine v_aload_n hX dX9_traceFit_60 rfl 2 rfl ?_
        refine gfC_46_2 hX kf_9_29 dX9_traceFit_61 ?_
        refine v_aload_n hX dX9_traceFit_64 rfl 2 rfl ?_
        refine gfC_46_2 hX kf_9_29 dX9_traceFit_65 ?_
        refine v_iload hX dX9_traceFit_68 1 rfl ?_
        refine v_iload hX dX9_traceFit_70 0 rfl ?_
        obtain ⟨p4, hp4, h⟩ := bsome h
        refine v_callVI (o := 9) hX (mC_Roads_placeOf hp4 l ad) kM_X6_placeOf kV_X6_placeOf km_9_104 (by decide) (fun _ => rfl) rfl rfl rfl (Nat.le_of_ble_eq_true rfl) (by decide) dX9_traceFit_72 ?_
        obtain ⟨p5, hp5, h⟩ := bsome h
        refine v_callVI (o := 9) hX (mC_Roads_readyAt hp5 l ad) kM_X6_readyAt kV_X6_readyAt km_9_90 (by decide) (fun _ => rfl) rfl rfl rfl (Nat.le_of_ble_eq_true rfl) (by decide) dX9_traceFit_75 ?_
        refine v_istore (lv' := [(5, .int p5.1), (4, .int p3.1), (7, .int p1.1), (0, .ref (ad 46)), (3, .ref (ad 3)), (6, .int a6)]) hX dX9_traceFit_78 (by decide) rfl ?_
        refine v_iincN hX dX9_traceFit_80 (j := 5) rfl (c := 1) (by decide) (by decide) h (fun v6 h => ?_)
        refine v_show (lv' := [(6, .int v6), (5, .int p5.1), (4, .int p3.1), (7, .int p1.1), (0, .ref (ad 46)), (3, .ref (ad 3))]) hX rfl ?_
        refine v_goto (tgt := 13) hX dX9_traceFit_83 (by decide) ?_
        exact v_sub hX [4, 5, 2, 1, 0] (by rfl) (ih _ _ _ _ h)
noncomputable def gC_Tales_traceFit_0 (N : Nat)  (a1 : Int32) (a2 : Int32) (s : vSt) : Option (vSt) :=
  (fC_Numbers_clear_row N s).bind fun z1 =>
  gC_Tales_traceFit_13 N N a1 a2 1 z1
set_option maxRecDepth 4000 in
theorem wC_Tales_traceFit_0 {P : vP} {l : Launch} {ad : Nat → Nat} {N : Nat} {t1 : vSt} (hX : vOK P l shC ad (vR 3 71) cX9_traceFit RX9 8) (hR : (∀ pc lv, decode cX9_traceFit pc = .ok (.return_, 1) → P t1 pc lv []))  {a1 : Int32} {a2 : Int32} {s : vSt} (h : gC_Tales_traceFit_0 N a1 a2 s = some t1) : P s 0 [(0, .ref (ad 46)), (1, .int a1), (2, .int a2), (3, .ref (ad 3))] [] := by
  unfold gC_Tales_traceFit_0 at h
  refine v_iload_n hX dX9_traceFit_0 rfl 1 rfl ?_
  refine v_istore (lv' := [(4, .int a1), (0, .ref (ad 46)), (1, .int a1), (2, .int a2), (3, .ref (ad 3))]) hX dX9_traceFit_1 (by decide) rfl ?_
  refine v_iload_n hX dX9_traceFit_3 rfl 3 rfl ?_
  refine v_istore (lv' := [(5, .int a2), (4, .int a1), (0, .ref (ad 46)), (1, .int a1), (2, .int a2), (3, .ref (ad 3))]) hX dX9_traceFit_4 (by decide) rfl ?_
  refine v_aload_n hX dX9_traceFit_6 rfl 5 rfl ?_
  obtain ⟨z1, hz1, h⟩ := bsome h
  refine v_callVV (o := 3) hX (mC_Numbers_clear_row hz1 l ad) kM_X2_clear kV_X2_clear km_9_107 (by decide) (fun _ => rfl) rfl rfl rfl (Nat.le_of_ble_eq_true rfl) (by decide) dX9_traceFit_7 ?_
  refine v_iconst (v := 1) hX dX9_traceFit_10 (by decide) ?_
  refine v_istore (lv' := [(6, .int 1), (5, .int a2), (4, .int a1), (0, .ref (ad 46)), (1, .int a1), (2, .int a2), (3, .ref (ad 3))]) hX dX9_traceFit_11 (by decide) rfl ?_
  exact v_sub hX [3, 6, 2, 1, 0] (by rfl) (wC_Tales_traceFit_13 hX hR  N _ _ _ _ h)
noncomputable def fC_Tales_traceFit (N : Nat) (a1 : Int32) (a2 : Int32) (s : vSt) : Option (vSt) := gC_Tales_traceFit_0 N a1 a2 s
theorem mC_Tales_traceFit {N : Nat} {a1 : Int32} {a2 : Int32} {s : vSt} {t1 : vSt} (h : fC_Tales_traceFit N a1 a2 s = some t1) (l : Launch) (ad : Nat → Nat) : vMV l shC ad yX9_traceFit cX9_traceFit 8 3 71 s [.ref (ad 46), .int a1, .int a2, .ref (ad 3)] t1 :=
  vMV_of (by decide +kernel) (Nat.le_of_ble_eq_true rfl) (fun P hX hR => wC_Tales_traceFit_0 hX hR h)
-- C_Tales_fitting
noncomputable def gC_Tales_fitting_0 (N : Nat)  (a1 : Int32) (a2 : Int32) (s : vSt) : Option (Int64 × vSt) :=
  if (s.1 46 9) = 1 then
    if a1 = (s.1 46 10) then
      some (1, s)
    else
      some (0, s)
  else
    (fC_Tales_waysOn N a1 a2 1 s).bind fun p1 =>
    some (p1.1, p1.2)
set_option maxRecDepth 4000 in
theorem wC_Tales_fitting_0 {P : vP} {l : Launch} {ad : Nat → Nat} {N : Nat} {r : Int64} {t1 : vSt} (hX : vOK P l shC ad (vR 3 74) cX9_fitting RX9 3) (hR : (∀ pc lv, decode cX9_fitting pc = .ok (.lreturn, 1) → P t1 pc lv [.long r]))  {a1 : Int32} {a2 : Int32} {s : vSt} (h : gC_Tales_fitting_0 N a1 a2 s = some (r, t1)) : P s 0 [(0, .ref (ad 46)), (1, .int a1), (2, .int a2)] [] := by
  unfold gC_Tales_fitting_0 at h
  refine v_aload_n hX dX9_fitting_0 rfl 0 rfl ?_
  refine gfC_46_9 hX kf_9_37 dX9_fitting_1 ?_
  refine v_iconst (v := 1) hX dX9_fitting_4 (by decide) ?_
  refine v_icmp_ne (tgt := 22) hX dX9_fitting_5 (by decide) h (fun h => ?_) (fun h => ?_)
  · refine v_iload_n hX dX9_fitting_8 rfl 1 rfl ?_
    refine v_aload_n hX dX9_fitting_9 rfl 0 rfl ?_
    refine gfC_46_10 hX kf_9_46 dX9_fitting_10 ?_
    refine v_icmp_ne (tgt := 20) hX dX9_fitting_13 (by decide) h (fun h => ?_) (fun h => ?_)
    · refine v_lconst (v := 1) hX dX9_fitting_16 (by decide) ?_
      refine v_goto (tgt := 21) hX dX9_fitting_17 (by decide) ?_
      exact v_retL hR h dX9_fitting_21
    · refine v_lconst (v := 0) hX dX9_fitting_20 (by decide) ?_
      exact v_retL hR h dX9_fitting_21
  · refine v_aload_n hX dX9_fitting_22 rfl 0 rfl ?_
    refine v_iload_n hX dX9_fitting_23 rfl 1 rfl ?_
    refine v_iload_n hX dX9_fitting_24 rfl 2 rfl ?_
    refine v_iconst (v := 1) hX dX9_fitting_25 (by decide) ?_
    obtain ⟨p1, hp1, h⟩ := bsome h
    refine v_callVL (o := 46) hX (mC_Tales_waysOn hp1 l ad) kM_X9_waysOn kV_X9_waysOn km_9_93 (by decide) (fun _ => rfl) rfl rfl rfl (Nat.le_of_ble_eq_true rfl) (by decide) dX9_fitting_26 ?_
    exact v_retL hR h dX9_fitting_29
noncomputable def fC_Tales_fitting (N : Nat) (a1 : Int32) (a2 : Int32) (s : vSt) : Option (Int64 × vSt) := gC_Tales_fitting_0 N a1 a2 s
theorem mC_Tales_fitting {N : Nat} {a1 : Int32} {a2 : Int32} {s : vSt} {r : Int64} {t1 : vSt} (h : fC_Tales_fitting N a1 a2 s = some (r, t1)) (l : Launch) (ad : Nat → Nat) : vML l shC ad yX9_fitting cX9_fitting 3 3 74 s [.ref (ad 46), .int a1, .int a2] r t1 :=
  vML_of (by decide +kernel) (Nat.le_of_ble_eq_true rfl) (fun P hX hR => wC_Tales_fitting_0 hX hR h)
-- C_EachAddsALine_fits
noncomputable def gC_EachAddsALine_fits_0 (N : Nat)  (a1 : Int32) (a2 : Int32) (a3 : Int32) (s : vSt) : Option (Int64 × vSt) :=
  (fC_EachAddsALine_isTrip N a1 a2 a3 s).bind fun p1 =>
  if p1.1 = 0 then
    some ((-1), p1.2)
  else
    if (p1.2.1 5 1) = 0 then
      some ((-2), p1.2)
    else
      (fC_Tales_countFits_told N a2 p1.2).bind fun z2 =>
      (fC_Tales_traceFit N a1 a3 z2).bind fun z3 =>
      (fC_Tales_fitting N a1 a3 z3).bind fun p4 =>
      some (p4.1, p4.2)
set_option maxRecDepth 4000 in
theorem wC_EachAddsALine_fits_0 {P : vP} {l : Launch} {ad : Nat → Nat} {N : Nat} {r : Int64} {t1 : vSt} (hX : vOK P l shC ad (vR 5 121) cX11_fits RX11 4) (hR : (∀ pc lv, decode cX11_fits pc = .ok (.lreturn, 1) → P t1 pc lv [.long r]))  {a1 : Int32} {a2 : Int32} {a3 : Int32} {s : vSt} (h : gC_EachAddsALine_fits_0 N a1 a2 a3 s = some (r, t1)) : P s 0 [(0, .ref (ad 0)), (1, .int a1), (2, .int a2), (3, .int a3)] [] := by
  unfold gC_EachAddsALine_fits_0 at h
  refine v_aload_n hX dX11_fits_0 rfl 0 rfl ?_
  refine v_iload_n hX dX11_fits_1 rfl 1 rfl ?_
  refine v_iload_n hX dX11_fits_2 rfl 2 rfl ?_
  refine v_iload_n hX dX11_fits_3 rfl 3 rfl ?_
  obtain ⟨p1, hp1, h⟩ := bsome h
  refine v_callVI (o := 0) hX (mC_EachAddsALine_isTrip hp1 l ad) kM_X11_isTrip kV_X11_isTrip km_11_201 (by decide) (fun _ => rfl) rfl rfl rfl (Nat.le_of_ble_eq_true rfl) (by decide) dX11_fits_4 ?_
  refine v_if_ne (tgt := 14) hX dX11_fits_7 (by decide) h (fun h => ?_) (fun h => ?_)
  · refine v_ldc2 hX kc_11_229 dX11_fits_10 ?_
    exact v_retL hR h dX11_fits_13
  · refine v_aload_n hX dX11_fits_14 rfl 0 rfl ?_
    refine gfC_0_8 hX kf_11_73 dX11_fits_15 ?_
    refine gfC_5_1 hX kf_11_270 dX11_fits_18 ?_
    refine v_if_ne (tgt := 28) hX dX11_fits_21 (by decide) h (fun h => ?_) (fun h => ?_)
    · refine v_ldc2 hX kc_11_276 dX11_fits_24 ?_
      exact v_retL hR h dX11_fits_27
    · refine v_aload_n hX dX11_fits_28 rfl 0 rfl ?_
      refine gfC_0_10 hX kf_11_82 dX11_fits_29 ?_
      refine v_aload_n hX dX11_fits_32 rfl 0 rfl ?_
      refine gfC_0_8 hX kf_11_73 dX11_fits_33 ?_
      refine v_iload_n hX dX11_fits_36 rfl 2 rfl ?_
      obtain ⟨z2, hz2, h⟩ := bsome h
      refine v_callVV (o := 46) hX (mC_Tales_countFits_told hz2 l ad) kM_X9_countFits kV_X9_countFits km_11_278 (by decide) (fun _ => rfl) rfl rfl rfl (Nat.le_of_ble_eq_true rfl) (by decide) dX11_fits_37 ?_
      refine v_aload_n hX dX11_fits_40 rfl 0 rfl ?_
      refine gfC_0_10 hX kf_11_82 dX11_fits_41 ?_
      refine v_iload_n hX dX11_fits_44 rfl 1 rfl ?_
      refine v_iload_n hX dX11_fits_45 rfl 3 rfl ?_
      refine v_aload_n hX dX11_fits_46 rfl 0 rfl ?_
      refine gfC_0_1 hX kf_11_19 dX11_fits_47 ?_
      obtain ⟨z3, hz3, h⟩ := bsome h
      refine v_callVV (o := 46) hX (mC_Tales_traceFit hz3 l ad) kM_X9_traceFit kV_X9_traceFit km_11_282 (by decide) (fun _ => rfl) rfl rfl rfl (Nat.le_of_ble_eq_true rfl) (by decide) dX11_fits_50 ?_
      refine v_aload_n hX dX11_fits_53 rfl 0 rfl ?_
      refine gfC_0_10 hX kf_11_82 dX11_fits_54 ?_
      refine v_iload_n hX dX11_fits_57 rfl 1 rfl ?_
      refine v_iload_n hX dX11_fits_58 rfl 3 rfl ?_
      obtain ⟨p4, hp4, h⟩ := bsome h
      refine v_callVL (o := 46) hX (mC_Tales_fitting hp4 l ad) kM_X9_fitting kV_X9_fitting km_11_286 (by decide) (fun _ => rfl) rfl rfl rfl (Nat.le_of_ble_eq_true rfl) (by decide) dX11_fits_59 ?_
      exact v_retL hR h dX11_fits_62
noncomputable def fC_EachAddsALine_fits (N : Nat) (a1 : Int32) (a2 : Int32) (a3 : Int32) (s : vSt) : Option (Int64 × vSt) := gC_EachAddsALine_fits_0 N a1 a2 a3 s
theorem mC_EachAddsALine_fits {N : Nat} {a1 : Int32} {a2 : Int32} {a3 : Int32} {s : vSt} {r : Int64} {t1 : vSt} (h : fC_EachAddsALine_fits N a1 a2 a3 s = some (r, t1)) (l : Launch) (ad : Nat → Nat) : vML l shC ad yX11_fits cX11_fits 4 5 121 s [.ref (ad 0), .int a1, .int a2, .int a3] r t1 :=
  vML_of (by decide +kernel) (Nat.le_of_ble_eq_true rfl) (fun P hX hR => wC_EachAddsALine_fits_0 hX hR h)
-- C_Tales_gather
noncomputable def gC_Tales_gather_92 (N : Nat) (r31 : Int32 → Int32 → Int32 → Int32 → vSt → Option (vSt)) (a1 : Int32) (a2 : Int32) (a3 : Int32) (a4 : Int32) (s : vSt) : Option (vSt) :=
  (some (a4 + 1 : Int32)).bind fun v1 =>
  r31 a1 a2 a3 v1 s
set_option maxRecDepth 4000 in
theorem wC_Tales_gather_92 {P : vP} {l : Launch} {ad : Nat → Nat} {N : Nat} {r31 : Int32 → Int32 → Int32 → Int32 → vSt → Option (vSt)} {t1 : vSt} (hX : vOK P l shC ad (vR 2 47) cX9_gather RX9 6) (hR : (∀ pc lv, decode cX9_gather pc = .ok (.return_, 1) → P t1 pc lv [])) (H31 : ∀ (a1 : Int32) (a2 : Int32) (a3 : Int32) (a4 : Int32) (s : vSt), r31 a1 a2 a3 a4 s = some t1 → P s 31 [(0, .ref (ad 46)), (1, .int a1), (2, .int a2), (3, .int a3), (4, .int a4)] []) {a1 : Int32} {a2 : Int32} {a3 : Int32} {a4 : Int32} {s : vSt} (h : gC_Tales_gather_92 N r31 a1 a2 a3 a4 s = some t1) : P s 92 [(0, .ref (ad 46)), (1, .int a1), (2, .int a2), (3, .int a3), (4, .int a4)] [] := by
  unfold gC_Tales_gather_92 at h
  refine v_iincN hX dX9_gather_92 (j := 4) rfl (c := 1) (by decide) (by decide) h (fun v1 h => ?_)
  refine v_show (lv' := [(4, .int v1), (0, .ref (ad 46)), (1, .int a1), (2, .int a2), (3, .int a3)]) hX rfl ?_
  refine v_goto (tgt := 31) hX dX9_gather_95 (by decide) ?_
  exact v_sub hX [1, 2, 3, 4, 0] (by rfl) (H31 _ _ _ _ _ h)
noncomputable def gC_Tales_gather_31 (N : Nat)  : Nat → Int32 → Int32 → Int32 → Int32 → vSt → Option (vSt)
  | 0, _, _, _, _, _ => none
  | n + 1, a1, a2, a3, a4, s =>
    if (s.1 9 7) ≤ a4 then
      some s
    else
      (fC_Tales_nextOf N a4 a1 a2 a3 s).bind fun p1 =>
      if p1.1 = (-1) then
        gC_Tales_gather_92 N (gC_Tales_gather_31 N n) a1 a2 a3 a4 p1.2
      else
        (ld p1.2 49 480 p1.1).bind fun v2 =>
        (some (s1 p1.2 46 0 ((p1.2.1 46 0) ||| v2))).bind fun z3 =>
        (ld z3 50 480 p1.1).bind fun v4 =>
        (some (s1 z3 46 1 ((z3.1 46 1) &&& v4))).bind fun z5 =>
        gC_Tales_gather_92 N (gC_Tales_gather_31 N n) a1 a2 a3 a4 z5
set_option maxRecDepth 4000 in
theorem wC_Tales_gather_31 {P : vP} {l : Launch} {ad : Nat → Nat} {N : Nat} {t1 : vSt} (hX : vOK P l shC ad (vR 2 47) cX9_gather RX9 6) (hR : (∀ pc lv, decode cX9_gather pc = .ok (.return_, 1) → P t1 pc lv []))  : ∀ (n : Nat) (a1 : Int32) (a2 : Int32) (a3 : Int32) (a4 : Int32) (s : vSt), gC_Tales_gather_31 N n a1 a2 a3 a4 s = some t1 → P s 31 [(0, .ref (ad 46)), (1, .int a1), (2, .int a2), (3, .int a3), (4, .int a4)] [] := by
  intro n
  induction n with
  | zero => intro a1 a2 a3 a4 s h; cases h
  | succ n ih =>
    intro a1 a2 a3 a4 s h
    unfold gC_Tales_gather_31 at h
    refine v_iload hX dX9_gather_31 4 rfl ?_
    refine v_aload_n hX dX9_gather_33 rfl 0 rfl ?_
    refine gfC_46_2 hX kf_9_29 dX9_gather_34 ?_
    refine gfC_9_7 hX kf_9_58 dX9_gather_37 ?_
    refine v_icmp_ge (tgt := 98) hX dX9_gather_40 (by decide) h (fun h => ?_) (fun h => ?_)
    · exact v_retV hR h dX9_gather_98
    · refine v_aload_n hX dX9_gather_43 rfl 0 rfl ?_
      refine v_iload hX dX9_gather_44 4 rfl ?_
      refine v_iload_n hX dX9_gather_46 rfl 1 rfl ?_
      refine v_iload_n hX dX9_gather_47 rfl 2 rfl ?_
      refine v_iload_n hX dX9_gather_48 rfl 3 rfl ?_
      obtain ⟨p1, hp1, h⟩ := bsome h
      refine v_callVI (o := 46) hX (mC_Tales_nextOf hp1 l ad) kM_X9_nextOf kV_X9_nextOf km_9_97 (by decide) (fun _ => rfl) rfl rfl rfl (Nat.le_of_ble_eq_true rfl) (by decide) dX9_gather_49 ?_
      refine v_istore (lv' := [(5, .int p1.1), (0, .ref (ad 46)), (1, .int a1), (2, .int a2), (3, .int a3), (4, .int a4)]) hX dX9_gather_52 (by decide) rfl ?_
      refine v_iload hX dX9_gather_54 0 rfl ?_
      refine v_iconst (v := (-1)) hX dX9_gather_56 (by decide) ?_
      refine v_icmp_eq (tgt := 92) hX dX9_gather_57 (by decide) h (fun h => ?_) (fun h => ?_)
      · exact v_sub hX [1, 2, 3, 4, 5] (by rfl) (wC_Tales_gather_92 hX hR ih h)
      · refine v_aload_n hX dX9_gather_60 rfl 1 rfl ?_
        refine v_dup hX dX9_gather_61 rfl ?_
        refine gfC_46_0 hX kf_9_124 dX9_gather_62 ?_
        refine v_aload_n hX dX9_gather_65 rfl 1 rfl ?_
        refine gfC_46_6 hX kf_9_19 dX9_gather_66 ?_
        refine v_iload hX dX9_gather_69 0 rfl ?_
        refine alC_49 hX dX9_gather_71 h (fun v2 h => ?_)
        refine v_ior hX dX9_gather_72 ?_
        refine pfC_46_0 hX kf_9_124 dX9_gather_73 h (fun z3 h => ?_)
        refine v_aload_n hX dX9_gather_76 rfl 1 rfl ?_
        refine v_dup hX dX9_gather_77 rfl ?_
        refine gfC_46_1 hX kf_9_127 dX9_gather_78 ?_
        refine v_aload_n hX dX9_gather_81 rfl 1 rfl ?_
        refine gfC_46_7 hX kf_9_23 dX9_gather_82 ?_
        refine v_iload hX dX9_gather_85 0 rfl ?_
        refine alC_50 hX dX9_gather_87 h (fun v4 h => ?_)
        refine v_iand hX dX9_gather_88 ?_
        refine pfC_46_1 hX kf_9_127 dX9_gather_89 h (fun z5 h => ?_)
        exact v_sub hX [1, 2, 3, 4, 5] (by rfl) (wC_Tales_gather_92 hX hR ih h)
noncomputable def gC_Tales_gather_25 (N : Nat)  (a1 : Int32) (a2 : Int32) (a3 : Int32) (k1 : Int32) (s : vSt) : Option (vSt) :=
  (some (s1 s 46 1 k1)).bind fun z1 =>
  gC_Tales_gather_31 N N a1 a2 a3 0 z1
set_option maxRecDepth 4000 in
theorem wC_Tales_gather_25 {P : vP} {l : Launch} {ad : Nat → Nat} {N : Nat} {t1 : vSt} (hX : vOK P l shC ad (vR 2 47) cX9_gather RX9 6) (hR : (∀ pc lv, decode cX9_gather pc = .ok (.return_, 1) → P t1 pc lv []))  {a1 : Int32} {a2 : Int32} {a3 : Int32} {k1 : Int32} {s : vSt} (h : gC_Tales_gather_25 N a1 a2 a3 k1 s = some t1) : P s 25 [(0, .ref (ad 46)), (1, .int a1), (2, .int a2), (3, .int a3)] [.int k1, .ref (ad 46)] := by
  unfold gC_Tales_gather_25 at h
  refine pfC_46_1 hX kf_9_127 dX9_gather_25 h (fun z1 h => ?_)
  refine v_iconst (v := 0) hX dX9_gather_28 (by decide) ?_
  refine v_istore (lv' := [(4, .int 0), (0, .ref (ad 46)), (1, .int a1), (2, .int a2), (3, .int a3)]) hX dX9_gather_29 (by decide) rfl ?_
  exact v_sub hX [1, 2, 3, 4, 0] (by rfl) (wC_Tales_gather_31 hX hR  N _ _ _ _ _ h)
noncomputable def gC_Tales_gather_0 (N : Nat)  (a1 : Int32) (a2 : Int32) (a3 : Int32) (s : vSt) : Option (vSt) :=
  (some (s1 s 46 0 0)).bind fun z1 =>
  if (z1.1 46 9) ≤ a3 then
    gC_Tales_gather_25 N a1 a2 a3 0 z1
  else
    (fC_Roads_everybody N z1).bind fun p2 =>
    gC_Tales_gather_25 N a1 a2 a3 p2.1 p2.2
set_option maxRecDepth 4000 in
theorem wC_Tales_gather_0 {P : vP} {l : Launch} {ad : Nat → Nat} {N : Nat} {t1 : vSt} (hX : vOK P l shC ad (vR 2 47) cX9_gather RX9 6) (hR : (∀ pc lv, decode cX9_gather pc = .ok (.return_, 1) → P t1 pc lv []))  {a1 : Int32} {a2 : Int32} {a3 : Int32} {s : vSt} (h : gC_Tales_gather_0 N a1 a2 a3 s = some t1) : P s 0 [(0, .ref (ad 46)), (1, .int a1), (2, .int a2), (3, .int a3)] [] := by
  unfold gC_Tales_gather_0 at h
  refine v_aload_n hX dX9_gather_0 rfl 0 rfl ?_
  refine v_iconst (v := 0) hX dX9_gather_1 (by decide) ?_
  refine pfC_46_0 hX kf_9_124 dX9_gather_2 h (fun z1 h => ?_)
  refine v_aload_n hX dX9_gather_5 rfl 0 rfl ?_
  refine v_iload_n hX dX9_gather_6 rfl 3 rfl ?_
  refine v_aload_n hX dX9_gather_7 rfl 0 rfl ?_
  refine gfC_46_9 hX kf_9_37 dX9_gather_8 ?_
  refine v_icmp_ge (tgt := 24) hX dX9_gather_11 (by decide) h (fun h => ?_) (fun h => ?_)
  · refine v_iconst (v := 0) hX dX9_gather_24 (by decide) ?_
    exact v_sub hX [0, 1, 2, 3] (by rfl) (wC_Tales_gather_25 hX hR  h)
  · refine v_aload_n hX dX9_gather_14 rfl 0 rfl ?_
    refine gfC_46_2 hX kf_9_29 dX9_gather_15 ?_
    obtain ⟨p2, hp2, h⟩ := bsome h
    refine v_callVI (o := 9) hX (mC_Roads_everybody hp2 l ad) kM_X6_everybody kV_X6_everybody km_9_130 (by decide) (fun _ => rfl) rfl rfl rfl (Nat.le_of_ble_eq_true rfl) (by decide) dX9_gather_18 ?_
    refine v_goto (tgt := 25) hX dX9_gather_21 (by decide) ?_
    exact v_sub hX [0, 1, 2, 3] (by rfl) (wC_Tales_gather_25 hX hR  h)
noncomputable def fC_Tales_gather (N : Nat) (a1 : Int32) (a2 : Int32) (a3 : Int32) (s : vSt) : Option (vSt) := gC_Tales_gather_0 N a1 a2 a3 s
theorem mC_Tales_gather {N : Nat} {a1 : Int32} {a2 : Int32} {a3 : Int32} {s : vSt} {t1 : vSt} (h : fC_Tales_gather N a1 a2 a3 s = some t1) (l : Launch) (ad : Nat → Nat) : vMV l shC ad yX9_gather cX9_gather 6 2 47 s [.ref (ad 46), .int a1, .int a2, .int a3] t1 :=
  vMV_of (by decide +kernel) (Nat.le_of_ble_eq_true rfl) (fun P hX hR => wC_Tales_gather_0 hX hR h)
-- C_Tales_gatherGetters
noncomputable def gC_Tales_gatherGetters_143 (N : Nat) (r34 : Int32 → Int32 → Int32 → Int32 → Int32 → vSt → Option (vSt)) (a1 : Int32) (a2 : Int32) (a3 : Int32) (a4 : Int32) (a5 : Int32) (s : vSt) : Option (vSt) :=
  (some (a5 + 1 : Int32)).bind fun v1 =>
  r34 a1 a2 a3 a4 v1 s
set_option maxRecDepth 4000 in
theorem wC_Tales_gatherGetters_143 {P : vP} {l : Launch} {ad : Nat → Nat} {N : Nat} {r34 : Int32 → Int32 → Int32 → Int32 → Int32 → vSt → Option (vSt)} {t1 : vSt} (hX : vOK P l shC ad (vR 4 96) cX9_gatherGetters RX9 7) (hR : (∀ pc lv, decode cX9_gatherGetters pc = .ok (.return_, 1) → P t1 pc lv [])) (H34 : ∀ (a1 : Int32) (a2 : Int32) (a3 : Int32) (a4 : Int32) (a5 : Int32) (s : vSt), r34 a1 a2 a3 a4 a5 s = some t1 → P s 34 [(0, .ref (ad 46)), (1, .int a1), (2, .int a2), (3, .int a3), (4, .int a4), (5, .int a5)] []) {a1 : Int32} {a2 : Int32} {a3 : Int32} {a4 : Int32} {a5 : Int32} {s : vSt} (h : gC_Tales_gatherGetters_143 N r34 a1 a2 a3 a4 a5 s = some t1) : P s 143 [(0, .ref (ad 46)), (1, .int a1), (2, .int a2), (3, .int a3), (4, .int a4), (5, .int a5)] [] := by
  unfold gC_Tales_gatherGetters_143 at h
  refine v_iincN hX dX9_gatherGetters_143 (j := 5) rfl (c := 1) (by decide) (by decide) h (fun v1 h => ?_)
  refine v_show (lv' := [(5, .int v1), (0, .ref (ad 46)), (1, .int a1), (2, .int a2), (3, .int a3), (4, .int a4)]) hX rfl ?_
  refine v_goto (tgt := 34) hX dX9_gatherGetters_146 (by decide) ?_
  exact v_sub hX [1, 2, 3, 4, 5, 0] (by rfl) (H34 _ _ _ _ _ _ h)
noncomputable def gC_Tales_gatherGetters_34 (N : Nat) (r25 : Int32 → Int32 → Int32 → Int32 → vSt → Option (vSt)) : Nat → Int32 → Int32 → Int32 → Int32 → Int32 → vSt → Option (vSt)
  | 0, _, _, _, _, _, _ => none
  | n + 1, a1, a2, a3, a4, a5, s =>
    if ((2 : Int32) * (s.1 9 7)) ≤ a5 then
      (some (a4 + (-1) : Int32)).bind fun v1 =>
      r25 a1 a2 a3 v1 s
    else
      (ldL s 48 480 ((a4 * 40) + a5)).bind fun v2 =>
      if (lg_cmp v2 0) = 0 then
        gC_Tales_gatherGetters_143 N (gC_Tales_gatherGetters_34 N r25 n) a1 a2 a3 a4 a5 s
      else
        (fC_Roads_getterAt N a5 s).bind fun p3 =>
        (fC_Roads_readyAt N a5 p3.2).bind fun p4 =>
        (fC_Tales_gather N p3.1 p4.1 (a4 + 1) p4.2).bind fun z5 =>
        (sto z5 49 480 ((a4 * 40) + a5) ((z5.1 46 0) ||| ((1 : Int32) <<< (p3.1 &&& 31)))).bind fun z6 =>
        (sto z6 50 480 ((a4 * 40) + a5) ((z6.1 46 1) ||| ((1 : Int32) <<< (p3.1 &&& 31)))).bind fun z7 =>
        gC_Tales_gatherGetters_143 N (gC_Tales_gatherGetters_34 N r25 n) a1 a2 a3 a4 a5 z7
set_option maxRecDepth 4000 in
theorem wC_Tales_gatherGetters_34 {P : vP} {l : Launch} {ad : Nat → Nat} {N : Nat} {r25 : Int32 → Int32 → Int32 → Int32 → vSt → Option (vSt)} {t1 : vSt} (hX : vOK P l shC ad (vR 4 96) cX9_gatherGetters RX9 7) (hR : (∀ pc lv, decode cX9_gatherGetters pc = .ok (.return_, 1) → P t1 pc lv [])) (H25 : ∀ (a1 : Int32) (a2 : Int32) (a3 : Int32) (a4 : Int32) (s : vSt), r25 a1 a2 a3 a4 s = some t1 → P s 25 [(0, .ref (ad 46)), (1, .int a1), (2, .int a2), (3, .int a3), (4, .int a4)] []) : ∀ (n : Nat) (a1 : Int32) (a2 : Int32) (a3 : Int32) (a4 : Int32) (a5 : Int32) (s : vSt), gC_Tales_gatherGetters_34 N r25 n a1 a2 a3 a4 a5 s = some t1 → P s 34 [(0, .ref (ad 46)), (1, .int a1), (2, .int a2), (3, .int a3), (4, .int a4), (5, .int a5)] [] := by
  intro n
  induction n with
  | zero => intro a1 a2 a3 a4 a5 s h; cases h
  | succ n ih =>
    intro a1 a2 a3 a4 a5 s h
    unfold gC_Tales_gatherGetters_34 at h
    refine v_iload hX dX9_gatherGetters_34 5 rfl ?_
    refine v_iconst (v := 2) hX dX9_gatherGetters_36 (by decide) ?_
    refine v_aload_n hX dX9_gatherGetters_37 rfl 0 rfl ?_
    refine gfC_46_2 hX kf_9_29 dX9_gatherGetters_38 ?_
    refine gfC_9_7 hX kf_9_58 dX9_gatherGetters_41 ?_
    refine v_imul hX dX9_gatherGetters_44 ?_
    refine v_icmp_ge (tgt := 149) hX dX9_gatherGetters_45 (by decide) h (fun h => ?_) (fun h => ?_)
    · refine v_iincN hX dX9_gatherGetters_149 (j := 4) rfl (c := (-1)) (by decide) (by decide) h (fun v1 h => ?_)
      refine v_show (lv' := [(4, .int v1), (0, .ref (ad 46)), (1, .int a1), (2, .int a2), (3, .int a3), (5, .int a5)]) hX rfl ?_
      refine v_goto (tgt := 25) hX dX9_gatherGetters_152 (by decide) ?_
      exact v_sub hX [1, 2, 3, 4, 0] (by rfl) (H25 _ _ _ _ _ h)
    · refine v_aload_n hX dX9_gatherGetters_48 rfl 0 rfl ?_
      refine gfC_46_5 hX kf_9_15 dX9_gatherGetters_49 ?_
      refine v_iload hX dX9_gatherGetters_52 4 rfl ?_
      refine v_bipush (v := 40) hX dX9_gatherGetters_54 (by decide) ?_
      refine v_imul hX dX9_gatherGetters_56 ?_
      refine v_iload hX dX9_gatherGetters_57 5 rfl ?_
      refine v_iadd hX dX9_gatherGetters_59 ?_
      refine alC_48 hX dX9_gatherGetters_60 h (fun v2 h => ?_)
      refine v_lconst (v := 0) hX dX9_gatherGetters_61 (by decide) ?_
      refine v_lcmp hX dX9_gatherGetters_62 ?_
      refine v_if_ne (tgt := 69) hX dX9_gatherGetters_63 (by decide) h (fun h => ?_) (fun h => ?_)
      · refine v_goto (tgt := 143) hX dX9_gatherGetters_66 (by decide) ?_
        exact v_sub hX [0, 1, 2, 3, 4, 5] (by rfl) (wC_Tales_gatherGetters_143 hX hR ih h)
      · refine v_aload_n hX dX9_gatherGetters_69 rfl 0 rfl ?_
        refine gfC_46_2 hX kf_9_29 dX9_gatherGetters_70 ?_
        refine v_iload hX dX9_gatherGetters_73 5 rfl ?_
        obtain ⟨p3, hp3, h⟩ := bsome h
        refine v_callVI (o := 9) hX (mC_Roads_getterAt hp3 l ad) kM_X6_getterAt kV_X6_getterAt km_9_63 (by decide) (fun _ => rfl) rfl rfl rfl (Nat.le_of_ble_eq_true rfl) (by decide) dX9_gatherGetters_75 ?_
        refine v_istore (lv' := [(6, .int p3.1), (0, .ref (ad 46)), (1, .int a1), (2, .int a2), (3, .int a3), (4, .int a4), (5, .int a5)]) hX dX9_gatherGetters_78 (by decide) rfl ?_
        refine v_aload_n hX dX9_gatherGetters_80 rfl 1 rfl ?_
        refine v_iload hX dX9_gatherGetters_81 0 rfl ?_
        refine v_aload_n hX dX9_gatherGetters_83 rfl 1 rfl ?_
        refine gfC_46_2 hX kf_9_29 dX9_gatherGetters_84 ?_
        refine v_iload hX dX9_gatherGetters_87 6 rfl ?_
        obtain ⟨p4, hp4, h⟩ := bsome h
        refine v_callVI (o := 9) hX (mC_Roads_readyAt hp4 l ad) kM_X6_readyAt kV_X6_readyAt km_9_90 (by decide) (fun _ => rfl) rfl rfl rfl (Nat.le_of_ble_eq_true rfl) (by decide) dX9_gatherGetters_89 ?_
        refine v_iload hX dX9_gatherGetters_92 5 rfl ?_
        refine v_iconst (v := 1) hX dX9_gatherGetters_94 (by decide) ?_
        refine v_iadd hX dX9_gatherGetters_95 ?_
        obtain ⟨z5, hz5, h⟩ := bsome h
        refine v_callVV (o := 46) hX (mC_Tales_gather hz5 l ad) kM_X9_gather kV_X9_gather km_9_120 (by decide) (fun _ => rfl) rfl rfl rfl (Nat.le_of_ble_eq_true rfl) (by decide) dX9_gatherGetters_96 ?_
        refine v_aload_n hX dX9_gatherGetters_99 rfl 1 rfl ?_
        refine gfC_46_6 hX kf_9_19 dX9_gatherGetters_100 ?_
        refine v_iload hX dX9_gatherGetters_103 5 rfl ?_
        refine v_bipush (v := 40) hX dX9_gatherGetters_105 (by decide) ?_
        refine v_imul hX dX9_gatherGetters_107 ?_
        refine v_iload hX dX9_gatherGetters_108 6 rfl ?_
        refine v_iadd hX dX9_gatherGetters_110 ?_
        refine v_aload_n hX dX9_gatherGetters_111 rfl 1 rfl ?_
        refine gfC_46_0 hX kf_9_124 dX9_gatherGetters_112 ?_
        refine v_iconst (v := 1) hX dX9_gatherGetters_115 (by decide) ?_
        refine v_iload hX dX9_gatherGetters_116 0 rfl ?_
        refine v_ishl hX dX9_gatherGetters_118 ?_
        refine v_ior hX dX9_gatherGetters_119 ?_
        refine asC_49 hX dX9_gatherGetters_120 h (fun z6 h => ?_)
        refine v_aload_n hX dX9_gatherGetters_121 rfl 1 rfl ?_
        refine gfC_46_7 hX kf_9_23 dX9_gatherGetters_122 ?_
        refine v_iload hX dX9_gatherGetters_125 5 rfl ?_
        refine v_bipush (v := 40) hX dX9_gatherGetters_127 (by decide) ?_
        refine v_imul hX dX9_gatherGetters_129 ?_
        refine v_iload hX dX9_gatherGetters_130 6 rfl ?_
        refine v_iadd hX dX9_gatherGetters_132 ?_
        refine v_aload_n hX dX9_gatherGetters_133 rfl 1 rfl ?_
        refine gfC_46_1 hX kf_9_127 dX9_gatherGetters_134 ?_
        refine v_iconst (v := 1) hX dX9_gatherGetters_137 (by decide) ?_
        refine v_iload hX dX9_gatherGetters_138 0 rfl ?_
        refine v_ishl hX dX9_gatherGetters_140 ?_
        refine v_ior hX dX9_gatherGetters_141 ?_
        refine asC_50 hX dX9_gatherGetters_142 h (fun z7 h => ?_)
        exact v_sub hX [1, 2, 3, 4, 5, 6] (by rfl) (wC_Tales_gatherGetters_143 hX hR ih h)
noncomputable def gC_Tales_gatherGetters_179 (N : Nat)  (a1 : Int32) (a3 : Int32) (k1 : Int32) (s : vSt) : Option (vSt) :=
  (some (s1 s 46 0 k1)).bind fun z1 =>
  if a3 = 0 then
    (some (s1 z1 46 1 0)).bind fun z2 =>
    some z2
  else
    (some (s1 z1 46 1 ((z1.1 46 1) ||| ((1 : Int32) <<< (a1 &&& 31))))).bind fun z3 =>
    some z3
set_option maxRecDepth 4000 in
theorem wC_Tales_gatherGetters_179 {P : vP} {l : Launch} {ad : Nat → Nat} {N : Nat} {t1 : vSt} (hX : vOK P l shC ad (vR 4 96) cX9_gatherGetters RX9 7) (hR : (∀ pc lv, decode cX9_gatherGetters pc = .ok (.return_, 1) → P t1 pc lv []))  {a1 : Int32} {a3 : Int32} {k1 : Int32} {s : vSt} (h : gC_Tales_gatherGetters_179 N a1 a3 k1 s = some t1) : P s 179 [(0, .ref (ad 46)), (1, .int a1), (3, .int a3)] [.int k1, .ref (ad 46)] := by
  unfold gC_Tales_gatherGetters_179 at h
  refine pfC_46_0 hX kf_9_124 dX9_gatherGetters_179 h (fun z1 h => ?_)
  refine v_aload_n hX dX9_gatherGetters_182 rfl 0 rfl ?_
  refine v_iload_n hX dX9_gatherGetters_183 rfl 2 rfl ?_
  refine v_if_eq (tgt := 198) hX dX9_gatherGetters_184 (by decide) h (fun h => ?_) (fun h => ?_)
  · refine v_iconst (v := 0) hX dX9_gatherGetters_198 (by decide) ?_
    refine pfC_46_1 hX kf_9_127 dX9_gatherGetters_199 h (fun z2 h => ?_)
    exact v_retV hR h dX9_gatherGetters_202
  · refine v_aload_n hX dX9_gatherGetters_187 rfl 0 rfl ?_
    refine gfC_46_1 hX kf_9_127 dX9_gatherGetters_188 ?_
    refine v_iconst (v := 1) hX dX9_gatherGetters_191 (by decide) ?_
    refine v_iload_n hX dX9_gatherGetters_192 rfl 1 rfl ?_
    refine v_ishl hX dX9_gatherGetters_193 ?_
    refine v_ior hX dX9_gatherGetters_194 ?_
    refine v_goto (tgt := 199) hX dX9_gatherGetters_195 (by decide) ?_
    refine pfC_46_1 hX kf_9_127 dX9_gatherGetters_199 h (fun z3 h => ?_)
    exact v_retV hR h dX9_gatherGetters_202
noncomputable def gC_Tales_gatherGetters_25 (N : Nat)  : Nat → Int32 → Int32 → Int32 → Int32 → vSt → Option (vSt)
  | 0, _, _, _, _, _ => none
  | n + 1, a1, a2, a3, a4, s =>
    if a4 < 1 then
      (fC_Tales_gather N a1 a2 1 s).bind fun z1 =>
      if a3 = 0 then
        gC_Tales_gatherGetters_179 N a1 a3 0 z1
      else
        gC_Tales_gatherGetters_179 N a1 a3 ((z1.1 46 0) ||| ((1 : Int32) <<< (a1 &&& 31))) z1
    else
      gC_Tales_gatherGetters_34 N (gC_Tales_gatherGetters_25 N n) N a1 a2 a3 a4 0 s
set_option maxRecDepth 4000 in
theorem wC_Tales_gatherGetters_25 {P : vP} {l : Launch} {ad : Nat → Nat} {N : Nat} {t1 : vSt} (hX : vOK P l shC ad (vR 4 96) cX9_gatherGetters RX9 7) (hR : (∀ pc lv, decode cX9_gatherGetters pc = .ok (.return_, 1) → P t1 pc lv []))  : ∀ (n : Nat) (a1 : Int32) (a2 : Int32) (a3 : Int32) (a4 : Int32) (s : vSt), gC_Tales_gatherGetters_25 N n a1 a2 a3 a4 s = some t1 → P s 25 [(0, .ref (ad 46)), (1, .int a1), (2, .int a2), (3, .int a3), (4, .int a4)] [] := by
  intro n
  induction n with
  | zero => intro a1 a2 a3 a4 s h; cases h
  | succ n ih =>
    intro a1 a2 a3 a4 s h
    unfold gC_Tales_gatherGetters_25 at h
    refine v_iload hX dX9_gatherGetters_25 4 rfl ?_
    refine v_iconst (v := 1) hX dX9_gatherGetters_27 (by decide) ?_
    refine v_icmp_lt (tgt := 155) hX dX9_gatherGetters_28 (by decide) h (fun h => ?_) (fun h => ?_)
    · refine v_aload_n hX dX9_gatherGetters_155 rfl 0 rfl ?_
      refine v_iload_n hX dX9_gatherGetters_156 rfl 1 rfl ?_
      refine v_iload_n hX dX9_gatherGetters_157 rfl 2 rfl ?_
      refine v_iconst (v := 1) hX dX9_gatherGetters_158 (by decide) ?_
      obtain ⟨z1, hz1, h⟩ := bsome h
      refine v_callVV (o := 46) hX (mC_Tales_gather hz1 l ad) kM_X9_gather kV_X9_gather km_9_120 (by decide) (fun _ => rfl) rfl rfl rfl (Nat.le_of_ble_eq_true rfl) (by decide) dX9_gatherGetters_159 ?_
      refine v_aload_n hX dX9_gatherGetters_162 rfl 0 rfl ?_
      refine v_iload_n hX dX9_gatherGetters_163 rfl 3 rfl ?_
      refine v_if_eq (tgt := 178) hX dX9_gatherGetters_164 (by decide) h (fun h => ?_) (fun h => ?_)
      · refine v_iconst (v := 0) hX dX9_gatherGetters_178 (by decide) ?_
        exact v_sub hX [0, 1, 3] (by rfl) (wC_Tales_gatherGetters_179 hX hR  h)
      · refine v_aload_n hX dX9_gatherGetters_167 rfl 0 rfl ?_
        refine gfC_46_0 hX kf_9_124 dX9_gatherGetters_168 ?_
        refine v_iconst (v := 1) hX dX9_gatherGetters_171 (by decide) ?_
        refine v_iload_n hX dX9_gatherGetters_172 rfl 1 rfl ?_
        refine v_ishl hX dX9_gatherGetters_173 ?_
        refine v_ior hX dX9_gatherGetters_174 ?_
        refine v_goto (tgt := 179) hX dX9_gatherGetters_175 (by decide) ?_
        exact v_sub hX [0, 1, 3] (by rfl) (wC_Tales_gatherGetters_179 hX hR  h)
    · refine v_iconst (v := 0) hX dX9_gatherGetters_31 (by decide) ?_
      refine v_istore (lv' := [(5, .int 0), (0, .ref (ad 46)), (1, .int a1), (2, .int a2), (3, .int a3), (4, .int a4)]) hX dX9_gatherGetters_32 (by decide) rfl ?_
      exact v_sub hX [1, 2, 3, 4, 5, 0] (by rfl) (wC_Tales_gatherGetters_34 hX hR ih N _ _ _ _ _ _ h)
noncomputable def gC_Tales_gatherGetters_16 (N : Nat)  (a1 : Int32) (a2 : Int32) (k0 : Int32) (s : vSt) : Option (vSt) :=
  (some ((s.1 46 9) - 1 : Int32)).bind fun v1 =>
  gC_Tales_gatherGetters_25 N N a1 a2 k0 v1 s
set_option maxRecDepth 4000 in
theorem wC_Tales_gatherGetters_16 {P : vP} {l : Launch} {ad : Nat → Nat} {N : Nat} {t1 : vSt} (hX : vOK P l shC ad (vR 4 96) cX9_gatherGetters RX9 7) (hR : (∀ pc lv, decode cX9_gatherGetters pc = .ok (.return_, 1) → P t1 pc lv []))  {a1 : Int32} {a2 : Int32} {k0 : Int32} {s : vSt} (h : gC_Tales_gatherGetters_16 N a1 a2 k0 s = some t1) : P s 16 [(0, .ref (ad 46)), (1, .int a1), (2, .int a2)] [.int k0] := by
  unfold gC_Tales_gatherGetters_16 at h
  refine v_istore_n (lv' := [(3, .int k0), (0, .ref (ad 46)), (1, .int a1), (2, .int a2)]) hX dX9_gatherGetters_16 rfl (by decide) rfl ?_
  refine v_aload_n hX dX9_gatherGetters_17 rfl 1 rfl ?_
  refine gfC_46_9 hX kf_9_37 dX9_gatherGetters_18 ?_
  refine v_iconst (v := 1) hX dX9_gatherGetters_21 (by decide) ?_
  refine v_isub hX dX9_gatherGetters_22 ?_
  refine v_nmI hX h (fun v1 h => ?_)
  refine v_istore (lv' := [(4, .int v1), (3, .int k0), (0, .ref (ad 46)), (1, .int a1), (2, .int a2)]) hX dX9_gatherGetters_23 (by decide) rfl ?_
  exact v_sub hX [2, 3, 4, 1, 0] (by rfl) (wC_Tales_gatherGetters_25 hX hR  N _ _ _ _ _ h)
noncomputable def gC_Tales_gatherGetters_0 (N : Nat)  (a1 : Int32) (a2 : Int32) (s : vSt) : Option (vSt) :=
  (fC_Tales_fitting N a1 a2 s).bind fun p1 =>
  if (lg_cmp p1.1 0) ≤ 0 then
    gC_Tales_gatherGetters_16 N a1 a2 0 p1.2
  else
    gC_Tales_gatherGetters_16 N a1 a2 1 p1.2
set_option maxRecDepth 4000 in
theorem wC_Tales_gatherGetters_0 {P : vP} {l : Launch} {ad : Nat → Nat} {N : Nat} {t1 : vSt} (hX : vOK P l shC ad (vR 4 96) cX9_gatherGetters RX9 7) (hR : (∀ pc lv, decode cX9_gatherGetters pc = .ok (.return_, 1) → P t1 pc lv []))  {a1 : Int32} {a2 : Int32} {s : vSt} (h : gC_Tales_gatherGetters_0 N a1 a2 s = some t1) : P s 0 [(0, .ref (ad 46)), (1, .int a1), (2, .int a2)] [] := by
  unfold gC_Tales_gatherGetters_0 at h
  refine v_aload_n hX dX9_gatherGetters_0 rfl 0 rfl ?_
  refine v_iload_n hX dX9_gatherGetters_1 rfl 1 rfl ?_
  refine v_iload_n hX dX9_gatherGetters_2 rfl 2 rfl ?_
  obtain ⟨p1, hp1, h⟩ := bsome h
  refine v_callVL (o := 46) hX (mC_Tales_fitting hp1 l ad) kM_X9_fitting kV_X9_fitting km_9_117 (by decide) (fun _ => rfl) rfl rfl rfl (Nat.le_of_ble_eq_true rfl) (by decide) dX9_gatherGetters_3 ?_
  refine v_lconst (v := 0) hX dX9_gatherGetters_6 (by decide) ?_
  refine v_lcmp hX dX9_gatherGetters_7 ?_
  refine v_if_le (tgt := 15) hX dX9_gatherGetters_8 (by decide) h (fun h => ?_) (fun h => ?_)
  · refine v_iconst (v := 0) hX dX9_gatherGetters_15 (by decide) ?_
    exact v_sub hX [0, 1, 2] (by rfl) (wC_Tales_gatherGetters_16 hX hR  h)
  · refine v_iconst (v := 1) hX dX9_gatherGetters_11 (by decide) ?_
    refine v_goto (tgt := 16) hX dX9_gatherGetters_12 (by decide) ?_
    exact v_sub hX [0, 1, 2] (by rfl) (wC_Tales_gatherGetters_16 hX hR  h)
noncomputable def fC_Tales_gatherGetters (N : Nat) (a1 : Int32) (a2 : Int32) (s : vSt) : Option (vSt) := gC_Tales_gatherGetters_0 N a1 a2 s
theorem mC_Tales_gatherGetters {N : Nat} {a1 : Int32} {a2 : Int32} {s : vSt} {t1 : vSt} (h : fC_Tales_gatherGetters N a1 a2 s = some t1) (l : Launch) (ad : Nat → Nat) : vMV l shC ad yX9_gatherGetters cX9_gatherGetters 7 4 96 s [.ref (ad 46), .int a1, .int a2] t1 :=
  vMV_of (by decide +kernel) (Nat.le_of_ble_eq_true rfl) (fun P hX hR => wC_Tales_gatherGetters_0 hX hR h)
-- C_EachAddsALine_sure
noncomputable def gC_EachAddsALine_sure_0 (N : Nat)  (a1 : Int32) (a2 : Int32) (a3 : Int32) (s : vSt) : Option (Int32 × vSt) :=
  (fC_EachAddsALine_isTrip N a1 a2 a3 s).bind fun p1 =>
  if p1.1 = 0 then
    some ((-1), p1.2)
  else
    if (p1.2.1 5 1) = 0 then
      some ((-2), p1.2)
    else
      (fC_Tales_countFits_told N a2 p1.2).bind fun z2 =>
      (fC_Tales_gatherGetters N a1 a3 z2).bind fun z3 =>
      (fC_Numbers_clear_row N z3).bind fun z4 =>
      (fC_Numbers_add_row N (z4.1 46 0) z4).bind fun z5 =>
      some (z5.1 46 1, z5)
set_option maxRecDepth 4000 in
theorem wC_EachAddsALine_sure_0 {P : vP} {l : Launch} {ad : Nat → Nat} {N : Nat} {r : Int32} {t1 : vSt} (hX : vOK P l shC ad (vR 5 122) cX11_sure RX11 4) (hR : (∀ pc lv, narrow .int (.int r) = .int r → decode cX11_sure pc = .ok (.ireturn, 1) → P t1 pc lv [.int r]))  {a1 : Int32} {a2 : Int32} {a3 : Int32} {s : vSt} (h : gC_EachAddsALine_sure_0 N a1 a2 a3 s = some (r, t1)) : P s 0 [(0, .ref (ad 0)), (1, .int a1), (2, .int a2), (3, .int a3)] [] := by
  unfold gC_EachAddsALine_sure_0 at h
  refine v_aload_n hX dX11_sure_0 rfl 0 rfl ?_
  refine v_iload_n hX dX11_sure_1 rfl 1 rfl ?_
  refine v_iload_n hX dX11_sure_2 rfl 2 rfl ?_
  refine v_iload_n hX dX11_sure_3 rfl 3 rfl ?_
  obtain ⟨p1, hp1, h⟩ := bsome h
  refine v_callVI (o := 0) hX (mC_EachAddsALine_isTrip hp1 l ad) kM_X11_isTrip kV_X11_isTrip km_11_201 (by decide) (fun _ => rfl) rfl rfl rfl (Nat.le_of_ble_eq_true rfl) (by decide) dX11_sure_4 ?_
  refine v_if_ne (tgt := 12) hX dX11_sure_7 (by decide) h (fun h => ?_) (fun h => ?_)
  · refine v_iconst (v := (-1)) hX dX11_sure_10 (by decide) ?_
    exact v_retI hR h dX11_sure_11
  · refine v_aload_n hX dX11_sure_12 rfl 0 rfl ?_
    refine gfC_0_8 hX kf_11_73 dX11_sure_13 ?_
    refine gfC_5_1 hX kf_11_270 dX11_sure_16 ?_
    refine v_if_ne (tgt := 25) hX dX11_sure_19 (by decide) h (fun h => ?_) (fun h => ?_)
    · refine v_bipush (v := (-2)) hX dX11_sure_22 (by decide) ?_
      exact v_retI hR h dX11_sure_24
    · refine v_aload_n hX dX11_sure_25 rfl 0 rfl ?_
      refine gfC_0_10 hX kf_11_82 dX11_sure_26 ?_
      refine v_aload_n hX dX11_sure_29 rfl 0 rfl ?_
      refine gfC_0_8 hX kf_11_73 dX11_sure_30 ?_
      refine v_iload_n hX dX11_sure_33 rfl 2 rfl ?_
      obtain ⟨z2, hz2, h⟩ := bsome h
      refine v_callVV (o := 46) hX (mC_Tales_countFits_told hz2 l ad) kM_X9_countFits kV_X9_countFits km_11_278 (by decide) (fun _ => rfl) rfl rfl rfl (Nat.le_of_ble_eq_true rfl) (by decide) dX11_sure_34 ?_
      refine v_aload_n hX dX11_sure_37 rfl 0 rfl ?_
      refine gfC_0_10 hX kf_11_82 dX11_sure_38 ?_
      refine v_iload_n hX dX11_sure_41 rfl 1 rfl ?_
      refine v_iload_n hX dX11_sure_42 rfl 3 rfl ?_
      obtain ⟨z3, hz3, h⟩ := bsome h
      refine v_callVV (o := 46) hX (mC_Tales_gatherGetters hz3 l ad) kM_X9_gatherGetters kV_X9_gatherGetters km_11_290 (by decide) (fun _ => rfl) rfl rfl rfl (Nat.le_of_ble_eq_true rfl) (by decide) dX11_sure_43 ?_
      refine v_aload_n hX dX11_sure_46 rfl 0 rfl ?_
      refine gfC_0_1 hX kf_11_19 dX11_sure_47 ?_
      obtain ⟨z4, hz4, h⟩ := bsome h
      refine v_callVV (o := 3) hX (mC_Numbers_clear_row hz4 l ad) kM_X2_clear kV_X2_clear km_11_176 (by decide) (fun _ => rfl) rfl rfl rfl (Nat.le_of_ble_eq_true rfl) (by decide) dX11_sure_50 ?_
      refine v_aload_n hX dX11_sure_53 rfl 0 rfl ?_
      refine gfC_0_1 hX kf_11_19 dX11_sure_54 ?_
      refine v_aload_n hX dX11_sure_57 rfl 0 rfl ?_
      refine gfC_0_10 hX kf_11_82 dX11_sure_58 ?_
      refine gfC_46_0 hX kf_11_294 dX11_sure_61 ?_
      obtain ⟨z5, hz5, h⟩ := bsome h
      refine v_callVV (o := 3) hX (mC_Numbers_add_row hz5 l ad) kM_X2_add kV_X2_add km_11_182 (by decide) (fun _ => rfl) rfl rfl rfl (Nat.le_of_ble_eq_true rfl) (by decide) dX11_sure_64 ?_
      refine v_aload_n hX dX11_sure_67 rfl 0 rfl ?_
      refine gfC_0_10 hX kf_11_82 dX11_sure_68 ?_
      refine gfC_46_1 hX kf_11_297 dX11_sure_71 ?_
      exact v_retI hR h dX11_sure_74
noncomputable def fC_EachAddsALine_sure (N : Nat) (a1 : Int32) (a2 : Int32) (a3 : Int32) (s : vSt) : Option (Int32 × vSt) := gC_EachAddsALine_sure_0 N a1 a2 a3 s
theorem mC_EachAddsALine_sure {N : Nat} {a1 : Int32} {a2 : Int32} {a3 : Int32} {s : vSt} {r : Int32} {t1 : vSt} (h : fC_EachAddsALine_sure N a1 a2 a3 s = some (r, t1)) (l : Launch) (ad : Nat → Nat) : vMI l shC ad yX11_sure cX11_sure 4 .int 5 122 s [.ref (ad 0), .int a1, .int a2, .int a3] r t1 :=
  vMI_of (by decide +kernel) (Nat.le_of_ble_eq_true rfl) (fun P hX hR => wC_EachAddsALine_sure_0 hX hR h)
-- C_EachAddsALine_writers
noncomputable def gC_EachAddsALine_writers_84 (N : Nat) (r50 : Int32 → Int32 → Int32 → vSt → Option (Int32 × vSt)) (a2 : Int32) (a3 : Int32) (a4 : Int32) (s : vSt) : Option (Int32 × vSt) :=
  (some (a4 + 1 : Int32)).bind fun v1 =>
  r50 a2 a3 v1 s
set_option maxRecDepth 4000 in
theorem wC_EachAddsALine_writers_84 {P : vP} {l : Launch} {ad : Nat → Nat} {N : Nat} {r50 : Int32 → Int32 → Int32 → vSt → Option (Int32 × vSt)} {r : Int32} {t1 : vSt} (hX : vOK P l shC ad (vR 5 121) cX11_writers RX11 5) (hR : (∀ pc lv, narrow .int (.int r) = .int r → decode cX11_writers pc = .ok (.ireturn, 1) → P t1 pc lv [.int r])) (H50 : ∀ (a2 : Int32) (a3 : Int32) (a4 : Int32) (s : vSt), r50 a2 a3 a4 s = some (r, t1) → P s 50 [(0, .ref (ad 0)), (2, .int a2), (3, .int a3), (4, .int a4)] []) {a2 : Int32} {a3 : Int32} {a4 : Int32} {s : vSt} (h : gC_EachAddsALine_writers_84 N r50 a2 a3 a4 s = some (r, t1)) : P s 84 [(0, .ref (ad 0)), (2, .int a2), (3, .int a3), (4, .int a4)] [] := by
  unfold gC_EachAddsALine_writers_84 at h
  refine v_iincN hX dX11_writers_84 (j := 3) rfl (c := 1) (by decide) (by decide) h (fun v1 h => ?_)
  refine v_show (lv' := [(4, .int v1), (0, .ref (ad 0)), (2, .int a2), (3, .int a3)]) hX rfl ?_
  refine v_goto (tgt := 50) hX dX11_writers_87 (by decide) ?_
  exact v_sub hX [1, 2, 3, 0] (by rfl) (H50 _ _ _ _ h)
noncomputable def gC_EachAddsALine_writers_50 (N : Nat)  : Nat → Int32 → Int32 → Int32 → vSt → Option (Int32 × vSt)
  | 0, _, _, _, _ => none
  | n + 1, a2, a3, a4, s =>
    if (s.1 9 6) ≤ a4 then
      some (a3, s)
    else
      (fC_Tales_fitting N a4 a2 s).bind fun p1 =>
      if (lg_cmp p1.1 0) ≤ 0 then
        gC_EachAddsALine_writers_84 N (gC_EachAddsALine_writers_50 N n) a2 a3 a4 p1.2
      else
        (some (a3 ||| ((1 : Int32) <<< (a4 &&& 31)) : Int32)).bind fun v2 =>
        gC_EachAddsALine_writers_84 N (gC_EachAddsALine_writers_50 N n) a2 v2 a4 p1.2
set_option maxRecDepth 4000 in
theorem wC_EachAddsALine_writers_50 {P : vP} {l : Launch} {ad : Nat → Nat} {N : Nat} {r : Int32} {t1 : vSt} (hX : vOK P l shC ad (vR 5 121) cX11_writers RX11 5) (hR : (∀ pc lv, narrow .int (.int r) = .int r → decode cX11_writers pc = .ok (.ireturn, 1) → P t1 pc lv [.int r]))  : ∀ (n : Nat) (a2 : Int32) (a3 : Int32) (a4 : Int32) (s : vSt), gC_EachAddsALine_writers_50 N n a2 a3 a4 s = some (r, t1) → P s 50 [(0, .ref (ad 0)), (2, .int a2), (3, .int a3), (4, .int a4)] [] := by
  intro n
  induction n with
  | zero => intro a2 a3 a4 s h; cases h
  | succ n ih =>
    intro a2 a3 a4 s h
    unfold gC_EachAddsALine_writers_50 at h
    refine v_iload hX dX11_writers_50 3 rfl ?_
    refine v_aload_n hX dX11_writers_52 rfl 0 rfl ?_
    refine gfC_0_2 hX kf_11_26 dX11_writers_53 ?_
    refine gfC_9_6 hX kf_11_247 dX11_writers_56 ?_
    refine v_icmp_ge (tgt := 90) hX dX11_writers_59 (by decide) h (fun h => ?_) (fun h => ?_)
    · refine v_iload_n hX dX11_writers_90 rfl 2 rfl ?_
      exact v_retI hR h dX11_writers_91
    · refine v_aload_n hX dX11_writers_62 rfl 0 rfl ?_
      refine gfC_0_10 hX kf_11_82 dX11_writers_63 ?_
      refine v_iload hX dX11_writers_66 3 rfl ?_
      refine v_iload_n hX dX11_writers_68 rfl 1 rfl ?_
      obtain ⟨p1, hp1, h⟩ := bsome h
      refine v_callVL (o := 46) hX (mC_Tales_fitting hp1 l ad) kM_X9_fitting kV_X9_fitting km_11_286 (by decide) (fun _ => rfl) rfl rfl rfl (Nat.le_of_ble_eq_true rfl) (by decide) dX11_writers_69 ?_
      refine v_lconst (v := 0) hX dX11_writers_72 (by decide) ?_
      refine v_lcmp hX dX11_writers_73 ?_
      refine v_if_le (tgt := 84) hX dX11_writers_74 (by decide) h (fun h => ?_) (fun h => ?_)
      · exact v_sub hX [0, 1, 2, 3] (by rfl) (wC_EachAddsALine_writers_84 hX hR ih h)
      · refine v_iload_n hX dX11_writers_77 rfl 2 rfl ?_
        refine v_iconst (v := 1) hX dX11_writers_78 (by decide) ?_
        refine v_iload hX dX11_writers_79 3 rfl ?_
        refine v_ishl hX dX11_writers_81 ?_
        refine v_ior hX dX11_writers_82 ?_
        refine v_nmI hX h (fun v2 h => ?_)
        refine v_istore_n (lv' := [(3, .int v2), (0, .ref (ad 0)), (2, .int a2), (4, .int a4)]) hX dX11_writers_83 rfl (by decide) rfl ?_
        exact v_sub hX [1, 2, 0, 3] (by rfl) (wC_EachAddsALine_writers_84 hX hR ih h)
noncomputable def gC_EachAddsALine_writers_0 (N : Nat)  (a1 : Int32) (a2 : Int32) (s : vSt) : Option (Int32 × vSt) :=
  (fC_Roads_hasPerson N a1 s).bind fun p1 =>
  if p1.1 = 0 then
    some ((-1), p1.2)
  else
    (fC_EachAddsALine_isHour N a2 p1.2).bind fun p2 =>
    if p2.1 = 0 then
      some ((-1), p2.2)
    else
      if (p2.2.1 5 1) = 0 then
        some ((-2), p2.2)
      else
        (fC_Tales_countFits_told N a1 p2.2).bind fun z3 =>
        gC_EachAddsALine_writers_50 N N a2 0 0 z3
set_option maxRecDepth 4000 in
theorem wC_EachAddsALine_writers_0 {P : vP} {l : Launch} {ad : Nat → Nat} {N : Nat} {r : Int32} {t1 : vSt} (hX : vOK P l shC ad (vR 5 121) cX11_writers RX11 5) (hR : (∀ pc lv, narrow .int (.int r) = .int r → decode cX11_writers pc = .ok (.ireturn, 1) → P t1 pc lv [.int r]))  {a1 : Int32} {a2 : Int32} {s : vSt} (h : gC_EachAddsALine_writers_0 N a1 a2 s = some (r, t1)) : P s 0 [(0, .ref (ad 0)), (1, .int a1), (2, .int a2)] [] := by
  unfold gC_EachAddsALine_writers_0 at h
  refine v_aload_n hX dX11_writers_0 rfl 0 rfl ?_
  refine gfC_0_2 hX kf_11_26 dX11_writers_1 ?_
  refine v_iload_n hX dX11_writers_4 rfl 1 rfl ?_
  obtain ⟨p1, hp1, h⟩ := bsome h
  refine v_callVI (o := 9) hX (mC_Roads_hasPerson hp1 l ad) kM_X6_hasPerson kV_X6_hasPerson km_11_114 (by decide) (fun _ => rfl) rfl rfl rfl (Nat.le_of_ble_eq_true rfl) (by decide) dX11_writers_5 ?_
  refine v_if_eq (tgt := 18) hX dX11_writers_8 (by decide) h (fun h => ?_) (fun h => ?_)
  · refine v_iconst (v := (-1)) hX dX11_writers_18 (by decide) ?_
    exact v_retI hR h dX11_writers_19
  · refine v_iload_n hX dX11_writers_11 rfl 2 rfl ?_
    obtain ⟨p2, hp2, h⟩ := bsome h
    refine v_callSI hX (mC_EachAddsALine_isHour hp2 l ad) kM_X11_isHour kS_X11_isHour km_11_145 rfl rfl (Nat.le_of_ble_eq_true rfl) (by decide) dX11_writers_12 ?_
    refine v_if_ne (tgt := 20) hX dX11_writers_15 (by decide) h (fun h => ?_) (fun h => ?_)
    · refine v_iconst (v := (-1)) hX dX11_writers_18 (by decide) ?_
      exact v_retI hR h dX11_writers_19
    · refine v_aload_n hX dX11_writers_20 rfl 0 rfl ?_
      refine gfC_0_8 hX kf_11_73 dX11_writers_21 ?_
      refine gfC_5_1 hX kf_11_270 dX11_writers_24 ?_
      refine v_if_ne (tgt := 33) hX dX11_writers_27 (by decide) h (fun h => ?_) (fun h => ?_)
      · refine v_bipush (v := (-2)) hX dX11_writers_30 (by decide) ?_
        exact v_retI hR h dX11_writers_32
      · refine v_aload_n hX dX11_writers_33 rfl 0 rfl ?_
        refine gfC_0_10 hX kf_11_82 dX11_writers_34 ?_
        refine v_aload_n hX dX11_writers_37 rfl 0 rfl ?_
        refine gfC_0_8 hX kf_11_73 dX11_writers_38 ?_
        refine v_iload_n hX dX11_writers_41 rfl 1 rfl ?_
        obtain ⟨z3, hz3, h⟩ := bsome h
        refine v_callVV (o := 46) hX (mC_Tales_countFits_told hz3 l ad) kM_X9_countFits kV_X9_countFits km_11_278 (by decide) (fun _ => rfl) rfl rfl rfl (Nat.le_of_ble_eq_true rfl) (by decide) dX11_writers_42 ?_
        refine v_iconst (v := 0) hX dX11_writers_45 (by decide) ?_
        refine v_istore_n (lv' := [(3, .int 0), (0, .ref (ad 0)), (1, .int a1), (2, .int a2)]) hX dX11_writers_46 rfl (by decide) rfl ?_
        refine v_iconst (v := 0) hX dX11_writers_47 (by decide) ?_
        refine v_istore (lv' := [(4, .int 0), (3, .int 0), (0, .ref (ad 0)), (1, .int a1), (2, .int a2)]) hX dX11_writers_48 (by decide) rfl ?_
        exact v_sub hX [2, 4, 1, 0] (by rfl) (wC_EachAddsALine_writers_50 hX hR  N _ _ _ _ h)
noncomputable def fC_EachAddsALine_writers (N : Nat) (a1 : Int32) (a2 : Int32) (s : vSt) : Option (Int32 × vSt) := gC_EachAddsALine_writers_0 N a1 a2 s
theorem mC_EachAddsALine_writers {N : Nat} {a1 : Int32} {a2 : Int32} {s : vSt} {r : Int32} {t1 : vSt} (h : fC_EachAddsALine_writers N a1 a2 s = some (r, t1)) (l : Launch) (ad : Nat → Nat) : vMI l shC ad yX11_writers cX11_writers 5 .int 5 121 s [.ref (ad 0), .int a1, .int a2] r t1 :=
  vMI_of (by decide +kernel) (Nat.le_of_ble_eq_true rfl) (fun P hX hR => wC_EachAddsALine_writers_0 hX hR h)
-- C_Leaving_waysOn
noncomputable def gC_Leaving_waysOn_134 (N : Nat) (r6 : Int32 → Int32 → Int32 → Int32 → Int64 → Int32 → vSt → Option (Int64 × vSt)) (a1 : Int32) (a2 : Int32) (a3 : Int32) (a4 : Int32) (a5 : Int64) (a7 : Int32) (s : vSt) : Option (Int64 × vSt) :=
  (some (a7 + 1 : Int32)).bind fun v1 =>
  r6 a1 a2 a3 a4 a5 v1 s
set_option maxRecDepth 4000 in
theorem wC_Leaving_waysOn_134 {P : vP} {l : Launch} {ad : Nat → Nat} {N : Nat} {r6 : Int32 → Int32 → Int32 → Int32 → Int64 → Int32 → vSt → Option (Int64 × vSt)} {r : Int64} {t1 : vSt} (hX : vOK P l shC ad (vR 1 22) cX0_waysOn RX0 9) (hR : (∀ pc lv, decode cX0_waysOn pc = .ok (.lreturn, 1) → P t1 pc lv [.long r])) (H6 : ∀ (a1 : Int32) (a2 : Int32) (a3 : Int32) (a4 : Int32) (a5 : Int64) (a7 : Int32) (s : vSt), r6 a1 a2 a3 a4 a5 a7 s = some (r, t1) → P s 6 [(0, .ref (ad 52)), (1, .int a1), (2, .int a2), (3, .int a3), (4, .int a4), (5, .long a5), (7, .int a7)] []) {a1 : Int32} {a2 : Int32} {a3 : Int32} {a4 : Int32} {a5 : Int64} {a7 : Int32} {s : vSt} (h : gC_Leaving_waysOn_134 N r6 a1 a2 a3 a4 a5 a7 s = some (r, t1)) : P s 134 [(0, .ref (ad 52)), (1, .int a1), (2, .int a2), (3, .int a3), (4, .int a4), (5, .long a5), (7, .int a7)] [] := by
  unfold gC_Leaving_waysOn_134 at h
  refine v_iincN hX dX0_waysOn_134 (j := 6) rfl (c := 1) (by decide) (by decide) h (fun v1 h => ?_)
  refine v_show (lv' := [(7, .int v1), (0, .ref (ad 52)), (1, .int a1), (2, .int a2), (3, .int a3), (4, .int a4), (5, .long a5)]) hX rfl ?_
  refine v_goto (tgt := 6) hX dX0_waysOn_137 (by decide) ?_
  exact v_sub hX [1, 2, 3, 4, 5, 6, 0] (by rfl) (H6 _ _ _ _ _ _ _ h)
noncomputable def gC_Leaving_waysOn_108 (N : Nat) (r6 : Int32 → Int32 → Int32 → Int32 → Int64 → Int32 → vSt → Option (Int64 × vSt)) (a1 : Int32) (a2 : Int32) (a3 : Int32) (a4 : Int32) (a5 : Int64) (a7 : Int32) (a8 : Int32) (s : vSt) : Option (Int64 × vSt) :=
  if a4 = 0 then
    (ldL s 53 1040 (((520 : Int32) + (a3 * 40)) + a8)).bind fun v1 =>
    (some (a5 + v1 : Int64)).bind fun v2 =>
    gC_Leaving_waysOn_134 N r6 a1 a2 a3 a4 v2 a7 s
  else
    gC_Leaving_waysOn_134 N r6 a1 a2 a3 a4 a5 a7 s
set_option maxRecDepth 4000 in
theorem wC_Leaving_waysOn_108 {P : vP} {l : Launch} {ad : Nat → Nat} {N : Nat} {r6 : Int32 → Int32 → Int32 → Int32 → Int64 → Int32 → vSt → Option (Int64 × vSt)} {r : Int64} {t1 : vSt} (hX : vOK P l shC ad (vR 1 22) cX0_waysOn RX0 9) (hR : (∀ pc lv, decode cX0_waysOn pc = .ok (.lreturn, 1) → P t1 pc lv [.long r])) (H6 : ∀ (a1 : Int32) (a2 : Int32) (a3 : Int32) (a4 : Int32) (a5 : Int64) (a7 : Int32) (s : vSt), r6 a1 a2 a3 a4 a5 a7 s = some (r, t1) → P s 6 [(0, .ref (ad 52)), (1, .int a1), (2, .int a2), (3, .int a3), (4, .int a4), (5, .long a5), (7, .int a7)] []) {a1 : Int32} {a2 : Int32} {a3 : Int32} {a4 : Int32} {a5 : Int64} {a7 : Int32} {a8 : Int32} {s : vSt} (h : gC_Leaving_waysOn_108 N r6 a1 a2 a3 a4 a5 a7 a8 s = some (r, t1)) : P s 108 [(0, .ref (ad 52)), (1, .int a1), (2, .int a2), (3, .int a3), (4, .int a4), (5, .long a5), (7, .int a7), (8, .int a8)] [] := by
  unfold gC_Leaving_waysOn_108 at h
  refine v_iload hX dX0_waysOn_108 4 rfl ?_
  refine v_if_ne (tgt := 134) hX dX0_waysOn_110 (by decide) h (fun h => ?_) (fun h => ?_)
  · refine v_lload hX dX0_waysOn_113 5 rfl ?_
    refine v_aload_n hX dX0_waysOn_115 rfl 0 rfl ?_
    refine gfC_52_2 hX kf_0_11 dX0_waysOn_116 ?_
    refine v_sipush (v := 520) hX dX0_waysOn_119 (by decide) ?_
    refine v_iload_n hX dX0_waysOn_122 rfl 3 rfl ?_
    refine v_bipush (v := 40) hX dX0_waysOn_123 (by decide) ?_
    refine v_imul hX dX0_waysOn_125 ?_
    refine v_iadd hX dX0_waysOn_126 ?_
    refine v_iload hX dX0_waysOn_127 7 rfl ?_
    refine v_iadd hX dX0_waysOn_129 ?_
    refine alC_53 hX dX0_waysOn_130 h (fun v1 h => ?_)
    refine v_ladd hX dX0_waysOn_131 ?_
    refine v_nmL hX h (fun v2 h => ?_)
    refine v_lstore (lv' := [(5, .long v2), (0, .ref (ad 52)), (1, .int a1), (2, .int a2), (3, .int a3), (4, .int a4), (7, .int a7), (8, .int a8)]) hX dX0_waysOn_132 (by decide) rfl ?_
    exact v_sub hX [1, 2, 3, 4, 5, 0, 6] (by rfl) (wC_Leaving_waysOn_134 hX hR H6 h)
  · exact v_sub hX [0, 1, 2, 3, 4, 5, 6] (by rfl) (wC_Leaving_waysOn_134 hX hR H6 h)
noncomputable def gC_Leaving_waysOn_6 (N : Nat)  : Nat → Int32 → Int32 → Int32 → Int32 → Int64 → Int32 → vSt → Option (Int64 × vSt)
  | 0, _, _, _, _, _, _, _ => none
  | n + 1, a1, a2, a3, a4, a5, a7, s =>
    if (s.1 9 7) ≤ a7 then
      some (a5, s)
    else
      (fC_Roads_isAt N a1 a7 s).bind fun p1 =>
      if p1.1 = 0 then
        gC_Leaving_waysOn_134 N (gC_Leaving_waysOn_6 N n) a1 a2 a3 a4 a5 a7 p1.2
      else
        (ld p1.2 13 20 a7).bind fun v2 =>
        if a2 ≤ v2 then
          (fC_Roads_otherAt N a7 a1 p1.2).bind fun p3 =>
          (fC_Roads_placeOf N a7 p3.1 p3.2).bind fun p4 =>
          (fC_Tales_isRight N a3 p4.1 p4.2).bind fun p5 =>
          if p5.1 = 0 then
            gC_Leaving_waysOn_108 N (gC_Leaving_waysOn_6 N n) a1 a2 a3 a4 a5 a7 p4.1 p5.2
          else
            (ldL p5.2 53 1040 (((a4 * 520) + ((a3 + 1) * 40)) + p4.1)).bind fun v6 =>
            (some (a5 + v6 : Int64)).bind fun v7 =>
            gC_Leaving_waysOn_108 N (gC_Leaving_waysOn_6 N n) a1 a2 a3 a4 v7 a7 p4.1 p5.2
        else
          gC_Leaving_waysOn_134 N (gC_Leaving_waysOn_6 N n) a1 a2 a3 a4 a5 a7 p1.2
set_option maxRecDepth 4000 in
theorem wC_Leaving_waysOn_6 {P : vP} {l : Launch} {ad : Nat → Nat} {N : Nat} {r : Int64} {t1 : vSt} (hX : vOK P l shC ad (vR 1 22) cX0_waysOn RX0 9) (hR : (∀ pc lv, decode cX0_waysOn pc = .ok (.lreturn, 1) → P t1 pc lv [.long r]))  : ∀ (n : Nat) (a1 : Int32) (a2 : Int32) (a3 : Int32) (a4 : Int32) (a5 : Int64) (a7 : Int32) (s : vSt), gC_Leaving_waysOn_6 N n a1 a2 a3 a4 a5 a7 s = some (r, t1) → P s 6 [(0, .ref (ad 52)), (1, .int a1), (2, .int a2), (3, .int a3), (4, .int a4), (5, .long a5), (7, .int a7)] [] := by
  intro n
  induction n with
  | zero => intro a1 a2 a3 a4 a5 a7 s h; cases h
  | succ n ih =>
    intro a1 a2 a3 a4 a5 a7 s h
    unfold gC_Leaving_waysOn_6 at h
    refine v_iload hX dX0_waysOn_6 6 rfl ?_
    refine v_aload_n hX dX0_waysOn_8 rfl 0 rfl ?_
    refine gfC_52_1 hX kf_0_29 dX0_waysOn_9 ?_
    refine gfC_9_7 hX kf_0_46 dX0_waysOn_12 ?_
    refine v_icmp_ge (tgt := 140) hX dX0_waysOn_15 (by decide) h (fun h => ?_) (fun h => ?_)
    · refine v_lload hX dX0_waysOn_140 5 rfl ?_
      exact v_retL hR h dX0_waysOn_142
    · refine v_aload_n hX dX0_waysOn_18 rfl 0 rfl ?_
      refine gfC_52_1 hX kf_0_29 dX0_waysOn_19 ?_
      refine v_iload_n hX dX0_waysOn_22 rfl 1 rfl ?_
      refine v_iload hX dX0_waysOn_23 6 rfl ?_
      obtain ⟨p1, hp1, h⟩ := bsome h
      refine v_callVI (o := 9) hX (mC_Roads_isAt hp1 l ad) kM_X6_isAt kV_X6_isAt km_0_72 (by decide) (fun _ => rfl) rfl rfl rfl (Nat.le_of_ble_eq_true rfl) (by decide) dX0_waysOn_25 ?_
      refine v_if_eq (tgt := 134) hX dX0_waysOn_28 (by decide) h (fun h => ?_) (fun h => ?_)
      · exact v_sub hX [0, 1, 2, 3, 4, 5, 6] (by rfl) (wC_Leaving_waysOn_134 hX hR ih h)
      · refine v_aload_n hX dX0_waysOn_31 rfl 0 rfl ?_
        refine gfC_52_1 hX kf_0_29 dX0_waysOn_32 ?_
        refine gfC_9_3 hX kf_0_76 dX0_waysOn_35 ?_
        refine v_iload hX dX0_waysOn_38 6 rfl ?_
        refine alC_13 hX dX0_waysOn_40 h (fun v2 h => ?_)
        refine v_iload_n hX dX0_waysOn_41 rfl 2 rfl ?_
        refine v_icmp_ge (tgt := 48) hX dX0_waysOn_42 (by decide) h (fun h => ?_) (fun h => ?_)
        · refine v_aload_n hX dX0_waysOn_48 rfl 0 rfl ?_
          refine gfC_52_1 hX kf_0_29 dX0_waysOn_49 ?_
          refine v_iload hX dX0_waysOn_52 6 rfl ?_
          refine v_aload_n hX dX0_waysOn_54 rfl 0 rfl ?_
          refine gfC_52_1 hX kf_0_29 dX0_waysOn_55 ?_
          refine v_iload hX dX0_waysOn_58 6 rfl ?_
          refine v_iload_n hX dX0_waysOn_60 rfl 1 rfl ?_
          obtain ⟨p3, hp3, h⟩ := bsome h
          refine v_callVI (o := 9) hX (mC_Roads_otherAt hp3 l ad) kM_X6_otherAt kV_X6_otherAt km_0_79 (by decide) (fun _ => rfl) rfl rfl rfl (Nat.le_of_ble_eq_true rfl) (by decide) dX0_waysOn_61 ?_
          obtain ⟨p4, hp4, h⟩ := bsome h
          refine v_callVI (o := 9) hX (mC_Roads_placeOf hp4 l ad) kM_X6_placeOf kV_X6_placeOf km_0_83 (by decide) (fun _ => rfl) rfl rfl rfl (Nat.le_of_ble_eq_true rfl) (by decide) dX0_waysOn_64 ?_
          refine v_istore (lv' := [(8, .int p4.1), (0, .ref (ad 52)), (1, .int a1), (2, .int a2), (3, .int a3), (4, .int a4), (5, .long a5), (7, .int a7)]) hX dX0_waysOn_67 (by decide) rfl ?_
          refine v_aload_n hX dX0_waysOn_69 rfl 1 rfl ?_
          refine gfC_52_0 hX kf_0_19 dX0_waysOn_70 ?_
          refine v_iload_n hX dX0_waysOn_73 rfl 4 rfl ?_
          refine v_iload hX dX0_waysOn_74 0 rfl ?_
          obtain ⟨p5, hp5, h⟩ := bsome h
          refine v_callVI (o := 46) hX (mC_Tales_isRight hp5 l ad) kM_X9_isRight kV_X9_isRight km_0_86 (by decide) (fun _ => rfl) rfl rfl rfl (Nat.le_of_ble_eq_true rfl) (by decide) dX0_waysOn_76 ?_
          refine v_if_eq (tgt := 108) hX dX0_waysOn_79 (by decide) h (fun h => ?_) (fun h => ?_)
          · exact v_sub hX [1, 2, 3, 4, 5, 6, 7, 0] (by rfl) (wC_Leaving_waysOn_108 hX hR ih h)
          · refine v_lload hX dX0_waysOn_82 6 rfl ?_
            refine v_aload_n hX dX0_waysOn_84 rfl 1 rfl ?_
            refine gfC_52_2 hX kf_0_11 dX0_waysOn_85 ?_
            refine v_iload hX dX0_waysOn_88 5 rfl ?_
            refine v_sipush (v := 520) hX dX0_waysOn_90 (by decide) ?_
            refine v_imul hX dX0_waysOn_93 ?_
            refine v_iload_n hX dX0_waysOn_94 rfl 4 rfl ?_
            refine v_iconst (v := 1) hX dX0_waysOn_95 (by decide) ?_
            refine v_iadd hX dX0_waysOn_96 ?_
            refine v_bipush (v := 40) hX dX0_waysOn_97 (by decide) ?_
            refine v_imul hX dX0_waysOn_99 ?_
            refine v_iadd hX dX0_waysOn_100 ?_
            refine v_iload hX dX0_waysOn_101 0 rfl ?_
            refine v_iadd hX dX0_waysOn_103 ?_
            refine alC_53 hX dX0_waysOn_104 h (fun v6 h => ?_)
            refine v_ladd hX dX0_waysOn_105 ?_
            refine v_nmL hX h (fun v7 h => ?_)
            refine v_lstore (lv' := [(5, .long v7), (8, .int p4.1), (0, .ref (ad 52)), (1, .int a1), (2, .int a2), (3, .int a3), (4, .int a4), (7, .int a7)]) hX dX0_waysOn_106 (by decide) rfl ?_
            exact v_sub hX [2, 3, 4, 5, 6, 0, 7, 1] (by rfl) (wC_Leaving_waysOn_108 hX hR ih h)
        · refine v_goto (tgt := 134) hX dX0_waysOn_45 (by decide) ?_
          exact v_sub hX [0, 1, 2, 3, 4, 5, 6] (by rfl) (wC_Leaving_waysOn_134 hX hR ih h)
noncomputable def gC_Leaving_waysOn_0 (N : Nat)  (a1 : Int32) (a2 : Int32) (a3 : Int32) (a4 : Int32) (s : vSt) : Option (Int64 × vSt) :=
  gC_Leaving_waysOn_6 N N a1 a2 a3 a4 0 0 s
set_option maxRecDepth 4000 in
theorem wC_Leaving_waysOn_0 {P : vP} {l : Launch} {ad : Nat → Nat} {N : Nat} {r : Int64} {t1 : vSt} (hX : vOK P l shC ad (vR 1 22) cX0_waysOn RX0 9) (hR : (∀ pc lv, decode cX0_waysOn pc = .ok (.lreturn, 1) → P t1 pc lv [.long r]))  {a1 : Int32} {a2 : Int32} {a3 : Int32} {a4 : Int32} {s : vSt} (h : gC_Leaving_waysOn_0 N a1 a2 a3 a4 s = some (r, t1)) : P s 0 [(0, .ref (ad 52)), (1, .int a1), (2, .int a2), (3, .int a3), (4, .int a4)] [] := by
  unfold gC_Leaving_waysOn_0 at h
  refine v_lconst (v := 0) hX dX0_waysOn_0 (by decide) ?_
  refine v_lstore (lv' := [(5, .long 0), (0, .ref (ad 52)), (1, .int a1), (2, .int a2), (3, .int a3), (4, .int a4)]) hX dX0_waysOn_1 (by decide) rfl ?_
  refine v_iconst (v := 0) hX dX0_waysOn_3 (by decide) ?_
  refine v_istore (lv' := [(7, .int 0), (5, .long 0), (0, .ref (ad 52)), (1, .int a1), (2, .int a2), (3, .int a3), (4, .int a4)]) hX dX0_waysOn_4 (by decide) rfl ?_
  exact v_sub hX [2, 3, 4, 5, 6, 1, 0] (by rfl) (wC_Leaving_waysOn_6 hX hR  N _ _ _ _ _ _ _ h)
noncomputable def fC_Leaving_waysOn (N : Nat) (a1 : Int32) (a2 : Int32) (a3 : Int32) (a4 : Int32) (s : vSt) : Option (Int64 × vSt) := gC_Leaving_waysOn_0 N a1 a2 a3 a4 s
theorem mC_Leaving_waysOn {N : Nat} {a1 : Int32} {a2 : Int32} {a3 : Int32} {a4 : Int32} {s : vSt} {r : Int64} {t1 : vSt} (h : fC_Leaving_waysOn N a1 a2 a3 a4 s = some (r, t1)) (l : Launch) (ad : Nat → Nat) : vML l shC ad yX0_waysOn cX0_waysOn 9 1 22 s [.ref (ad 52), .int a1, .int a2, .int a3, .int a4] r t1 :=
  vML_of (by decide +kernel) (Nat.le_of_ble_eq_true rfl) (fun P hX hR => wC_Leaving_waysOn_0 hX hR h)
-- C_Leaving_leavers
noncomputable def gC_Leaving_leavers_135 (N : Nat) (r6 : Int32 → Int32 → Int32 → Int32 → Int32 → vSt → Option (Int32 × vSt)) (a1 : Int32) (a2 : Int32) (a3 : Int32) (a4 : Int32) (a5 : Int32) (s : vSt) : Option (Int32 × vSt) :=
  (some (a5 + 1 : Int32)).bind fun v1 =>
  r6 a1 a2 a3 a4 v1 s
set_option maxRecDepth 4000 in
theorem wC_Leaving_leavers_135 {P : vP} {l : Launch} {ad : Nat → Nat} {N : Nat} {r6 : Int32 → Int32 → Int32 → Int32 → Int32 → vSt → Option (Int32 × vSt)} {r : Int32} {t1 : vSt} (hX : vOK P l shC ad (vR 1 22) cX0_leavers RX0 8) (hR : (∀ pc lv, narrow .int (.int r) = .int r → decode cX0_leavers pc = .ok (.ireturn, 1) → P t1 pc lv [.int r])) (H6 : ∀ (a1 : Int32) (a2 : Int32) (a3 : Int32) (a4 : Int32) (a5 : Int32) (s : vSt), r6 a1 a2 a3 a4 a5 s = some (r, t1) → P s 6 [(0, .ref (ad 52)), (1, .int a1), (2, .int a2), (3, .int a3), (4, .int a4), (5, .int a5)] []) {a1 : Int32} {a2 : Int32} {a3 : Int32} {a4 : Int32} {a5 : Int32} {s : vSt} (h : gC_Leaving_leavers_135 N r6 a1 a2 a3 a4 a5 s = some (r, t1)) : P s 135 [(0, .ref (ad 52)), (1, .int a1), (2, .int a2), (3, .int a3), (4, .int a4), (5, .int a5)] [] := by
  unfold gC_Leaving_leavers_135 at h
  refine v_iincN hX dX0_leavers_135 (j := 5) rfl (c := 1) (by decide) (by decide) h (fun v1 h => ?_)
  refine v_show (lv' := [(5, .int v1), (0, .ref (ad 52)), (1, .int a1), (2, .int a2), (3, .int a3), (4, .int a4)]) hX rfl ?_
  refine v_goto (tgt := 6) hX dX0_leavers_138 (by decide) ?_
  exact v_sub hX [1, 2, 3, 4, 5, 0] (by rfl) (H6 _ _ _ _ _ _ h)
noncomputable def gC_Leaving_leavers_105 (N : Nat) (r6 : Int32 → Int32 → Int32 → Int32 → Int32 → vSt → Option (Int32 × vSt)) (a1 : Int32) (a2 : Int32) (a3 : Int32) (a4 : Int32) (a5 : Int32) (a6 : Int32) (a7 : Int32) (s : vSt) : Option (Int32 × vSt) :=
  (ldL s 53 1040 (((520 : Int32) + (a3 * 40)) + a7)).bind fun v1 =>
  if (lg_cmp v1 0) ≤ 0 then
    gC_Leaving_leavers_135 N r6 a1 a2 a3 a4 a5 s
  else
    (some (a4 ||| ((1 : Int32) <<< (a6 &&& 31)) : Int32)).bind fun v2 =>
    gC_Leaving_leavers_135 N r6 a1 a2 a3 v2 a5 s
set_option maxRecDepth 4000 in
theorem wC_Leaving_leavers_105 {P : vP} {l : Launch} {ad : Nat → Nat} {N : Nat} {r6 : Int32 → Int32 → Int32 → Int32 → Int32 → vSt → Option (Int32 × vSt)} {r : Int32} {t1 : vSt} (hX : vOK P l shC ad (vR 1 22) cX0_leavers RX0 8) (hR : (∀ pc lv, narrow .int (.int r) = .int r → decode cX0_leavers pc = .ok (.ireturn, 1) → P t1 pc lv [.int r])) (H6 : ∀ (a1 : Int32) (a2 : Int32) (a3 : Int32) (a4 : Int32) (a5 : Int32) (s : vSt), r6 a1 a2 a3 a4 a5 s = some (r, t1) → P s 6 [(0, .ref (ad 52)), (1, .int a1), (2, .int a2), (3, .int a3), (4, .int a4), (5, .int a5)] []) {a1 : Int32} {a2 : Int32} {a3 : Int32} {a4 : Int32} {a5 : Int32} {a6 : Int32} {a7 : Int32} {s : vSt} (h : gC_Leaving_leavers_105 N r6 a1 a2 a3 a4 a5 a6 a7 s = some (r, t1)) : P s 105 [(0, .ref (ad 52)), (1, .int a1), (2, .int a2), (3, .int a3), (4, .int a4), (5, .int a5), (6, .int a6), (7, .int a7)] [] := by
  unfold gC_Leaving_leavers_105 at h
  refine v_aload_n hX dX0_leavers_105 rfl 0 rfl ?_
  refine gfC_52_2 hX kf_0_11 dX0_leavers_106 ?_
  refine v_sipush (v := 520) hX dX0_leavers_109 (by decide) ?_
  refine v_iload_n hX dX0_leavers_112 rfl 3 rfl ?_
  refine v_bipush (v := 40) hX dX0_leavers_113 (by decide) ?_
  refine v_imul hX dX0_leavers_115 ?_
  refine v_iadd hX dX0_leavers_116 ?_
  refine v_iload hX dX0_leavers_117 7 rfl ?_
  refine v_iadd hX dX0_leavers_119 ?_
  refine alC_53 hX dX0_leavers_120 h (fun v1 h => ?_)
  refine v_lconst (v := 0) hX dX0_leavers_121 (by decide) ?_
  refine v_lcmp hX dX0_leavers_122 ?_
  refine v_if_le (tgt := 135) hX dX0_leavers_123 (by decide) h (fun h => ?_) (fun h => ?_)
  · exact v_sub hX [0, 1, 2, 3, 4, 5] (by rfl) (wC_Leaving_leavers_135 hX hR H6 h)
  · refine v_iload hX dX0_leavers_126 4 rfl ?_
    refine v_iconst (v := 1) hX dX0_leavers_128 (by decide) ?_
    refine v_iload hX dX0_leavers_129 6 rfl ?_
    refine v_ishl hX dX0_leavers_131 ?_
    refine v_ior hX dX0_leavers_132 ?_
    refine v_nmI hX h (fun v2 h => ?_)
    refine v_istore (lv' := [(4, .int v2), (0, .ref (ad 52)), (1, .int a1), (2, .int a2), (3, .int a3), (5, .int a5), (6, .int a6), (7, .int a7)]) hX dX0_leavers_133 (by decide) rfl ?_
    exact v_sub hX [1, 2, 3, 4, 0, 5] (by rfl) (wC_Leaving_leavers_135 hX hR H6 h)
noncomputable def gC_Leaving_leavers_6 (N : Nat)  : Nat → Int32 → Int32 → Int32 → Int32 → Int32 → vSt → Option (Int32 × vSt)
  | 0, _, _, _, _, _, _ => none
  | n + 1, a1, a2, a3, a4, a5, s =>
    if (s.1 9 7) ≤ a5 then
      some (a4, s)
    else
      (fC_Roads_isAt N a1 a5 s).bind fun p1 =>
      if p1.1 = 0 then
        gC_Leaving_leavers_135 N (gC_Leaving_leavers_6 N n) a1 a2 a3 a4 a5 p1.2
      else
        (ld p1.2 13 20 a5).bind fun v2 =>
        if a2 ≤ v2 then
          (fC_Roads_otherAt N a5 a1 p1.2).bind fun p3 =>
          (fC_Roads_placeOf N a5 p3.1 p3.2).bind fun p4 =>
          (fC_Tales_isRight N a3 p4.1 p4.2).bind fun p5 =>
          if p5.1 = 0 then
            gC_Leaving_leavers_105 N (gC_Leaving_leavers_6 N n) a1 a2 a3 a4 a5 p3.1 p4.1 p5.2
          else
            (ld p5.2 54 520 (((a3 + 1) * 40) + p4.1)).bind fun v6 =>
            (some (a4 ||| v6 : Int32)).bind fun v7 =>
            gC_Leaving_leavers_105 N (gC_Leaving_leavers_6 N n) a1 a2 a3 v7 a5 p3.1 p4.1 p5.2
        else
          gC_Leaving_leavers_135 N (gC_Leaving_leavers_6 N n) a1 a2 a3 a4 a5 p1.2
set_option maxRecDepth 4000 in
theorem wC_Leaving_leavers_6 {P : vP} {l : Launch} {ad : Nat → Nat} {N : Nat} {r : Int32} {t1 : vSt} (hX : vOK P l shC ad (vR 1 22) cX0_leavers RX0 8) (hR : (∀ pc lv, narrow .int (.int r) = .int r → decode cX0_leavers pc = .ok (.ireturn, 1) → P t1 pc lv [.int r]))  : ∀ (n : Nat) (a1 : Int32) (a2 : Int32) (a3 : Int32) (a4 : Int32) (a5 : Int32) (s : vSt), gC_Leaving_leavers_6 N n a1 a2 a3 a4 a5 s = some (r, t1) → P s 6 [(0, .ref (ad 52)), (1, .int a1), (2, .int a2), (3, .int a3), (4, .int a4), (5, .int a5)] [] := by
  intro n
  induction n with
  | zero => intro a1 a2 a3 a4 a5 s h; cases h
  | succ n ih =>
    intro a1 a2 a3 a4 a5 s h
    unfold gC_Leaving_leavers_6 at h
    refine v_iload hX dX0_leavers_6 5 rfl ?_
    refine v_aload_n hX dX0_leavers_8 rfl 0 rfl ?_
    refine gfC_52_1 hX kf_0_29 dX0_leavers_9 ?_
    refine gfC_9_7 hX kf_0_46 dX0_leavers_12 ?_
    refine v_icmp_ge (tgt := 141) hX dX0_leavers_15 (by decide) h (fun h => ?_) (fun h => ?_)
    · refine v_iload hX dX0_leavers_141 4 rfl ?_
      exact v_retI hR h dX0_leavers_143
    · refine v_aload_n hX dX0_leavers_18 rfl 0 rfl ?_
      refine gfC_52_1 hX kf_0_29 dX0_leavers_19 ?_
      refine v_iload_n hX dX0_leavers_22 rfl 1 rfl ?_
      refine v_iload hX dX0_leavers_23 5 rfl ?_
      obtain ⟨p1, hp1, h⟩ := bsome h
      refine v_callVI (o := 9) hX (mC_Roads_isAt hp1 l ad) kM_X6_isAt kV_X6_isAt km_0_72 (by decide) (fun _ => rfl) rfl rfl rfl (Nat.le_of_ble_eq_true rfl) (by decide) dX0_leavers_25 ?_
      refine v_if_eq (tgt := 135) hX dX0_leavers_28 (by decide) h (fun h => ?_) (fun h => ?_)
      · exact v_sub hX [0, 1, 2, 3, 4, 5] (by rfl) (wC_Leaving_leavers_135 hX hR ih h)
      · refine v_aload_n hX dX0_leavers_31 rfl 0 rfl ?_
        refine gfC_52_1 hX kf_0_29 dX0_leavers_32 ?_
        refine gfC_9_3 hX kf_0_76 dX0_leavers_35 ?_
        refine v_iload hX dX0_leavers_38 5 rfl ?_
        refine alC_13 hX dX0_leavers_40 h (fun v2 h => ?_)
        refine v_iload_n hX dX0_leavers_41 rfl 2 rfl ?_
        refine v_icmp_ge (tgt := 48) hX dX0_leavers_42 (by decide) h (fun h => ?_) (fun h => ?_)
        · refine v_aload_n hX dX0_leavers_48 rfl 0 rfl ?_
          refine gfC_52_1 hX kf_0_29 dX0_leavers_49 ?_
          refine v_iload hX dX0_leavers_52 5 rfl ?_
          refine v_iload_n hX dX0_leavers_54 rfl 1 rfl ?_
          obtain ⟨p3, hp3, h⟩ := bsome h
          refine v_callVI (o := 9) hX (mC_Roads_otherAt hp3 l ad) kM_X6_otherAt kV_X6_otherAt km_0_79 (by decide) (fun _ => rfl) rfl rfl rfl (Nat.le_of_ble_eq_true rfl) (by decide) dX0_leavers_55 ?_
          refine v_istore (lv' := [(6, .int p3.1), (0, .ref (ad 52)), (1, .int a1), (2, .int a2), (3, .int a3), (4, .int a4), (5, .int a5)]) hX dX0_leavers_58 (by decide) rfl ?_
          refine v_aload_n hX dX0_leavers_60 rfl 1 rfl ?_
          refine gfC_52_1 hX kf_0_29 dX0_leavers_61 ?_
          refine v_iload hX dX0_leavers_64 6 rfl ?_
          refine v_iload hX dX0_leavers_66 0 rfl ?_
          obtain ⟨p4, hp4, h⟩ := bsome h
          refine v_callVI (o := 9) hX (mC_Roads_placeOf hp4 l ad) kM_X6_placeOf kV_X6_placeOf km_0_83 (by decide) (fun _ => rfl) rfl rfl rfl (Nat.le_of_ble_eq_true rfl) (by decide) dX0_leavers_68 ?_
          refine v_istore (lv' := [(7, .int p4.1), (6, .int p3.1), (0, .ref (ad 52)), (1, .int a1), (2, .int a2), (3, .int a3), (4, .int a4), (5, .int a5)]) hX dX0_leavers_71 (by decide) rfl ?_
          refine v_aload_n hX dX0_leavers_73 rfl 2 rfl ?_
          refine gfC_52_0 hX kf_0_19 dX0_leavers_74 ?_
          refine v_iload_n hX dX0_leavers_77 rfl 5 rfl ?_
          refine v_iload hX dX0_leavers_78 0 rfl ?_
          obtain ⟨p5, hp5, h⟩ := bsome h
          refine v_callVI (o := 46) hX (mC_Tales_isRight hp5 l ad) kM_X9_isRight kV_X9_isRight km_0_86 (by decide) (fun _ => rfl) rfl rfl rfl (Nat.le_of_ble_eq_true rfl) (by decide) dX0_leavers_80 ?_
          refine v_if_eq (tgt := 105) hX dX0_leavers_83 (by decide) h (fun h => ?_) (fun h => ?_)
          · exact v_sub hX [2, 3, 4, 5, 6, 7, 1, 0] (by rfl) (wC_Leaving_leavers_105 hX hR ih h)
          · refine v_iload hX dX0_leavers_86 6 rfl ?_
            refine v_aload_n hX dX0_leavers_88 rfl 2 rfl ?_
            refine gfC_52_3 hX kf_0_15 dX0_leavers_89 ?_
            refine v_iload_n hX dX0_leavers_92 rfl 5 rfl ?_
            refine v_iconst (v := 1) hX dX0_leavers_93 (by decide) ?_
            refine v_iadd hX dX0_leavers_94 ?_
            refine v_bipush (v := 40) hX dX0_leavers_95 (by decide) ?_
            refine v_imul hX dX0_leavers_97 ?_
            refine v_iload hX dX0_leavers_98 0 rfl ?_
            refine v_iadd hX dX0_leavers_100 ?_
            refine alC_54 hX dX0_leavers_101 h (fun v6 h => ?_)
            refine v_ior hX dX0_leavers_102 ?_
            refine v_nmI hX h (fun v7 h => ?_)
            refine v_istore (lv' := [(4, .int v7), (7, .int p4.1), (6, .int p3.1), (0, .ref (ad 52)), (1, .int a1), (2, .int a2), (3, .int a3), (5, .int a5)]) hX dX0_leavers_103 (by decide) rfl ?_
            exact v_sub hX [3, 4, 5, 6, 0, 7, 2, 1] (by rfl) (wC_Leaving_leavers_105 hX hR ih h)
        · refine v_goto (tgt := 135) hX dX0_leavers_45 (by decide) ?_
          exact v_sub hX [0, 1, 2, 3, 4, 5] (by rfl) (wC_Leaving_leavers_135 hX hR ih h)
noncomputable def gC_Leaving_leavers_0 (N : Nat)  (a1 : Int32) (a2 : Int32) (a3 : Int32) (s : vSt) : Option (Int32 × vSt) :=
  gC_Leaving_leavers_6 N N a1 a2 a3 0 0 s
set_option maxRecDepth 4000 in
theorem wC_Leaving_leavers_0 {P : vP} {l : Launch} {ad : Nat → Nat} {N : Nat} {r : Int32} {t1 : vSt} (hX : vOK P l shC ad (vR 1 22) cX0_leavers RX0 8) (hR : (∀ pc lv, narrow .int (.int r) = .int r → decode cX0_leavers pc = .ok (.ireturn, 1) → P t1 pc lv [.int r]))  {a1 : Int32} {a2 : Int32} {a3 : Int32} {s : vSt} (h : gC_Leaving_leavers_0 N a1 a2 a3 s = some (r, t1)) : P s 0 [(0, .ref (ad 52)), (1, .int a1), (2, .int a2), (3, .int a3)] [] := by
  unfold gC_Leaving_leavers_0 at h
  refine v_iconst (v := 0) hX dX0_leavers_0 (by decide) ?_
  refine v_istore (lv' := [(4, .int 0), (0, .ref (ad 52)), (1, .int a1), (2, .int a2), (3, .int a3)]) hX dX0_leavers_1 (by decide) rfl ?_
  refine v_iconst (v := 0) hX dX0_leavers_3 (by decide) ?_
  refine v_istore (lv' := [(5, .int 0), (4, .int 0), (0, .ref (ad 52)), (1, .int a1), (2, .int a2), (3, .int a3)]) hX dX0_leavers_4 (by decide) rfl ?_
  exact v_sub hX [2, 3, 4, 5, 1, 0] (by rfl) (wC_Leaving_leavers_6 hX hR  N _ _ _ _ _ _ h)
noncomputable def fC_Leaving_leavers (N : Nat) (a1 : Int32) (a2 : Int32) (a3 : Int32) (s : vSt) : Option (Int32 × vSt) := gC_Leaving_leavers_0 N a1 a2 a3 s
theorem mC_Leaving_leavers {N : Nat} {a1 : Int32} {a2 : Int32} {a3 : Int32} {s : vSt} {r : Int32} {t1 : vSt} (h : fC_Leaving_leavers N a1 a2 a3 s = some (r, t1)) (l : Launch) (ad : Nat → Nat) : vMI l shC ad yX0_leavers cX0_leavers 8 .int 1 22 s [.ref (ad 52), .int a1, .int a2, .int a3] r t1 :=
  vMI_of (by decide +kernel) (Nat.le_of_ble_eq_true rfl) (fun P hX hR => wC_Leaving_leavers_0 hX hR h)
-- C_Leaving_countAt
noncomputable def gC_Leaving_countAt_100 (N : Nat) (r21 : Int32 → Int32 → Int32 → Int32 → vSt → Option (vSt)) (a1 : Int32) (a2 : Int32) (a3 : Int32) (a4 : Int32) (k1 : Int32) (k2 : Int32) (s : vSt) : Option (vSt) :=
  (fC_Leaving_waysOn N a2 a3 a4 1 s).bind fun p1 =>
  (stoL p1.2 53 1040 k1 (((k2 : Int32).toInt64) + p1.1)).bind fun z2 =>
  (fC_Leaving_leavers N a2 a3 a4 z2).bind fun p3 =>
  (sto p3.2 54 520 ((a4 * 40) + a1) p3.1).bind fun z4 =>
  (some (a4 + 1 : Int32)).bind fun v5 =>
  r21 a1 a2 a3 v5 z4
set_option maxRecDepth 4000 in
theorem wC_Leaving_countAt_100 {P : vP} {l : Launch} {ad : Nat → Nat} {N : Nat} {r21 : Int32 → Int32 → Int32 → Int32 → vSt → Option (vSt)} {t1 : vSt} (hX : vOK P l shC ad (vR 2 50) cX0_countAt RX0 6) (hR : (∀ pc lv, decode cX0_countAt pc = .ok (.return_, 1) → P t1 pc lv [])) (H21 : ∀ (a1 : Int32) (a2 : Int32) (a3 : Int32) (a4 : Int32) (s : vSt), r21 a1 a2 a3 a4 s = some t1 → P s 21 [(0, .ref (ad 52)), (1, .int a1), (2, .int a2), (3, .int a3), (4, .int a4)] []) {a1 : Int32} {a2 : Int32} {a3 : Int32} {a4 : Int32} {k1 : Int32} {k2 : Int32} {s : vSt} (h : gC_Leaving_countAt_100 N r21 a1 a2 a3 a4 k1 k2 s = some t1) : P s 100 [(0, .ref (ad 52)), (1, .int a1), (2, .int a2), (3, .int a3), (4, .int a4)] [.int k2, .int k1, .ref (ad 53)] := by
  unfold gC_Leaving_countAt_100 at h
  refine v_i2l hX dX0_countAt_100 ?_
  refine v_aload_n hX dX0_countAt_101 rfl 0 rfl ?_
  refine v_iload_n hX dX0_countAt_102 rfl 2 rfl ?_
  refine v_iload_n hX dX0_countAt_103 rfl 3 rfl ?_
  refine v_iload hX dX0_countAt_104 4 rfl ?_
  refine v_iconst (v := 1) hX dX0_countAt_106 (by decide) ?_
  obtain ⟨p1, hp1, h⟩ := bsome h
  refine v_callVL (o := 52) hX (mC_Leaving_waysOn hp1 l ad) kM_X0_waysOn kV_X0_waysOn km_0_65 (by decide) (fun _ => rfl) rfl rfl rfl (Nat.le_of_ble_eq_true rfl) (by decide) dX0_countAt_107 ?_
  refine v_ladd hX dX0_countAt_110 ?_
  refine asC_53 hX dX0_countAt_111 h (fun z2 h => ?_)
  refine v_aload_n hX dX0_countAt_112 rfl 0 rfl ?_
  refine gfC_52_3 hX kf_0_15 dX0_countAt_113 ?_
  refine v_iload hX dX0_countAt_116 4 rfl ?_
  refine v_bipush (v := 40) hX dX0_countAt_118 (by decide) ?_
  refine v_imul hX dX0_countAt_120 ?_
  refine v_iload_n hX dX0_countAt_121 rfl 1 rfl ?_
  refine v_iadd hX dX0_countAt_122 ?_
  refine v_aload_n hX dX0_countAt_123 rfl 0 rfl ?_
  refine v_iload_n hX dX0_countAt_124 rfl 2 rfl ?_
  refine v_iload_n hX dX0_countAt_125 rfl 3 rfl ?_
  refine v_iload hX dX0_countAt_126 4 rfl ?_
  obtain ⟨p3, hp3, h⟩ := bsome h
  refine v_callVI (o := 52) hX (mC_Leaving_leavers hp3 l ad) kM_X0_leavers kV_X0_leavers km_0_69 (by decide) (fun _ => rfl) rfl rfl rfl (Nat.le_of_ble_eq_true rfl) (by decide) dX0_countAt_128 ?_
  refine asC_54 hX dX0_countAt_131 h (fun z4 h => ?_)
  refine v_iincN hX dX0_countAt_132 (j := 4) rfl (c := 1) (by decide) (by decide) h (fun v5 h => ?_)
  refine v_show (lv' := [(4, .int v5), (0, .ref (ad 52)), (1, .int a1), (2, .int a2), (3, .int a3)]) hX rfl ?_
  refine v_goto (tgt := 21) hX dX0_countAt_135 (by decide) ?_
  exact v_sub hX [1, 2, 3, 4, 0] (by rfl) (H21 _ _ _ _ _ h)
noncomputable def gC_Leaving_countAt_52 (N : Nat) (r21 : Int32 → Int32 → Int32 → Int32 → vSt → Option (vSt)) (a1 : Int32) (a2 : Int32) (a3 : Int32) (a4 : Int32) (k0 : Int32) (s : vSt) : Option (vSt) :=
  (fC_Leaving_waysOn N a2 a3 a4 0 s).bind fun p1 =>
  (stoL p1.2 53 1040 ((a4 * 40) + a1) p1.1).bind fun z2 =>
  if k0 = 0 then
    gC_Leaving_countAt_100 N r21 a1 a2 a3 a4 (((520 : Int32) + (a4 * 40)) + a1) 0 z2
  else
    gC_Leaving_countAt_100 N r21 a1 a2 a3 a4 (((520 : Int32) + (a4 * 40)) + a1) 1 z2
set_option maxRecDepth 4000 in
theorem wC_Leaving_countAt_52 {P : vP} {l : Launch} {ad : Nat → Nat} {N : Nat} {r21 : Int32 → Int32 → Int32 → Int32 → vSt → Option (vSt)} {t1 : vSt} (hX : vOK P l shC ad (vR 2 50) cX0_countAt RX0 6) (hR : (∀ pc lv, decode cX0_countAt pc = .ok (.return_, 1) → P t1 pc lv [])) (H21 : ∀ (a1 : Int32) (a2 : Int32) (a3 : Int32) (a4 : Int32) (s : vSt), r21 a1 a2 a3 a4 s = some t1 → P s 21 [(0, .ref (ad 52)), (1, .int a1), (2, .int a2), (3, .int a3), (4, .int a4)] []) {a1 : Int32} {a2 : Int32} {a3 : Int32} {a4 : Int32} {k0 : Int32} {s : vSt} (h : gC_Leaving_countAt_52 N r21 a1 a2 a3 a4 k0 s = some t1) : P s 52 [(0, .ref (ad 52)), (1, .int a1), (2, .int a2), (3, .int a3), (4, .int a4)] [.int k0] := by
  unfold gC_Leaving_countAt_52 at h
  refine v_istore (lv' := [(5, .int k0), (0, .ref (ad 52)), (1, .int a1), (2, .int a2), (3, .int a3), (4, .int a4)]) hX dX0_countAt_52 (by decide) rfl ?_
  refine v_aload_n hX dX0_countAt_54 rfl 1 rfl ?_
  refine gfC_52_2 hX kf_0_11 dX0_countAt_55 ?_
  refine v_iload hX dX0_countAt_58 5 rfl ?_
  refine v_bipush (v := 40) hX dX0_countAt_60 (by decide) ?_
  refine v_imul hX dX0_countAt_62 ?_
  refine v_iload_n hX dX0_countAt_63 rfl 2 rfl ?_
  refine v_iadd hX dX0_countAt_64 ?_
  refine v_aload_n hX dX0_countAt_65 rfl 1 rfl ?_
  refine v_iload_n hX dX0_countAt_66 rfl 3 rfl ?_
  refine v_iload_n hX dX0_countAt_67 rfl 4 rfl ?_
  refine v_iload hX dX0_countAt_68 5 rfl ?_
  refine v_iconst (v := 0) hX dX0_countAt_70 (by decide) ?_
  obtain ⟨p1, hp1, h⟩ := bsome h
  refine v_callVL (o := 52) hX (mC_Leaving_waysOn hp1 l ad) kM_X0_waysOn kV_X0_waysOn km_0_65 (by decide) (fun _ => rfl) rfl rfl rfl (Nat.le_of_ble_eq_true rfl) (by decide) dX0_countAt_71 ?_
  refine asC_53 hX dX0_countAt_74 h (fun z2 h => ?_)
  refine v_aload_n hX dX0_countAt_75 rfl 1 rfl ?_
  refine gfC_52_2 hX kf_0_11 dX0_countAt_76 ?_
  refine v_sipush (v := 520) hX dX0_countAt_79 (by decide) ?_
  refine v_iload hX dX0_countAt_82 5 rfl ?_
  refine v_bipush (v := 40) hX dX0_countAt_84 (by decide) ?_
  refine v_imul hX dX0_countAt_86 ?_
  refine v_iadd hX dX0_countAt_87 ?_
  refine v_iload_n hX dX0_countAt_88 rfl 2 rfl ?_
  refine v_iadd hX dX0_countAt_89 ?_
  refine v_iload hX dX0_countAt_90 0 rfl ?_
  refine v_if_eq (tgt := 99) hX dX0_countAt_92 (by decide) h (fun h => ?_) (fun h => ?_)
  · refine v_iconst (v := 0) hX dX0_countAt_99 (by decide) ?_
    exact v_sub hX [1, 2, 3, 4, 5] (by rfl) (wC_Leaving_countAt_100 hX hR H21 h)
  · refine v_iconst (v := 1) hX dX0_countAt_95 (by decide) ?_
    refine v_goto (tgt := 100) hX dX0_countAt_96 (by decide) ?_
    exact v_sub hX [1, 2, 3, 4, 5] (by rfl) (wC_Leaving_countAt_100 hX hR H21 h)
noncomputable def gC_Leaving_countAt_51 (N : Nat) (r21 : Int32 → Int32 → Int32 → Int32 → vSt → Option (vSt)) (a1 : Int32) (a2 : Int32) (a3 : Int32) (a4 : Int32) (s : vSt) : Option (vSt) :=
  gC_Leaving_countAt_52 N r21 a1 a2 a3 a4 0 s
set_option maxRecDepth 4000 in
theorem wC_Leaving_countAt_51 {P : vP} {l : Launch} {ad : Nat → Nat} {N : Nat} {r21 : Int32 → Int32 → Int32 → Int32 → vSt → Option (vSt)} {t1 : vSt} (hX : vOK P l shC ad (vR 2 50) cX0_countAt RX0 6) (hR : (∀ pc lv, decode cX0_countAt pc = .ok (.return_, 1) → P t1 pc lv [])) (H21 : ∀ (a1 : Int32) (a2 : Int32) (a3 : Int32) (a4 : Int32) (s : vSt), r21 a1 a2 a3 a4 s = some t1 → P s 21 [(0, .ref (ad 52)), (1, .int a1), (2, .int a2), (3, .int a3), (4, .int a4)] []) {a1 : Int32} {a2 : Int32} {a3 : Int32} {a4 : Int32} {s : vSt} (h : gC_Leaving_countAt_51 N r21 a1 a2 a3 a4 s = some t1) : P s 51 [(0, .ref (ad 52)), (1, .int a1), (2, .int a2), (3, .int a3), (4, .int a4)] [] := by
  unfold gC_Leaving_countAt_51 at h
  refine v_iconst (v := 0) hX dX0_countAt_51 (by decide) ?_
  exact v_sub hX [0, 1, 2, 3, 4] (by rfl) (wC_Leaving_countAt_52 hX hR H21 h)
noncomputable def gC_Leaving_countAt_21 (N : Nat)  : Nat → Int32 → Int32 → Int32 → Int32 → vSt → Option (vSt)
  | 0, _, _, _, _, _ => none
  | n + 1, a1, a2, a3, a4, s =>
    if (s.1 52 4) < a4 then
      some s
    else
      if a4 = (s.1 52 4) then
        if a2 = (s.1 52 5) then
          gC_Leaving_countAt_52 N (gC_Leaving_countAt_21 N n) a1 a2 a3 a4 1 s
        else
          gC_Leaving_countAt_51 N (gC_Leaving_countAt_21 N n) a1 a2 a3 a4 s
      else
        gC_Leaving_countAt_51 N (gC_Leaving_countAt_21 N n) a1 a2 a3 a4 s
set_option maxRecDepth 4000 in
theorem wC_Leaving_countAt_21 {P : vP} {l : Launch} {ad : Nat → Nat} {N : Nat} {t1 : vSt} (hX : vOK P l shC ad (vR 2 50) cX0_countAt RX0 6) (hR : (∀ pc lv, decode cX0_countAt pc = .ok (.return_, 1) → P t1 pc lv []))  : ∀ (n : Nat) (a1 : Int32) (a2 : Int32) (a3 : Int32) (a4 : Int32) (s : vSt), gC_Leaving_countAt_21 N n a1 a2 a3 a4 s = some t1 → P s 21 [(0, .ref (ad 52)), (1, .int a1), (2, .int a2), (3, .int a3), (4, .int a4)] [] := by
  intro n
  induction n with
  | zero => intro a1 a2 a3 a4 s h; cases h
  | succ n ih =>
    intro a1 a2 a3 a4 s h
    unfold gC_Leaving_countAt_21 at h
    refine v_iload hX dX0_countAt_21 4 rfl ?_
    refine v_aload_n hX dX0_countAt_23 rfl 0 rfl ?_
    refine gfC_52_4 hX kf_0_40 dX0_countAt_24 ?_
    refine v_icmp_gt (tgt := 138) hX dX0_countAt_27 (by decide) h (fun h => ?_) (fun h => ?_)
    · exact v_retV hR h dX0_countAt_138
    · refine v_iload hX dX0_countAt_30 4 rfl ?_
      refine v_aload_n hX dX0_countAt_32 rfl 0 rfl ?_
      refine gfC_52_4 hX kf_0_40 dX0_countAt_33 ?_
      refine v_icmp_ne (tgt := 51) hX dX0_countAt_36 (by decide) h (fun h => ?_) (fun h => ?_)
      · refine v_iload_n hX dX0_countAt_39 rfl 2 rfl ?_
        refine v_aload_n hX dX0_countAt_40 rfl 0 rfl ?_
        refine gfC_52_5 hX kf_0_43 dX0_countAt_41 ?_
        refine v_icmp_ne (tgt := 51) hX dX0_countAt_44 (by decide) h (fun h => ?_) (fun h => ?_)
        · refine v_iconst (v := 1) hX dX0_countAt_47 (by decide) ?_
          refine v_goto (tgt := 52) hX dX0_countAt_48 (by decide) ?_
          exact v_sub hX [0, 1, 2, 3, 4] (by rfl) (wC_Leaving_countAt_52 hX hR ih h)
        · exact v_sub hX [0, 1, 2, 3, 4] (by rfl) (wC_Leaving_countAt_51 hX hR ih h)
      · exact v_sub hX [0, 1, 2, 3, 4] (by rfl) (wC_Leaving_countAt_51 hX hR ih h)
noncomputable def gC_Leaving_countAt_0 (N : Nat)  (a1 : Int32) (s : vSt) : Option (vSt) :=
  (fC_Roads_getterAt N a1 s).bind fun p1 =>
  (fC_Roads_readyAt N a1 p1.2).bind fun p2 =>
  gC_Leaving_countAt_21 N N a1 p1.1 p2.1 1 p2.2
set_option maxRecDepth 4000 in
theorem wC_Leaving_countAt_0 {P : vP} {l : Launch} {ad : Nat → Nat} {N : Nat} {t1 : vSt} (hX : vOK P l shC ad (vR 2 50) cX0_countAt RX0 6) (hR : (∀ pc lv, decode cX0_countAt pc = .ok (.return_, 1) → P t1 pc lv []))  {a1 : Int32} {s : vSt} (h : gC_Leaving_countAt_0 N a1 s = some t1) : P s 0 [(0, .ref (ad 52)), (1, .int a1)] [] := by
  unfold gC_Leaving_countAt_0 at h
  refine v_aload_n hX dX0_countAt_0 rfl 0 rfl ?_
  refine gfC_52_1 hX kf_0_29 dX0_countAt_1 ?_
  refine v_iload_n hX dX0_countAt_4 rfl 1 rfl ?_
  obtain ⟨p1, hp1, h⟩ := bsome h
  refine v_callVI (o := 9) hX (mC_Roads_getterAt hp1 l ad) kM_X6_getterAt kV_X6_getterAt km_0_58 (by decide) (fun _ => rfl) rfl rfl rfl (Nat.le_of_ble_eq_true rfl) (by decide) dX0_countAt_5 ?_
  refine v_istore_n (lv' := [(2, .int p1.1), (0, .ref (ad 52)), (1, .int a1)]) hX dX0_countAt_8 rfl (by decide) rfl ?_
  refine v_aload_n hX dX0_countAt_9 rfl 1 rfl ?_
  refine gfC_52_1 hX kf_0_29 dX0_countAt_10 ?_
  refine v_iload_n hX dX0_countAt_13 rfl 2 rfl ?_
  obtain ⟨p2, hp2, h⟩ := bsome h
  refine v_callVI (o := 9) hX (mC_Roads_readyAt hp2 l ad) kM_X6_readyAt kV_X6_readyAt km_0_62 (by decide) (fun _ => rfl) rfl rfl rfl (Nat.le_of_ble_eq_true rfl) (by decide) dX0_countAt_14 ?_
  refine v_istore_n (lv' := [(3, .int p2.1), (2, .int p1.1), (0, .ref (ad 52)), (1, .int a1)]) hX dX0_countAt_17 rfl (by decide) rfl ?_
  refine v_iconst (v := 1) hX dX0_countAt_18 (by decide) ?_
  refine v_istore (lv' := [(4, .int 1), (3, .int p2.1), (2, .int p1.1), (0, .ref (ad 52)), (1, .int a1)]) hX dX0_countAt_19 (by decide) rfl ?_
  exact v_sub hX [3, 4, 2, 1, 0] (by rfl) (wC_Leaving_countAt_21 hX hR  N _ _ _ _ _ h)
noncomputable def fC_Leaving_countAt (N : Nat) (a1 : Int32) (s : vSt) : Option (vSt) := gC_Leaving_countAt_0 N a1 s
theorem mC_Leaving_countAt {N : Nat} {a1 : Int32} {s : vSt} {t1 : vSt} (h : fC_Leaving_countAt N a1 s = some t1) (l : Launch) (ad : Nat → Nat) : vMV l shC ad yX0_countAt cX0_countAt 6 2 50 s [.ref (ad 52), .int a1] t1 :=
  vMV_of (by decide +kernel) (Nat.le_of_ble_eq_true rfl) (fun P hX hR => wC_Leaving_countAt_0 hX hR h)
-- C_Leaving_countAll_told
noncomputable def gC_Leaving_countAll_told_32 (N : Nat)  : Nat → Int32 → vSt → Option (vSt)
  | 0, _, _ => none
  | n + 1, a3, s =>
    if a3 < 0 then
      some s
    else
      (ld s 15 20 a3).bind fun v1 =>
      (fC_Leaving_countAt N ((2 : Int32) * v1) s).bind fun z2 =>
      (fC_Leaving_countAt N (((2 : Int32) * v1) + 1) z2).bind fun z3 =>
      (some (a3 + (-1) : Int32)).bind fun v4 =>
      gC_Leaving_countAll_told_32 N n v4 z3
set_option maxRecDepth 4000 in
theorem wC_Leaving_countAll_told_32 {P : vP} {l : Launch} {ad : Nat → Nat} {N : Nat} {t1 : vSt} (hX : vOK P l shC ad (vR 4 97) cX0_countAll RX0 5) (hR : (∀ pc lv, decode cX0_countAll pc = .ok (.return_, 1) → P t1 pc lv []))  : ∀ (n : Nat) (a3 : Int32) (s : vSt), gC_Leaving_countAll_told_32 N n a3 s = some t1 → P s 32 [(0, .ref (ad 52)), (3, .int a3)] [] := by
  intro n
  induction n with
  | zero => intro a3 s h; cases h
  | succ n ih =>
    intro a3 s h
    unfold gC_Leaving_countAll_told_32 at h
    refine v_iload_n hX dX0_countAll_32 rfl 1 rfl ?_
    refine v_if_lt (tgt := 71) hX dX0_countAll_33 (by decide) h (fun h => ?_) (fun h => ?_)
    · exact v_retV hR h dX0_countAll_71
    · refine v_aload_n hX dX0_countAll_36 rfl 0 rfl ?_
      refine gfC_52_1 hX kf_0_29 dX0_countAll_37 ?_
      refine gfC_9_5 hX kf_0_51 dX0_countAll_40 ?_
      refine v_iload_n hX dX0_countAll_43 rfl 1 rfl ?_
      refine alC_15 hX dX0_countAll_44 h (fun v1 h => ?_)
      refine v_istore (lv' := [(4, .int v1), (0, .ref (ad 52)), (3, .int a3)]) hX dX0_countAll_45 (by decide) rfl ?_
      refine v_aload_n hX dX0_countAll_47 rfl 1 rfl ?_
      refine v_iconst (v := 2) hX dX0_countAll_48 (by decide) ?_
      refine v_iload hX dX0_countAll_49 0 rfl ?_
      refine v_imul hX dX0_countAll_51 ?_
      obtain ⟨z2, hz2, h⟩ := bsome h
      refine v_callVV (o := 52) hX (mC_Leaving_countAt hz2 l ad) kM_X0_countAt kV_X0_countAt km_0_54 (by decide) (fun _ => rfl) rfl rfl rfl (Nat.le_of_ble_eq_true rfl) (by decide) dX0_countAll_52 ?_
      refine v_aload_n hX dX0_countAll_55 rfl 1 rfl ?_
      refine v_iconst (v := 2) hX dX0_countAll_56 (by decide) ?_
      refine v_iload hX dX0_countAll_57 0 rfl ?_
      refine v_imul hX dX0_countAll_59 ?_
      refine v_iconst (v := 1) hX dX0_countAll_60 (by decide) ?_
      refine v_iadd hX dX0_countAll_61 ?_
      obtain ⟨z3, hz3, h⟩ := bsome h
      refine v_callVV (o := 52) hX (mC_Leaving_countAt hz3 l ad) kM_X0_countAt kV_X0_countAt km_0_54 (by decide) (fun _ => rfl) rfl rfl rfl (Nat.le_of_ble_eq_true rfl) (by decide) dX0_countAll_62 ?_
      refine v_iincN hX dX0_countAll_65 (j := 2) rfl (c := (-1)) (by decide) (by decide) h (fun v4 h => ?_)
      refine v_show (lv' := [(3, .int v4), (4, .int v1), (0, .ref (ad 52))]) hX rfl ?_
      refine v_goto (tgt := 32) hX dX0_countAll_68 (by decide) ?_
      exact v_sub hX [2, 0] (by rfl) (ih _ _ h)
noncomputable def gC_Leaving_countAll_told_0 (N : Nat)  (a2 : Int32) (s : vSt) : Option (vSt) :=
  (fC_Tales_judge_told N a2 s).bind fun z1 =>
  (some (s1 z1 52 4 (z1.1 5 1))).bind fun z2 =>
  (some (s1 z2 52 5 a2)).bind fun z3 =>
  (some ((z3.1 9 7) - 1 : Int32)).bind fun v4 =>
  gC_Leaving_countAll_told_32 N N v4 z3
set_option maxRecDepth 4000 in
theorem wC_Leaving_countAll_told_0 {P : vP} {l : Launch} {ad : Nat → Nat} {N : Nat} {t1 : vSt} (hX : vOK P l shC ad (vR 4 97) cX0_countAll RX0 5) (hR : (∀ pc lv, decode cX0_countAll pc = .ok (.return_, 1) → P t1 pc lv []))  {a2 : Int32} {s : vSt} (h : gC_Leaving_countAll_told_0 N a2 s = some t1) : P s 0 [(0, .ref (ad 52)), (1, .ref (ad 5)), (2, .int a2)] [] := by
  unfold gC_Leaving_countAll_told_0 at h
  refine v_aload_n hX dX0_countAll_0 rfl 0 rfl ?_
  refine gfC_52_0 hX kf_0_19 dX0_countAll_1 ?_
  refine v_aload_n hX dX0_countAll_4 rfl 1 rfl ?_
  refine v_iload_n hX dX0_countAll_5 rfl 2 rfl ?_
  obtain ⟨z1, hz1, h⟩ := bsome h
  refine v_callVV (o := 46) hX (mC_Tales_judge_told hz1 l ad) kM_X9_judge kV_X9_judge km_0_30 (by decide) (fun _ => rfl) rfl rfl rfl (Nat.le_of_ble_eq_true rfl) (by decide) dX0_countAll_6 ?_
  refine v_aload_n hX dX0_countAll_9 rfl 0 rfl ?_
  refine v_aload_n hX dX0_countAll_10 rfl 1 rfl ?_
  refine gfC_5_1 hX kf_0_34 dX0_countAll_11 ?_
  refine pfC_52_4 hX kf_0_40 dX0_countAll_14 h (fun z2 h => ?_)
  refine v_aload_n hX dX0_countAll_17 rfl 0 rfl ?_
  refine v_iload_n hX dX0_countAll_18 rfl 2 rfl ?_
  refine pfC_52_5 hX kf_0_43 dX0_countAll_19 h (fun z3 h => ?_)
  refine v_aload_n hX dX0_countAll_22 rfl 0 rfl ?_
  refine gfC_52_1 hX kf_0_29 dX0_countAll_23 ?_
  refine gfC_9_7 hX kf_0_46 dX0_countAll_26 ?_
  refine v_iconst (v := 1) hX dX0_countAll_29 (by decide) ?_
  refine v_isub hX dX0_countAll_30 ?_
  refine v_nmI hX h (fun v4 h => ?_)
  refine v_istore_n (lv' := [(3, .int v4), (0, .ref (ad 52)), (1, .ref (ad 5)), (2, .int a2)]) hX dX0_countAll_31 rfl (by decide) rfl ?_
  exact v_sub hX [1, 0] (by rfl) (wC_Leaving_countAll_told_32 hX hR  N _ _ h)
noncomputable def fC_Leaving_countAll_told (N : Nat) (a2 : Int32) (s : vSt) : Option (vSt) := gC_Leaving_countAll_told_0 N a2 s
theorem mC_Leaving_countAll_told {N : Nat} {a2 : Int32} {s : vSt} {t1 : vSt} (h : fC_Leaving_countAll_told N a2 s = some t1) (l : Launch) (ad : Nat → Nat) : vMV l shC ad yX0_countAll cX0_countAll 5 4 97 s [.ref (ad 52), .ref (ad 5), .int a2] t1 :=
  vMV_of (by decide +kernel) (Nat.le_of_ble_eq_true rfl) (fun P hX hR => wC_Leaving_countAll_told_0 hX hR h)
-- C_EachAddsALine_missing
noncomputable def gC_EachAddsALine_missing_0 (N : Nat)  (a1 : Int32) (a2 : Int32) (a3 : Int32) (s : vSt) : Option (Int64 × vSt) :=
  (fC_EachAddsALine_isTrip N a1 a2 a3 s).bind fun p1 =>
  if p1.1 = 0 then
    some ((-1), p1.2)
  else
    if (p1.2.1 5 1) = 0 then
      some ((-2), p1.2)
    else
      (fC_Leaving_countAll_told N a2 p1.2).bind fun z2 =>
      (fC_Numbers_clear_row N z2).bind fun z3 =>
      (fC_Leaving_leavers N a1 a3 1 z3).bind fun p4 =>
      (fC_Numbers_add_row N p4.1 p4.2).bind fun z5 =>
      (fC_Leaving_waysOn N a1 a3 1 0 z5).bind fun p6 =>
      some (p6.1, p6.2)
set_option maxRecDepth 4000 in
theorem wC_EachAddsALine_missing_0 {P : vP} {l : Launch} {ad : Nat → Nat} {N : Nat} {r : Int64} {t1 : vSt} (hX : vOK P l shC ad (vR 5 121) cX11_missing RX11 4) (hR : (∀ pc lv, decode cX11_missing pc = .ok (.lreturn, 1) → P t1 pc lv [.long r]))  {a1 : Int32} {a2 : Int32} {a3 : Int32} {s : vSt} (h : gC_EachAddsALine_missing_0 N a1 a2 a3 s = some (r, t1)) : P s 0 [(0, .ref (ad 0)), (1, .int a1), (2, .int a2), (3, .int a3)] [] := by
  unfold gC_EachAddsALine_missing_0 at h
  refine v_aload_n hX dX11_missing_0 rfl 0 rfl ?_
  refine v_iload_n hX dX11_missing_1 rfl 1 rfl ?_
  refine v_iload_n hX dX11_missing_2 rfl 2 rfl ?_
  refine v_iload_n hX dX11_missing_3 rfl 3 rfl ?_
  obtain ⟨p1, hp1, h⟩ := bsome h
  refine v_callVI (o := 0) hX (mC_EachAddsALine_isTrip hp1 l ad) kM_X11_isTrip kV_X11_isTrip km_11_201 (by decide) (fun _ => rfl) rfl rfl rfl (Nat.le_of_ble_eq_true rfl) (by decide) dX11_missing_4 ?_
  refine v_if_ne (tgt := 14) hX dX11_missing_7 (by decide) h (fun h => ?_) (fun h => ?_)
  · refine v_ldc2 hX kc_11_229 dX11_missing_10 ?_
    exact v_retL hR h dX11_missing_13
  · refine v_aload_n hX dX11_missing_14 rfl 0 rfl ?_
    refine gfC_0_8 hX kf_11_73 dX11_missing_15 ?_
    refine gfC_5_1 hX kf_11_270 dX11_missing_18 ?_
    refine v_if_ne (tgt := 28) hX dX11_missing_21 (by decide) h (fun h => ?_) (fun h => ?_)
    · refine v_ldc2 hX kc_11_276 dX11_missing_24 ?_
      exact v_retL hR h dX11_missing_27
    · refine v_aload_n hX dX11_missing_28 rfl 0 rfl ?_
      refine gfC_0_11 hX kf_11_91 dX11_missing_29 ?_
      refine v_aload_n hX dX11_missing_32 rfl 0 rfl ?_
      refine gfC_0_8 hX kf_11_73 dX11_missing_33 ?_
      refine v_iload_n hX dX11_missing_36 rfl 2 rfl ?_
      obtain ⟨z2, hz2, h⟩ := bsome h
      refine v_callVV (o := 52) hX (mC_Leaving_countAll_told hz2 l ad) kM_X0_countAll kV_X0_countAll km_11_300 (by decide) (fun _ => rfl) rfl rfl rfl (Nat.le_of_ble_eq_true rfl) (by decide) dX11_missing_37 ?_
      refine v_aload_n hX dX11_missing_40 rfl 0 rfl ?_
      refine gfC_0_1 hX kf_11_19 dX11_missing_41 ?_
      obtain ⟨z3, hz3, h⟩ := bsome h
      refine v_callVV (o := 3) hX (mC_Numbers_clear_row hz3 l ad) kM_X2_clear kV_X2_clear km_11_176 (by decide) (fun _ => rfl) rfl rfl rfl (Nat.le_of_ble_eq_true rfl) (by decide) dX11_missing_44 ?_
      refine v_aload_n hX dX11_missing_47 rfl 0 rfl ?_
      refine gfC_0_1 hX kf_11_19 dX11_missing_48 ?_
      refine v_aload_n hX dX11_missing_51 rfl 0 rfl ?_
      refine gfC_0_11 hX kf_11_91 dX11_missing_52 ?_
      refine v_iload_n hX dX11_missing_55 rfl 1 rfl ?_
      refine v_iload_n hX dX11_missing_56 rfl 3 rfl ?_
      refine v_iconst (v := 1) hX dX11_missing_57 (by decide) ?_
      obtain ⟨p4, hp4, h⟩ := bsome h
      refine v_callVI (o := 52) hX (mC_Leaving_leavers hp4 l ad) kM_X0_leavers kV_X0_leavers km_11_303 (by decide) (fun _ => rfl) rfl rfl rfl (Nat.le_of_ble_eq_true rfl) (by decide) dX11_missing_58 ?_
      obtain ⟨z5, hz5, h⟩ := bsome h
      refine v_callVV (o := 3) hX (mC_Numbers_add_row hz5 l ad) kM_X2_add kV_X2_add km_11_182 (by decide) (fun _ => rfl) rfl rfl rfl (Nat.le_of_ble_eq_true rfl) (by decide) dX11_missing_61 ?_
      refine v_aload_n hX dX11_missing_64 rfl 0 rfl ?_
      refine gfC_0_11 hX kf_11_91 dX11_missing_65 ?_
      refine v_iload_n hX dX11_missing_68 rfl 1 rfl ?_
      refine v_iload_n hX dX11_missing_69 rfl 3 rfl ?_
      refine v_iconst (v := 1) hX dX11_missing_70 (by decide) ?_
      refine v_iconst (v := 0) hX dX11_missing_71 (by decide) ?_
      obtain ⟨p6, hp6, h⟩ := bsome h
      refine v_callVL (o := 52) hX (mC_Leaving_waysOn hp6 l ad) kM_X0_waysOn kV_X0_waysOn km_11_306 (by decide) (fun _ => rfl) rfl rfl rfl (Nat.le_of_ble_eq_true rfl) (by decide) dX11_missing_72 ?_
      exact v_retL hR h dX11_missing_75
noncomputable def fC_EachAddsALine_missing (N : Nat) (a1 : Int32) (a2 : Int32) (a3 : Int32) (s : vSt) : Option (Int64 × vSt) := gC_EachAddsALine_missing_0 N a1 a2 a3 s
theorem mC_EachAddsALine_missing {N : Nat} {a1 : Int32} {a2 : Int32} {a3 : Int32} {s : vSt} {r : Int64} {t1 : vSt} (h : fC_EachAddsALine_missing N a1 a2 a3 s = some (r, t1)) (l : Launch) (ad : Nat → Nat) : vML l shC ad yX11_missing cX11_missing 4 5 121 s [.ref (ad 0), .int a1, .int a2, .int a3] r t1 :=
  vML_of (by decide +kernel) (Nat.le_of_ble_eq_true rfl) (fun P hX hR => wC_EachAddsALine_missing_0 hX hR h)
-- C_Tales_liesBy
noncomputable def gC_Tales_liesBy_92 (N : Nat)  (k0 : Int32) (k1 : Int32) (s : vSt) : Option (Int32 × vSt) :=
  some (k0 + k1, s)
set_option maxRecDepth 4000 in
theorem wC_Tales_liesBy_92 {P : vP} {l : Launch} {ad : Nat → Nat} {N : Nat} {r : Int32} {t1 : vSt} (hX : vOK P l shC ad (vR 1 22) cX9_liesBy RX9 7) (hR : (∀ pc lv, narrow .int (.int r) = .int r → decode cX9_liesBy pc = .ok (.ireturn, 1) → P t1 pc lv [.int r]))  {k0 : Int32} {k1 : Int32} {s : vSt} (h : gC_Tales_liesBy_92 N k0 k1 s = some (r, t1)) : P s 92 [] [.int k1, .int k0] := by
  unfold gC_Tales_liesBy_92 at h
  refine v_iadd hX dX9_liesBy_92 ?_
  exact v_retI hR h dX9_liesBy_93
noncomputable def gC_Tales_liesBy_0 (N : Nat)  (a1 : Int32) (a2 : Int32) (a3 : Int32) (a4 : Int32) (s : vSt) : Option (Int32 × vSt) :=
  (fC_Roads_isAt N a2 a1 s).bind fun p1 =>
  if p1.1 = 0 then
    some (1048576, p1.2)
  else
    (ld p1.2 13 20 a1).bind fun v2 =>
    if a3 ≤ v2 then
      (fC_Roads_otherAt N a1 a2 p1.2).bind fun p3 =>
      (fC_Roads_placeOf N a1 p3.1 p3.2).bind fun p4 =>
      (ld p4.2 51 480 ((a4 * 40) + p4.1)).bind fun v5 =>
      if v5 = 1048576 then
        some (1048576, p4.2)
      else
        (fC_Tales_isRight N a4 p4.1 p4.2).bind fun p6 =>
        if p6.1 = 0 then
          gC_Tales_liesBy_92 N v5 1 p6.2
        else
          gC_Tales_liesBy_92 N v5 0 p6.2
    else
      some (1048576, p1.2)
set_option maxRecDepth 4000 in
theorem wC_Tales_liesBy_0 {P : vP} {l : Launch} {ad : Nat → Nat} {N : Nat} {r : Int32} {t1 : vSt} (hX : vOK P l shC ad (vR 1 22) cX9_liesBy RX9 7) (hR : (∀ pc lv, narrow .int (.int r) = .int r → decode cX9_liesBy pc = .ok (.ireturn, 1) → P t1 pc lv [.int r]))  {a1 : Int32} {a2 : Int32} {a3 : Int32} {a4 : Int32} {s : vSt} (h : gC_Tales_liesBy_0 N a1 a2 a3 a4 s = some (r, t1)) : P s 0 [(0, .ref (ad 46)), (1, .int a1), (2, .int a2), (3, .int a3), (4, .int a4)] [] := by
  unfold gC_Tales_liesBy_0 at h
  refine v_aload_n hX dX9_liesBy_0 rfl 0 rfl ?_
  refine gfC_46_2 hX kf_9_29 dX9_liesBy_1 ?_
  refine v_iload_n hX dX9_liesBy_4 rfl 2 rfl ?_
  refine v_iload_n hX dX9_liesBy_5 rfl 1 rfl ?_
  obtain ⟨p1, hp1, h⟩ := bsome h
  refine v_callVI (o := 9) hX (mC_Roads_isAt hp1 l ad) kM_X6_isAt kV_X6_isAt km_9_101 (by decide) (fun _ => rfl) rfl rfl rfl (Nat.le_of_ble_eq_true rfl) (by decide) dX9_liesBy_6 ?_
  refine v_if_eq (tgt := 25) hX dX9_liesBy_9 (by decide) h (fun h => ?_) (fun h => ?_)
  · refine v_ldc hX kc_9_142 dX9_liesBy_25 ?_
    exact v_retI hR h dX9_liesBy_27
  · refine v_aload_n hX dX9_liesBy_12 rfl 0 rfl ?_
    refine gfC_46_2 hX kf_9_29 dX9_liesBy_13 ?_
    refine gfC_9_3 hX kf_9_71 dX9_liesBy_16 ?_
    refine v_iload_n hX dX9_liesBy_19 rfl 1 rfl ?_
    refine alC_13 hX dX9_liesBy_20 h (fun v2 h => ?_)
    refine v_iload_n hX dX9_liesBy_21 rfl 3 rfl ?_
    refine v_icmp_ge (tgt := 28) hX dX9_liesBy_22 (by decide) h (fun h => ?_) (fun h => ?_)
    · refine v_aload_n hX dX9_liesBy_28 rfl 0 rfl ?_
      refine gfC_46_2 hX kf_9_29 dX9_liesBy_29 ?_
      refine v_iload_n hX dX9_liesBy_32 rfl 1 rfl ?_
      refine v_aload_n hX dX9_liesBy_33 rfl 0 rfl ?_
      refine gfC_46_2 hX kf_9_29 dX9_liesBy_34 ?_
      refine v_iload_n hX dX9_liesBy_37 rfl 1 rfl ?_
      refine v_iload_n hX dX9_liesBy_38 rfl 2 rfl ?_
      obtain ⟨p3, hp3, h⟩ := bsome h
      refine v_callVI (o := 9) hX (mC_Roads_otherAt hp3 l ad) kM_X6_otherAt kV_X6_otherAt km_9_67 (by decide) (fun _ => rfl) rfl rfl rfl (Nat.le_of_ble_eq_true rfl) (by decide) dX9_liesBy_39 ?_
      obtain ⟨p4, hp4, h⟩ := bsome h
      refine v_callVI (o := 9) hX (mC_Roads_placeOf hp4 l ad) kM_X6_placeOf kV_X6_placeOf km_9_104 (by decide) (fun _ => rfl) rfl rfl rfl (Nat.le_of_ble_eq_true rfl) (by decide) dX9_liesBy_42 ?_
      refine v_istore (lv' := [(5, .int p4.1), (0, .ref (ad 46)), (1, .int a1), (2, .int a2), (3, .int a3), (4, .int a4)]) hX dX9_liesBy_45 (by decide) rfl ?_
      refine v_aload_n hX dX9_liesBy_47 rfl 1 rfl ?_
      refine gfC_46_8 hX kf_9_26 dX9_liesBy_48 ?_
      refine v_iload hX dX9_liesBy_51 5 rfl ?_
      refine v_bipush (v := 40) hX dX9_liesBy_53 (by decide) ?_
      refine v_imul hX dX9_liesBy_55 ?_
      refine v_iload hX dX9_liesBy_56 0 rfl ?_
      refine v_iadd hX dX9_liesBy_58 ?_
      refine alC_51 hX dX9_liesBy_59 h (fun v5 h => ?_)
      refine v_istore (lv' := [(6, .int v5), (5, .int p4.1), (0, .ref (ad 46)), (1, .int a1), (2, .int a2), (3, .int a3), (4, .int a4)]) hX dX9_liesBy_60 (by decide) rfl ?_
      refine v_iload hX dX9_liesBy_62 0 rfl ?_
      refine v_ldc hX kc_9_142 dX9_liesBy_64 ?_
      refine v_icmp_ne (tgt := 74) hX dX9_liesBy_66 (by decide) h (fun h => ?_) (fun h => ?_)
      · refine v_ldc hX kc_9_142 dX9_liesBy_69 ?_
        refine v_goto (tgt := 93) hX dX9_liesBy_71 (by decide) ?_
        exact v_retI hR h dX9_liesBy_93
      · refine v_iload hX dX9_liesBy_74 0 rfl ?_
        refine v_aload_n hX dX9_liesBy_76 rfl 2 rfl ?_
        refine v_iload hX dX9_liesBy_77 6 rfl ?_
        refine v_iload hX dX9_liesBy_79 1 rfl ?_
        obtain ⟨p6, hp6, h⟩ := bsome h
        refine v_callVI (o := 46) hX (mC_Tales_isRight hp6 l ad) kM_X9_isRight kV_X9_isRight km_9_82 (by decide) (fun _ => rfl) rfl rfl rfl (Nat.le_of_ble_eq_true rfl) (by decide) dX9_liesBy_81 ?_
        refine v_if_eq (tgt := 91) hX dX9_liesBy_84 (by decide) h (fun h => ?_) (fun h => ?_)
        · refine v_iconst (v := 1) hX dX9_liesBy_91 (by decide) ?_
          exact v_sub hX [] (by rfl) (wC_Tales_liesBy_92 hX hR  h)
        · refine v_iconst (v := 0) hX dX9_liesBy_87 (by decide) ?_
          refine v_goto (tgt := 92) hX dX9_liesBy_88 (by decide) ?_
          exact v_sub hX [] (by rfl) (wC_Tales_liesBy_92 hX hR  h)
    · refine v_ldc hX kc_9_142 dX9_liesBy_25 ?_
      exact v_retI hR h dX9_liesBy_27
noncomputable def fC_Tales_liesBy (N : Nat) (a1 : Int32) (a2 : Int32) (a3 : Int32) (a4 : Int32) (s : vSt) : Option (Int32 × vSt) := gC_Tales_liesBy_0 N a1 a2 a3 a4 s
theorem mC_Tales_liesBy {N : Nat} {a1 : Int32} {a2 : Int32} {a3 : Int32} {a4 : Int32} {s : vSt} {r : Int32} {t1 : vSt} (h : fC_Tales_liesBy N a1 a2 a3 a4 s = some (r, t1)) (l : Launch) (ad : Nat → Nat) : vMI l shC ad yX9_liesBy cX9_liesBy 7 .int 1 22 s [.ref (ad 46), .int a1, .int a2, .int a3, .int a4] r t1 :=
  vMI_of (by decide +kernel) (Nat.le_of_ble_eq_true rfl) (fun P hX hR => wC_Tales_liesBy_0 hX hR h)
-- C_Tales_fewestFrom
noncomputable def gC_Tales_fewestFrom_7 (N : Nat)  : Nat → Int32 → Int32 → Int32 → Int32 → Int32 → vSt → Option (Int32 × vSt)
  | 0, _, _, _, _, _, _ => none
  | n + 1, a1, a2, a3, a4, a5, s =>
    if (s.1 9 7) ≤ a5 then
      some (a4, s)
    else
      (fC_Tales_liesBy N a5 a1 a2 a3 s).bind fun p1 =>
      (some (if a4 > p1.1 then p1.1 else a4 : Int32)).bind fun v2 =>
      (some (a5 + 1 : Int32)).bind fun v3 =>
      gC_Tales_fewestFrom_7 N n a1 a2 a3 v2 v3 p1.2
set_option maxRecDepth 4000 in
theorem wC_Tales_fewestFrom_7 {P : vP} {l : Launch} {ad : Nat → Nat} {N : Nat} {r : Int32} {t1 : vSt} (hX : vOK P l shC ad (vR 2 48) cX9_fewestFrom RX9 6) (hR : (∀ pc lv, narrow .int (.int r) = .int r → decode cX9_fewestFrom pc = .ok (.ireturn, 1) → P t1 pc lv [.int r]))  : ∀ (n : Nat) (a1 : Int32) (a2 : Int32) (a3 : Int32) (a4 : Int32) (a5 : Int32) (s : vSt), gC_Tales_fewestFrom_7 N n a1 a2 a3 a4 a5 s = some (r, t1) → P s 7 [(0, .ref (ad 46)), (1, .int a1), (2, .int a2), (3, .int a3), (4, .int a4), (5, .int a5)] [] := by
  intro n
  induction n with
  | zero => intro a1 a2 a3 a4 a5 s h; cases h
  | succ n ih =>
    intro a1 a2 a3 a4 a5 s h
    unfold gC_Tales_fewestFrom_7 at h
    refine v_iload hX dX9_fewestFrom_7 5 rfl ?_
    refine v_aload_n hX dX9_fewestFrom_9 rfl 0 rfl ?_
    refine gfC_46_2 hX kf_9_29 dX9_fewestFrom_10 ?_
    refine gfC_9_7 hX kf_9_58 dX9_fewestFrom_13 ?_
    refine v_icmp_ge (tgt := 41) hX dX9_fewestFrom_16 (by decide) h (fun h => ?_) (fun h => ?_)
    · refine v_iload hX dX9_fewestFrom_41 4 rfl ?_
      exact v_retI hR h dX9_fewestFrom_43
    · refine v_iload hX dX9_fewestFrom_19 4 rfl ?_
      refine v_aload_n hX dX9_fewestFrom_21 rfl 0 rfl ?_
      refine v_iload hX dX9_fewestFrom_22 5 rfl ?_
      refine v_iload_n hX dX9_fewestFrom_24 rfl 1 rfl ?_
      refine v_iload_n hX dX9_fewestFrom_25 rfl 2 rfl ?_
      refine v_iload_n hX dX9_fewestFrom_26 rfl 3 rfl ?_
      obtain ⟨p1, hp1, h⟩ := bsome h
      refine v_callVI (o := 46) hX (mC_Tales_liesBy hp1 l ad) kM_X9_liesBy kV_X9_liesBy km_9_146 (by decide) (fun _ => rfl) rfl rfl rfl (Nat.le_of_ble_eq_true rfl) (by decide) dX9_fewestFrom_27 ?_
      refine v_min hX km_9_149 kS_J9_min_7cf53 kI_Math kC_min (Nat.le_of_ble_eq_true rfl) (Nat.le_of_ble_eq_true rfl) dX9_fewestFrom_30 ?_
      refine v_nmI hX h (fun v2 h => ?_)
      refine v_istore (lv' := [(4, .int v2), (0, .ref (ad 46)), (1, .int a1), (2, .int a2), (3, .int a3), (5, .int a5)]) hX dX9_fewestFrom_33 (by decide) rfl ?_
      refine v_iincN hX dX9_fewestFrom_35 (j := 5) rfl (c := 1) (by decide) (by decide) h (fun v3 h => ?_)
      refine v_show (lv' := [(5, .int v3), (4, .int v2), (0, .ref (ad 46)), (1, .int a1), (2, .int a2), (3, .int a3)]) hX rfl ?_
      refine v_goto (tgt := 7) hX dX9_fewestFrom_38 (by decide) ?_
      exact v_sub hX [2, 3, 4, 5, 1, 0] (by rfl) (ih _ _ _ _ _ _ h)
noncomputable def gC_Tales_fewestFrom_0 (N : Nat)  (a1 : Int32) (a2 : Int32) (a3 : Int32) (s : vSt) : Option (Int32 × vSt) :=
  gC_Tales_fewestFrom_7 N N a1 a2 a3 1048576 0 s
set_option maxRecDepth 4000 in
theorem wC_Tales_fewestFrom_0 {P : vP} {l : Launch} {ad : Nat → Nat} {N : Nat} {r : Int32} {t1 : vSt} (hX : vOK P l shC ad (vR 2 48) cX9_fewestFrom RX9 6) (hR : (∀ pc lv, narrow .int (.int r) = .int r → decode cX9_fewestFrom pc = .ok (.ireturn, 1) → P t1 pc lv [.int r]))  {a1 : Int32} {a2 : Int32} {a3 : Int32} {s : vSt} (h : gC_Tales_fewestFrom_0 N a1 a2 a3 s = some (r, t1)) : P s 0 [(0, .ref (ad 46)), (1, .int a1), (2, .int a2), (3, .int a3)] [] := by
  unfold gC_Tales_fewestFrom_0 at h
  refine v_ldc hX kc_9_142 dX9_fewestFrom_0 ?_
  refine v_istore (lv' := [(4, .int 1048576), (0, .ref (ad 46)), (1, .int a1), (2, .int a2), (3, .int a3)]) hX dX9_fewestFrom_2 (by decide) rfl ?_
  refine v_iconst (v := 0) hX dX9_fewestFrom_4 (by decide) ?_
  refine v_istore (lv' := [(5, .int 0), (4, .int 1048576), (0, .ref (ad 46)), (1, .int a1), (2, .int a2), (3, .int a3)]) hX dX9_fewestFrom_5 (by decide) rfl ?_
  exact v_sub hX [2, 3, 4, 5, 1, 0] (by rfl) (wC_Tales_fewestFrom_7 hX hR  N _ _ _ _ _ _ h)
noncomputable def fC_Tales_fewestFrom (N : Nat) (a1 : Int32) (a2 : Int32) (a3 : Int32) (s : vSt) : Option (Int32 × vSt) := gC_Tales_fewestFrom_0 N a1 a2 a3 s
theorem mC_Tales_fewestFrom {N : Nat} {a1 : Int32} {a2 : Int32} {a3 : Int32} {s : vSt} {r : Int32} {t1 : vSt} (h : fC_Tales_fewestFrom N a1 a2 a3 s = some (r, t1)) (l : Launch) (ad : Nat → Nat) : vMI l shC ad yX9_fewestFrom cX9_fewestFrom 6 .int 2 48 s [.ref (ad 46), .int a1, .int a2, .int a3] r t1 :=
  vMI_of (by decide +kernel) (Nat.le_of_ble_eq_true rfl) (fun P hX hR => wC_Tales_fewestFrom_0 hX hR h)
-- C_Tales_liesAt
noncomputable def gC_Tales_liesAt_0 (N : Nat)  (a1 : Int32) (a2 : Int32) (s : vSt) : Option (Int32 × vSt) :=
  (fC_Roads_getterAt N a2 s).bind fun p1 =>
  if a1 = ((p1.2.1 46 9) - 1) then
    if p1.1 = (p1.2.1 46 10) then
      some (0, p1.2)
    else
      some (1048576, p1.2)
  else
    (fC_Roads_readyAt N a2 p1.2).bind fun p2 =>
    (fC_Tales_fewestFrom N p1.1 p2.1 (a1 + 1) p2.2).bind fun p3 =>
    some (p3.1, p3.2)
set_option maxRecDepth 4000 in
theorem wC_Tales_liesAt_0 {P : vP} {l : Launch} {ad : Nat → Nat} {N : Nat} {r : Int32} {t1 : vSt} (hX : vOK P l shC ad (vR 3 73) cX9_liesAt RX9 4) (hR : (∀ pc lv, narrow .int (.int r) = .int r → decode cX9_liesAt pc = .ok (.ireturn, 1) → P t1 pc lv [.int r]))  {a1 : Int32} {a2 : Int32} {s : vSt} (h : gC_Tales_liesAt_0 N a1 a2 s = some (r, t1)) : P s 0 [(0, .ref (ad 46)), (1, .int a1), (2, .int a2)] [] := by
  unfold gC_Tales_liesAt_0 at h
  refine v_aload_n hX dX9_liesAt_0 rfl 0 rfl ?_
  refine gfC_46_2 hX kf_9_29 dX9_liesAt_1 ?_
  refine v_iload_n hX dX9_liesAt_4 rfl 2 rfl ?_
  obtain ⟨p1, hp1, h⟩ := bsome h
  refine v_callVI (o := 9) hX (mC_Roads_getterAt hp1 l ad) kM_X6_getterAt kV_X6_getterAt km_9_63 (by decide) (fun _ => rfl) rfl rfl rfl (Nat.le_of_ble_eq_true rfl) (by decide) dX9_liesAt_5 ?_
  refine v_istore_n (lv' := [(3, .int p1.1), (0, .ref (ad 46)), (1, .int a1), (2, .int a2)]) hX dX9_liesAt_8 rfl (by decide) rfl ?_
  refine v_iload_n hX dX9_liesAt_9 rfl 2 rfl ?_
  refine v_aload_n hX dX9_liesAt_10 rfl 1 rfl ?_
  refine gfC_46_9 hX kf_9_37 dX9_liesAt_11 ?_
  refine v_iconst (v := 1) hX dX9_liesAt_14 (by decide) ?_
  refine v_isub hX dX9_liesAt_15 ?_
  refine v_icmp_ne (tgt := 34) hX dX9_liesAt_16 (by decide) h (fun h => ?_) (fun h => ?_)
  · refine v_iload_n hX dX9_liesAt_19 rfl 0 rfl ?_
    refine v_aload_n hX dX9_liesAt_20 rfl 1 rfl ?_
    refine gfC_46_10 hX kf_9_46 dX9_liesAt_21 ?_
    refine v_icmp_ne (tgt := 31) hX dX9_liesAt_24 (by decide) h (fun h => ?_) (fun h => ?_)
    · refine v_iconst (v := 0) hX dX9_liesAt_27 (by decide) ?_
      refine v_goto (tgt := 33) hX dX9_liesAt_28 (by decide) ?_
      exact v_retI hR h dX9_liesAt_33
    · refine v_ldc hX kc_9_142 dX9_liesAt_31 ?_
      exact v_retI hR h dX9_liesAt_33
  · refine v_aload_n hX dX9_liesAt_34 rfl 1 rfl ?_
    refine v_iload_n hX dX9_liesAt_35 rfl 0 rfl ?_
    refine v_aload_n hX dX9_liesAt_36 rfl 1 rfl ?_
    refine gfC_46_2 hX kf_9_29 dX9_liesAt_37 ?_
    refine v_iload_n hX dX9_liesAt_40 rfl 3 rfl ?_
    obtain ⟨p2, hp2, h⟩ := bsome h
    refine v_callVI (o := 9) hX (mC_Roads_readyAt hp2 l ad) kM_X6_readyAt kV_X6_readyAt km_9_90 (by decide) (fun _ => rfl) rfl rfl rfl (Nat.le_of_ble_eq_true rfl) (by decide) dX9_liesAt_41 ?_
    refine v_iload_n hX dX9_liesAt_44 rfl 2 rfl ?_
    refine v_iconst (v := 1) hX dX9_liesAt_45 (by decide) ?_
    refine v_iadd hX dX9_liesAt_46 ?_
    obtain ⟨p3, hp3, h⟩ := bsome h
    refine v_callVI (o := 46) hX (mC_Tales_fewestFrom hp3 l ad) kM_X9_fewestFrom kV_X9_fewestFrom km_9_143 (by decide) (fun _ => rfl) rfl rfl rfl (Nat.le_of_ble_eq_true rfl) (by decide) dX9_liesAt_47 ?_
    exact v_retI hR h dX9_liesAt_50
noncomputable def fC_Tales_liesAt (N : Nat) (a1 : Int32) (a2 : Int32) (s : vSt) : Option (Int32 × vSt) := gC_Tales_liesAt_0 N a1 a2 s
theorem mC_Tales_liesAt {N : Nat} {a1 : Int32} {a2 : Int32} {s : vSt} {r : Int32} {t1 : vSt} (h : fC_Tales_liesAt N a1 a2 s = some (r, t1)) (l : Launch) (ad : Nat → Nat) : vMI l shC ad yX9_liesAt cX9_liesAt 4 .int 3 73 s [.ref (ad 46), .int a1, .int a2] r t1 :=
  vMI_of (by decide +kernel) (Nat.le_of_ble_eq_true rfl) (fun P hX hR => wC_Tales_liesAt_0 hX hR h)
-- C_Tales_weighLies_told
noncomputable def gC_Tales_weighLies_told_21 (N : Nat) (r13 : Int32 → vSt → Option (vSt)) : Nat → Int32 → Int32 → vSt → Option (vSt)
  | 0, _, _, _ => none
  | n + 1, a3, a4, s =>
    if ((2 : Int32) * (s.1 9 7)) ≤ a4 then
      (some (a3 + (-1) : Int32)).bind fun v1 =>
      r13 v1 s
    else
      (fC_Tales_liesAt N a3 a4 s).bind fun p2 =>
      (sto p2.2 51 480 ((a3 * 40) + a4) p2.1).bind fun z3 =>
      (some (a4 + 1 : Int32)).bind fun v4 =>
      gC_Tales_weighLies_told_21 N r13 n a3 v4 z3
set_option maxRecDepth 4000 in
theorem wC_Tales_weighLies_told_21 {P : vP} {l : Launch} {ad : Nat → Nat} {N : Nat} {r13 : Int32 → vSt → Option (vSt)} {t1 : vSt} (hX : vOK P l shC ad (vR 4 97) cX9_weighLies RX9 5) (hR : (∀ pc lv, decode cX9_weighLies pc = .ok (.return_, 1) → P t1 pc lv [])) (H13 : ∀ (a3 : Int32) (s : vSt), r13 a3 s = some t1 → P s 13 [(0, .ref (ad 46)), (3, .int a3)] []) : ∀ (n : Nat) (a3 : Int32) (a4 : Int32) (s : vSt), gC_Tales_weighLies_told_21 N r13 n a3 a4 s = some t1 → P s 21 [(0, .ref (ad 46)), (3, .int a3), (4, .int a4)] [] := by
  intro n
  induction n with
  | zero => intro a3 a4 s h; cases h
  | succ n ih =>
    intro a3 a4 s h
    unfold gC_Tales_weighLies_told_21 at h
    refine v_iload hX dX9_weighLies_21 2 rfl ?_
    refine v_iconst (v := 2) hX dX9_weighLies_23 (by decide) ?_
    refine v_aload_n hX dX9_weighLies_24 rfl 0 rfl ?_
    refine gfC_46_2 hX kf_9_29 dX9_weighLies_25 ?_
    refine gfC_9_7 hX kf_9_58 dX9_weighLies_28 ?_
    refine v_imul hX dX9_weighLies_31 ?_
    refine v_icmp_ge (tgt := 60) hX dX9_weighLies_32 (by decide) h (fun h => ?_) (fun h => ?_)
    · refine v_iincN hX dX9_weighLies_60 (j := 1) rfl (c := (-1)) (by decide) (by decide) h (fun v1 h => ?_)
      refine v_show (lv' := [(3, .int v1), (0, .ref (ad 46)), (4, .int a4)]) hX rfl ?_
      refine v_goto (tgt := 13) hX dX9_weighLies_63 (by decide) ?_
      exact v_sub hX [1, 0] (by rfl) (H13 _ _ h)
    · refine v_aload_n hX dX9_weighLies_35 rfl 0 rfl ?_
      refine gfC_46_8 hX kf_9_26 dX9_weighLies_36 ?_
      refine v_iload_n hX dX9_weighLies_39 rfl 1 rfl ?_
      refine v_bipush (v := 40) hX dX9_weighLies_40 (by decide) ?_
      refine v_imul hX dX9_weighLies_42 ?_
      refine v_iload hX dX9_weighLies_43 2 rfl ?_
      refine v_iadd hX dX9_weighLies_45 ?_
      refine v_aload_n hX dX9_weighLies_46 rfl 0 rfl ?_
      refine v_iload_n hX dX9_weighLies_47 rfl 1 rfl ?_
      refine v_iload hX dX9_weighLies_48 2 rfl ?_
      obtain ⟨p2, hp2, h⟩ := bsome h
      refine v_callVI (o := 46) hX (mC_Tales_liesAt hp2 l ad) kM_X9_liesAt kV_X9_liesAt km_9_139 (by decide) (fun _ => rfl) rfl rfl rfl (Nat.le_of_ble_eq_true rfl) (by decide) dX9_weighLies_50 ?_
      refine asC_51 hX dX9_weighLies_53 h (fun z3 h => ?_)
      refine v_iincN hX dX9_weighLies_54 (j := 2) rfl (c := 1) (by decide) (by decide) h (fun v4 h => ?_)
      refine v_show (lv' := [(4, .int v4), (0, .ref (ad 46)), (3, .int a3)]) hX rfl ?_
      refine v_goto (tgt := 21) hX dX9_weighLies_57 (by decide) ?_
      exact v_sub hX [1, 2, 0] (by rfl) (ih _ _ _ h)
noncomputable def gC_Tales_weighLies_told_13 (N : Nat)  : Nat → Int32 → vSt → Option (vSt)
  | 0, _, _ => none
  | n + 1, a3, s =>
    if a3 < 1 then
      some s
    else
      gC_Tales_weighLies_told_21 N (gC_Tales_weighLies_told_13 N n) N a3 0 s
set_option maxRecDepth 4000 in
theorem wC_Tales_weighLies_told_13 {P : vP} {l : Launch} {ad : Nat → Nat} {N : Nat} {t1 : vSt} (hX : vOK P l shC ad (vR 4 97) cX9_weighLies RX9 5) (hR : (∀ pc lv, decode cX9_weighLies pc = .ok (.return_, 1) → P t1 pc lv []))  : ∀ (n : Nat) (a3 : Int32) (s : vSt), gC_Tales_weighLies_told_13 N n a3 s = some t1 → P s 13 [(0, .ref (ad 46)), (3, .int a3)] [] := by
  intro n
  induction n with
  | zero => intro a3 s h; cases h
  | succ n ih =>
    intro a3 s h
    unfold gC_Tales_weighLies_told_13 at h
    refine v_iload_n hX dX9_weighLies_13 rfl 1 rfl ?_
    refine v_iconst (v := 1) hX dX9_weighLies_14 (by decide) ?_
    refine v_icmp_lt (tgt := 66) hX dX9_weighLies_15 (by decide) h (fun h => ?_) (fun h => ?_)
    · exact v_retV hR h dX9_weighLies_66
    · refine v_iconst (v := 0) hX dX9_weighLies_18 (by decide) ?_
      refine v_istore (lv' := [(4, .int 0), (0, .ref (ad 46)), (3, .int a3)]) hX dX9_weighLies_19 (by decide) rfl ?_
      exact v_sub hX [1, 2, 0] (by rfl) (wC_Tales_weighLies_told_21 hX hR ih N _ _ _ h)
noncomputable def gC_Tales_weighLies_told_0 (N : Nat)  (a2 : Int32) (s : vSt) : Option (vSt) :=
  (fC_Tales_judge_told N a2 s).bind fun z1 =>
  (some ((z1.1 46 9) - 1 : Int32)).bind fun v2 =>
  gC_Tales_weighLies_told_13 N N v2 z1
set_option maxRecDepth 4000 in
theorem wC_Tales_weighLies_told_0 {P : vP} {l : Launch} {ad : Nat → Nat} {N : Nat} {t1 : vSt} (hX : vOK P l shC ad (vR 4 97) cX9_weighLies RX9 5) (hR : (∀ pc lv, decode cX9_weighLies pc = .ok (.return_, 1) → P t1 pc lv []))  {a2 : Int32} {s : vSt} (h : gC_Tales_weighLies_told_0 N a2 s = some t1) : P s 0 [(0, .ref (ad 46)), (1, .ref (ad 5)), (2, .int a2)] [] := by
  unfold gC_Tales_weighLies_told_0 at h
  refine v_aload_n hX dX9_weighLies_0 rfl 0 rfl ?_
  refine v_aload_n hX dX9_weighLies_1 rfl 1 rfl ?_
  refine v_iload_n hX dX9_weighLies_2 rfl 2 rfl ?_
  obtain ⟨z1, hz1, h⟩ := bsome h
  refine v_callVV (o := 46) hX (mC_Tales_judge_told hz1 l ad) kM_X9_judge kV_X9_judge km_9_78 (by decide) (fun _ => rfl) rfl rfl rfl (Nat.le_of_ble_eq_true rfl) (by decide) dX9_weighLies_3 ?_
  refine v_aload_n hX dX9_weighLies_6 rfl 0 rfl ?_
  refine gfC_46_9 hX kf_9_37 dX9_weighLies_7 ?_
  refine v_iconst (v := 1) hX dX9_weighLies_10 (by decide) ?_
  refine v_isub hX dX9_weighLies_11 ?_
  refine v_nmI hX h (fun v2 h => ?_)
  refine v_istore_n (lv' := [(3, .int v2), (0, .ref (ad 46)), (1, .ref (ad 5)), (2, .int a2)]) hX dX9_weighLies_12 rfl (by decide) rfl ?_
  exact v_sub hX [1, 0] (by rfl) (wC_Tales_weighLies_told_13 hX hR  N _ _ h)
noncomputable def fC_Tales_weighLies_told (N : Nat) (a2 : Int32) (s : vSt) : Option (vSt) := gC_Tales_weighLies_told_0 N a2 s
theorem mC_Tales_weighLies_told {N : Nat} {a2 : Int32} {s : vSt} {t1 : vSt} (h : fC_Tales_weighLies_told N a2 s = some t1) (l : Launch) (ad : Nat → Nat) : vMV l shC ad yX9_weighLies cX9_weighLies 5 4 97 s [.ref (ad 46), .ref (ad 5), .int a2] t1 :=
  vMV_of (by decide +kernel) (Nat.le_of_ble_eq_true rfl) (fun P hX hR => wC_Tales_weighLies_told_0 hX hR h)
-- C_Tales_stepLies
noncomputable def gC_Tales_stepLies_3 (N : Nat)  : Nat → Int32 → Int32 → Int32 → Int32 → Int32 → vSt → Option (Int32 × vSt)
  | 0, _, _, _, _, _, _ => none
  | n + 1, a1, a2, a3, a4, a5, s =>
    if (s.1 9 7) ≤ a5 then
      some ((-1), s)
    else
      (fC_Tales_liesBy N a5 a1 a2 a3 s).bind fun p1 =>
      if p1.1 = a4 then
        some (a5, p1.2)
      else
        (some (a5 + 1 : Int32)).bind fun v2 =>
        gC_Tales_stepLies_3 N n a1 a2 a3 a4 v2 p1.2
set_option maxRecDepth 4000 in
theorem wC_Tales_stepLies_3 {P : vP} {l : Launch} {ad : Nat → Nat} {N : Nat} {r : Int32} {t1 : vSt} (hX : vOK P l shC ad (vR 2 48) cX9_stepLies RX9 6) (hR : (∀ pc lv, narrow .int (.int r) = .int r → decode cX9_stepLies pc = .ok (.ireturn, 1) → P t1 pc lv [.int r]))  : ∀ (n : Nat) (a1 : Int32) (a2 : Int32) (a3 : Int32) (a4 : Int32) (a5 : Int32) (s : vSt), gC_Tales_stepLies_3 N n a1 a2 a3 a4 a5 s = some (r, t1) → P s 3 [(0, .ref (ad 46)), (1, .int a1), (2, .int a2), (3, .int a3), (4, .int a4), (5, .int a5)] [] := by
  intro n
  induction n with
  | zero => intro a1 a2 a3 a4 a5 s h; cases h
  | succ n ih =>
    intro a1 a2 a3 a4 a5 s h
    unfold gC_Tales_stepLies_3 at h
    refine v_iload hX dX9_stepLies_3 5 rfl ?_
    refine v_aload_n hX dX9_stepLies_5 rfl 0 rfl ?_
    refine gfC_46_2 hX kf_9_29 dX9_stepLies_6 ?_
    refine gfC_9_7 hX kf_9_58 dX9_stepLies_9 ?_
    refine v_icmp_ge (tgt := 38) hX dX9_stepLies_12 (by decide) h (fun h => ?_) (fun h => ?_)
    · refine v_iconst (v := (-1)) hX dX9_stepLies_38 (by decide) ?_
      exact v_retI hR h dX9_stepLies_39
    · refine v_aload_n hX dX9_stepLies_15 rfl 0 rfl ?_
      refine v_iload hX dX9_stepLies_16 5 rfl ?_
      refine v_iload_n hX dX9_stepLies_18 rfl 1 rfl ?_
      refine v_iload_n hX dX9_stepLies_19 rfl 2 rfl ?_
      refine v_iload_n hX dX9_stepLies_20 rfl 3 rfl ?_
      obtain ⟨p1, hp1, h⟩ := bsome h
      refine v_callVI (o := 46) hX (mC_Tales_liesBy hp1 l ad) kM_X9_liesBy kV_X9_liesBy km_9_146 (by decide) (fun _ => rfl) rfl rfl rfl (Nat.le_of_ble_eq_true rfl) (by decide) dX9_stepLies_21 ?_
      refine v_iload hX dX9_stepLies_24 4 rfl ?_
      refine v_icmp_ne (tgt := 32) hX dX9_stepLies_26 (by decide) h (fun h => ?_) (fun h => ?_)
      · refine v_iload hX dX9_stepLies_29 5 rfl ?_
        exact v_retI hR h dX9_stepLies_31
      · refine v_iincN hX dX9_stepLies_32 (j := 5) rfl (c := 1) (by decide) (by decide) h (fun v2 h => ?_)
        refine v_show (lv' := [(5, .int v2), (0, .ref (ad 46)), (1, .int a1), (2, .int a2), (3, .int a3), (4, .int a4)]) hX rfl ?_
        refine v_goto (tgt := 3) hX dX9_stepLies_35 (by decide) ?_
        exact v_sub hX [1, 2, 3, 4, 5, 0] (by rfl) (ih _ _ _ _ _ _ h)
noncomputable def gC_Tales_stepLies_0 (N : Nat)  (a1 : Int32) (a2 : Int32) (a3 : Int32) (a4 : Int32) (s : vSt) : Option (Int32 × vSt) :=
  gC_Tales_stepLies_3 N N a1 a2 a3 a4 0 s
set_option maxRecDepth 4000 in
theorem wC_Tales_stepLies_0 {P : vP} {l : Launch} {ad : Nat → Nat} {N : Nat} {r : Int32} {t1 : vSt} (hX : vOK P l shC ad (vR 2 48) cX9_stepLies RX9 6) (hR : (∀ pc lv, narrow .int (.int r) = .int r → decode cX9_stepLies pc = .ok (.ireturn, 1) → P t1 pc lv [.int r]))  {a1 : Int32} {a2 : Int32} {a3 : Int32} {a4 : Int32} {s : vSt} (h : gC_Tales_stepLies_0 N a1 a2 a3 a4 s = some (r, t1)) : P s 0 [(0, .ref (ad 46)), (1, .int a1), (2, .int a2), (3, .int a3), (4, .int a4)] [] := by
  unfold gC_Tales_stepLies_0 at h
  refine v_iconst (v := 0) hX dX9_stepLies_0 (by decide) ?_
  refine v_istore (lv' := [(5, .int 0), (0, .ref (ad 46)), (1, .int a1), (2, .int a2), (3, .int a3), (4, .int a4)]) hX dX9_stepLies_1 (by decide) rfl ?_
  exact v_sub hX [1, 2, 3, 4, 5, 0] (by rfl) (wC_Tales_stepLies_3 hX hR  N _ _ _ _ _ _ h)
noncomputable def fC_Tales_stepLies (N : Nat) (a1 : Int32) (a2 : Int32) (a3 : Int32) (a4 : Int32) (s : vSt) : Option (Int32 × vSt) := gC_Tales_stepLies_0 N a1 a2 a3 a4 s
theorem mC_Tales_stepLies {N : Nat} {a1 : Int32} {a2 : Int32} {a3 : Int32} {a4 : Int32} {s : vSt} {r : Int32} {t1 : vSt} (h : fC_Tales_stepLies N a1 a2 a3 a4 s = some (r, t1)) (l : Launch) (ad : Nat → Nat) : vMI l shC ad yX9_stepLies cX9_stepLies 6 .int 2 48 s [.ref (ad 46), .int a1, .int a2, .int a3, .int a4] r t1 :=
  vMI_of (by decide +kernel) (Nat.le_of_ble_eq_true rfl) (fun P hX hR => wC_Tales_stepLies_0 hX hR h)
-- C_Tales_traceLies
noncomputable def gC_Tales_traceLies_164 (N : Nat) (r71 : Int32 → Int32 → Int32 → Int32 → Int32 → vSt → Option (Int32 × vSt)) (a4 : Int32) (a6 : Int32) (a7 : Int32) (a8 : Int32) (k0 : Int32) (k1 : Int32) (s : vSt) : Option (Int32 × vSt) :=
  (some (k0 - k1 : Int32)).bind fun v1 =>
  (some (a8 + 1 : Int32)).bind fun v2 =>
  r71 a4 v1 a6 a7 v2 s
set_option maxRecDepth 4000 in
theorem wC_Tales_traceLies_164 {P : vP} {l : Launch} {ad : Nat → Nat} {N : Nat} {r71 : Int32 → Int32 → Int32 → Int32 → Int32 → vSt → Option (Int32 × vSt)} {r : Int32} {t1 : vSt} (hX : vOK P l shC ad (vR 3 73) cX9_traceLies RX9 11) (hR : (∀ pc lv, narrow .int (.int r) = .int r → decode cX9_traceLies pc = .ok (.ireturn, 1) → P t1 pc lv [.int r])) (H71 : ∀ (a4 : Int32) (a5 : Int32) (a6 : Int32) (a7 : Int32) (a8 : Int32) (s : vSt), r71 a4 a5 a6 a7 a8 s = some (r, t1) → P s 71 [(0, .ref (ad 46)), (3, .ref (ad 3)), (4, .int a4), (5, .int a5), (6, .int a6), (7, .int a7), (8, .int a8)] []) {a4 : Int32} {a6 : Int32} {a7 : Int32} {a8 : Int32} {k0 : Int32} {k1 : Int32} {s : vSt} (h : gC_Tales_traceLies_164 N r71 a4 a6 a7 a8 k0 k1 s = some (r, t1)) : P s 164 [(0, .ref (ad 46)), (3, .ref (ad 3)), (4, .int a4), (6, .int a6), (7, .int a7), (8, .int a8)] [.int k1, .int k0] := by
  unfold gC_Tales_traceLies_164 at h
  refine v_isub hX dX9_traceLies_164 ?_
  refine v_nmI hX h (fun v1 h => ?_)
  refine v_istore (lv' := [(5, .int v1), (0, .ref (ad 46)), (3, .ref (ad 3)), (4, .int a4), (6, .int a6), (7, .int a7), (8, .int a8)]) hX dX9_traceLies_165 (by decide) rfl ?_
  refine v_iincN hX dX9_traceLies_167 (j := 6) rfl (c := 1) (by decide) (by decide) h (fun v2 h => ?_)
  refine v_show (lv' := [(8, .int v2), (5, .int v1), (0, .ref (ad 46)), (3, .ref (ad 3)), (4, .int a4), (6, .int a6), (7, .int a7)]) hX rfl ?_
  refine v_goto (tgt := 71) hX dX9_traceLies_170 (by decide) ?_
  exact v_sub hX [2, 3, 4, 1, 5, 6, 0] (by rfl) (H71 _ _ _ _ _ _ h)
noncomputable def gC_Tales_traceLies_71 (N : Nat)  : Nat → Int32 → Int32 → Int32 → Int32 → Int32 → vSt → Option (Int32 × vSt)
  | 0, _, _, _, _, _, _ => none
  | n + 1, a4, a5, a6, a7, a8, s =>
    if (s.1 46 9) ≤ a8 then
      some (a4, s)
    else
      (fC_Tales_stepLies N a6 a7 a8 a5 s).bind fun p1 =>
      if p1.1 = (-1) then
        some (a4, p1.2)
      else
        (fC_Numbers_add_row N p1.1 p1.2).bind fun z2 =>
        (fC_Roads_otherAt N p1.1 a6 z2).bind fun p3 =>
        (fC_Roads_placeOf N p1.1 p3.1 p3.2).bind fun p4 =>
        (fC_Roads_readyAt N p4.1 p4.2).bind fun p5 =>
        (fC_Tales_isRight N a8 p4.1 p5.2).bind fun p6 =>
        if p6.1 = 0 then
          gC_Tales_traceLies_164 N (gC_Tales_traceLies_71 N n) a4 p3.1 p5.1 a8 a5 1 p6.2
        else
          gC_Tales_traceLies_164 N (gC_Tales_traceLies_71 N n) a4 p3.1 p5.1 a8 a5 0 p6.2
set_option maxRecDepth 4000 in
theorem wC_Tales_traceLies_71 {P : vP} {l : Launch} {ad : Nat → Nat} {N : Nat} {r : Int32} {t1 : vSt} (hX : vOK P l shC ad (vR 3 73) cX9_traceLies RX9 11) (hR : (∀ pc lv, narrow .int (.int r) = .int r → decode cX9_traceLies pc = .ok (.ireturn, 1) → P t1 pc lv [.int r]))  : ∀ (n : Nat) (a4 : Int32) (a5 : Int32) (a6 : Int32) (a7 : Int32) (a8 : Int32) (s : vSt), gC_Tales_traceLies_71 N n a4 a5 a6 a7 a8 s = some (r, t1) → P s 71 [(0, .ref (ad 46)), (3, .ref (ad 3)), (4, .int a4), (5, .int a5), (6, .int a6), (7, .int a7), (8, .int a8)] [] := by
  intro n
  induction n with
  | zero => intro a4 a5 a6 a7 a8 s h; cases h
  | succ n ih =>
    intro a4 a5 a6 a7 a8 s h
    unfold gC_Tales_traceLies_71 at h
    refine v_iload hX dX9_traceLies_71 6 rfl ?_
    refine v_aload_n hX dX9_traceLies_73 rfl 0 rfl ?_
    refine gfC_46_9 hX kf_9_37 dX9_traceLies_74 ?_
    refine v_icmp_ge (tgt := 173) hX dX9_traceLies_77 (by decide) h (fun h => ?_) (fun h => ?_)
    · refine v_iload hX dX9_traceLies_173 2 rfl ?_
      exact v_retI hR h dX9_traceLies_175
    · refine v_aload_n hX dX9_traceLies_80 rfl 0 rfl ?_
      refine v_iload hX dX9_traceLies_81 4 rfl ?_
      refine v_iload hX dX9_traceLies_83 5 rfl ?_
      refine v_iload hX dX9_traceLies_85 6 rfl ?_
      refine v_iload hX dX9_traceLies_87 3 rfl ?_
      obtain ⟨p1, hp1, h⟩ := bsome h
      refine v_callVI (o := 46) hX (mC_Tales_stepLies hp1 l ad) kM_X9_stepLies kV_X9_stepLies km_9_152 (by decide) (fun _ => rfl) rfl rfl rfl (Nat.le_of_ble_eq_true rfl) (by decide) dX9_traceLies_89 ?_
      refine v_istore (lv' := [(9, .int p1.1), (0, .ref (ad 46)), (3, .ref (ad 3)), (4, .int a4), (5, .int a5), (6, .int a6), (7, .int a7), (8, .int a8)]) hX dX9_traceLies_92 (by decide) rfl ?_
      refine v_iload hX dX9_traceLies_94 0 rfl ?_
      refine v_iconst (v := (-1)) hX dX9_traceLies_96 (by decide) ?_
      refine v_icmp_ne (tgt := 103) hX dX9_traceLies_97 (by decide) h (fun h => ?_) (fun h => ?_)
      · refine v_goto (tgt := 173) hX dX9_traceLies_100 (by decide) ?_
        refine v_iload hX dX9_traceLies_173 3 rfl ?_
        exact v_retI hR h dX9_traceLies_175
      · refine v_aload_n hX dX9_traceLies_103 rfl 2 rfl ?_
        refine v_iload hX dX9_traceLies_104 0 rfl ?_
        obtain ⟨z2, hz2, h⟩ := bsome h
        refine v_callVV (o := 3) hX (mC_Numbers_add_row hz2 l ad) kM_X2_add kV_X2_add km_9_113 (by decide) (fun _ => rfl) rfl rfl rfl (Nat.le_of_ble_eq_true rfl) (by decide) dX9_traceLies_106 ?_
        refine v_aload_n hX dX9_traceLies_109 rfl 1 rfl ?_
        refine gfC_46_2 hX kf_9_29 dX9_traceLies_110 ?_
        refine v_iload hX dX9_traceLies_113 0 rfl ?_
        refine v_iload hX dX9_traceLies_115 5 rfl ?_
        obtain ⟨p3, hp3, h⟩ := bsome h
        refine v_callVI (o := 9) hX (mC_Roads_otherAt hp3 l ad) kM_X6_otherAt kV_X6_otherAt km_9_67 (by decide) (fun _ => rfl) rfl rfl rfl (Nat.le_of_ble_eq_true rfl) (by decide) dX9_traceLies_117 ?_
        refine v_istore (lv' := [(6, .int p3.1), (9, .int p1.1), (0, .ref (ad 46)), (3, .ref (ad 3)), (4, .int a4), (5, .int a5), (7, .int a7), (8, .int a8)]) hX dX9_traceLies_120 (by decide) rfl ?_
        refine v_aload_n hX dX9_traceLies_122 rfl 2 rfl ?_
        refine gfC_46_2 hX kf_9_29 dX9_traceLies_123 ?_
        refine v_iload hX dX9_traceLies_126 1 rfl ?_
        refine v_iload hX dX9_traceLies_128 0 rfl ?_
        obtain ⟨p4, hp4, h⟩ := bsome h
        refine v_callVI (o := 9) hX (mC_Roads_placeOf hp4 l ad) kM_X6_placeOf kV_X6_placeOf km_9_104 (by decide) (fun _ => rfl) rfl rfl rfl (Nat.le_of_ble_eq_true rfl) (by decide) dX9_traceLies_130 ?_
        refine v_istore (lv' := [(10, .int p4.1), (6, .int p3.1), (9, .int p1.1), (0, .ref (ad 46)), (3, .ref (ad 3)), (4, .int a4), (5, .int a5), (7, .int a7), (8, .int a8)]) hX dX9_traceLies_133 (by decide) rfl ?_
        refine v_aload_n hX dX9_traceLies_135 rfl 3 rfl ?_
        refine gfC_46_2 hX kf_9_29 dX9_traceLies_136 ?_
        refine v_iload hX dX9_traceLies_139 0 rfl ?_
        obtain ⟨p5, hp5, h⟩ := bsome h
        refine v_callVI (o := 9) hX (mC_Roads_readyAt hp5 l ad) kM_X6_readyAt kV_X6_readyAt km_9_90 (by decide) (fun _ => rfl) rfl rfl rfl (Nat.le_of_ble_eq_true rfl) (by decide) dX9_traceLies_141 ?_
        refine v_istore (lv' := [(7, .int p5.1), (10, .int p4.1), (6, .int p3.1), (9, .int p1.1), (0, .ref (ad 46)), (3, .ref (ad 3)), (4, .int a4), (5, .int a5), (8, .int a8)]) hX dX9_traceLies_144 (by decide) rfl ?_
        refine v_iload hX dX9_traceLies_146 7 rfl ?_
        refine v_aload_n hX dX9_traceLies_148 rfl 4 rfl ?_
        refine v_iload hX dX9_traceLies_149 8 rfl ?_
        refine v_iload hX dX9_traceLies_151 1 rfl ?_
        obtain ⟨p6, hp6, h⟩ := bsome h
        refine v_callVI (o := 46) hX (mC_Tales_isRight hp6 l ad) kM_X9_isRight kV_X9_isRight km_9_82 (by decide) (fun _ => rfl) rfl rfl rfl (Nat.le_of_ble_eq_true rfl) (by decide) dX9_traceLies_153 ?_
        refine v_if_eq (tgt := 163) hX dX9_traceLies_156 (by decide) h (fun h => ?_) (fun h => ?_)
        · refine v_iconst (v := 1) hX dX9_traceLies_163 (by decide) ?_
          exact v_sub hX [4, 5, 6, 2, 0, 8] (by rfl) (wC_Tales_traceLies_164 hX hR ih h)
        · refine v_iconst (v := 0) hX dX9_traceLies_159 (by decide) ?_
          refine v_goto (tgt := 164) hX dX9_traceLies_160 (by decide) ?_
          exact v_sub hX [4, 5, 6, 2, 0, 8] (by rfl) (wC_Tales_traceLies_164 hX hR ih h)
noncomputable def gC_Tales_traceLies_42 (N : Nat)  (a1 : Int32) (a2 : Int32) (k0 : Int32) (s : vSt) : Option (Int32 × vSt) :=
  if k0 = 1048576 then
    some ((-3), s)
  else
    (fC_Numbers_clear_row N s).bind fun z1 =>
    gC_Tales_traceLies_71 N N k0 k0 a1 a2 1 z1
set_option maxRecDepth 4000 in
theorem wC_Tales_traceLies_42 {P : vP} {l : Launch} {ad : Nat → Nat} {N : Nat} {r : Int32} {t1 : vSt} (hX : vOK P l shC ad (vR 3 73) cX9_traceLies RX9 11) (hR : (∀ pc lv, narrow .int (.int r) = .int r → decode cX9_traceLies pc = .ok (.ireturn, 1) → P t1 pc lv [.int r]))  {a1 : Int32} {a2 : Int32} {k0 : Int32} {s : vSt} (h : gC_Tales_traceLies_42 N a1 a2 k0 s = some (r, t1)) : P s 42 [(0, .ref (ad 46)), (1, .int a1), (2, .int a2), (3, .ref (ad 3))] [.int k0] := by
  unfold gC_Tales_traceLies_42 at h
  refine v_istore (lv' := [(4, .int k0), (0, .ref (ad 46)), (1, .int a1), (2, .int a2), (3, .ref (ad 3))]) hX dX9_traceLies_42 (by decide) rfl ?_
  refine v_iload hX dX9_traceLies_44 0 rfl ?_
  refine v_ldc hX kc_9_142 dX9_traceLies_46 ?_
  refine v_icmp_ne (tgt := 54) hX dX9_traceLies_48 (by decide) h (fun h => ?_) (fun h => ?_)
  · refine v_bipush (v := (-3)) hX dX9_traceLies_51 (by decide) ?_
    exact v_retI hR h dX9_traceLies_53
  · refine v_iload hX dX9_traceLies_54 0 rfl ?_
    refine v_istore (lv' := [(5, .int k0), (4, .int k0), (0, .ref (ad 46)), (1, .int a1), (2, .int a2), (3, .ref (ad 3))]) hX dX9_traceLies_56 (by decide) rfl ?_
    refine v_iload_n hX dX9_traceLies_58 rfl 3 rfl ?_
    refine v_istore (lv' := [(6, .int a1), (5, .int k0), (4, .int k0), (0, .ref (ad 46)), (1, .int a1), (2, .int a2), (3, .ref (ad 3))]) hX dX9_traceLies_59 (by decide) rfl ?_
    refine v_iload_n hX dX9_traceLies_61 rfl 5 rfl ?_
    refine v_istore (lv' := [(7, .int a2), (6, .int a1), (5, .int k0), (4, .int k0), (0, .ref (ad 46)), (1, .int a1), (2, .int a2), (3, .ref (ad 3))]) hX dX9_traceLies_62 (by decide) rfl ?_
    refine v_aload_n hX dX9_traceLies_64 rfl 7 rfl ?_
    obtain ⟨z1, hz1, h⟩ := bsome h
    refine v_callVV (o := 3) hX (mC_Numbers_clear_row hz1 l ad) kM_X2_clear kV_X2_clear km_9_107 (by decide) (fun _ => rfl) rfl rfl rfl (Nat.le_of_ble_eq_true rfl) (by decide) dX9_traceLies_65 ?_
    refine v_iconst (v := 1) hX dX9_traceLies_68 (by decide) ?_
    refine v_istore (lv' := [(8, .int 1), (7, .int a2), (6, .int a1), (5, .int k0), (4, .int k0), (0, .ref (ad 46)), (1, .int a1), (2, .int a2), (3, .ref (ad 3))]) hX dX9_traceLies_69 (by decide) rfl ?_
    exact v_sub hX [5, 8, 4, 3, 2, 1, 0] (by rfl) (wC_Tales_traceLies_71 hX hR  N _ _ _ _ _ _ h)
noncomputable def gC_Tales_traceLies_22 (N : Nat)  (a1 : Int32) (a2 : Int32) (s : vSt) : Option (Int32 × vSt) :=
  if (s.1 46 9) = 1 then
    gC_Tales_traceLies_42 N a1 a2 1048576 s
  else
    (fC_Tales_fewestFrom N a1 a2 1 s).bind fun p1 =>
    gC_Tales_traceLies_42 N a1 a2 p1.1 p1.2
set_option maxRecDepth 4000 in
theorem wC_Tales_traceLies_22 {P : vP} {l : Launch} {ad : Nat → Nat} {N : Nat} {r : Int32} {t1 : vSt} (hX : vOK P l shC ad (vR 3 73) cX9_traceLies RX9 11) (hR : (∀ pc lv, narrow .int (.int r) = .int r → decode cX9_traceLies pc = .ok (.ireturn, 1) → P t1 pc lv [.int r]))  {a1 : Int32} {a2 : Int32} {s : vSt} (h : gC_Tales_traceLies_22 N a1 a2 s = some (r, t1)) : P s 22 [(0, .ref (ad 46)), (1, .int a1), (2, .int a2), (3, .ref (ad 3))] [] := by
  unfold gC_Tales_traceLies_22 at h
  refine v_aload_n hX dX9_traceLies_22 rfl 0 rfl ?_
  refine gfC_46_9 hX kf_9_37 dX9_traceLies_23 ?_
  refine v_iconst (v := 1) hX dX9_traceLies_26 (by decide) ?_
  refine v_icmp_ne (tgt := 35) hX dX9_traceLies_27 (by decide) h (fun h => ?_) (fun h => ?_)
  · refine v_ldc hX kc_9_142 dX9_traceLies_30 ?_
    refine v_goto (tgt := 42) hX dX9_traceLies_32 (by decide) ?_
    exact v_sub hX [0, 1, 2, 3] (by rfl) (wC_Tales_traceLies_42 hX hR  h)
  · refine v_aload_n hX dX9_traceLies_35 rfl 0 rfl ?_
    refine v_iload_n hX dX9_traceLies_36 rfl 1 rfl ?_
    refine v_iload_n hX dX9_traceLies_37 rfl 2 rfl ?_
    refine v_iconst (v := 1) hX dX9_traceLies_38 (by decide) ?_
    obtain ⟨p1, hp1, h⟩ := bsome h
    refine v_callVI (o := 46) hX (mC_Tales_fewestFrom hp1 l ad) kM_X9_fewestFrom kV_X9_fewestFrom km_9_143 (by decide) (fun _ => rfl) rfl rfl rfl (Nat.le_of_ble_eq_true rfl) (by decide) dX9_traceLies_39 ?_
    exact v_sub hX [0, 1, 2, 3] (by rfl) (wC_Tales_traceLies_42 hX hR  h)
noncomputable def gC_Tales_traceLies_0 (N : Nat)  (a1 : Int32) (a2 : Int32) (s : vSt) : Option (Int32 × vSt) :=
  if (s.1 46 9) = 1 then
    if a1 = (s.1 46 10) then
      (fC_Numbers_clear_row N s).bind fun z1 =>
      some (0, z1)
    else
      gC_Tales_traceLies_22 N a1 a2 s
  else
    gC_Tales_traceLies_22 N a1 a2 s
set_option maxRecDepth 4000 in
theorem wC_Tales_traceLies_0 {P : vP} {l : Launch} {ad : Nat → Nat} {N : Nat} {r : Int32} {t1 : vSt} (hX : vOK P l shC ad (vR 3 73) cX9_traceLies RX9 11) (hR : (∀ pc lv, narrow .int (.int r) = .int r → decode cX9_traceLies pc = .ok (.ireturn, 1) → P t1 pc lv [.int r]))  {a1 : Int32} {a2 : Int32} {s : vSt} (h : gC_Tales_traceLies_0 N a1 a2 s = some (r, t1)) : P s 0 [(0, .ref (ad 46)), (1, .int a1), (2, .int a2), (3, .ref (ad 3))] [] := by
  unfold gC_Tales_traceLies_0 at h
  refine v_aload_n hX dX9_traceLies_0 rfl 0 rfl ?_
  refine gfC_46_9 hX kf_9_37 dX9_traceLies_1 ?_
  refine v_iconst (v := 1) hX dX9_traceLies_4 (by decide) ?_
  refine v_icmp_ne (tgt := 22) hX dX9_traceLies_5 (by decide) h (fun h => ?_) (fun h => ?_)
  · refine v_iload_n hX dX9_traceLies_8 rfl 1 rfl ?_
    refine v_aload_n hX dX9_traceLies_9 rfl 0 rfl ?_
    refine gfC_46_10 hX kf_9_46 dX9_traceLies_10 ?_
    refine v_icmp_ne (tgt := 22) hX dX9_traceLies_13 (by decide) h (fun h => ?_) (fun h => ?_)
    · refine v_aload_n hX dX9_traceLies_16 rfl 3 rfl ?_
      obtain ⟨z1, hz1, h⟩ := bsome h
      refine v_callVV (o := 3) hX (mC_Numbers_clear_row hz1 l ad) kM_X2_clear kV_X2_clear km_9_107 (by decide) (fun _ => rfl) rfl rfl rfl (Nat.le_of_ble_eq_true rfl) (by decide) dX9_traceLies_17 ?_
      refine v_iconst (v := 0) hX dX9_traceLies_20 (by decide) ?_
      exact v_retI hR h dX9_traceLies_21
    · exact v_sub hX [0, 1, 2, 3] (by rfl) (wC_Tales_traceLies_22 hX hR  h)
  · exact v_sub hX [0, 1, 2, 3] (by rfl) (wC_Tales_traceLies_22 hX hR  h)
noncomputable def fC_Tales_traceLies (N : Nat) (a1 : Int32) (a2 : Int32) (s : vSt) : Option (Int32 × vSt) := gC_Tales_traceLies_0 N a1 a2 s
theorem mC_Tales_traceLies {N : Nat} {a1 : Int32} {a2 : Int32} {s : vSt} {r : Int32} {t1 : vSt} (h : fC_Tales_traceLies N a1 a2 s = some (r, t1)) (l : Launch) (ad : Nat → Nat) : vMI l shC ad yX9_traceLies cX9_traceLies 11 .int 3 73 s [.ref (ad 46), .int a1, .int a2, .ref (ad 3)] r t1 :=
  vMI_of (by decide +kernel) (Nat.le_of_ble_eq_true rfl) (fun P hX hR => wC_Tales_traceLies_0 hX hR h)
