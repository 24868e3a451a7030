-- M_EachAddsALineModel_sheet
noncomputable def gM_EachAddsALineModel_sheet_109 (N : Nat) (r43 : Int32 → Int32 → Int32 → Int32 → Int32 → Int32 → vSt → Option (Int32 × vSt)) (a1 : Int32) (a2 : Int32) (a4 : Int32) (a5 : Int32) (a6 : Int32) (a7 : Int32) (k1 : Int32) (k2 : Int32) (s : vSt) : Option (Int32 × vSt) :=
  (sto s 5 20 k1 k2).bind fun z1 =>
  (ld z1 5 20 a7).bind fun v2 =>
  (some (a5 + v2 : Int32)).bind fun v3 =>
  (some (a6 + a4 : Int32)).bind fun v4 =>
  (some (a7 + 1 : Int32)).bind fun v5 =>
  r43 a1 a2 a4 v3 v4 v5 z1
set_option maxRecDepth 4000 in
theorem wM_EachAddsALineModel_sheet_109 {P : vP} {l : Launch} {ad : Nat → Nat} {N : Nat} {r43 : Int32 → Int32 → Int32 → Int32 → Int32 → Int32 → vSt → Option (Int32 × vSt)} {r : Int32} {t1 : vSt} (hX : vOK P l shM ad (vR 1 30) cX12_sheet RX12 9) (hR : (∀ pc lv, narrow .int (.int r) = .int r → decode cX12_sheet pc = .ok (.ireturn, 1) → P t1 pc lv [.int r])) (H43 : ∀ (a1 : Int32) (a2 : Int32) (a4 : Int32) (a5 : Int32) (a6 : Int32) (a7 : Int32) (s : vSt), r43 a1 a2 a4 a5 a6 a7 s = some (r, t1) → P s 43 [(0, .ref (ad 0)), (1, .int a1), (2, .int a2), (4, .int a4), (5, .int a5), (6, .int a6), (7, .int a7)] []) {a1 : Int32} {a2 : Int32} {a4 : Int32} {a5 : Int32} {a6 : Int32} {a7 : Int32} {k1 : Int32} {k2 : Int32} {s : vSt} (h : gM_EachAddsALineModel_sheet_109 N r43 a1 a2 a4 a5 a6 a7 k1 k2 s = some (r, t1)) : P s 109 [(0, .ref (ad 0)), (1, .int a1), (2, .int a2), (4, .int a4), (5, .int a5), (6, .int a6), (7, .int a7)] [.int k2, .int k1, .ref (ad 5)] := by
  unfold gM_EachAddsALineModel_sheet_109 at h
  refine asM_5 hX dX12_sheet_109 h (fun z1 h => ?_)
  refine v_iload hX dX12_sheet_110 4 rfl ?_
  refine v_aload_n hX dX12_sheet_112 rfl 0 rfl ?_
  refine gfM_0_6 hX kf_12_22 dX12_sheet_113 ?_
  refine v_iload hX dX12_sheet_116 6 rfl ?_
  refine alM_5 hX dX12_sheet_118 h (fun v2 h => ?_)
  refine v_iadd hX dX12_sheet_119 ?_
  refine v_nmI hX h (fun v3 h => ?_)
  refine v_istore (lv' := [(5, .int v3), (0, .ref (ad 0)), (1, .int a1), (2, .int a2), (4, .int a4), (6, .int a6), (7, .int a7)]) hX dX12_sheet_120 (by decide) rfl ?_
  refine v_iload hX dX12_sheet_122 5 rfl ?_
  refine v_iload hX dX12_sheet_124 4 rfl ?_
  refine v_iadd hX dX12_sheet_126 ?_
  refine v_nmI hX h (fun v4 h => ?_)
  refine v_istore (lv' := [(6, .int v4), (5, .int v3), (0, .ref (ad 0)), (1, .int a1), (2, .int a2), (4, .int a4), (7, .int a7)]) hX dX12_sheet_127 (by decide) rfl ?_
  refine v_iincN hX dX12_sheet_129 (j := 6) rfl (c := 1) (by decide) (by decide) h (fun v5 h => ?_)
  refine v_show (lv' := [(7, .int v5), (6, .int v4), (5, .int v3), (0, .ref (ad 0)), (1, .int a1), (2, .int a2), (4, .int a4)]) hX rfl ?_
  refine v_goto (tgt := 43) hX dX12_sheet_132 (by decide) ?_
  exact v_sub hX [3, 4, 5, 6, 2, 1, 0] (by rfl) (H43 _ _ _ _ _ _ _ h)
noncomputable def gM_EachAddsALineModel_sheet_94 (N : Nat) (r43 : Int32 → Int32 → Int32 → Int32 → Int32 → Int32 → vSt → Option (Int32 × vSt)) (a1 : Int32) (a2 : Int32) (a4 : Int32) (a5 : Int32) (a6 : Int32) (a7 : Int32) (k1 : Int32) (s : vSt) : Option (Int32 × vSt) :=
  gM_EachAddsALineModel_sheet_109 N r43 a1 a2 a4 a5 a6 a7 k1 0 s
set_option maxRecDepth 4000 in
theorem wM_EachAddsALineModel_sheet_94 {P : vP} {l : Launch} {ad : Nat → Nat} {N : Nat} {r43 : Int32 → Int32 → Int32 → Int32 → Int32 → Int32 → vSt → Option (Int32 × vSt)} {r : Int32} {t1 : vSt} (hX : vOK P l shM ad (vR 1 30) cX12_sheet RX12 9) (hR : (∀ pc lv, narrow .int (.int r) = .int r → decode cX12_sheet pc = .ok (.ireturn, 1) → P t1 pc lv [.int r])) (H43 : ∀ (a1 : Int32) (a2 : Int32) (a4 : Int32) (a5 : Int32) (a6 : Int32) (a7 : Int32) (s : vSt), r43 a1 a2 a4 a5 a6 a7 s = some (r, t1) → P s 43 [(0, .ref (ad 0)), (1, .int a1), (2, .int a2), (4, .int a4), (5, .int a5), (6, .int a6), (7, .int a7)] []) {a1 : Int32} {a2 : Int32} {a4 : Int32} {a5 : Int32} {a6 : Int32} {a7 : Int32} {k1 : Int32} {s : vSt} (h : gM_EachAddsALineModel_sheet_94 N r43 a1 a2 a4 a5 a6 a7 k1 s = some (r, t1)) : P s 94 [(0, .ref (ad 0)), (1, .int a1), (2, .int a2), (4, .int a4), (5, .int a5), (6, .int a6), (7, .int a7)] [.int k1, .ref (ad 5)] := by
  unfold gM_EachAddsALineModel_sheet_94 at h
  refine v_iconst (v := 0) hX dX12_sheet_94 (by decide) ?_
  refine v_goto (tgt := 109) hX dX12_sheet_95 (by decide) ?_
  exact v_sub hX [0, 1, 2, 3, 4, 5, 6] (by rfl) (wM_EachAddsALineModel_sheet_109 hX hR H43 h)
noncomputable def gM_EachAddsALineModel_sheet_75 (N : Nat) (r43 : Int32 → Int32 → Int32 → Int32 → Int32 → Int32 → vSt → Option (Int32 × vSt)) (a1 : Int32) (a2 : Int32) (a4 : Int32) (a5 : Int32) (a6 : Int32) (a7 : Int32) (k0 : Int32) (s : vSt) : Option (Int32 × vSt) :=
  if a1 = 3 then
    gM_EachAddsALineModel_sheet_94 N r43 a1 a2 a4 a5 a6 a7 a7 s
  else
    if a7 < a2 then
      gM_EachAddsALineModel_sheet_109 N r43 a1 a2 a4 a5 a6 a7 a7 (if (0 : Int32) < (if (9 : Int32) > k0 then k0 else (9 : Int32)) then (if (9 : Int32) > k0 then k0 else (9 : Int32)) else (0 : Int32)) s
    else
      gM_EachAddsALineModel_sheet_94 N r43 a1 a2 a4 a5 a6 a7 a7 s
set_option maxRecDepth 4000 in
theorem wM_EachAddsALineModel_sheet_75 {P : vP} {l : Launch} {ad : Nat → Nat} {N : Nat} {r43 : Int32 → Int32 → Int32 → Int32 → Int32 → Int32 → vSt → Option (Int32 × vSt)} {r : Int32} {t1 : vSt} (hX : vOK P l shM ad (vR 1 30) cX12_sheet RX12 9) (hR : (∀ pc lv, narrow .int (.int r) = .int r → decode cX12_sheet pc = .ok (.ireturn, 1) → P t1 pc lv [.int r])) (H43 : ∀ (a1 : Int32) (a2 : Int32) (a4 : Int32) (a5 : Int32) (a6 : Int32) (a7 : Int32) (s : vSt), r43 a1 a2 a4 a5 a6 a7 s = some (r, t1) → P s 43 [(0, .ref (ad 0)), (1, .int a1), (2, .int a2), (4, .int a4), (5, .int a5), (6, .int a6), (7, .int a7)] []) {a1 : Int32} {a2 : Int32} {a4 : Int32} {a5 : Int32} {a6 : Int32} {a7 : Int32} {k0 : Int32} {s : vSt} (h : gM_EachAddsALineModel_sheet_75 N r43 a1 a2 a4 a5 a6 a7 k0 s = some (r, t1)) : P s 75 [(0, .ref (ad 0)), (1, .int a1), (2, .int a2), (4, .int a4), (5, .int a5), (6, .int a6), (7, .int a7)] [.int k0] := by
  unfold gM_EachAddsALineModel_sheet_75 at h
  refine v_istore (lv' := [(8, .int k0), (0, .ref (ad 0)), (1, .int a1), (2, .int a2), (4, .int a4), (5, .int a5), (6, .int a6), (7, .int a7)]) hX dX12_sheet_75 (by decide) rfl ?_
  refine v_aload_n hX dX12_sheet_77 rfl 1 rfl ?_
  refine gfM_0_6 hX kf_12_22 dX12_sheet_78 ?_
  refine v_iload hX dX12_sheet_81 7 rfl ?_
  refine v_iload_n hX dX12_sheet_83 rfl 2 rfl ?_
  refine v_iconst (v := 3) hX dX12_sheet_84 (by decide) ?_
  refine v_icmp_eq (tgt := 94) hX dX12_sheet_85 (by decide) h (fun h => ?_) (fun h => ?_)
  · exact v_sub hX [1, 2, 3, 4, 5, 6, 7] (by rfl) (wM_EachAddsALineModel_sheet_94 hX hR H43 h)
  · refine v_iload hX dX12_sheet_88 7 rfl ?_
    refine v_iload_n hX dX12_sheet_90 rfl 3 rfl ?_
    refine v_icmp_lt (tgt := 98) hX dX12_sheet_91 (by decide) h (fun h => ?_) (fun h => ?_)
    · refine v_iconst (v := 0) hX dX12_sheet_98 (by decide) ?_
      refine v_bipush (v := 9) hX dX12_sheet_99 (by decide) ?_
      refine v_iload hX dX12_sheet_101 0 rfl ?_
      refine v_min hX km_12_207 kS_J9_min_7cf53 kI_Math kC_min (Nat.le_of_ble_eq_true rfl) (Nat.le_of_ble_eq_true rfl) dX12_sheet_103 ?_
      refine v_max hX km_12_213 kS_J9_max_7cf53 kI_Math kC_max (Nat.le_of_ble_eq_true rfl) (Nat.le_of_ble_eq_true rfl) dX12_sheet_106 ?_
      exact v_sub hX [1, 2, 3, 4, 5, 6, 7] (by rfl) (wM_EachAddsALineModel_sheet_109 hX hR H43 h)
    · exact v_sub hX [1, 2, 3, 4, 5, 6, 7] (by rfl) (wM_EachAddsALineModel_sheet_94 hX hR H43 h)
noncomputable def gM_EachAddsALineModel_sheet_43 (N : Nat)  : Nat → Int32 → Int32 → Int32 → Int32 → Int32 → Int32 → vSt → Option (Int32 × vSt)
  | 0, _, _, _, _, _, _, _ => none
  | n + 1, a1, a2, a4, a5, a6, a7, s =>
    if (s.1 0 2) ≤ a7 then
      if a1 = 3 then
        some ((-3), s)
      else
        some (a5, s)
    else
      if a1 = 0 then
        gM_EachAddsALineModel_sheet_75 N (gM_EachAddsALineModel_sheet_43 N n) a1 a2 a4 a5 a6 a7 ((a6 : Int32).toInt8.toInt32) s
      else
        if a1 = 1 then
          gM_EachAddsALineModel_sheet_75 N (gM_EachAddsALineModel_sheet_43 N n) a1 a2 a4 a5 a6 a7 ((a6 : Int32).toInt16.toInt32) s
        else
          gM_EachAddsALineModel_sheet_75 N (gM_EachAddsALineModel_sheet_43 N n) a1 a2 a4 a5 a6 a7 a6 s
set_option maxRecDepth 4000 in
theorem wM_EachAddsALineModel_sheet_43 {P : vP} {l : Launch} {ad : Nat → Nat} {N : Nat} {r : Int32} {t1 : vSt} (hX : vOK P l shM ad (vR 1 30) cX12_sheet RX12 9) (hR : (∀ pc lv, narrow .int (.int r) = .int r → decode cX12_sheet pc = .ok (.ireturn, 1) → P t1 pc lv [.int r]))  : ∀ (n : Nat) (a1 : Int32) (a2 : Int32) (a4 : Int32) (a5 : Int32) (a6 : Int32) (a7 : Int32) (s : vSt), gM_EachAddsALineModel_sheet_43 N n a1 a2 a4 a5 a6 a7 s = some (r, t1) → P s 43 [(0, .ref (ad 0)), (1, .int a1), (2, .int a2), (4, .int a4), (5, .int a5), (6, .int a6), (7, .int a7)] [] := by
  intro n
  induction n with
  | zero => intro a1 a2 a4 a5 a6 a7 s h; cases h
  | succ n ih =>
    intro a1 a2 a4 a5 a6 a7 s h
    unfold gM_EachAddsALineModel_sheet_43 at h
    refine v_iload hX dX12_sheet_43 6 rfl ?_
    refine v_aload_n hX dX12_sheet_45 rfl 0 rfl ?_
    refine gfM_0_2 hX kf_12_109 dX12_sheet_46 ?_
    refine v_icmp_ge (tgt := 135) hX dX12_sheet_49 (by decide) h (fun h => ?_) (fun h => ?_)
    · refine v_iload_n hX dX12_sheet_135 rfl 1 rfl ?_
      refine v_iconst (v := 3) hX dX12_sheet_136 (by decide) ?_
      refine v_icmp_ne (tgt := 145) hX dX12_sheet_137 (by decide) h (fun h => ?_) (fun h => ?_)
      · refine v_bipush (v := (-3)) hX dX12_sheet_140 (by decide) ?_
        refine v_goto (tgt := 147) hX dX12_sheet_142 (by decide) ?_
        exact v_retI hR h dX12_sheet_147
      · refine v_iload hX dX12_sheet_145 4 rfl ?_
        exact v_retI hR h dX12_sheet_147
    · refine v_iload_n hX dX12_sheet_52 rfl 1 rfl ?_
      refine v_if_ne (tgt := 62) hX dX12_sheet_53 (by decide) h (fun h => ?_) (fun h => ?_)
      · refine v_iload hX dX12_sheet_56 5 rfl ?_
        refine v_i2b hX dX12_sheet_58 ?_
        refine v_goto (tgt := 75) hX dX12_sheet_59 (by decide) ?_
        exact v_sub hX [0, 1, 2, 3, 4, 5, 6] (by rfl) (wM_EachAddsALineModel_sheet_75 hX hR ih h)
      · refine v_iload_n hX dX12_sheet_62 rfl 1 rfl ?_
        refine v_iconst (v := 1) hX dX12_sheet_63 (by decide) ?_
        refine v_icmp_ne (tgt := 73) hX dX12_sheet_64 (by decide) h (fun h => ?_) (fun h => ?_)
        · refine v_iload hX dX12_sheet_67 5 rfl ?_
          refine v_i2s hX dX12_sheet_69 ?_
          refine v_goto (tgt := 75) hX dX12_sheet_70 (by decide) ?_
          exact v_sub hX [0, 1, 2, 3, 4, 5, 6] (by rfl) (wM_EachAddsALineModel_sheet_75 hX hR ih h)
        · refine v_iload hX dX12_sheet_73 5 rfl ?_
          exact v_sub hX [0, 1, 2, 3, 4, 5, 6] (by rfl) (wM_EachAddsALineModel_sheet_75 hX hR ih h)
noncomputable def gM_EachAddsALineModel_sheet_34 (N : Nat)  (a1 : Int32) (a2 : Int32) (a3 : Int32) (a4 : Int32) (s : vSt) : Option (Int32 × vSt) :=
  gM_EachAddsALineModel_sheet_43 N N a1 a2 a4 0 a3 0 s
set_option maxRecDepth 4000 in
theorem wM_EachAddsALineModel_sheet_34 {P : vP} {l : Launch} {ad : Nat → Nat} {N : Nat} {r : Int32} {t1 : vSt} (hX : vOK P l shM ad (vR 1 30) cX12_sheet RX12 9) (hR : (∀ pc lv, narrow .int (.int r) = .int r → decode cX12_sheet pc = .ok (.ireturn, 1) → P t1 pc lv [.int r]))  {a1 : Int32} {a2 : Int32} {a3 : Int32} {a4 : Int32} {s : vSt} (h : gM_EachAddsALineModel_sheet_34 N a1 a2 a3 a4 s = some (r, t1)) : P s 34 [(0, .ref (ad 0)), (1, .int a1), (2, .int a2), (3, .int a3), (4, .int a4)] [] := by
  unfold gM_EachAddsALineModel_sheet_34 at h
  refine v_iconst (v := 0) hX dX12_sheet_34 (by decide) ?_
  refine v_istore (lv' := [(5, .int 0), (0, .ref (ad 0)), (1, .int a1), (2, .int a2), (3, .int a3), (4, .int a4)]) hX dX12_sheet_35 (by decide) rfl ?_
  refine v_iload_n hX dX12_sheet_37 rfl 4 rfl ?_
  refine v_istore (lv' := [(6, .int a3), (5, .int 0), (0, .ref (ad 0)), (1, .int a1), (2, .int a2), (3, .int a3), (4, .int a4)]) hX dX12_sheet_38 (by decide) rfl ?_
  refine v_iconst (v := 0) hX dX12_sheet_40 (by decide) ?_
  refine v_istore (lv' := [(7, .int 0), (6, .int a3), (5, .int 0), (0, .ref (ad 0)), (1, .int a1), (2, .int a2), (3, .int a3), (4, .int a4)]) hX dX12_sheet_41 (by decide) rfl ?_
  exact v_sub hX [3, 4, 5, 7, 2, 1, 0] (by rfl) (wM_EachAddsALineModel_sheet_43 hX hR  N _ _ _ _ _ _ _ h)
noncomputable def gM_EachAddsALineModel_sheet_0 (N : Nat)  (a1 : Int32) (a2 : Int32) (a3 : Int32) (a4 : Int32) (s : vSt) : Option (Int32 × vSt) :=
  (some (s1 s 0 11 0)).bind fun z1 =>
  (fM_EachAddsALineModel_in N a1 0 3 z1).bind fun p2 =>
  if p2.1 = 0 then
    some ((-1), p2.2)
  else
    if a2 ≤ 20 then
      if 3 ≤ a1 then
        gM_EachAddsALineModel_sheet_34 N a1 a2 a3 a4 p2.2
      else
        if 0 ≤ a2 then
          gM_EachAddsALineModel_sheet_34 N a1 a2 a3 a4 p2.2
        else
          some ((-2), p2.2)
    else
      some ((-1), p2.2)
set_option maxRecDepth 4000 in
theorem wM_EachAddsALineModel_sheet_0 {P : vP} {l : Launch} {ad : Nat → Nat} {N : Nat} {r : Int32} {t1 : vSt} (hX : vOK P l shM ad (vR 1 30) cX12_sheet RX12 9) (hR : (∀ pc lv, narrow .int (.int r) = .int r → decode cX12_sheet pc = .ok (.ireturn, 1) → P t1 pc lv [.int r]))  {a1 : Int32} {a2 : Int32} {a3 : Int32} {a4 : Int32} {s : vSt} (h : gM_EachAddsALineModel_sheet_0 N a1 a2 a3 a4 s = some (r, t1)) : P s 0 [(0, .ref (ad 0)), (1, .int a1), (2, .int a2), (3, .int a3), (4, .int a4)] [] := by
  unfold gM_EachAddsALineModel_sheet_0 at h
  refine v_aload_n hX dX12_sheet_0 rfl 0 rfl ?_
  refine v_iconst (v := 0) hX dX12_sheet_1 (by decide) ?_
  refine pfM_0_11 hX kf_12_96 dX12_sheet_2 h (fun z1 h => ?_)
  refine v_iload_n hX dX12_sheet_5 rfl 1 rfl ?_
  refine v_iconst (v := 0) hX dX12_sheet_6 (by decide) ?_
  refine v_iconst (v := 3) hX dX12_sheet_7 (by decide) ?_
  obtain ⟨p2, hp2, h⟩ := bsome h
  refine v_callSI hX (mM_EachAddsALineModel_in hp2 l ad) kM_X12_in kS_X12_in km_12_105 rfl rfl (Nat.le_of_ble_eq_true rfl) (by decide) dX12_sheet_8 ?_
  refine v_if_eq (tgt := 20) hX dX12_sheet_11 (by decide) h (fun h => ?_) (fun h => ?_)
  · refine v_iconst (v := (-1)) hX dX12_sheet_20 (by decide) ?_
    exact v_retI hR h dX12_sheet_21
  · refine v_iload_n hX dX12_sheet_14 rfl 2 rfl ?_
    refine v_bipush (v := 20) hX dX12_sheet_15 (by decide) ?_
    refine v_icmp_le (tgt := 22) hX dX12_sheet_17 (by decide) h (fun h => ?_) (fun h => ?_)
    · refine v_iload_n hX dX12_sheet_22 rfl 1 rfl ?_
      refine v_iconst (v := 3) hX dX12_sheet_23 (by decide) ?_
      refine v_icmp_ge (tgt := 34) hX dX12_sheet_24 (by decide) h (fun h => ?_) (fun h => ?_)
      · exact v_sub hX [0, 1, 2, 3, 4] (by rfl) (wM_EachAddsALineModel_sheet_34 hX hR  h)
      · refine v_iload_n hX dX12_sheet_27 rfl 2 rfl ?_
        refine v_if_ge (tgt := 34) hX dX12_sheet_28 (by decide) h (fun h => ?_) (fun h => ?_)
        · exact v_sub hX [0, 1, 2, 3, 4] (by rfl) (wM_EachAddsALineModel_sheet_34 hX hR  h)
        · refine v_bipush (v := (-2)) hX dX12_sheet_31 (by decide) ?_
          exact v_retI hR h dX12_sheet_33
    · refine v_iconst (v := (-1)) hX dX12_sheet_20 (by decide) ?_
      exact v_retI hR h dX12_sheet_21
noncomputable def fM_EachAddsALineModel_sheet (N : Nat) (a1 : Int32) (a2 : Int32) (a3 : Int32) (a4 : Int32) (s : vSt) : Option (Int32 × vSt) := gM_EachAddsALineModel_sheet_0 N a1 a2 a3 a4 s
theorem mM_EachAddsALineModel_sheet {N : Nat} {a1 : Int32} {a2 : Int32} {a3 : Int32} {a4 : Int32} {s : vSt} {r : Int32} {t1 : vSt} (h : fM_EachAddsALineModel_sheet N a1 a2 a3 a4 s = some (r, t1)) (l : Launch) (ad : Nat → Nat) : vMI l shM ad yX12_sheet cX12_sheet 9 .int 1 30 s [.ref (ad 0), .int a1, .int a2, .int a3, .int a4] r t1 :=
  vMI_of (by decide +kernel) (Nat.le_of_ble_eq_true rfl) (fun P hX hR => wM_EachAddsALineModel_sheet_0 hX hR h)
-- M_EachAddsALineModel_isHour
noncomputable def gM_EachAddsALineModel_isHour_0 (N : Nat)  (a0 : Int32) (s : vSt) : Option (Int32 × vSt) :=
  (fM_EachAddsALineModel_in N a0 0 99 s).bind fun p1 =>
  if p1.1 = 0 ∨ p1.1 = 1 then some (p1.1, p1.2) else none
set_option maxRecDepth 4000 in
theorem wM_EachAddsALineModel_isHour_0 {P : vP} {l : Launch} {ad : Nat → Nat} {N : Nat} {r : Int32} {t1 : vSt} (hX : vOK P l shM ad (vR 1 22) cX12_isHour RX12 1) (hR : (∀ pc lv, narrow .boolean (.int r) = .int r → decode cX12_isHour pc = .ok (.ireturn, 1) → P t1 pc lv [.int r]))  {a0 : Int32} {s : vSt} (h : gM_EachAddsALineModel_isHour_0 N a0 s = some (r, t1)) : P s 0 [(0, .int a0)] [] := by
  unfold gM_EachAddsALineModel_isHour_0 at h
  refine v_iload_n hX dX12_isHour_0 rfl 0 rfl ?_
  refine v_iconst (v := 0) hX dX12_isHour_1 (by decide) ?_
  refine v_bipush (v := 99) hX dX12_isHour_2 (by decide) ?_
  obtain ⟨p1, hp1, h⟩ := bsome h
  refine v_callSI hX (mM_EachAddsALineModel_in hp1 l ad) kM_X12_in kS_X12_in km_12_105 rfl rfl (Nat.le_of_ble_eq_true rfl) (by decide) dX12_isHour_4 ?_
  exact v_retZ hR h dX12_isHour_7
noncomputable def fM_EachAddsALineModel_isHour (N : Nat) (a0 : Int32) (s : vSt) : Option (Int32 × vSt) := gM_EachAddsALineModel_isHour_0 N a0 s
theorem mM_EachAddsALineModel_isHour {N : Nat} {a0 : Int32} {s : vSt} {r : Int32} {t1 : vSt} (h : fM_EachAddsALineModel_isHour N a0 s = some (r, t1)) (l : Launch) (ad : Nat → Nat) : vMI l shM ad yX12_isHour cX12_isHour 1 .boolean 1 22 s [.int a0] r t1 :=
  vMI_of (by decide +kernel) (Nat.le_of_ble_eq_true rfl) (fun P hX hR => wM_EachAddsALineModel_isHour_0 hX hR h)
-- M_EachAddsALineModel_at
noncomputable def gM_EachAddsALineModel_at_0 (N : Nat)  (a0 : Int32) (a1 : Int32) (s : vSt) : Option (Int32 × vSt) :=
  some ((((91 : Int32) * a0) + 1) + ((3 : Int32) * a1), s)
set_option maxRecDepth 4000 in
theorem wM_EachAddsALineModel_at_0 {P : vP} {l : Launch} {ad : Nat → Nat} {N : Nat} {r : Int32} {t1 : vSt} (hX : vOK P l shM ad (vR 0 0) cX12_at RX12 2) (hR : (∀ pc lv, narrow .int (.int r) = .int r → decode cX12_at pc = .ok (.ireturn, 1) → P t1 pc lv [.int r]))  {a0 : Int32} {a1 : Int32} {s : vSt} (h : gM_EachAddsALineModel_at_0 N a0 a1 s = some (r, t1)) : P s 0 [(0, .int a0), (1, .int a1)] [] := by
  unfold gM_EachAddsALineModel_at_0 at h
  refine v_bipush (v := 91) hX dX12_at_0 (by decide) ?_
  refine v_iload_n hX dX12_at_2 rfl 0 rfl ?_
  refine v_imul hX dX12_at_3 ?_
  refine v_iconst (v := 1) hX dX12_at_4 (by decide) ?_
  refine v_iadd hX dX12_at_5 ?_
  refine v_iconst (v := 3) hX dX12_at_6 (by decide) ?_
  refine v_iload_n hX dX12_at_7 rfl 1 rfl ?_
  refine v_imul hX dX12_at_8 ?_
  refine v_iadd hX dX12_at_9 ?_
  exact v_retI hR h dX12_at_10
noncomputable def fM_EachAddsALineModel_at (N : Nat) (a0 : Int32) (a1 : Int32) (s : vSt) : Option (Int32 × vSt) := gM_EachAddsALineModel_at_0 N a0 a1 s
theorem mM_EachAddsALineModel_at {N : Nat} {a0 : Int32} {a1 : Int32} {s : vSt} {r : Int32} {t1 : vSt} (h : fM_EachAddsALineModel_at N a0 a1 s = some (r, t1)) (l : Launch) (ad : Nat → Nat) : vMI l shM ad yX12_at cX12_at 2 .int 0 0 s [.int a0, .int a1] r t1 :=
  vMI_of (by decide +kernel) (Nat.le_of_ble_eq_true rfl) (fun P hX hR => wM_EachAddsALineModel_at_0 hX hR h)
-- M_EachAddsALineModel_write
noncomputable def gM_EachAddsALineModel_write_0 (N : Nat)  (a1 : Int32) (a2 : Int32) (a3 : Int32) (a4 : Int32) (s : vSt) : Option (Int32 × vSt) :=
  (some (s1 s 0 11 0)).bind fun z1 =>
  (fM_EachAddsALineModel_in N a1 0 2 z1).bind fun p2 =>
  if p2.1 = 0 then
    some (0, p2.2)
  else
    (fM_EachAddsALineModel_isOne N a2 p2.2).bind fun p3 =>
    if p3.1 = 0 then
      some (0, p3.2)
    else
      (fM_EachAddsALineModel_isHour N a3 p3.2).bind fun p4 =>
      if p4.1 = 0 then
        some (0, p4.2)
      else
        (fM_EachAddsALineModel_in N a4 0 9 p4.2).bind fun p5 =>
        if p5.1 = 0 then
          some (0, p5.2)
        else
          (sto p5.2 9 273 ((91 : Int32) * a1) 1).bind fun z6 =>
          (fM_EachAddsALineModel_at N a1 0 z6).bind fun p7 =>
          (sto p7.2 9 273 p7.1 a4).bind fun z8 =>
          (fM_EachAddsALineModel_at N a1 0 z8).bind fun p9 =>
          (sto p9.2 9 273 (p9.1 + 1) a2).bind fun z10 =>
          (fM_EachAddsALineModel_at N a1 0 z10).bind fun p11 =>
          (sto p11.2 9 273 (p11.1 + 2) a3).bind fun z12 =>
          some (1, z12)
set_option maxRecDepth 4000 in
theorem wM_EachAddsALineModel_write_0 {P : vP} {l : Launch} {ad : Nat → Nat} {N : Nat} {r : Int32} {t1 : vSt} (hX : vOK P l shM ad (vR 2 43) cX12_write RX12 5) (hR : (∀ pc lv, narrow .boolean (.int r) = .int r → decode cX12_write pc = .ok (.ireturn, 1) → P t1 pc lv [.int r]))  {a1 : Int32} {a2 : Int32} {a3 : Int32} {a4 : Int32} {s : vSt} (h : gM_EachAddsALineModel_write_0 N a1 a2 a3 a4 s = some (r, t1)) : P s 0 [(0, .ref (ad 0)), (1, .int a1), (2, .int a2), (3, .int a3), (4, .int a4)] [] := by
  unfold gM_EachAddsALineModel_write_0 at h
  refine v_aload_n hX dX12_write_0 rfl 0 rfl ?_
  refine v_iconst (v := 0) hX dX12_write_1 (by decide) ?_
  refine pfM_0_11 hX kf_12_96 dX12_write_2 h (fun z1 h => ?_)
  refine v_iload_n hX dX12_write_5 rfl 1 rfl ?_
  refine v_iconst (v := 0) hX dX12_write_6 (by decide) ?_
  refine v_iconst (v := 2) hX dX12_write_7 (by decide) ?_
  obtain ⟨p2, hp2, h⟩ := bsome h
  refine v_callSI hX (mM_EachAddsALineModel_in hp2 l ad) kM_X12_in kS_X12_in km_12_105 rfl rfl (Nat.le_of_ble_eq_true rfl) (by decide) dX12_write_8 ?_
  refine v_if_eq (tgt := 40) hX dX12_write_11 (by decide) h (fun h => ?_) (fun h => ?_)
  · refine v_iconst (v := 0) hX dX12_write_40 (by decide) ?_
    exact v_retZ0 hR h dX12_write_41
  · refine v_aload_n hX dX12_write_14 rfl 0 rfl ?_
    refine v_iload_n hX dX12_write_15 rfl 2 rfl ?_
    obtain ⟨p3, hp3, h⟩ := bsome h
    refine v_callVI (o := 0) hX (mM_EachAddsALineModel_isOne hp3 l ad) kM_X12_isOne kV_X12_isOne km_12_197 (by decide) (fun _ => rfl) rfl rfl rfl (Nat.le_of_ble_eq_true rfl) (by decide) dX12_write_16 ?_
    refine v_if_eq (tgt := 40) hX dX12_write_19 (by decide) h (fun h => ?_) (fun h => ?_)
    · refine v_iconst (v := 0) hX dX12_write_40 (by decide) ?_
      exact v_retZ0 hR h dX12_write_41
    · refine v_iload_n hX dX12_write_22 rfl 3 rfl ?_
      obtain ⟨p4, hp4, h⟩ := bsome h
      refine v_callSI hX (mM_EachAddsALineModel_isHour hp4 l ad) kM_X12_isHour kS_X12_isHour km_12_221 rfl rfl (Nat.le_of_ble_eq_true rfl) (by decide) dX12_write_23 ?_
      refine v_if_eq (tgt := 40) hX dX12_write_26 (by decide) h (fun h => ?_) (fun h => ?_)
      · refine v_iconst (v := 0) hX dX12_write_40 (by decide) ?_
        exact v_retZ0 hR h dX12_write_41
      · refine v_iload hX dX12_write_29 4 rfl ?_
        refine v_iconst (v := 0) hX dX12_write_31 (by decide) ?_
        refine v_bipush (v := 9) hX dX12_write_32 (by decide) ?_
        obtain ⟨p5, hp5, h⟩ := bsome h
        refine v_callSI hX (mM_EachAddsALineModel_in hp5 l ad) kM_X12_in kS_X12_in km_12_105 rfl rfl (Nat.le_of_ble_eq_true rfl) (by decide) dX12_write_34 ?_
        refine v_if_ne (tgt := 42) hX dX12_write_37 (by decide) h (fun h => ?_) (fun h => ?_)
        · refine v_iconst (v := 0) hX dX12_write_40 (by decide) ?_
          exact v_retZ0 hR h dX12_write_41
        · refine v_aload_n hX dX12_write_42 rfl 0 rfl ?_
          refine gfM_0_27 hX kf_12_35 dX12_write_43 ?_
          refine v_bipush (v := 91) hX dX12_write_46 (by decide) ?_
          refine v_iload_n hX dX12_write_48 rfl 1 rfl ?_
          refine v_imul hX dX12_write_49 ?_
          refine v_iconst (v := 1) hX dX12_write_50 (by decide) ?_
          refine asM_9 hX dX12_write_51 h (fun z6 h => ?_)
          refine v_aload_n hX dX12_write_52 rfl 0 rfl ?_
          refine gfM_0_27 hX kf_12_35 dX12_write_53 ?_
          refine v_iload_n hX dX12_write_56 rfl 1 rfl ?_
          refine v_iconst (v := 0) hX dX12_write_57 (by decide) ?_
          obtain ⟨p7, hp7, h⟩ := bsome h
          refine v_callSI hX (mM_EachAddsALineModel_at hp7 l ad) kM_X12_at kS_X12_at km_12_219 rfl rfl (Nat.le_of_ble_eq_true rfl) (by decide) dX12_write_58 ?_
          refine v_iload hX dX12_write_61 4 rfl ?_
          refine asM_9 hX dX12_write_63 h (fun z8 h => ?_)
          refine v_aload_n hX dX12_write_64 rfl 0 rfl ?_
          refine gfM_0_27 hX kf_12_35 dX12_write_65 ?_
          refine v_iload_n hX dX12_write_68 rfl 1 rfl ?_
          refine v_iconst (v := 0) hX dX12_write_69 (by decide) ?_
          obtain ⟨p9, hp9, h⟩ := bsome h
          refine v_callSI hX (mM_EachAddsALineModel_at hp9 l ad) kM_X12_at kS_X12_at km_12_219 rfl rfl (Nat.le_of_ble_eq_true rfl) (by decide) dX12_write_70 ?_
          refine v_iconst (v := 1) hX dX12_write_73 (by decide) ?_
          refine v_iadd hX dX12_write_74 ?_
          refine v_iload_n hX dX12_write_75 rfl 2 rfl ?_
          refine asM_9 hX dX12_write_76 h (fun z10 h => ?_)
          refine v_aload_n hX dX12_write_77 rfl 0 rfl ?_
          refine gfM_0_27 hX kf_12_35 dX12_write_78 ?_
          refine v_iload_n hX dX12_write_81 rfl 1 rfl ?_
          refine v_iconst (v := 0) hX dX12_write_82 (by decide) ?_
          obtain ⟨p11, hp11, h⟩ := bsome h
          refine v_callSI hX (mM_EachAddsALineModel_at hp11 l ad) kM_X12_at kS_X12_at km_12_219 rfl rfl (Nat.le_of_ble_eq_true rfl) (by decide) dX12_write_83 ?_
          refine v_iconst (v := 2) hX dX12_write_86 (by decide) ?_
          refine v_iadd hX dX12_write_87 ?_
          refine v_iload_n hX dX12_write_88 rfl 3 rfl ?_
          refine asM_9 hX dX12_write_89 h (fun z12 h => ?_)
          refine v_iconst (v := 1) hX dX12_write_90 (by decide) ?_
          exact v_retZ1 hR h dX12_write_91
noncomputable def fM_EachAddsALineModel_write (N : Nat) (a1 : Int32) (a2 : Int32) (a3 : Int32) (a4 : Int32) (s : vSt) : Option (Int32 × vSt) := gM_EachAddsALineModel_write_0 N a1 a2 a3 a4 s
theorem mM_EachAddsALineModel_write {N : Nat} {a1 : Int32} {a2 : Int32} {a3 : Int32} {a4 : Int32} {s : vSt} {r : Int32} {t1 : vSt} (h : fM_EachAddsALineModel_write N a1 a2 a3 a4 s = some (r, t1)) (l : Launch) (ad : Nat → Nat) : vMI l shM ad yX12_write cX12_write 5 .boolean 2 43 s [.ref (ad 0), .int a1, .int a2, .int a3, .int a4] r t1 :=
  vMI_of (by decide +kernel) (Nat.le_of_ble_eq_true rfl) (fun P hX hR => wM_EachAddsALineModel_write_0 hX hR h)
-- M_EachAddsALineModel_linesOf
noncomputable def gM_EachAddsALineModel_linesOf_0 (N : Nat)  (a1 : Int32) (s : vSt) : Option (Int32 × vSt) :=
  (ld s 9 273 ((91 : Int32) * a1)).bind fun v1 =>
  some (v1, s)
set_option maxRecDepth 4000 in
theorem wM_EachAddsALineModel_linesOf_0 {P : vP} {l : Launch} {ad : Nat → Nat} {N : Nat} {r : Int32} {t1 : vSt} (hX : vOK P l shM ad (vR 0 0) cX12_linesOf RX12 2) (hR : (∀ pc lv, narrow .int (.int r) = .int r → decode cX12_linesOf pc = .ok (.ireturn, 1) → P t1 pc lv [.int r]))  {a1 : Int32} {s : vSt} (h : gM_EachAddsALineModel_linesOf_0 N a1 s = some (r, t1)) : P s 0 [(0, .ref (ad 0)), (1, .int a1)] [] := by
  unfold gM_EachAddsALineModel_linesOf_0 at h
  refine v_aload_n hX dX12_linesOf_0 rfl 0 rfl ?_
  refine gfM_0_27 hX kf_12_35 dX12_linesOf_1 ?_
  refine v_bipush (v := 91) hX dX12_linesOf_4 (by decide) ?_
  refine v_iload_n hX dX12_linesOf_6 rfl 1 rfl ?_
  refine v_imul hX dX12_linesOf_7 ?_
  refine alM_9 hX dX12_linesOf_8 h (fun v1 h => ?_)
  exact v_retI hR h dX12_linesOf_9
noncomputable def fM_EachAddsALineModel_linesOf (N : Nat) (a1 : Int32) (s : vSt) : Option (Int32 × vSt) := gM_EachAddsALineModel_linesOf_0 N a1 s
theorem mM_EachAddsALineModel_linesOf {N : Nat} {a1 : Int32} {s : vSt} {r : Int32} {t1 : vSt} (h : fM_EachAddsALineModel_linesOf N a1 s = some (r, t1)) (l : Launch) (ad : Nat → Nat) : vMI l shM ad yX12_linesOf cX12_linesOf 2 .int 0 0 s [.ref (ad 0), .int a1] r t1 :=
  vMI_of (by decide +kernel) (Nat.le_of_ble_eq_true rfl) (fun P hX hR => wM_EachAddsALineModel_linesOf_0 hX hR h)
-- M_EachAddsALineModel_isLetter
noncomputable def gM_EachAddsALineModel_isLetter_21 (N : Nat)   (s : vSt) : Option (Int32 × vSt) :=
  some (0, s)
set_option maxRecDepth 4000 in
theorem wM_EachAddsALineModel_isLetter_21 {P : vP} {l : Launch} {ad : Nat → Nat} {N : Nat} {r : Int32} {t1 : vSt} (hX : vOK P l shM ad (vR 1 22) cX12_isLetter RX12 2) (hR : (∀ pc lv, narrow .boolean (.int r) = .int r → decode cX12_isLetter pc = .ok (.ireturn, 1) → P t1 pc lv [.int r]))   {s : vSt} (h : gM_EachAddsALineModel_isLetter_21 N s = some (r, t1)) : P s 21 [] [] := by
  unfold gM_EachAddsALineModel_isLetter_21 at h
  refine v_iconst (v := 0) hX dX12_isLetter_21 (by decide) ?_
  exact v_retZ0 hR h dX12_isLetter_22
noncomputable def gM_EachAddsALineModel_isLetter_0 (N : Nat)  (a1 : Int32) (s : vSt) : Option (Int32 × vSt) :=
  (fM_EachAddsALineModel_in N a1 0 2 s).bind fun p1 =>
  if p1.1 = 0 then
    gM_EachAddsALineModel_isLetter_21 N p1.2
  else
    (fM_EachAddsALineModel_linesOf N a1 p1.2).bind fun p2 =>
    if p2.1 ≤ 0 then
      gM_EachAddsALineModel_isLetter_21 N p2.2
    else
      some (1, p2.2)
set_option maxRecDepth 4000 in
theorem wM_EachAddsALineModel_isLetter_0 {P : vP} {l : Launch} {ad : Nat → Nat} {N : Nat} {r : Int32} {t1 : vSt} (hX : vOK P l shM ad (vR 1 22) cX12_isLetter RX12 2) (hR : (∀ pc lv, narrow .boolean (.int r) = .int r → decode cX12_isLetter pc = .ok (.ireturn, 1) → P t1 pc lv [.int r]))  {a1 : Int32} {s : vSt} (h : gM_EachAddsALineModel_isLetter_0 N a1 s = some (r, t1)) : P s 0 [(0, .ref (ad 0)), (1, .int a1)] [] := by
  unfold gM_EachAddsALineModel_isLetter_0 at h
  refine v_iload_n hX dX12_isLetter_0 rfl 1 rfl ?_
  refine v_iconst (v := 0) hX dX12_isLetter_1 (by decide) ?_
  refine v_iconst (v := 2) hX dX12_isLetter_2 (by decide) ?_
  obtain ⟨p1, hp1, h⟩ := bsome h
  refine v_callSI hX (mM_EachAddsALineModel_in hp1 l ad) kM_X12_in kS_X12_in km_12_105 rfl rfl (Nat.le_of_ble_eq_true rfl) (by decide) dX12_isLetter_3 ?_
  refine v_if_eq (tgt := 21) hX dX12_isLetter_6 (by decide) h (fun h => ?_) (fun h => ?_)
  · exact v_sub hX [] (by rfl) (wM_EachAddsALineModel_isLetter_21 hX hR  h)
  · refine v_aload_n hX dX12_isLetter_9 rfl 0 rfl ?_
    refine v_iload_n hX dX12_isLetter_10 rfl 1 rfl ?_
    obtain ⟨p2, hp2, h⟩ := bsome h
    refine v_callVI (o := 0) hX (mM_EachAddsALineModel_linesOf hp2 l ad) kM_X12_linesOf kV_X12_linesOf km_12_216 (by decide) (fun _ => rfl) rfl rfl rfl (Nat.le_of_ble_eq_true rfl) (by decide) dX12_isLetter_11 ?_
    refine v_if_le (tgt := 21) hX dX12_isLetter_14 (by decide) h (fun h => ?_) (fun h => ?_)
    · exact v_sub hX [] (by rfl) (wM_EachAddsALineModel_isLetter_21 hX hR  h)
    · refine v_iconst (v := 1) hX dX12_isLetter_17 (by decide) ?_
      refine v_goto (tgt := 22) hX dX12_isLetter_18 (by decide) ?_
      exact v_retZ1 hR h dX12_isLetter_22
noncomputable def fM_EachAddsALineModel_isLetter (N : Nat) (a1 : Int32) (s : vSt) : Option (Int32 × vSt) := gM_EachAddsALineModel_isLetter_0 N a1 s
theorem mM_EachAddsALineModel_isLetter {N : Nat} {a1 : Int32} {s : vSt} {r : Int32} {t1 : vSt} (h : fM_EachAddsALineModel_isLetter N a1 s = some (r, t1)) (l : Launch) (ad : Nat → Nat) : vMI l shM ad yX12_isLetter cX12_isLetter 2 .boolean 1 22 s [.ref (ad 0), .int a1] r t1 :=
  vMI_of (by decide +kernel) (Nat.le_of_ble_eq_true rfl) (fun P hX hR => wM_EachAddsALineModel_isLetter_0 hX hR h)
-- M_EachAddsALineModel_holder
noncomputable def gM_EachAddsALineModel_holder_0 (N : Nat)  (a1 : Int32) (s : vSt) : Option (Int32 × vSt) :=
  (fM_EachAddsALineModel_linesOf N a1 s).bind fun p1 =>
  (fM_EachAddsALineModel_at N a1 (p1.1 - 1) p1.2).bind fun p2 =>
  (ld p2.2 9 273 (p2.1 + 1)).bind fun v3 =>
  some (v3, p2.2)
set_option maxRecDepth 4000 in
theorem wM_EachAddsALineModel_holder_0 {P : vP} {l : Launch} {ad : Nat → Nat} {N : Nat} {r : Int32} {t1 : vSt} (hX : vOK P l shM ad (vR 1 21) cX12_holder RX12 2) (hR : (∀ pc lv, narrow .int (.int r) = .int r → decode cX12_holder pc = .ok (.ireturn, 1) → P t1 pc lv [.int r]))  {a1 : Int32} {s : vSt} (h : gM_EachAddsALineModel_holder_0 N a1 s = some (r, t1)) : P s 0 [(0, .ref (ad 0)), (1, .int a1)] [] := by
  unfold gM_EachAddsALineModel_holder_0 at h
  refine v_aload_n hX dX12_holder_0 rfl 0 rfl ?_
  refine gfM_0_27 hX kf_12_35 dX12_holder_1 ?_
  refine v_iload_n hX dX12_holder_4 rfl 1 rfl ?_
  refine v_aload_n hX dX12_holder_5 rfl 0 rfl ?_
  refine v_iload_n hX dX12_holder_6 rfl 1 rfl ?_
  obtain ⟨p1, hp1, h⟩ := bsome h
  refine v_callVI (o := 0) hX (mM_EachAddsALineModel_linesOf hp1 l ad) kM_X12_linesOf kV_X12_linesOf km_12_216 (by decide) (fun _ => rfl) rfl rfl rfl (Nat.le_of_ble_eq_true rfl) (by decide) dX12_holder_7 ?_
  refine v_iconst (v := 1) hX dX12_holder_10 (by decide) ?_
  refine v_isub hX dX12_holder_11 ?_
  obtain ⟨p2, hp2, h⟩ := bsome h
  refine v_callSI hX (mM_EachAddsALineModel_at hp2 l ad) kM_X12_at kS_X12_at km_12_219 rfl rfl (Nat.le_of_ble_eq_true rfl) (by decide) dX12_holder_12 ?_
  refine v_iconst (v := 1) hX dX12_holder_15 (by decide) ?_
  refine v_iadd hX dX12_holder_16 ?_
  refine alM_9 hX dX12_holder_17 h (fun v3 h => ?_)
  exact v_retI hR h dX12_holder_18
noncomputable def fM_EachAddsALineModel_holder (N : Nat) (a1 : Int32) (s : vSt) : Option (Int32 × vSt) := gM_EachAddsALineModel_holder_0 N a1 s
theorem mM_EachAddsALineModel_holder {N : Nat} {a1 : Int32} {s : vSt} {r : Int32} {t1 : vSt} (h : fM_EachAddsALineModel_holder N a1 s = some (r, t1)) (l : Launch) (ad : Nat → Nat) : vMI l shM ad yX12_holder cX12_holder 2 .int 1 21 s [.ref (ad 0), .int a1] r t1 :=
  vMI_of (by decide +kernel) (Nat.le_of_ble_eq_true rfl) (fun P hX hR => wM_EachAddsALineModel_holder_0 hX hR h)
-- M_EachAddsALineModel_isThere
noncomputable def gM_EachAddsALineModel_isThere_20 (N : Nat)   (s : vSt) : Option (Int32 × vSt) :=
  some (1, s)
set_option maxRecDepth 4000 in
theorem wM_EachAddsALineModel_isThere_20 {P : vP} {l : Launch} {ad : Nat → Nat} {N : Nat} {r : Int32} {t1 : vSt} (hX : vOK P l shM ad (vR 0 0) cX12_isThere RX12 3) (hR : (∀ pc lv, narrow .boolean (.int r) = .int r → decode cX12_isThere pc = .ok (.ireturn, 1) → P t1 pc lv [.int r]))   {s : vSt} (h : gM_EachAddsALineModel_isThere_20 N s = some (r, t1)) : P s 20 [] [] := by
  unfold gM_EachAddsALineModel_isThere_20 at h
  refine v_iconst (v := 1) hX dX12_isThere_20 (by decide) ?_
  refine v_goto (tgt := 25) hX dX12_isThere_21 (by decide) ?_
  exact v_retZ1 hR h dX12_isThere_25
noncomputable def gM_EachAddsALineModel_isThere_0 (N : Nat)  (a1 : Int32) (a2 : Int32) (s : vSt) : Option (Int32 × vSt) :=
  (ld s 2 20 a2).bind fun v1 =>
  if v1 = a1 then
    gM_EachAddsALineModel_isThere_20 N s
  else
    (ld s 3 20 a2).bind fun v2 =>
    if v2 = a1 then
      gM_EachAddsALineModel_isThere_20 N s
    else
      some (0, s)
set_option maxRecDepth 4000 in
theorem wM_EachAddsALineModel_isThere_0 {P : vP} {l : Launch} {ad : Nat → Nat} {N : Nat} {r : Int32} {t1 : vSt} (hX : vOK P l shM ad (vR 0 0) cX12_isThere RX12 3) (hR : (∀ pc lv, narrow .boolean (.int r) = .int r → decode cX12_isThere pc = .ok (.ireturn, 1) → P t1 pc lv [.int r]))  {a1 : Int32} {a2 : Int32} {s : vSt} (h : gM_EachAddsALineModel_isThere_0 N a1 a2 s = some (r, t1)) : P s 0 [(0, .ref (ad 0)), (1, .int a1), (2, .int a2)] [] := by
  unfold gM_EachAddsALineModel_isThere_0 at h
  refine v_aload_n hX dX12_isThere_0 rfl 0 rfl ?_
  refine gfM_0_3 hX kf_12_13 dX12_isThere_1 ?_
  refine v_iload_n hX dX12_isThere_4 rfl 2 rfl ?_
  refine alM_2 hX dX12_isThere_5 h (fun v1 h => ?_)
  refine v_iload_n hX dX12_isThere_6 rfl 1 rfl ?_
  refine v_icmp_eq (tgt := 20) hX dX12_isThere_7 (by decide) h (fun h => ?_) (fun h => ?_)
  · exact v_sub hX [] (by rfl) (wM_EachAddsALineModel_isThere_20 hX hR  h)
  · refine v_aload_n hX dX12_isThere_10 rfl 0 rfl ?_
    refine gfM_0_4 hX kf_12_16 dX12_isThere_11 ?_
    refine v_iload_n hX dX12_isThere_14 rfl 2 rfl ?_
    refine alM_3 hX dX12_isThere_15 h (fun v2 h => ?_)
    refine v_iload_n hX dX12_isThere_16 rfl 1 rfl ?_
    refine v_icmp_ne (tgt := 24) hX dX12_isThere_17 (by decide) h (fun h => ?_) (fun h => ?_)
    · exact v_sub hX [] (by rfl) (wM_EachAddsALineModel_isThere_20 hX hR  h)
    · refine v_iconst (v := 0) hX dX12_isThere_24 (by decide) ?_
      exact v_retZ0 hR h dX12_isThere_25
noncomputable def fM_EachAddsALineModel_isThere (N : Nat) (a1 : Int32) (a2 : Int32) (s : vSt) : Option (Int32 × vSt) := gM_EachAddsALineModel_isThere_0 N a1 a2 s
theorem mM_EachAddsALineModel_isThere {N : Nat} {a1 : Int32} {a2 : Int32} {s : vSt} {r : Int32} {t1 : vSt} (h : fM_EachAddsALineModel_isThere N a1 a2 s = some (r, t1)) (l : Launch) (ad : Nat → Nat) : vMI l shM ad yX12_isThere cX12_isThere 3 .boolean 0 0 s [.ref (ad 0), .int a1, .int a2] r t1 :=
  vMI_of (by decide +kernel) (Nat.le_of_ble_eq_true rfl) (fun P hX hR => wM_EachAddsALineModel_isThere_0 hX hR h)
-- M_EachAddsALineModel_since
noncomputable def gM_EachAddsALineModel_since_0 (N : Nat)  (a1 : Int32) (s : vSt) : Option (Int32 × vSt) :=
  (fM_EachAddsALineModel_linesOf N a1 s).bind fun p1 =>
  (fM_EachAddsALineModel_at N a1 (p1.1 - 1) p1.2).bind fun p2 =>
  (ld p2.2 9 273 (p2.1 + 2)).bind fun v3 =>
  some (v3, p2.2)
set_option maxRecDepth 4000 in
theorem wM_EachAddsALineModel_since_0 {P : vP} {l : Launch} {ad : Nat → Nat} {N : Nat} {r : Int32} {t1 : vSt} (hX : vOK P l shM ad (vR 1 21) cX12_since RX12 2) (hR : (∀ pc lv, narrow .int (.int r) = .int r → decode cX12_since pc = .ok (.ireturn, 1) → P t1 pc lv [.int r]))  {a1 : Int32} {s : vSt} (h : gM_EachAddsALineModel_since_0 N a1 s = some (r, t1)) : P s 0 [(0, .ref (ad 0)), (1, .int a1)] [] := by
  unfold gM_EachAddsALineModel_since_0 at h
  refine v_aload_n hX dX12_since_0 rfl 0 rfl ?_
  refine gfM_0_27 hX kf_12_35 dX12_since_1 ?_
  refine v_iload_n hX dX12_since_4 rfl 1 rfl ?_
  refine v_aload_n hX dX12_since_5 rfl 0 rfl ?_
  refine v_iload_n hX dX12_since_6 rfl 1 rfl ?_
  obtain ⟨p1, hp1, h⟩ := bsome h
  refine v_callVI (o := 0) hX (mM_EachAddsALineModel_linesOf hp1 l ad) kM_X12_linesOf kV_X12_linesOf km_12_216 (by decide) (fun _ => rfl) rfl rfl rfl (Nat.le_of_ble_eq_true rfl) (by decide) dX12_since_7 ?_
  refine v_iconst (v := 1) hX dX12_since_10 (by decide) ?_
  refine v_isub hX dX12_since_11 ?_
  obtain ⟨p2, hp2, h⟩ := bsome h
  refine v_callSI hX (mM_EachAddsALineModel_at hp2 l ad) kM_X12_at kS_X12_at km_12_219 rfl rfl (Nat.le_of_ble_eq_true rfl) (by decide) dX12_since_12 ?_
  refine v_iconst (v := 2) hX dX12_since_15 (by decide) ?_
  refine v_iadd hX dX12_since_16 ?_
  refine alM_9 hX dX12_since_17 h (fun v3 h => ?_)
  exact v_retI hR h dX12_since_18
noncomputable def fM_EachAddsALineModel_since (N : Nat) (a1 : Int32) (s : vSt) : Option (Int32 × vSt) := gM_EachAddsALineModel_since_0 N a1 s
theorem mM_EachAddsALineModel_since {N : Nat} {a1 : Int32} {s : vSt} {r : Int32} {t1 : vSt} (h : fM_EachAddsALineModel_since N a1 s = some (r, t1)) (l : Launch) (ad : Nat → Nat) : vMI l shM ad yX12_since cX12_since 2 .int 1 21 s [.ref (ad 0), .int a1] r t1 :=
  vMI_of (by decide +kernel) (Nat.le_of_ble_eq_true rfl) (fun P hX hR => wM_EachAddsALineModel_since_0 hX hR h)
-- M_EachAddsALineModel_refusal
noncomputable def gM_EachAddsALineModel_refusal_48 (N : Nat)  (a1 : Int32) (k0 : Int32) (k1 : Int32) (k2 : Int32) (s : vSt) : Option (Int32 × vSt) :=
  if (k1 + k2) ≤ k0 then
    (fM_EachAddsALineModel_linesOf N a1 s).bind fun p1 =>
    if p1.1 = 30 then
      some ((-4), p1.2)
    else
      some (0, p1.2)
  else
    some ((-3), s)
set_option maxRecDepth 4000 in
theorem wM_EachAddsALineModel_refusal_48 {P : vP} {l : Launch} {ad : Nat → Nat} {N : Nat} {r : Int32} {t1 : vSt} (hX : vOK P l shM ad (vR 2 42) cX12_refusal RX12 4) (hR : (∀ pc lv, narrow .int (.int r) = .int r → decode cX12_refusal pc = .ok (.ireturn, 1) → P t1 pc lv [.int r]))  {a1 : Int32} {k0 : Int32} {k1 : Int32} {k2 : Int32} {s : vSt} (h : gM_EachAddsALineModel_refusal_48 N a1 k0 k1 k2 s = some (r, t1)) : P s 48 [(0, .ref (ad 0)), (1, .int a1)] [.int k2, .int k1, .int k0] := by
  unfold gM_EachAddsALineModel_refusal_48 at h
  refine v_iadd hX dX12_refusal_48 ?_
  refine v_icmp_ge (tgt := 55) hX dX12_refusal_49 (by decide) h (fun h => ?_) (fun h => ?_)
  · refine v_aload_n hX dX12_refusal_55 rfl 0 rfl ?_
    refine v_iload_n hX dX12_refusal_56 rfl 1 rfl ?_
    obtain ⟨p1, hp1, h⟩ := bsome h
    refine v_callVI (o := 0) hX (mM_EachAddsALineModel_linesOf hp1 l ad) kM_X12_linesOf kV_X12_linesOf km_12_216 (by decide) (fun _ => rfl) rfl rfl rfl (Nat.le_of_ble_eq_true rfl) (by decide) dX12_refusal_57 ?_
    refine v_bipush (v := 30) hX dX12_refusal_60 (by decide) ?_
    refine v_icmp_ne (tgt := 70) hX dX12_refusal_62 (by decide) h (fun h => ?_) (fun h => ?_)
    · refine v_bipush (v := (-4)) hX dX12_refusal_65 (by decide) ?_
      refine v_goto (tgt := 71) hX dX12_refusal_67 (by decide) ?_
      exact v_retI hR h dX12_refusal_71
    · refine v_iconst (v := 0) hX dX12_refusal_70 (by decide) ?_
      exact v_retI hR h dX12_refusal_71
  · refine v_bipush (v := (-3)) hX dX12_refusal_52 (by decide) ?_
    exact v_retI hR h dX12_refusal_54
noncomputable def gM_EachAddsALineModel_refusal_0 (N : Nat)  (a1 : Int32) (a2 : Int32) (s : vSt) : Option (Int32 × vSt) :=
  (fM_EachAddsALineModel_holder N a1 s).bind fun p1 =>
  (fM_EachAddsALineModel_isThere N p1.1 a2 p1.2).bind fun p2 =>
  if p2.1 = 0 then
    some ((-2), p2.2)
  else
    (ld p2.2 4 20 a2).bind fun v3 =>
    (fM_EachAddsALineModel_since N a1 p2.2).bind fun p4 =>
    (fM_EachAddsALineModel_linesOf N a1 p4.2).bind fun p5 =>
    if p5.1 = 1 then
      gM_EachAddsALineModel_refusal_48 N a1 v3 p4.1 0 p5.2
    else
      (ld p5.2 1 9 p1.1).bind fun v6 =>
      gM_EachAddsALineModel_refusal_48 N a1 v3 p4.1 v6 p5.2
set_option maxRecDepth 4000 in
theorem wM_EachAddsALineModel_refusal_0 {P : vP} {l : Launch} {ad : Nat → Nat} {N : Nat} {r : Int32} {t1 : vSt} (hX : vOK P l shM ad (vR 2 42) cX12_refusal RX12 4) (hR : (∀ pc lv, narrow .int (.int r) = .int r → decode cX12_refusal pc = .ok (.ireturn, 1) → P t1 pc lv [.int r]))  {a1 : Int32} {a2 : Int32} {s : vSt} (h : gM_EachAddsALineModel_refusal_0 N a1 a2 s = some (r, t1)) : P s 0 [(0, .ref (ad 0)), (1, .int a1), (2, .int a2)] [] := by
  unfold gM_EachAddsALineModel_refusal_0 at h
  refine v_aload_n hX dX12_refusal_0 rfl 0 rfl ?_
  refine v_iload_n hX dX12_refusal_1 rfl 1 rfl ?_
  obtain ⟨p1, hp1, h⟩ := bsome h
  refine v_callVI (o := 0) hX (mM_EachAddsALineModel_holder hp1 l ad) kM_X12_holder kV_X12_holder km_12_224 (by decide) (fun _ => rfl) rfl rfl rfl (Nat.le_of_ble_eq_true rfl) (by decide) dX12_refusal_2 ?_
  refine v_istore_n (lv' := [(3, .int p1.1), (0, .ref (ad 0)), (1, .int a1), (2, .int a2)]) hX dX12_refusal_5 rfl (by decide) rfl ?_
  refine v_aload_n hX dX12_refusal_6 rfl 1 rfl ?_
  refine v_iload_n hX dX12_refusal_7 rfl 0 rfl ?_
  refine v_iload_n hX dX12_refusal_8 rfl 3 rfl ?_
  obtain ⟨p2, hp2, h⟩ := bsome h
  refine v_callVI (o := 0) hX (mM_EachAddsALineModel_isThere hp2 l ad) kM_X12_isThere kV_X12_isThere km_12_227 (by decide) (fun _ => rfl) rfl rfl rfl (Nat.le_of_ble_eq_true rfl) (by decide) dX12_refusal_9 ?_
  refine v_if_ne (tgt := 18) hX dX12_refusal_12 (by decide) h (fun h => ?_) (fun h => ?_)
  · refine v_bipush (v := (-2)) hX dX12_refusal_15 (by decide) ?_
    exact v_retI hR h dX12_refusal_17
  · refine v_aload_n hX dX12_refusal_18 rfl 1 rfl ?_
    refine gfM_0_5 hX kf_12_19 dX12_refusal_19 ?_
    refine v_iload_n hX dX12_refusal_22 rfl 3 rfl ?_
    refine alM_4 hX dX12_refusal_23 h (fun v3 h => ?_)
    refine v_aload_n hX dX12_refusal_24 rfl 1 rfl ?_
    refine v_iload_n hX dX12_refusal_25 rfl 2 rfl ?_
    obtain ⟨p4, hp4, h⟩ := bsome h
    refine v_callVI (o := 0) hX (mM_EachAddsALineModel_since hp4 l ad) kM_X12_since kV_X12_since km_12_231 (by decide) (fun _ => rfl) rfl rfl rfl (Nat.le_of_ble_eq_true rfl) (by decide) dX12_refusal_26 ?_
    refine v_aload_n hX dX12_refusal_29 rfl 1 rfl ?_
    refine v_iload_n hX dX12_refusal_30 rfl 2 rfl ?_
    obtain ⟨p5, hp5, h⟩ := bsome h
    refine v_callVI (o := 0) hX (mM_EachAddsALineModel_linesOf hp5 l ad) kM_X12_linesOf kV_X12_linesOf km_12_216 (by decide) (fun _ => rfl) rfl rfl rfl (Nat.le_of_ble_eq_true rfl) (by decide) dX12_refusal_31 ?_
    refine v_iconst (v := 1) hX dX12_refusal_34 (by decide) ?_
    refine v_icmp_ne (tgt := 42) hX dX12_refusal_35 (by decide) h (fun h => ?_) (fun h => ?_)
    · refine v_iconst (v := 0) hX dX12_refusal_38 (by decide) ?_
      refine v_goto (tgt := 48) hX dX12_refusal_39 (by decide) ?_
      exact v_sub hX [1, 2] (by rfl) (wM_EachAddsALineModel_refusal_48 hX hR  h)
    · refine v_aload_n hX dX12_refusal_42 rfl 1 rfl ?_
      refine gfM_0_1 hX kf_12_9 dX12_refusal_43 ?_
      refine v_iload_n hX dX12_refusal_46 rfl 0 rfl ?_
      refine alM_1 hX dX12_refusal_47 h (fun v6 h => ?_)
      exact v_sub hX [1, 2] (by rfl) (wM_EachAddsALineModel_refusal_48 hX hR  h)
noncomputable def fM_EachAddsALineModel_refusal (N : Nat) (a1 : Int32) (a2 : Int32) (s : vSt) : Option (Int32 × vSt) := gM_EachAddsALineModel_refusal_0 N a1 a2 s
theorem mM_EachAddsALineModel_refusal {N : Nat} {a1 : Int32} {a2 : Int32} {s : vSt} {r : Int32} {t1 : vSt} (h : fM_EachAddsALineModel_refusal N a1 a2 s = some (r, t1)) (l : Launch) (ad : Nat → Nat) : vMI l shM ad yX12_refusal cX12_refusal 4 .int 2 42 s [.ref (ad 0), .int a1, .int a2] r t1 :=
  vMI_of (by decide +kernel) (Nat.le_of_ble_eq_true rfl) (fun P hX hR => wM_EachAddsALineModel_refusal_0 hX hR h)
-- M_EachAddsALineModel_partner
noncomputable def gM_EachAddsALineModel_partner_0 (N : Nat)  (a1 : Int32) (a2 : Int32) (s : vSt) : Option (Int32 × vSt) :=
  (ld s 2 20 a2).bind fun v1 =>
  if v1 = a1 then
    (ld s 3 20 a2).bind fun v2 =>
    some (v2, s)
  else
    (ld s 2 20 a2).bind fun v3 =>
    some (v3, s)
set_option maxRecDepth 4000 in
theorem wM_EachAddsALineModel_partner_0 {P : vP} {l : Launch} {ad : Nat → Nat} {N : Nat} {r : Int32} {t1 : vSt} (hX : vOK P l shM ad (vR 0 0) cX12_partner RX12 3) (hR : (∀ pc lv, narrow .int (.int r) = .int r → decode cX12_partner pc = .ok (.ireturn, 1) → P t1 pc lv [.int r]))  {a1 : Int32} {a2 : Int32} {s : vSt} (h : gM_EachAddsALineModel_partner_0 N a1 a2 s = some (r, t1)) : P s 0 [(0, .ref (ad 0)), (1, .int a1), (2, .int a2)] [] := by
  unfold gM_EachAddsALineModel_partner_0 at h
  refine v_aload_n hX dX12_partner_0 rfl 0 rfl ?_
  refine gfM_0_3 hX kf_12_13 dX12_partner_1 ?_
  refine v_iload_n hX dX12_partner_4 rfl 2 rfl ?_
  refine alM_2 hX dX12_partner_5 h (fun v1 h => ?_)
  refine v_iload_n hX dX12_partner_6 rfl 1 rfl ?_
  refine v_icmp_ne (tgt := 19) hX dX12_partner_7 (by decide) h (fun h => ?_) (fun h => ?_)
  · refine v_aload_n hX dX12_partner_10 rfl 0 rfl ?_
    refine gfM_0_4 hX kf_12_16 dX12_partner_11 ?_
    refine v_iload_n hX dX12_partner_14 rfl 2 rfl ?_
    refine alM_3 hX dX12_partner_15 h (fun v2 h => ?_)
    refine v_goto (tgt := 25) hX dX12_partner_16 (by decide) ?_
    exact v_retI hR h dX12_partner_25
  · refine v_aload_n hX dX12_partner_19 rfl 0 rfl ?_
    refine gfM_0_3 hX kf_12_13 dX12_partner_20 ?_
    refine v_iload_n hX dX12_partner_23 rfl 2 rfl ?_
    refine alM_2 hX dX12_partner_24 h (fun v3 h => ?_)
    exact v_retI hR h dX12_partner_25
noncomputable def fM_EachAddsALineModel_partner (N : Nat) (a1 : Int32) (a2 : Int32) (s : vSt) : Option (Int32 × vSt) := gM_EachAddsALineModel_partner_0 N a1 a2 s
theorem mM_EachAddsALineModel_partner {N : Nat} {a1 : Int32} {a2 : Int32} {s : vSt} {r : Int32} {t1 : vSt} (h : fM_EachAddsALineModel_partner N a1 a2 s = some (r, t1)) (l : Launch) (ad : Nat → Nat) : vMI l shM ad yX12_partner cX12_partner 3 .int 0 0 s [.ref (ad 0), .int a1, .int a2] r t1 :=
  vMI_of (by decide +kernel) (Nat.le_of_ble_eq_true rfl) (fun P hX hR => wM_EachAddsALineModel_partner_0 hX hR h)
-- M_EachAddsALineModel_begin_m_rule
noncomputable def gM_EachAddsALineModel_begin_m_rule_0 (N : Nat)  (a2 : Int32) (a3 : Int32) (s : vSt) : Option (vSt) :=
  (some (s1 s 0 12 8)).bind fun z1 =>
  (some (s1 z1 0 13 a2)).bind fun z2 =>
  (some (s1 z2 0 14 a3)).bind fun z3 =>
  (some (s1 z3 0 15 0)).bind fun z4 =>
  (some (s1 z4 0 16 (-1))).bind fun z5 =>
  some z5
set_option maxRecDepth 4000 in
theorem wM_EachAddsALineModel_begin_m_rule_0 {P : vP} {l : Launch} {ad : Nat → Nat} {N : Nat} {t1 : vSt} (hX : vOK P l shM ad (vR 0 0) cX12_begin RX12 4) (hR : (∀ pc lv, decode cX12_begin pc = .ok (.return_, 1) → P t1 pc lv []))  {a2 : Int32} {a3 : Int32} {s : vSt} (h : gM_EachAddsALineModel_begin_m_rule_0 N a2 a3 s = some t1) : P s 0 [(0, .ref (ad 0)), (1, .ref (ad 8)), (2, .int a2), (3, .int a3)] [] := by
  unfold gM_EachAddsALineModel_begin_m_rule_0 at h
  refine v_aload_n hX dX12_begin_0 rfl 0 rfl ?_
  refine v_aload_n hX dX12_begin_1 rfl 1 rfl ?_
  refine pfM_0_12_m_rule hX kf_12_115 dX12_begin_2 h (fun z1 h => ?_)
  refine v_aload_n hX dX12_begin_5 rfl 0 rfl ?_
  refine v_iload_n hX dX12_begin_6 rfl 2 rfl ?_
  refine pfM_0_13 hX kf_12_118 dX12_begin_7 h (fun z2 h => ?_)
  refine v_aload_n hX dX12_begin_10 rfl 0 rfl ?_
  refine v_iload_n hX dX12_begin_11 rfl 3 rfl ?_
  refine pfM_0_14 hX kf_12_121 dX12_begin_12 h (fun z3 h => ?_)
  refine v_aload_n hX dX12_begin_15 rfl 0 rfl ?_
  refine v_iconst (v := 0) hX dX12_begin_16 (by decide) ?_
  refine pfM_0_15 hX kf_12_124 dX12_begin_17 h (fun z4 h => ?_)
  refine v_aload_n hX dX12_begin_20 rfl 0 rfl ?_
  refine v_iconst (v := (-1)) hX dX12_begin_21 (by decide) ?_
  refine pfM_0_16 hX kf_12_127 dX12_begin_22 h (fun z5 h => ?_)
  exact v_retV hR h dX12_begin_25
noncomputable def fM_EachAddsALineModel_begin_m_rule (N : Nat) (a2 : Int32) (a3 : Int32) (s : vSt) : Option (vSt) := gM_EachAddsALineModel_begin_m_rule_0 N a2 a3 s
theorem mM_EachAddsALineModel_begin_m_rule {N : Nat} {a2 : Int32} {a3 : Int32} {s : vSt} {t1 : vSt} (h : fM_EachAddsALineModel_begin_m_rule N a2 a3 s = some t1) (l : Launch) (ad : Nat → Nat) : vMV l shM ad yX12_begin cX12_begin 4 0 0 s [.ref (ad 0), .ref (ad 8), .int a2, .int a3] t1 :=
  vMV_of (by decide +kernel) (Nat.le_of_ble_eq_true rfl) (fun P hX hR => wM_EachAddsALineModel_begin_m_rule_0 hX hR h)
-- M_EachAddsALineModel_lineBy_m_told
noncomputable def gM_EachAddsALineModel_lineBy_m_told_119 (N : Nat)  (a7 : Int32) (s : vSt) : Option (Int32 × vSt) :=
  some (((a7 - a7 / 10 * 10) + 10) - ((a7 - a7 / 10 * 10) + 10) / 10 * 10, s)
set_option maxRecDepth 4000 in
theorem wM_EachAddsALineModel_lineBy_m_told_119 {P : vP} {l : Launch} {ad : Nat → Nat} {N : Nat} {r : Int32} {t1 : vSt} (hX : vOK P l shM ad (vR 196 4557) cX12_lineBy RX12 9) (hR : (∀ pc lv, narrow .int (.int r) = .int r → decode cX12_lineBy pc = .ok (.ireturn, 1) → P t1 pc lv [.int r]))  {a7 : Int32} {s : vSt} (h : gM_EachAddsALineModel_lineBy_m_told_119 N a7 s = some (r, t1)) : P s 119 [(7, .int a7)] [] := by
  unfold gM_EachAddsALineModel_lineBy_m_told_119 at h
  refine v_iload hX dX12_lineBy_119 0 rfl ?_
  refine v_bipush (v := 10) hX dX12_lineBy_121 (by decide) ?_
  refine v_irem hX dX12_lineBy_123 (by decide) ?_
  refine v_bipush (v := 10) hX dX12_lineBy_124 (by decide) ?_
  refine v_iadd hX dX12_lineBy_126 ?_
  refine v_bipush (v := 10) hX dX12_lineBy_127 (by decide) ?_
  refine v_irem hX dX12_lineBy_129 (by decide) ?_
  exact v_retI hR h dX12_lineBy_130
noncomputable def gM_EachAddsALineModel_lineBy_m_told_63 (N : Nat)  : Nat → Int32 → Int32 → Int32 → vSt → Option (Int32 × vSt)
  | 0, _, _, _, _ => none
  | n + 1, a5, a6, a8, s =>
    if a6 ≤ a8 then
      (some (s1 s 0 19 1)).bind fun z1 =>
      (fM_EachAddsALineModel_begin_m_rule N (z1.1 0 18) 40 z1).bind fun z2 =>
      (fM_EachAddsALineModel_held N (fM_EachAddsALineModel_thing N 48) 0 z2).bind fun p3 =>
      gM_EachAddsALineModel_lineBy_m_told_119 N p3.1 p3.2
    else
      (ld s 10 30 (a5 + a8)).bind fun v4 =>
      (some (s1 s 0 26 ((s.1 0 26) + v4))).bind fun z5 =>
      (some (a8 + 1 : Int32)).bind fun v6 =>
      gM_EachAddsALineModel_lineBy_m_told_63 N n a5 a6 v6 z5
set_option maxRecDepth 4000 in
theorem wM_EachAddsALineModel_lineBy_m_told_63 {P : vP} {l : Launch} {ad : Nat → Nat} {N : Nat} {r : Int32} {t1 : vSt} (hX : vOK P l shM ad (vR 196 4557) cX12_lineBy RX12 9) (hR : (∀ pc lv, narrow .int (.int r) = .int r → decode cX12_lineBy pc = .ok (.ireturn, 1) → P t1 pc lv [.int r]))  : ∀ (n : Nat) (a5 : Int32) (a6 : Int32) (a8 : Int32) (s : vSt), gM_EachAddsALineModel_lineBy_m_told_63 N n a5 a6 a8 s = some (r, t1) → P s 63 [(0, .ref (ad 0)), (4, .ref (ad 10)), (5, .int a5), (6, .int a6), (8, .int a8)] [] := by
  intro n
  induction n with
  | zero => intro a5 a6 a8 s h; cases h
  | succ n ih =>
    intro a5 a6 a8 s h
    unfold gM_EachAddsALineModel_lineBy_m_told_63 at h
    refine v_iload hX dX12_lineBy_63 4 rfl ?_
    refine v_iload hX dX12_lineBy_65 3 rfl ?_
    refine v_icmp_ge (tgt := 93) hX dX12_lineBy_67 (by decide) h (fun h => ?_) (fun h => ?_)
    · refine v_aload_n hX dX12_lineBy_93 rfl 0 rfl ?_
      refine v_iconst (v := 1) hX dX12_lineBy_94 (by decide) ?_
      refine pfM_0_19 hX (Or.inr rfl) kf_12_169 dX12_lineBy_95 h (fun z1 h => ?_)
      refine v_aload_n hX dX12_lineBy_98 rfl 0 rfl ?_
      refine v_aload_n hX dX12_lineBy_99 rfl 0 rfl ?_
      refine gfM_0_17 hX kf_12_32 dX12_lineBy_100 ?_
      refine v_aload_n hX dX12_lineBy_103 rfl 0 rfl ?_
      refine gfM_0_18 hX kf_12_194 dX12_lineBy_104 ?_
      refine v_bipush (v := 40) hX dX12_lineBy_107 (by decide) ?_
      obtain ⟨z2, hz2, h⟩ := bsome h
      refine v_callVV (o := 0) hX (mM_EachAddsALineModel_begin_m_rule hz2 l ad) kM_X12_begin kV_X12_begin km_12_142 (by decide) (fun _ => rfl) rfl rfl rfl (Nat.le_of_ble_eq_true rfl) (by decide) dX12_lineBy_109 ?_
      refine v_aload_n hX dX12_lineBy_112 rfl 0 rfl ?_
      refine v_iconst (v := 0) hX dX12_lineBy_113 (by decide) ?_
      obtain ⟨p3, hp3, h⟩ := bsome h
      refine v_callVI (o := 0) hX (mM_EachAddsALineModel_held (fun _ _ _ _ z => mM_EachAddsALineModel_thing 48 z l ad) hp3) kM_X12_held kV_X12_held km_12_166 (by decide) (fun _ => rfl) rfl rfl rfl (Nat.le_of_ble_eq_true rfl) (by decide) dX12_lineBy_114 ?_
      refine v_istore (lv' := [(7, .int p3.1), (0, .ref (ad 0)), (4, .ref (ad 10)), (5, .int a5), (6, .int a6), (8, .int a8)]) hX dX12_lineBy_117 (by decide) rfl ?_
      exact v_sub hX [0] (by rfl) (wM_EachAddsALineModel_lineBy_m_told_119 hX hR  h)
    · refine v_aload_n hX dX12_lineBy_70 rfl 0 rfl ?_
      refine v_dup hX dX12_lineBy_71 rfl ?_
      refine gfM_0_26 hX kf_12_191 dX12_lineBy_72 ?_
      refine v_aload hX dX12_lineBy_75 1 rfl ?_
      refine v_iload hX dX12_lineBy_77 2 rfl ?_
      refine v_iload hX dX12_lineBy_79 4 rfl ?_
      refine v_iadd hX dX12_lineBy_81 ?_
      refine alM_10 hX dX12_lineBy_82 h (fun v4 h => ?_)
      refine v_iadd hX dX12_lineBy_83 ?_
      refine pfM_0_26 hX kf_12_191 dX12_lineBy_84 h (fun z5 h => ?_)
      refine v_iincN hX dX12_lineBy_87 (j := 4) rfl (c := 1) (by decide) (by decide) h (fun v6 h => ?_)
      refine v_show (lv' := [(8, .int v6), (0, .ref (ad 0)), (4, .ref (ad 10)), (5, .int a5), (6, .int a6)]) hX rfl ?_
      refine v_goto (tgt := 63) hX dX12_lineBy_90 (by decide) ?_
      exact v_sub hX [1, 2, 3, 4, 0] (by rfl) (ih _ _ _ _ h)
noncomputable def gM_EachAddsALineModel_lineBy_m_told_0 (N : Nat)  (a1 : Int32) (a2 : Int32) (a3 : Int32) (a5 : Int32) (a6 : Int32) (s : vSt) : Option (Int32 × vSt) :=
  if (s.1 0 18) ≤ 0 then
    gM_EachAddsALineModel_lineBy_m_told_119 N a6 s
  else
    (some (s1 s 0 20 a1)).bind fun z1 =>
    (some (s1 z1 0 21 a2)).bind fun z2 =>
    (some (s1 z2 0 22 a3)).bind fun z3 =>
    (some (s1 z3 0 23 a6)).bind fun z4 =>
    (ld z4 10 30 a5).bind fun v5 =>
    (some (s1 z4 0 24 v5)).bind fun z6 =>
    (ld z6 10 30 ((a5 + a6) - 1)).bind fun v7 =>
    (some (s1 z6 0 25 v7)).bind fun z8 =>
    (some (s1 z8 0 26 0)).bind fun z9 =>
    gM_EachAddsALineModel_lineBy_m_told_63 N N a5 a6 0 z9
set_option maxRecDepth 4000 in
theorem wM_EachAddsALineModel_lineBy_m_told_0 {P : vP} {l : Launch} {ad : Nat → Nat} {N : Nat} {r : Int32} {t1 : vSt} (hX : vOK P l shM ad (vR 196 4557) cX12_lineBy RX12 9) (hR : (∀ pc lv, narrow .int (.int r) = .int r → decode cX12_lineBy pc = .ok (.ireturn, 1) → P t1 pc lv [.int r]))  {a1 : Int32} {a2 : Int32} {a3 : Int32} {a5 : Int32} {a6 : Int32} {s : vSt} (h : gM_EachAddsALineModel_lineBy_m_told_0 N a1 a2 a3 a5 a6 s = some (r, t1)) : P s 0 [(0, .ref (ad 0)), (1, .int a1), (2, .int a2), (3, .int a3), (4, .ref (ad 10)), (5, .int a5), (6, .int a6)] [] := by
  unfold gM_EachAddsALineModel_lineBy_m_told_0 at h
  refine v_iload hX dX12_lineBy_0 6 rfl ?_
  refine v_istore (lv' := [(7, .int a6), (0, .ref (ad 0)), (1, .int a1), (2, .int a2), (3, .int a3), (4, .ref (ad 10)), (5, .int a5), (6, .int a6)]) hX dX12_lineBy_2 (by decide) rfl ?_
  refine v_aload_n hX dX12_lineBy_4 rfl 1 rfl ?_
  refine gfM_0_18 hX kf_12_194 dX12_lineBy_5 ?_
  refine v_if_le (tgt := 119) hX dX12_lineBy_8 (by decide) h (fun h => ?_) (fun h => ?_)
  · exact v_sub hX [0] (by rfl) (wM_EachAddsALineModel_lineBy_m_told_119 hX hR  h)
  · refine v_aload_n hX dX12_lineBy_11 rfl 1 rfl ?_
    refine v_iload_n hX dX12_lineBy_12 rfl 2 rfl ?_
    refine pfM_0_20 hX kf_12_173 dX12_lineBy_13 h (fun z1 h => ?_)
    refine v_aload_n hX dX12_lineBy_16 rfl 1 rfl ?_
    refine v_iload_n hX dX12_lineBy_17 rfl 3 rfl ?_
    refine pfM_0_21 hX kf_12_176 dX12_lineBy_18 h (fun z2 h => ?_)
    refine v_aload_n hX dX12_lineBy_21 rfl 1 rfl ?_
    refine v_iload_n hX dX12_lineBy_22 rfl 4 rfl ?_
    refine pfM_0_22 hX kf_12_179 dX12_lineBy_23 h (fun z3 h => ?_)
    refine v_aload_n hX dX12_lineBy_26 rfl 1 rfl ?_
    refine v_iload hX dX12_lineBy_27 7 rfl ?_
    refine pfM_0_23 hX kf_12_182 dX12_lineBy_29 h (fun z4 h => ?_)
    refine v_aload_n hX dX12_lineBy_32 rfl 1 rfl ?_
    refine v_aload hX dX12_lineBy_33 5 rfl ?_
    refine v_iload hX dX12_lineBy_35 6 rfl ?_
    refine alM_10 hX dX12_lineBy_37 h (fun v5 h => ?_)
    refine pfM_0_24 hX kf_12_185 dX12_lineBy_38 h (fun z6 h => ?_)
    refine v_aload_n hX dX12_lineBy_41 rfl 1 rfl ?_
    refine v_aload hX dX12_lineBy_42 5 rfl ?_
    refine v_iload hX dX12_lineBy_44 6 rfl ?_
    refine v_iload hX dX12_lineBy_46 7 rfl ?_
    refine v_iadd hX dX12_lineBy_48 ?_
    refine v_iconst (v := 1) hX dX12_lineBy_49 (by decide) ?_
    refine v_isub hX dX12_lineBy_50 ?_
    refine alM_10 hX dX12_lineBy_51 h (fun v7 h => ?_)
    refine pfM_0_25 hX kf_12_188 dX12_lineBy_52 h (fun z8 h => ?_)
    refine v_aload_n hX dX12_lineBy_55 rfl 1 rfl ?_
    refine v_iconst (v := 0) hX dX12_lineBy_56 (by decide) ?_
    refine pfM_0_26 hX kf_12_191 dX12_lineBy_57 h (fun z9 h => ?_)
    refine v_iconst (v := 0) hX dX12_lineBy_60 (by decide) ?_
    refine v_istore (lv' := [(8, .int 0), (7, .int a6), (0, .ref (ad 0)), (1, .int a1), (2, .int a2), (3, .int a3), (4, .ref (ad 10)), (5, .int a5), (6, .int a6)]) hX dX12_lineBy_61 (by decide) rfl ?_
    exact v_sub hX [2, 6, 7, 8, 0] (by rfl) (wM_EachAddsALineModel_lineBy_m_told_63 hX hR  N _ _ _ _ h)
noncomputable def fM_EachAddsALineModel_lineBy_m_told (N : Nat) (a1 : Int32) (a2 : Int32) (a3 : Int32) (a5 : Int32) (a6 : Int32) (s : vSt) : Option (Int32 × vSt) := gM_EachAddsALineModel_lineBy_m_told_0 N a1 a2 a3 a5 a6 s
theorem mM_EachAddsALineModel_lineBy_m_told {N : Nat} {a1 : Int32} {a2 : Int32} {a3 : Int32} {a5 : Int32} {a6 : Int32} {s : vSt} {r : Int32} {t1 : vSt} (h : fM_EachAddsALineModel_lineBy_m_told N a1 a2 a3 a5 a6 s = some (r, t1)) (l : Launch) (ad : Nat → Nat) : vMI l shM ad yX12_lineBy cX12_lineBy 9 .int 196 4557 s [.ref (ad 0), .int a1, .int a2, .int a3, .ref (ad 10), .int a5, .int a6] r t1 :=
  vMI_of (by decide +kernel) (Nat.le_of_ble_eq_true rfl) (fun P hX hR => wM_EachAddsALineModel_lineBy_m_told_0 hX hR h)
-- M_EachAddsALineModel_makeHand
noncomputable def gM_EachAddsALineModel_makeHand_9 (N : Nat)  : Nat → Int32 → Int32 → Int32 → Int32 → vSt → Option (Int32 × vSt)
  | 0, _, _, _, _, _ => none
  | n + 1, a1, a2, a3, a4, s =>
    if a3 ≤ a4 then
      (fM_EachAddsALineModel_holder N a1 s).bind fun p1 =>
      (fM_EachAddsALineModel_partner N p1.1 a2 p1.2).bind fun p2 =>
      (ld p2.2 4 20 a2).bind fun v3 =>
      (fM_EachAddsALineModel_lineBy_m_told N p2.1 p1.1 v3 0 a3 p2.2).bind fun p4 =>
      (fM_EachAddsALineModel_at N a1 a3 p4.2).bind fun p5 =>
      (sto p5.2 9 273 p5.1 p4.1).bind fun z6 =>
      (fM_EachAddsALineModel_at N a1 a3 z6).bind fun p7 =>
      (sto p7.2 9 273 (p7.1 + 1) p2.1).bind fun z8 =>
      (fM_EachAddsALineModel_at N a1 a3 z8).bind fun p9 =>
      (ld p9.2 4 20 a2).bind fun v10 =>
      (sto p9.2 9 273 (p9.1 + 2) v10).bind fun z11 =>
      (ld z11 9 273 ((91 : Int32) * a1)).bind fun v12 =>
      (sto z11 9 273 ((91 : Int32) * a1) (v12 + 1)).bind fun z13 =>
      some (p4.1, z13)
    else
      (fM_EachAddsALineModel_at N a1 a4 s).bind fun p14 =>
      (ld p14.2 9 273 p14.1).bind fun v15 =>
      (sto p14.2 10 30 a4 v15).bind fun z16 =>
      (some (a4 + 1 : Int32)).bind fun v17 =>
      gM_EachAddsALineModel_makeHand_9 N n a1 a2 a3 v17 z16
set_option maxRecDepth 4000 in
theorem wM_EachAddsALineModel_makeHand_9 {P : vP} {l : Launch} {ad : Nat → Nat} {N : Nat} {r : Int32} {t1 : vSt} (hX : vOK P l shM ad (vR 197 4585) cX12_makeHand RX12 7) (hR : (∀ pc lv, narrow .int (.int r) = .int r → decode cX12_makeHand pc = .ok (.ireturn, 1) → P t1 pc lv [.int r]))  : ∀ (n : Nat) (a1 : Int32) (a2 : Int32) (a3 : Int32) (a4 : Int32) (s : vSt), gM_EachAddsALineModel_makeHand_9 N n a1 a2 a3 a4 s = some (r, t1) → P s 9 [(0, .ref (ad 0)), (1, .int a1), (2, .int a2), (3, .int a3), (4, .int a4)] [] := by
  intro n
  induction n with
  | zero => intro a1 a2 a3 a4 s h; cases h
  | succ n ih =>
    intro a1 a2 a3 a4 s h
    unfold gM_EachAddsALineModel_makeHand_9 at h
    refine v_iload hX dX12_makeHand_9 4 rfl ?_
    refine v_iload_n hX dX12_makeHand_11 rfl 3 rfl ?_
    refine v_icmp_ge (tgt := 39) hX dX12_makeHand_12 (by decide) h (fun h => ?_) (fun h => ?_)
    · refine v_aload_n hX dX12_makeHand_39 rfl 0 rfl ?_
      refine v_iload_n hX dX12_makeHand_40 rfl 1 rfl ?_
      obtain ⟨p1, hp1, h⟩ := bsome h
      refine v_callVI (o := 0) hX (mM_EachAddsALineModel_holder hp1 l ad) kM_X12_holder kV_X12_holder km_12_224 (by decide) (fun _ => rfl) rfl rfl rfl (Nat.le_of_ble_eq_true rfl) (by decide) dX12_makeHand_41 ?_
      refine v_istore (lv' := [(4, .int p1.1), (0, .ref (ad 0)), (1, .int a1), (2, .int a2), (3, .int a3)]) hX dX12_makeHand_44 (by decide) rfl ?_
      refine v_aload_n hX dX12_makeHand_46 rfl 1 rfl ?_
      refine v_iload hX dX12_makeHand_47 0 rfl ?_
      refine v_iload_n hX dX12_makeHand_49 rfl 3 rfl ?_
      obtain ⟨p2, hp2, h⟩ := bsome h
      refine v_callVI (o := 0) hX (mM_EachAddsALineModel_partner hp2 l ad) kM_X12_partner kV_X12_partner km_12_234 (by decide) (fun _ => rfl) rfl rfl rfl (Nat.le_of_ble_eq_true rfl) (by decide) dX12_makeHand_50 ?_
      refine v_istore (lv' := [(5, .int p2.1), (4, .int p1.1), (0, .ref (ad 0)), (1, .int a1), (2, .int a2), (3, .int a3)]) hX dX12_makeHand_53 (by decide) rfl ?_
      refine v_aload_n hX dX12_makeHand_55 rfl 2 rfl ?_
      refine v_iload hX dX12_makeHand_56 0 rfl ?_
      refine v_iload hX dX12_makeHand_58 1 rfl ?_
      refine v_aload_n hX dX12_makeHand_60 rfl 2 rfl ?_
      refine gfM_0_5 hX kf_12_19 dX12_makeHand_61 ?_
      refine v_iload_n hX dX12_makeHand_64 rfl 4 rfl ?_
      refine alM_4 hX dX12_makeHand_65 h (fun v3 h => ?_)
      refine v_aload_n hX dX12_makeHand_66 rfl 2 rfl ?_
      refine gfM_0_28 hX kf_12_38 dX12_makeHand_67 ?_
      refine v_iconst (v := 0) hX dX12_makeHand_70 (by decide) ?_
      refine v_iload_n hX dX12_makeHand_71 rfl 5 rfl ?_
      obtain ⟨p4, hp4, h⟩ := bsome h
      refine v_callVI (o := 0) hX (mM_EachAddsALineModel_lineBy_m_told hp4 l ad) kM_X12_lineBy kV_X12_lineBy km_12_237 (by decide) (fun _ => rfl) rfl rfl rfl (Nat.le_of_ble_eq_true rfl) (by decide) dX12_makeHand_72 ?_
      refine v_istore (lv' := [(6, .int p4.1), (5, .int p2.1), (4, .int p1.1), (0, .ref (ad 0)), (1, .int a1), (2, .int a2), (3, .int a3)]) hX dX12_makeHand_75 (by decide) rfl ?_
      refine v_aload_n hX dX12_makeHand_77 rfl 3 rfl ?_
      refine gfM_0_27 hX kf_12_35 dX12_makeHand_78 ?_
      refine v_iload_n hX dX12_makeHand_81 rfl 4 rfl ?_
      refine v_iload_n hX dX12_makeHand_82 rfl 6 rfl ?_
      obtain ⟨p5, hp5, h⟩ := bsome h
      refine v_callSI hX (mM_EachAddsALineModel_at hp5 l ad) kM_X12_at kS_X12_at km_12_219 rfl rfl (Nat.le_of_ble_eq_true rfl) (by decide) dX12_makeHand_83 ?_
      refine v_iload hX dX12_makeHand_86 0 rfl ?_
      refine asM_9 hX dX12_makeHand_88 h (fun z6 h => ?_)
      refine v_aload_n hX dX12_makeHand_89 rfl 3 rfl ?_
      refine gfM_0_27 hX kf_12_35 dX12_makeHand_90 ?_
      refine v_iload_n hX dX12_makeHand_93 rfl 4 rfl ?_
      refine v_iload_n hX dX12_makeHand_94 rfl 6 rfl ?_
      obtain ⟨p7, hp7, h⟩ := bsome h
      refine v_callSI hX (mM_EachAddsALineModel_at hp7 l ad) kM_X12_at kS_X12_at km_12_219 rfl rfl (Nat.le_of_ble_eq_true rfl) (by decide) dX12_makeHand_95 ?_
      refine v_iconst (v := 1) hX dX12_makeHand_98 (by decide) ?_
      refine v_iadd hX dX12_makeHand_99 ?_
      refine v_iload hX dX12_makeHand_100 1 rfl ?_
      refine asM_9 hX dX12_makeHand_102 h (fun z8 h => ?_)
      refine v_aload_n hX dX12_makeHand_103 rfl 3 rfl ?_
      refine gfM_0_27 hX kf_12_35 dX12_makeHand_104 ?_
      refine v_iload_n hX dX12_makeHand_107 rfl 4 rfl ?_
      refine v_iload_n hX dX12_makeHand_108 rfl 6 rfl ?_
      obtain ⟨p9, hp9, h⟩ := bsome h
      refine v_callSI hX (mM_EachAddsALineModel_at hp9 l ad) kM_X12_at kS_X12_at km_12_219 rfl rfl (Nat.le_of_ble_eq_true rfl) (by decide) dX12_makeHand_109 ?_
      refine v_iconst (v := 2) hX dX12_makeHand_112 (by decide) ?_
      refine v_iadd hX dX12_makeHand_113 ?_
      refine v_aload_n hX dX12_makeHand_114 rfl 3 rfl ?_
      refine gfM_0_5 hX kf_12_19 dX12_makeHand_115 ?_
      refine v_iload_n hX dX12_makeHand_118 rfl 5 rfl ?_
      refine alM_4 hX dX12_makeHand_119 h (fun v10 h => ?_)
      refine asM_9 hX dX12_makeHand_120 h (fun z11 h => ?_)
      refine v_aload_n hX dX12_makeHand_121 rfl 3 rfl ?_
      refine gfM_0_27 hX kf_12_35 dX12_makeHand_122 ?_
      refine v_bipush (v := 91) hX dX12_makeHand_125 (by decide) ?_
      refine v_iload_n hX dX12_makeHand_127 rfl 4 rfl ?_
      refine v_imul hX dX12_makeHand_128 ?_
      refine v_dup2 hX dX12_makeHand_129 rfl rfl ?_
      refine alM_9 hX dX12_makeHand_130 h (fun v12 h => ?_)
      refine v_iconst (v := 1) hX dX12_makeHand_131 (by decide) ?_
      refine v_iadd hX dX12_makeHand_132 ?_
      refine asM_9 hX dX12_makeHand_133 h (fun z13 h => ?_)
      refine v_iload hX dX12_makeHand_134 0 rfl ?_
      exact v_retI hR h dX12_makeHand_136
    · refine v_aload_n hX dX12_makeHand_15 rfl 0 rfl ?_
      refine gfM_0_28 hX kf_12_38 dX12_makeHand_16 ?_
      refine v_iload hX dX12_makeHand_19 4 rfl ?_
      refine v_aload_n hX dX12_makeHand_21 rfl 0 rfl ?_
      refine gfM_0_27 hX kf_12_35 dX12_makeHand_22 ?_
      refine v_iload_n hX dX12_makeHand_25 rfl 1 rfl ?_
      refine v_iload hX dX12_makeHand_26 4 rfl ?_
      obtain ⟨p14, hp14, h⟩ := bsome h
      refine v_callSI hX (mM_EachAddsALineModel_at hp14 l ad) kM_X12_at kS_X12_at km_12_219 rfl rfl (Nat.le_of_ble_eq_true rfl) (by decide) dX12_makeHand_28 ?_
      refine alM_9 hX dX12_makeHand_31 h (fun v15 h => ?_)
      refine asM_10 hX dX12_makeHand_32 h (fun z16 h => ?_)
      refine v_iincN hX dX12_makeHand_33 (j := 4) rfl (c := 1) (by decide) (by decide) h (fun v17 h => ?_)
      refine v_show (lv' := [(4, .int v17), (0, .ref (ad 0)), (1, .int a1), (2, .int a2), (3, .int a3)]) hX rfl ?_
      refine v_goto (tgt := 9) hX dX12_makeHand_36 (by decide) ?_
      exact v_sub hX [1, 2, 3, 4, 0] (by rfl) (ih _ _ _ _ _ h)
noncomputable def gM_EachAddsALineModel_makeHand_0 (N : Nat)  (a1 : Int32) (a2 : Int32) (s : vSt) : Option (Int32 × vSt) :=
  (fM_EachAddsALineModel_linesOf N a1 s).bind fun p1 =>
  gM_EachAddsALineModel_makeHand_9 N N a1 a2 p1.1 0 p1.2
set_option maxRecDepth 4000 in
theorem wM_EachAddsALineModel_makeHand_0 {P : vP} {l : Launch} {ad : Nat → Nat} {N : Nat} {r : Int32} {t1 : vSt} (hX : vOK P l shM ad (vR 197 4585) cX12_makeHand RX12 7) (hR : (∀ pc lv, narrow .int (.int r) = .int r → decode cX12_makeHand pc = .ok (.ireturn, 1) → P t1 pc lv [.int r]))  {a1 : Int32} {a2 : Int32} {s : vSt} (h : gM_EachAddsALineModel_makeHand_0 N a1 a2 s = some (r, t1)) : P s 0 [(0, .ref (ad 0)), (1, .int a1), (2, .int a2)] [] := by
  unfold gM_EachAddsALineModel_makeHand_0 at h
  refine v_aload_n hX dX12_makeHand_0 rfl 0 rfl ?_
  refine v_iload_n hX dX12_makeHand_1 rfl 1 rfl ?_
  obtain ⟨p1, hp1, h⟩ := bsome h
  refine v_callVI (o := 0) hX (mM_EachAddsALineModel_linesOf hp1 l ad) kM_X12_linesOf kV_X12_linesOf km_12_216 (by decide) (fun _ => rfl) rfl rfl rfl (Nat.le_of_ble_eq_true rfl) (by decide) dX12_makeHand_2 ?_
  refine v_istore_n (lv' := [(3, .int p1.1), (0, .ref (ad 0)), (1, .int a1), (2, .int a2)]) hX dX12_makeHand_5 rfl (by decide) rfl ?_
  refine v_iconst (v := 0) hX dX12_makeHand_6 (by decide) ?_
  refine v_istore (lv' := [(4, .int 0), (3, .int p1.1), (0, .ref (ad 0)), (1, .int a1), (2, .int a2)]) hX dX12_makeHand_7 (by decide) rfl ?_
  exact v_sub hX [2, 3, 4, 1, 0] (by rfl) (wM_EachAddsALineModel_makeHand_9 hX hR  N _ _ _ _ _ h)
noncomputable def fM_EachAddsALineModel_makeHand (N : Nat) (a1 : Int32) (a2 : Int32) (s : vSt) : Option (Int32 × vSt) := gM_EachAddsALineModel_makeHand_0 N a1 a2 s
theorem mM_EachAddsALineModel_makeHand {N : Nat} {a1 : Int32} {a2 : Int32} {s : vSt} {r : Int32} {t1 : vSt} (h : fM_EachAddsALineModel_makeHand N a1 a2 s = some (r, t1)) (l : Launch) (ad : Nat → Nat) : vMI l shM ad yX12_makeHand cX12_makeHand 7 .int 197 4585 s [.ref (ad 0), .int a1, .int a2] r t1 :=
  vMI_of (by decide +kernel) (Nat.le_of_ble_eq_true rfl) (fun P hX hR => wM_EachAddsALineModel_makeHand_0 hX hR h)
-- M_EachAddsALineModel_hand
noncomputable def gM_EachAddsALineModel_hand_0 (N : Nat)  (a1 : Int32) (a2 : Int32) (s : vSt) : Option (Int32 × vSt) :=
  (some (s1 s 0 11 0)).bind fun z1 =>
  (fM_EachAddsALineModel_isLetter N a1 z1).bind fun p2 =>
  if p2.1 = 0 then
    some ((-1), p2.2)
  else
    (fM_EachAddsALineModel_isMeeting N a2 p2.2).bind fun p3 =>
    if p3.1 = 0 then
      some ((-1), p3.2)
    else
      (fM_EachAddsALineModel_refusal N a1 a2 p3.2).bind fun p4 =>
      if 0 ≤ p4.1 then
        (fM_EachAddsALineModel_makeHand N a1 a2 p4.2).bind fun p5 =>
        some (p5.1, p5.2)
      else
        some (p4.1, p4.2)
set_option maxRecDepth 4000 in
theorem wM_EachAddsALineModel_hand_0 {P : vP} {l : Launch} {ad : Nat → Nat} {N : Nat} {r : Int32} {t1 : vSt} (hX : vOK P l shM ad (vR 198 4611) cX12_hand RX12 4) (hR : (∀ pc lv, narrow .int (.int r) = .int r → decode cX12_hand pc = .ok (.ireturn, 1) → P t1 pc lv [.int r]))  {a1 : Int32} {a2 : Int32} {s : vSt} (h : gM_EachAddsALineModel_hand_0 N a1 a2 s = some (r, t1)) : P s 0 [(0, .ref (ad 0)), (1, .int a1), (2, .int a2)] [] := by
  unfold gM_EachAddsALineModel_hand_0 at h
  refine v_aload_n hX dX12_hand_0 rfl 0 rfl ?_
  refine v_iconst (v := 0) hX dX12_hand_1 (by decide) ?_
  refine pfM_0_11 hX kf_12_96 dX12_hand_2 h (fun z1 h => ?_)
  refine v_aload_n hX dX12_hand_5 rfl 0 rfl ?_
  refine v_iload_n hX dX12_hand_6 rfl 1 rfl ?_
  obtain ⟨p2, hp2, h⟩ := bsome h
  refine v_callVI (o := 0) hX (mM_EachAddsALineModel_isLetter hp2 l ad) kM_X12_isLetter kV_X12_isLetter km_12_241 (by decide) (fun _ => rfl) rfl rfl rfl (Nat.le_of_ble_eq_true rfl) (by decide) dX12_hand_7 ?_
  refine v_if_eq (tgt := 21) hX dX12_hand_10 (by decide) h (fun h => ?_) (fun h => ?_)
  · refine v_iconst (v := (-1)) hX dX12_hand_21 (by decide) ?_
    exact v_retI hR h dX12_hand_22
  · refine v_aload_n hX dX12_hand_13 rfl 0 rfl ?_
    refine v_iload_n hX dX12_hand_14 rfl 2 rfl ?_
    obtain ⟨p3, hp3, h⟩ := bsome h
    refine v_callVI (o := 0) hX (mM_EachAddsALineModel_isMeeting hp3 l ad) kM_X12_isMeeting kV_X12_isMeeting km_12_201 (by decide) (fun _ => rfl) rfl rfl rfl (Nat.le_of_ble_eq_true rfl) (by decide) dX12_hand_15 ?_
    refine v_if_ne (tgt := 23) hX dX12_hand_18 (by decide) h (fun h => ?_) (fun h => ?_)
    · refine v_iconst (v := (-1)) hX dX12_hand_21 (by decide) ?_
      exact v_retI hR h dX12_hand_22
    · refine v_aload_n hX dX12_hand_23 rfl 0 rfl ?_
      refine v_iload_n hX dX12_hand_24 rfl 1 rfl ?_
      refine v_iload_n hX dX12_hand_25 rfl 2 rfl ?_
      obtain ⟨p4, hp4, h⟩ := bsome h
      refine v_callVI (o := 0) hX (mM_EachAddsALineModel_refusal hp4 l ad) kM_X12_refusal kV_X12_refusal km_12_244 (by decide) (fun _ => rfl) rfl rfl rfl (Nat.le_of_ble_eq_true rfl) (by decide) dX12_hand_26 ?_
      refine v_istore_n (lv' := [(3, .int p4.1), (0, .ref (ad 0)), (1, .int a1), (2, .int a2)]) hX dX12_hand_29 rfl (by decide) rfl ?_
      refine v_iload_n hX dX12_hand_30 rfl 0 rfl ?_
      refine v_if_ge (tgt := 38) hX dX12_hand_31 (by decide) h (fun h => ?_) (fun h => ?_)
      · refine v_aload_n hX dX12_hand_38 rfl 1 rfl ?_
        refine v_iload_n hX dX12_hand_39 rfl 2 rfl ?_
        refine v_iload_n hX dX12_hand_40 rfl 3 rfl ?_
        obtain ⟨p5, hp5, h⟩ := bsome h
        refine v_callVI (o := 0) hX (mM_EachAddsALineModel_makeHand hp5 l ad) kM_X12_makeHand kV_X12_makeHand km_12_247 (by decide) (fun _ => rfl) rfl rfl rfl (Nat.le_of_ble_eq_true rfl) (by decide) dX12_hand_41 ?_
        exact v_retI hR h dX12_hand_44
      · refine v_iload_n hX dX12_hand_34 rfl 0 rfl ?_
        refine v_goto (tgt := 44) hX dX12_hand_35 (by decide) ?_
        exact v_retI hR h dX12_hand_44
noncomputable def fM_EachAddsALineModel_hand (N : Nat) (a1 : Int32) (a2 : Int32) (s : vSt) : Option (Int32 × vSt) := gM_EachAddsALineModel_hand_0 N a1 a2 s
theorem mM_EachAddsALineModel_hand {N : Nat} {a1 : Int32} {a2 : Int32} {s : vSt} {r : Int32} {t1 : vSt} (h : fM_EachAddsALineModel_hand N a1 a2 s = some (r, t1)) (l : Launch) (ad : Nat → Nat) : vMI l shM ad yX12_hand cX12_hand 4 .int 198 4611 s [.ref (ad 0), .int a1, .int a2] r t1 :=
  vMI_of (by decide +kernel) (Nat.le_of_ble_eq_true rfl) (fun P hX hR => wM_EachAddsALineModel_hand_0 hX hR h)
-- M_EachAddsALineModel_undo
noncomputable def gM_EachAddsALineModel_undo_0 (N : Nat)  (a1 : Int32) (s : vSt) : Option (Int32 × vSt) :=
  (some (s1 s 0 11 0)).bind fun z1 =>
  (fM_EachAddsALineModel_isLetter N a1 z1).bind fun p2 =>
  if p2.1 = 0 then
    some ((-1), p2.2)
  else
    (fM_EachAddsALineModel_linesOf N a1 p2.2).bind fun p3 =>
    if p3.1 = 1 then
      some ((-1), p3.2)
    else
      (ld p3.2 9 273 ((91 : Int32) * a1)).bind fun v4 =>
      (sto p3.2 9 273 ((91 : Int32) * a1) (v4 - 1)).bind fun z5 =>
      (fM_EachAddsALineModel_linesOf N a1 z5).bind fun p6 =>
      some (p6.1 - 1, p6.2)
set_option maxRecDepth 4000 in
theorem wM_EachAddsALineModel_undo_0 {P : vP} {l : Launch} {ad : Nat → Nat} {N : Nat} {r : Int32} {t1 : vSt} (hX : vOK P l shM ad (vR 2 43) cX12_undo RX12 2) (hR : (∀ pc lv, narrow .int (.int r) = .int r → decode cX12_undo pc = .ok (.ireturn, 1) → P t1 pc lv [.int r]))  {a1 : Int32} {s : vSt} (h : gM_EachAddsALineModel_undo_0 N a1 s = some (r, t1)) : P s 0 [(0, .ref (ad 0)), (1, .int a1)] [] := by
  unfold gM_EachAddsALineModel_undo_0 at h
  refine v_aload_n hX dX12_undo_0 rfl 0 rfl ?_
  refine v_iconst (v := 0) hX dX12_undo_1 (by decide) ?_
  refine pfM_0_11 hX kf_12_96 dX12_undo_2 h (fun z1 h => ?_)
  refine v_aload_n hX dX12_undo_5 rfl 0 rfl ?_
  refine v_iload_n hX dX12_undo_6 rfl 1 rfl ?_
  obtain ⟨p2, hp2, h⟩ := bsome h
  refine v_callVI (o := 0) hX (mM_EachAddsALineModel_isLetter hp2 l ad) kM_X12_isLetter kV_X12_isLetter km_12_241 (by decide) (fun _ => rfl) rfl rfl rfl (Nat.le_of_ble_eq_true rfl) (by decide) dX12_undo_7 ?_
  refine v_if_eq (tgt := 22) hX dX12_undo_10 (by decide) h (fun h => ?_) (fun h => ?_)
  · refine v_iconst (v := (-1)) hX dX12_undo_22 (by decide) ?_
    exact v_retI hR h dX12_undo_23
  · refine v_aload_n hX dX12_undo_13 rfl 0 rfl ?_
    refine v_iload_n hX dX12_undo_14 rfl 1 rfl ?_
    obtain ⟨p3, hp3, h⟩ := bsome h
    refine v_callVI (o := 0) hX (mM_EachAddsALineModel_linesOf hp3 l ad) kM_X12_linesOf kV_X12_linesOf km_12_216 (by decide) (fun _ => rfl) rfl rfl rfl (Nat.le_of_ble_eq_true rfl) (by decide) dX12_undo_15 ?_
    refine v_iconst (v := 1) hX dX12_undo_18 (by decide) ?_
    refine v_icmp_ne (tgt := 24) hX dX12_undo_19 (by decide) h (fun h => ?_) (fun h => ?_)
    · refine v_iconst (v := (-1)) hX dX12_undo_22 (by decide) ?_
      exact v_retI hR h dX12_undo_23
    · refine v_aload_n hX dX12_undo_24 rfl 0 rfl ?_
      refine gfM_0_27 hX kf_12_35 dX12_undo_25 ?_
      refine v_bipush (v := 91) hX dX12_undo_28 (by decide) ?_
      refine v_iload_n hX dX12_undo_30 rfl 1 rfl ?_
      refine v_imul hX dX12_undo_31 ?_
      refine v_dup2 hX dX12_undo_32 rfl rfl ?_
      refine alM_9 hX dX12_undo_33 h (fun v4 h => ?_)
      refine v_iconst (v := 1) hX dX12_undo_34 (by decide) ?_
      refine v_isub hX dX12_undo_35 ?_
      refine asM_9 hX dX12_undo_36 h (fun z5 h => ?_)
      refine v_aload_n hX dX12_undo_37 rfl 0 rfl ?_
      refine v_iload_n hX dX12_undo_38 rfl 1 rfl ?_
      obtain ⟨p6, hp6, h⟩ := bsome h
      refine v_callVI (o := 0) hX (mM_EachAddsALineModel_linesOf hp6 l ad) kM_X12_linesOf kV_X12_linesOf km_12_216 (by decide) (fun _ => rfl) rfl rfl rfl (Nat.le_of_ble_eq_true rfl) (by decide) dX12_undo_39 ?_
      refine v_iconst (v := 1) hX dX12_undo_42 (by decide) ?_
      refine v_isub hX dX12_undo_43 ?_
      exact v_retI hR h dX12_undo_44
noncomputable def fM_EachAddsALineModel_undo (N : Nat) (a1 : Int32) (s : vSt) : Option (Int32 × vSt) := gM_EachAddsALineModel_undo_0 N a1 s
theorem mM_EachAddsALineModel_undo {N : Nat} {a1 : Int32} {s : vSt} {r : Int32} {t1 : vSt} (h : fM_EachAddsALineModel_undo N a1 s = some (r, t1)) (l : Launch) (ad : Nat → Nat) : vMI l shM ad yX12_undo cX12_undo 2 .int 2 43 s [.ref (ad 0), .int a1] r t1 :=
  vMI_of (by decide +kernel) (Nat.le_of_ble_eq_true rfl) (fun P hX hR => wM_EachAddsALineModel_undo_0 hX hR h)
-- M_EachAddsALineModel_tell
noncomputable def gM_EachAddsALineModel_tell_0 (N : Nat)  (a1 : Int32) (s : vSt) : Option (vSt) :=
  (sto s 7 16 (s.1 0 10) a1).bind fun z1 =>
  (some (s1 z1 0 10 ((z1.1 0 10) + 1))).bind fun z2 =>
  some z2
set_option maxRecDepth 4000 in
theorem wM_EachAddsALineModel_tell_0 {P : vP} {l : Launch} {ad : Nat → Nat} {N : Nat} {t1 : vSt} (hX : vOK P l shM ad (vR 0 0) cX12_tell RX12 2) (hR : (∀ pc lv, decode cX12_tell pc = .ok (.return_, 1) → P t1 pc lv []))  {a1 : Int32} {s : vSt} (h : gM_EachAddsALineModel_tell_0 N a1 s = some t1) : P s 0 [(0, .ref (ad 0)), (1, .int a1)] [] := by
  unfold gM_EachAddsALineModel_tell_0 at h
  refine v_aload_n hX dX12_tell_0 rfl 0 rfl ?_
  refine gfM_0_9 hX kf_12_29 dX12_tell_1 ?_
  refine v_aload_n hX dX12_tell_4 rfl 0 rfl ?_
  refine gfM_0_10 hX kf_12_99 dX12_tell_5 ?_
  refine v_iload_n hX dX12_tell_8 rfl 1 rfl ?_
  refine asM_7 hX dX12_tell_9 h (fun z1 h => ?_)
  refine v_aload_n hX dX12_tell_10 rfl 0 rfl ?_
  refine v_dup hX dX12_tell_11 rfl ?_
  refine gfM_0_10 hX kf_12_99 dX12_tell_12 ?_
  refine v_iconst (v := 1) hX dX12_tell_15 (by decide) ?_
  refine v_iadd hX dX12_tell_16 ?_
  refine pfM_0_10 hX kf_12_99 dX12_tell_17 h (fun z2 h => ?_)
  exact v_retV hR h dX12_tell_20
noncomputable def fM_EachAddsALineModel_tell (N : Nat) (a1 : Int32) (s : vSt) : Option (vSt) := gM_EachAddsALineModel_tell_0 N a1 s
theorem mM_EachAddsALineModel_tell {N : Nat} {a1 : Int32} {s : vSt} {t1 : vSt} (h : fM_EachAddsALineModel_tell N a1 s = some t1) (l : Launch) (ad : Nat → Nat) : vMV l shM ad yX12_tell cX12_tell 2 0 0 s [.ref (ad 0), .int a1] t1 :=
  vMV_of (by decide +kernel) (Nat.le_of_ble_eq_true rfl) (fun P hX hR => wM_EachAddsALineModel_tell_0 hX hR h)
-- M_EachAddsALineModel_lines
noncomputable def gM_EachAddsALineModel_lines_22 (N : Nat)  : Nat → Int32 → Int32 → vSt → Option (Int32 × vSt)
  | 0, _, _, _ => none
  | n + 1, a1, a2, s =>
    (fM_EachAddsALineModel_linesOf N a1 s).bind fun p1 =>
    if p1.1 ≤ a2 then
      (fM_EachAddsALineModel_linesOf N a1 p1.2).bind fun p2 =>
      some (p2.1, p2.2)
    else
      if 12 ≤ a2 then
        (fM_EachAddsALineModel_linesOf N a1 p1.2).bind fun p3 =>
        some (p3.1, p3.2)
      else
        (fM_EachAddsALineModel_at N a1 a2 p1.2).bind fun p4 =>
        (ld p4.2 9 273 p4.1).bind fun v5 =>
        (fM_EachAddsALineModel_tell N v5 p4.2).bind fun z6 =>
        (some (a2 + 1 : Int32)).bind fun v7 =>
        gM_EachAddsALineModel_lines_22 N n a1 v7 z6
set_option maxRecDepth 4000 in
theorem wM_EachAddsALineModel_lines_22 {P : vP} {l : Launch} {ad : Nat → Nat} {N : Nat} {r : Int32} {t1 : vSt} (hX : vOK P l shM ad (vR 2 43) cX12_lines RX12 3) (hR : (∀ pc lv, narrow .int (.int r) = .int r → decode cX12_lines pc = .ok (.ireturn, 1) → P t1 pc lv [.int r]))  : ∀ (n : Nat) (a1 : Int32) (a2 : Int32) (s : vSt), gM_EachAddsALineModel_lines_22 N n a1 a2 s = some (r, t1) → P s 22 [(0, .ref (ad 0)), (1, .int a1), (2, .int a2)] [] := by
  intro n
  induction n with
  | zero => intro a1 a2 s h; cases h
  | succ n ih =>
    intro a1 a2 s h
    unfold gM_EachAddsALineModel_lines_22 at h
    refine v_iload_n hX dX12_lines_22 rfl 2 rfl ?_
    refine v_aload_n hX dX12_lines_23 rfl 0 rfl ?_
    refine v_iload_n hX dX12_lines_24 rfl 1 rfl ?_
    obtain ⟨p1, hp1, h⟩ := bsome h
    refine v_callVI (o := 0) hX (mM_EachAddsALineModel_linesOf hp1 l ad) kM_X12_linesOf kV_X12_linesOf km_12_216 (by decide) (fun _ => rfl) rfl rfl rfl (Nat.le_of_ble_eq_true rfl) (by decide) dX12_lines_25 ?_
    refine v_icmp_ge (tgt := 57) hX dX12_lines_28 (by decide) h (fun h => ?_) (fun h => ?_)
    · refine v_aload_n hX dX12_lines_57 rfl 0 rfl ?_
      refine v_iload_n hX dX12_lines_58 rfl 1 rfl ?_
      obtain ⟨p2, hp2, h⟩ := bsome h
      refine v_callVI (o := 0) hX (mM_EachAddsALineModel_linesOf hp2 l ad) kM_X12_linesOf kV_X12_linesOf km_12_216 (by decide) (fun _ => rfl) rfl rfl rfl (Nat.le_of_ble_eq_true rfl) (by decide) dX12_lines_59 ?_
      exact v_retI hR h dX12_lines_62
    · refine v_iload_n hX dX12_lines_31 rfl 2 rfl ?_
      refine v_bipush (v := 12) hX dX12_lines_32 (by decide) ?_
      refine v_icmp_ge (tgt := 57) hX dX12_lines_34 (by decide) h (fun h => ?_) (fun h => ?_)
      · refine v_aload_n hX dX12_lines_57 rfl 0 rfl ?_
        refine v_iload_n hX dX12_lines_58 rfl 1 rfl ?_
        obtain ⟨p3, hp3, h⟩ := bsome h
        refine v_callVI (o := 0) hX (mM_EachAddsALineModel_linesOf hp3 l ad) kM_X12_linesOf kV_X12_linesOf km_12_216 (by decide) (fun _ => rfl) rfl rfl rfl (Nat.le_of_ble_eq_true rfl) (by decide) dX12_lines_59 ?_
        exact v_retI hR h dX12_lines_62
      · refine v_aload_n hX dX12_lines_37 rfl 0 rfl ?_
        refine v_aload_n hX dX12_lines_38 rfl 0 rfl ?_
        refine gfM_0_27 hX kf_12_35 dX12_lines_39 ?_
        refine v_iload_n hX dX12_lines_42 rfl 1 rfl ?_
        refine v_iload_n hX dX12_lines_43 rfl 2 rfl ?_
        obtain ⟨p4, hp4, h⟩ := bsome h
        refine v_callSI hX (mM_EachAddsALineModel_at hp4 l ad) kM_X12_at kS_X12_at km_12_219 rfl rfl (Nat.le_of_ble_eq_true rfl) (by decide) dX12_lines_44 ?_
        refine alM_9 hX dX12_lines_47 h (fun v5 h => ?_)
        obtain ⟨z6, hz6, h⟩ := bsome h
        refine v_callVV (o := 0) hX (mM_EachAddsALineModel_tell hz6 l ad) kM_X12_tell kV_X12_tell km_12_250 (by decide) (fun _ => rfl) rfl rfl rfl (Nat.le_of_ble_eq_true rfl) (by decide) dX12_lines_48 ?_
        refine v_iincN hX dX12_lines_51 (j := 2) rfl (c := 1) (by decide) (by decide) h (fun v7 h => ?_)
        refine v_show (lv' := [(2, .int v7), (0, .ref (ad 0)), (1, .int a1)]) hX rfl ?_
        refine v_goto (tgt := 22) hX dX12_lines_54 (by decide) ?_
        exact v_sub hX [1, 2, 0] (by rfl) (ih _ _ _ h)
noncomputable def gM_EachAddsALineModel_lines_0 (N : Nat)  (a1 : Int32) (s : vSt) : Option (Int32 × vSt) :=
  (some (s1 s 0 11 0)).bind fun z1 =>
  (fM_EachAddsALineModel_isLetter N a1 z1).bind fun p2 =>
  if p2.1 = 0 then
    some ((-1), p2.2)
  else
    (some (s1 p2.2 0 10 0)).bind fun z3 =>
    gM_EachAddsALineModel_lines_22 N N a1 0 z3
set_option maxRecDepth 4000 in
theorem wM_EachAddsALineModel_lines_0 {P : vP} {l : Launch} {ad : Nat → Nat} {N : Nat} {r : Int32} {t1 : vSt} (hX : vOK P l shM ad (vR 2 43) cX12_lines RX12 3) (hR : (∀ pc lv, narrow .int (.int r) = .int r → decode cX12_lines pc = .ok (.ireturn, 1) → P t1 pc lv [.int r]))  {a1 : Int32} {s : vSt} (h : gM_EachAddsALineModel_lines_0 N a1 s = some (r, t1)) : P s 0 [(0, .ref (ad 0)), (1, .int a1)] [] := by
  unfold gM_EachAddsALineModel_lines_0 at h
  refine v_aload_n hX dX12_lines_0 rfl 0 rfl ?_
  refine v_iconst (v := 0) hX dX12_lines_1 (by decide) ?_
  refine pfM_0_11 hX kf_12_96 dX12_lines_2 h (fun z1 h => ?_)
  refine v_aload_n hX dX12_lines_5 rfl 0 rfl ?_
  refine v_iload_n hX dX12_lines_6 rfl 1 rfl ?_
  obtain ⟨p2, hp2, h⟩ := bsome h
  refine v_callVI (o := 0) hX (mM_EachAddsALineModel_isLetter hp2 l ad) kM_X12_isLetter kV_X12_isLetter km_12_241 (by decide) (fun _ => rfl) rfl rfl rfl (Nat.le_of_ble_eq_true rfl) (by decide) dX12_lines_7 ?_
  refine v_if_ne (tgt := 15) hX dX12_lines_10 (by decide) h (fun h => ?_) (fun h => ?_)
  · refine v_iconst (v := (-1)) hX dX12_lines_13 (by decide) ?_
    exact v_retI hR h dX12_lines_14
  · refine v_aload_n hX dX12_lines_15 rfl 0 rfl ?_
    refine v_iconst (v := 0) hX dX12_lines_16 (by decide) ?_
    refine pfM_0_10 hX kf_12_99 dX12_lines_17 h (fun z3 h => ?_)
    refine v_iconst (v := 0) hX dX12_lines_20 (by decide) ?_
    refine v_istore_n (lv' := [(2, .int 0), (0, .ref (ad 0)), (1, .int a1)]) hX dX12_lines_21 rfl (by decide) rfl ?_
    exact v_sub hX [1, 2, 0] (by rfl) (wM_EachAddsALineModel_lines_22 hX hR  N _ _ _ h)
noncomputable def fM_EachAddsALineModel_lines (N : Nat) (a1 : Int32) (s : vSt) : Option (Int32 × vSt) := gM_EachAddsALineModel_lines_0 N a1 s
theorem mM_EachAddsALineModel_lines {N : Nat} {a1 : Int32} {s : vSt} {r : Int32} {t1 : vSt} (h : fM_EachAddsALineModel_lines N a1 s = some (r, t1)) (l : Launch) (ad : Nat → Nat) : vMI l shM ad yX12_lines cX12_lines 3 .int 2 43 s [.ref (ad 0), .int a1] r t1 :=
  vMI_of (by decide +kernel) (Nat.le_of_ble_eq_true rfl) (fun P hX hR => wM_EachAddsALineModel_lines_0 hX hR h)
-- M_EachAddsALineModel_readers
noncomputable def gM_EachAddsALineModel_readers_4 (N : Nat)  : Nat → Int32 → Int32 → Int32 → vSt → Option (Int32 × vSt)
  | 0, _, _, _, _ => none
  | n + 1, a1, a2, a3, s =>
    (fM_EachAddsALineModel_linesOf N a1 s).bind fun p1 =>
    if p1.1 ≤ a3 then
      some (a2, p1.2)
    else
      (fM_EachAddsALineModel_at N a1 a3 p1.2).bind fun p2 =>
      (ld p2.2 9 273 (p2.1 + 1)).bind fun v3 =>
      (some (a2 ||| ((1 : Int32) <<< (v3 &&& 31)) : Int32)).bind fun v4 =>
      (some (a3 + 1 : Int32)).bind fun v5 =>
      gM_EachAddsALineModel_readers_4 N n a1 v4 v5 p2.2
set_option maxRecDepth 4000 in
theorem wM_EachAddsALineModel_readers_4 {P : vP} {l : Launch} {ad : Nat → Nat} {N : Nat} {r : Int32} {t1 : vSt} (hX : vOK P l shM ad (vR 1 21) cX12_readers RX12 4) (hR : (∀ pc lv, narrow .int (.int r) = .int r → decode cX12_readers pc = .ok (.ireturn, 1) → P t1 pc lv [.int r]))  : ∀ (n : Nat) (a1 : Int32) (a2 : Int32) (a3 : Int32) (s : vSt), gM_EachAddsALineModel_readers_4 N n a1 a2 a3 s = some (r, t1) → P s 4 [(0, .ref (ad 0)), (1, .int a1), (2, .int a2), (3, .int a3)] [] := by
  intro n
  induction n with
  | zero => intro a1 a2 a3 s h; cases h
  | succ n ih =>
    intro a1 a2 a3 s h
    unfold gM_EachAddsALineModel_readers_4 at h
    refine v_iload_n hX dX12_readers_4 rfl 3 rfl ?_
    refine v_aload_n hX dX12_readers_5 rfl 0 rfl ?_
    refine v_iload_n hX dX12_readers_6 rfl 1 rfl ?_
    obtain ⟨p1, hp1, h⟩ := bsome h
    refine v_callVI (o := 0) hX (mM_EachAddsALineModel_linesOf hp1 l ad) kM_X12_linesOf kV_X12_linesOf km_12_216 (by decide) (fun _ => rfl) rfl rfl rfl (Nat.le_of_ble_eq_true rfl) (by decide) dX12_readers_7 ?_
    refine v_icmp_ge (tgt := 36) hX dX12_readers_10 (by decide) h (fun h => ?_) (fun h => ?_)
    · refine v_iload_n hX dX12_readers_36 rfl 2 rfl ?_
      exact v_retI hR h dX12_readers_37
    · refine v_iload_n hX dX12_readers_13 rfl 2 rfl ?_
      refine v_iconst (v := 1) hX dX12_readers_14 (by decide) ?_
      refine v_aload_n hX dX12_readers_15 rfl 0 rfl ?_
      refine gfM_0_27 hX kf_12_35 dX12_readers_16 ?_
      refine v_iload_n hX dX12_readers_19 rfl 1 rfl ?_
      refine v_iload_n hX dX12_readers_20 rfl 3 rfl ?_
      obtain ⟨p2, hp2, h⟩ := bsome h
      refine v_callSI hX (mM_EachAddsALineModel_at hp2 l ad) kM_X12_at kS_X12_at km_12_219 rfl rfl (Nat.le_of_ble_eq_true rfl) (by decide) dX12_readers_21 ?_
      refine v_iconst (v := 1) hX dX12_readers_24 (by decide) ?_
      refine v_iadd hX dX12_readers_25 ?_
      refine alM_9 hX dX12_readers_26 h (fun v3 h => ?_)
      refine v_ishl hX dX12_readers_27 ?_
      refine v_ior hX dX12_readers_28 ?_
      refine v_nmI hX h (fun v4 h => ?_)
      refine v_istore_n (lv' := [(2, .int v4), (0, .ref (ad 0)), (1, .int a1), (3, .int a3)]) hX dX12_readers_29 rfl (by decide) rfl ?_
      refine v_iincN hX dX12_readers_30 (j := 3) rfl (c := 1) (by decide) (by decide) h (fun v5 h => ?_)
      refine v_show (lv' := [(3, .int v5), (2, .int v4), (0, .ref (ad 0)), (1, .int a1)]) hX rfl ?_
      refine v_goto (tgt := 4) hX dX12_readers_33 (by decide) ?_
      exact v_sub hX [2, 3, 1, 0] (by rfl) (ih _ _ _ _ h)
noncomputable def gM_EachAddsALineModel_readers_0 (N : Nat)  (a1 : Int32) (s : vSt) : Option (Int32 × vSt) :=
  gM_EachAddsALineModel_readers_4 N N a1 0 0 s
set_option maxRecDepth 4000 in
theorem wM_EachAddsALineModel_readers_0 {P : vP} {l : Launch} {ad : Nat → Nat} {N : Nat} {r : Int32} {t1 : vSt} (hX : vOK P l shM ad (vR 1 21) cX12_readers RX12 4) (hR : (∀ pc lv, narrow .int (.int r) = .int r → decode cX12_readers pc = .ok (.ireturn, 1) → P t1 pc lv [.int r]))  {a1 : Int32} {s : vSt} (h : gM_EachAddsALineModel_readers_0 N a1 s = some (r, t1)) : P s 0 [(0, .ref (ad 0)), (1, .int a1)] [] := by
  unfold gM_EachAddsALineModel_readers_0 at h
  refine v_iconst (v := 0) hX dX12_readers_0 (by decide) ?_
  refine v_istore_n (lv' := [(2, .int 0), (0, .ref (ad 0)), (1, .int a1)]) hX dX12_readers_1 rfl (by decide) rfl ?_
  refine v_iconst (v := 0) hX dX12_readers_2 (by decide) ?_
  refine v_istore_n (lv' := [(3, .int 0), (2, .int 0), (0, .ref (ad 0)), (1, .int a1)]) hX dX12_readers_3 rfl (by decide) rfl ?_
  exact v_sub hX [2, 3, 1, 0] (by rfl) (wM_EachAddsALineModel_readers_4 hX hR  N _ _ _ _ h)
noncomputable def fM_EachAddsALineModel_readers (N : Nat) (a1 : Int32) (s : vSt) : Option (Int32 × vSt) := gM_EachAddsALineModel_readers_0 N a1 s
theorem mM_EachAddsALineModel_readers {N : Nat} {a1 : Int32} {s : vSt} {r : Int32} {t1 : vSt} (h : fM_EachAddsALineModel_readers N a1 s = some (r, t1)) (l : Launch) (ad : Nat → Nat) : vMI l shM ad yX12_readers cX12_readers 4 .int 1 21 s [.ref (ad 0), .int a1] r t1 :=
  vMI_of (by decide +kernel) (Nat.le_of_ble_eq_true rfl) (fun P hX hR => wM_EachAddsALineModel_readers_0 hX hR h)
-- M_EachAddsALineModel_of
noncomputable def gM_EachAddsALineModel_of_0 (N : Nat)  (a1 : Int32) (a2 : Int32) (s : vSt) : Option (Int32 × vSt) :=
  (some (s1 s 0 11 0)).bind fun z1 =>
  (fM_EachAddsALineModel_isLetter N a1 z1).bind fun p2 =>
  if p2.1 = 0 then
    some ((-1), p2.2)
  else
    if a2 = 0 then
      (fM_EachAddsALineModel_at N a1 0 p2.2).bind fun p3 =>
      (ld p3.2 9 273 (p3.1 + 1)).bind fun v4 =>
      some (v4, p3.2)
    else
    if a2 = 1 then
      (fM_EachAddsALineModel_at N a1 0 p2.2).bind fun p5 =>
      (ld p5.2 9 273 (p5.1 + 2)).bind fun v6 =>
      some (v6, p5.2)
    else
    if a2 = 2 then
      (fM_EachAddsALineModel_holder N a1 p2.2).bind fun p7 =>
      some (p7.1, p7.2)
    else
    if a2 = 3 then
      (fM_EachAddsALineModel_since N a1 p2.2).bind fun p8 =>
      some (p8.1, p8.2)
    else
    if a2 = 4 then
      (fM_EachAddsALineModel_readers N a1 p2.2).bind fun p9 =>
      some (p9.1, p9.2)
    else
    if a2 < 0 ∨ 4 < a2 then
      some ((-1), p2.2)
    else none
set_option maxRecDepth 4000 in
theorem wM_EachAddsALineModel_of_0 {P : vP} {l : Launch} {ad : Nat → Nat} {N : Nat} {r : Int32} {t1 : vSt} (hX : vOK P l shM ad (vR 2 44) cX12_of RX12 3) (hR : (∀ pc lv, narrow .int (.int r) = .int r → decode cX12_of pc = .ok (.ireturn, 1) → P t1 pc lv [.int r]))  {a1 : Int32} {a2 : Int32} {s : vSt} (h : gM_EachAddsALineModel_of_0 N a1 a2 s = some (r, t1)) : P s 0 [(0, .ref (ad 0)), (1, .int a1), (2, .int a2)] [] := by
  unfold gM_EachAddsALineModel_of_0 at h
  refine v_aload_n hX dX12_of_0 rfl 0 rfl ?_
  refine v_iconst (v := 0) hX dX12_of_1 (by decide) ?_
  refine pfM_0_11 hX kf_12_96 dX12_of_2 h (fun z1 h => ?_)
  refine v_aload_n hX dX12_of_5 rfl 0 rfl ?_
  refine v_iload_n hX dX12_of_6 rfl 1 rfl ?_
  obtain ⟨p2, hp2, h⟩ := bsome h
  refine v_callVI (o := 0) hX (mM_EachAddsALineModel_isLetter hp2 l ad) kM_X12_isLetter kV_X12_isLetter km_12_241 (by decide) (fun _ => rfl) rfl rfl rfl (Nat.le_of_ble_eq_true rfl) (by decide) dX12_of_7 ?_
  refine v_if_ne (tgt := 15) hX dX12_of_10 (by decide) h (fun h => ?_) (fun h => ?_)
  · refine v_iconst (v := (-1)) hX dX12_of_13 (by decide) ?_
    exact v_retI hR h dX12_of_14
  · refine v_iload_n hX dX12_of_15 rfl 2 rfl ?_
    rcases ifs h with ⟨hc, h⟩ | ⟨hn0, h⟩
    · refine v_tblIn (tgt := 52) (off := 36) hX dX12_of_16 (by rw [hc]; decide) (by rw [hc]; decide) (by rw [hc]; rfl) (by decide) ?_
      refine v_aload_n hX dX12_of_52 rfl 0 rfl ?_
      refine gfM_0_27 hX kf_12_35 dX12_of_53 ?_
      refine v_iload_n hX dX12_of_56 rfl 1 rfl ?_
      refine v_iconst (v := 0) hX dX12_of_57 (by decide) ?_
      obtain ⟨p3, hp3, h⟩ := bsome h
      refine v_callSI hX (mM_EachAddsALineModel_at hp3 l ad) kM_X12_at kS_X12_at km_12_219 rfl rfl (Nat.le_of_ble_eq_true rfl) (by decide) dX12_of_58 ?_
      refine v_iconst (v := 1) hX dX12_of_61 (by decide) ?_
      refine v_iadd hX dX12_of_62 ?_
      refine alM_9 hX dX12_of_63 h (fun v4 h => ?_)
      exact v_retI hR h dX12_of_64
    rcases ifs h with ⟨hc, h⟩ | ⟨hn1, h⟩
    · refine v_tblIn (tgt := 65) (off := 49) hX dX12_of_16 (by rw [hc]; decide) (by rw [hc]; decide) (by rw [hc]; rfl) (by decide) ?_
      refine v_aload_n hX dX12_of_65 rfl 0 rfl ?_
      refine gfM_0_27 hX kf_12_35 dX12_of_66 ?_
      refine v_iload_n hX dX12_of_69 rfl 1 rfl ?_
      refine v_iconst (v := 0) hX dX12_of_70 (by decide) ?_
      obtain ⟨p5, hp5, h⟩ := bsome h
      refine v_callSI hX (mM_EachAddsALineModel_at hp5 l ad) kM_X12_at kS_X12_at km_12_219 rfl rfl (Nat.le_of_ble_eq_true rfl) (by decide) dX12_of_71 ?_
      refine v_iconst (v := 2) hX dX12_of_74 (by decide) ?_
      refine v_iadd hX dX12_of_75 ?_
      refine alM_9 hX dX12_of_76 h (fun v6 h => ?_)
      exact v_retI hR h dX12_of_77
    rcases ifs h with ⟨hc, h⟩ | ⟨hn2, h⟩
    · refine v_tblIn (tgt := 78) (off := 62) hX dX12_of_16 (by rw [hc]; decide) (by rw [hc]; decide) (by rw [hc]; rfl) (by decide) ?_
      refine v_aload_n hX dX12_of_78 rfl 0 rfl ?_
      refine v_iload_n hX dX12_of_79 rfl 1 rfl ?_
      obtain ⟨p7, hp7, h⟩ := bsome h
      refine v_callVI (o := 0) hX (mM_EachAddsALineModel_holder hp7 l ad) kM_X12_holder kV_X12_holder km_12_224 (by decide) (fun _ => rfl) rfl rfl rfl (Nat.le_of_ble_eq_true rfl) (by decide) dX12_of_80 ?_
      exact v_retI hR h dX12_of_83
    rcases ifs h with ⟨hc, h⟩ | ⟨hn3, h⟩
    · refine v_tblIn (tgt := 84) (off := 68) hX dX12_of_16 (by rw [hc]; decide) (by rw [hc]; decide) (by rw [hc]; rfl) (by decide) ?_
      refine v_aload_n hX dX12_of_84 rfl 0 rfl ?_
      refine v_iload_n hX dX12_of_85 rfl 1 rfl ?_
      obtain ⟨p8, hp8, h⟩ := bsome h
      refine v_callVI (o := 0) hX (mM_EachAddsALineModel_since hp8 l ad) kM_X12_since kV_X12_since km_12_231 (by decide) (fun _ => rfl) rfl rfl rfl (Nat.le_of_ble_eq_true rfl) (by decide) dX12_of_86 ?_
      exact v_retI hR h dX12_of_89
    rcases ifs h with ⟨hc, h⟩ | ⟨hn4, h⟩
    · refine v_tblIn (tgt := 90) (off := 74) hX dX12_of_16 (by rw [hc]; decide) (by rw [hc]; decide) (by rw [hc]; rfl) (by decide) ?_
      refine v_aload_n hX dX12_of_90 rfl 0 rfl ?_
      refine v_iload_n hX dX12_of_91 rfl 1 rfl ?_
      obtain ⟨p9, hp9, h⟩ := bsome h
      refine v_callVI (o := 0) hX (mM_EachAddsALineModel_readers hp9 l ad) kM_X12_readers kV_X12_readers km_12_253 (by decide) (fun _ => rfl) rfl rfl rfl (Nat.le_of_ble_eq_true rfl) (by decide) dX12_of_92 ?_
      exact v_retI hR h dX12_of_95
    obtain ⟨hc, h⟩ := gsome h
    refine v_tblOut (tgt := 96) hX dX12_of_16 (tblo (lo := 0) (hi := 4) (by decide) (by decide) hc) (by decide) ?_
    refine v_iconst (v := (-1)) hX dX12_of_96 (by decide) ?_
    exact v_retI hR h dX12_of_97
noncomputable def fM_EachAddsALineModel_of (N : Nat) (a1 : Int32) (a2 : Int32) (s : vSt) : Option (Int32 × vSt) := gM_EachAddsALineModel_of_0 N a1 a2 s
theorem mM_EachAddsALineModel_of {N : Nat} {a1 : Int32} {a2 : Int32} {s : vSt} {r : Int32} {t1 : vSt} (h : fM_EachAddsALineModel_of N a1 a2 s = some (r, t1)) (l : Launch) (ad : Nat → Nat) : vMI l shM ad yX12_of cX12_of 3 .int 2 44 s [.ref (ad 0), .int a1, .int a2] r t1 :=
  vMI_of (by decide +kernel) (Nat.le_of_ble_eq_true rfl) (fun P hX hR => wM_EachAddsALineModel_of_0 hX hR h)
-- M_EachAddsALineModel_can
noncomputable def gM_EachAddsALineModel_can_44 (N : Nat) (r19 : Int32 → Int32 → Int32 → vSt → Option (Int32 × vSt)) (a1 : Int32) (a3 : Int32) (k0 : Int32) (k1 : Int32) (s : vSt) : Option (Int32 × vSt) :=
  (some (k0 ||| k1 : Int32)).bind fun v1 =>
  (some (a3 + 1 : Int32)).bind fun v2 =>
  r19 a1 v1 v2 s
set_option maxRecDepth 4000 in
theorem wM_EachAddsALineModel_can_44 {P : vP} {l : Launch} {ad : Nat → Nat} {N : Nat} {r19 : Int32 → Int32 → Int32 → vSt → Option (Int32 × vSt)} {r : Int32} {t1 : vSt} (hX : vOK P l shM ad (vR 3 65) cX12_can RX12 4) (hR : (∀ pc lv, narrow .int (.int r) = .int r → decode cX12_can pc = .ok (.ireturn, 1) → P t1 pc lv [.int r])) (H19 : ∀ (a1 : Int32) (a2 : Int32) (a3 : Int32) (s : vSt), r19 a1 a2 a3 s = some (r, t1) → P s 19 [(0, .ref (ad 0)), (1, .int a1), (2, .int a2), (3, .int a3)] []) {a1 : Int32} {a3 : Int32} {k0 : Int32} {k1 : Int32} {s : vSt} (h : gM_EachAddsALineModel_can_44 N r19 a1 a3 k0 k1 s = some (r, t1)) : P s 44 [(0, .ref (ad 0)), (1, .int a1), (3, .int a3)] [.int k1, .int k0] := by
  unfold gM_EachAddsALineModel_can_44 at h
  refine v_ior hX dX12_can_44 ?_
  refine v_nmI hX h (fun v1 h => ?_)
  refine v_istore_n (lv' := [(2, .int v1), (0, .ref (ad 0)), (1, .int a1), (3, .int a3)]) hX dX12_can_45 rfl (by decide) rfl ?_
  refine v_iincN hX dX12_can_46 (j := 3) rfl (c := 1) (by decide) (by decide) h (fun v2 h => ?_)
  refine v_show (lv' := [(3, .int v2), (2, .int v1), (0, .ref (ad 0)), (1, .int a1)]) hX rfl ?_
  refine v_goto (tgt := 19) hX dX12_can_49 (by decide) ?_
  exact v_sub hX [2, 3, 1, 0] (by rfl) (H19 _ _ _ _ h)
noncomputable def gM_EachAddsALineModel_can_19 (N : Nat)  : Nat → Int32 → Int32 → Int32 → vSt → Option (Int32 × vSt)
  | 0, _, _, _, _ => none
  | n + 1, a1, a2, a3, s =>
    if (s.1 0 2) ≤ a3 then
      some (a2, s)
    else
      (fM_EachAddsALineModel_refusal N a1 a3 s).bind fun p1 =>
      if p1.1 = 0 then
        gM_EachAddsALineModel_can_44 N (gM_EachAddsALineModel_can_19 N n) a1 a3 a2 ((1 : Int32) <<< (a3 &&& 31)) p1.2
      else
        gM_EachAddsALineModel_can_44 N (gM_EachAddsALineModel_can_19 N n) a1 a3 a2 0 p1.2
set_option maxRecDepth 4000 in
theorem wM_EachAddsALineModel_can_19 {P : vP} {l : Launch} {ad : Nat → Nat} {N : Nat} {r : Int32} {t1 : vSt} (hX : vOK P l shM ad (vR 3 65) cX12_can RX12 4) (hR : (∀ pc lv, narrow .int (.int r) = .int r → decode cX12_can pc = .ok (.ireturn, 1) → P t1 pc lv [.int r]))  : ∀ (n : Nat) (a1 : Int32) (a2 : Int32) (a3 : Int32) (s : vSt), gM_EachAddsALineModel_can_19 N n a1 a2 a3 s = some (r, t1) → P s 19 [(0, .ref (ad 0)), (1, .int a1), (2, .int a2), (3, .int a3)] [] := by
  intro n
  induction n with
  | zero => intro a1 a2 a3 s h; cases h
  | succ n ih =>
    intro a1 a2 a3 s h
    unfold gM_EachAddsALineModel_can_19 at h
    refine v_iload_n hX dX12_can_19 rfl 3 rfl ?_
    refine v_aload_n hX dX12_can_20 rfl 0 rfl ?_
    refine gfM_0_2 hX kf_12_109 dX12_can_21 ?_
    refine v_icmp_ge (tgt := 52) hX dX12_can_24 (by decide) h (fun h => ?_) (fun h => ?_)
    · refine v_iload_n hX dX12_can_52 rfl 2 rfl ?_
      exact v_retI hR h dX12_can_53
    · refine v_iload_n hX dX12_can_27 rfl 2 rfl ?_
      refine v_aload_n hX dX12_can_28 rfl 0 rfl ?_
      refine v_iload_n hX dX12_can_29 rfl 1 rfl ?_
      refine v_iload_n hX dX12_can_30 rfl 3 rfl ?_
      obtain ⟨p1, hp1, h⟩ := bsome h
      refine v_callVI (o := 0) hX (mM_EachAddsALineModel_refusal hp1 l ad) kM_X12_refusal kV_X12_refusal km_12_244 (by decide) (fun _ => rfl) rfl rfl rfl (Nat.le_of_ble_eq_true rfl) (by decide) dX12_can_31 ?_
      refine v_if_ne (tgt := 43) hX dX12_can_34 (by decide) h (fun h => ?_) (fun h => ?_)
      · refine v_iconst (v := 1) hX dX12_can_37 (by decide) ?_
        refine v_iload_n hX dX12_can_38 rfl 3 rfl ?_
        refine v_ishl hX dX12_can_39 ?_
        refine v_goto (tgt := 44) hX dX12_can_40 (by decide) ?_
        exact v_sub hX [0, 1, 3] (by rfl) (wM_EachAddsALineModel_can_44 hX hR ih h)
      · refine v_iconst (v := 0) hX dX12_can_43 (by decide) ?_
        exact v_sub hX [0, 1, 3] (by rfl) (wM_EachAddsALineModel_can_44 hX hR ih h)
noncomputable def gM_EachAddsALineModel_can_0 (N : Nat)  (a1 : Int32) (s : vSt) : Option (Int32 × vSt) :=
  (some (s1 s 0 11 0)).bind fun z1 =>
  (fM_EachAddsALineModel_isLetter N a1 z1).bind fun p2 =>
  if p2.1 = 0 then
    some ((-1), p2.2)
  else
    gM_EachAddsALineModel_can_19 N N a1 0 0 p2.2
set_option maxRecDepth 4000 in
theorem wM_EachAddsALineModel_can_0 {P : vP} {l : Launch} {ad : Nat → Nat} {N : Nat} {r : Int32} {t1 : vSt} (hX : vOK P l shM ad (vR 3 65) cX12_can RX12 4) (hR : (∀ pc lv, narrow .int (.int r) = .int r → decode cX12_can pc = .ok (.ireturn, 1) → P t1 pc lv [.int r]))  {a1 : Int32} {s : vSt} (h : gM_EachAddsALineModel_can_0 N a1 s = some (r, t1)) : P s 0 [(0, .ref (ad 0)), (1, .int a1)] [] := by
  unfold gM_EachAddsALineModel_can_0 at h
  refine v_aload_n hX dX12_can_0 rfl 0 rfl ?_
  refine v_iconst (v := 0) hX dX12_can_1 (by decide) ?_
  refine pfM_0_11 hX kf_12_96 dX12_can_2 h (fun z1 h => ?_)
  refine v_aload_n hX dX12_can_5 rfl 0 rfl ?_
  refine v_iload_n hX dX12_can_6 rfl 1 rfl ?_
  obtain ⟨p2, hp2, h⟩ := bsome h
  refine v_callVI (o := 0) hX (mM_EachAddsALineModel_isLetter hp2 l ad) kM_X12_isLetter kV_X12_isLetter km_12_241 (by decide) (fun _ => rfl) rfl rfl rfl (Nat.le_of_ble_eq_true rfl) (by decide) dX12_can_7 ?_
  refine v_if_ne (tgt := 15) hX dX12_can_10 (by decide) h (fun h => ?_) (fun h => ?_)
  · refine v_iconst (v := (-1)) hX dX12_can_13 (by decide) ?_
    exact v_retI hR h dX12_can_14
  · refine v_iconst (v := 0) hX dX12_can_15 (by decide) ?_
    refine v_istore_n (lv' := [(2, .int 0), (0, .ref (ad 0)), (1, .int a1)]) hX dX12_can_16 rfl (by decide) rfl ?_
    refine v_iconst (v := 0) hX dX12_can_17 (by decide) ?_
    refine v_istore_n (lv' := [(3, .int 0), (2, .int 0), (0, .ref (ad 0)), (1, .int a1)]) hX dX12_can_18 rfl (by decide) rfl ?_
    exact v_sub hX [2, 3, 1, 0] (by rfl) (wM_EachAddsALineModel_can_19 hX hR  N _ _ _ _ h)
noncomputable def fM_EachAddsALineModel_can (N : Nat) (a1 : Int32) (s : vSt) : Option (Int32 × vSt) := gM_EachAddsALineModel_can_0 N a1 s
theorem mM_EachAddsALineModel_can {N : Nat} {a1 : Int32} {s : vSt} {r : Int32} {t1 : vSt} (h : fM_EachAddsALineModel_can N a1 s = some (r, t1)) (l : Launch) (ad : Nat → Nat) : vMI l shM ad yX12_can cX12_can 4 .int 3 65 s [.ref (ad 0), .int a1] r t1 :=
  vMI_of (by decide +kernel) (Nat.le_of_ble_eq_true rfl) (fun P hX hR => wM_EachAddsALineModel_can_0 hX hR h)
-- M_EachAddsALineModel_has
noncomputable def gM_EachAddsALineModel_has_0 (N : Nat)  (a0 : Int32) (a1 : Int32) (s : vSt) : Option (Int32 × vSt) :=
  if ((a0 >>> (a1 &&& 31)) &&& 1) = 1 then
    some (1, s)
  else
    some (0, s)
set_option maxRecDepth 4000 in
theorem wM_EachAddsALineModel_has_0 {P : vP} {l : Launch} {ad : Nat → Nat} {N : Nat} {r : Int32} {t1 : vSt} (hX : vOK P l shM ad (vR 0 0) cX12_has RX12 2) (hR : (∀ pc lv, narrow .boolean (.int r) = .int r → decode cX12_has pc = .ok (.ireturn, 1) → P t1 pc lv [.int r]))  {a0 : Int32} {a1 : Int32} {s : vSt} (h : gM_EachAddsALineModel_has_0 N a0 a1 s = some (r, t1)) : P s 0 [(0, .int a0), (1, .int a1)] [] := by
  unfold gM_EachAddsALineModel_has_0 at h
  refine v_iload_n hX dX12_has_0 rfl 0 rfl ?_
  refine v_iload_n hX dX12_has_1 rfl 1 rfl ?_
  refine v_ishr hX dX12_has_2 ?_
  refine v_iconst (v := 1) hX dX12_has_3 (by decide) ?_
  refine v_iand hX dX12_has_4 ?_
  refine v_iconst (v := 1) hX dX12_has_5 (by decide) ?_
  refine v_icmp_ne (tgt := 13) hX dX12_has_6 (by decide) h (fun h => ?_) (fun h => ?_)
  · refine v_iconst (v := 1) hX dX12_has_9 (by decide) ?_
    refine v_goto (tgt := 14) hX dX12_has_10 (by decide) ?_
    exact v_retZ1 hR h dX12_has_14
  · refine v_iconst (v := 0) hX dX12_has_13 (by decide) ?_
    exact v_retZ0 hR h dX12_has_14
noncomputable def fM_EachAddsALineModel_has (N : Nat) (a0 : Int32) (a1 : Int32) (s : vSt) : Option (Int32 × vSt) := gM_EachAddsALineModel_has_0 N a0 a1 s
theorem mM_EachAddsALineModel_has {N : Nat} {a0 : Int32} {a1 : Int32} {s : vSt} {r : Int32} {t1 : vSt} (h : fM_EachAddsALineModel_has N a0 a1 s = some (r, t1)) (l : Launch) (ad : Nat → Nat) : vMI l shM ad yX12_has cX12_has 2 .boolean 0 0 s [.int a0, .int a1] r t1 :=
  vMI_of (by decide +kernel) (Nat.le_of_ble_eq_true rfl) (fun P hX hR => wM_EachAddsALineModel_has_0 hX hR h)
-- M_EachAddsALineModel_firstNew
noncomputable def gM_EachAddsALineModel_firstNew_67 (N : Nat) (r4 : Int32 → Int32 → Int32 → vSt → Option (Int32 × vSt)) (a1 : Int32) (a2 : Int32) (a3 : Int32) (s : vSt) : Option (Int32 × vSt) :=
  (some (a3 + 1 : Int32)).bind fun v1 =>
  r4 a1 a2 v1 s
set_option maxRecDepth 4000 in
theorem wM_EachAddsALineModel_firstNew_67 {P : vP} {l : Launch} {ad : Nat → Nat} {N : Nat} {r4 : Int32 → Int32 → Int32 → vSt → Option (Int32 × vSt)} {r : Int32} {t1 : vSt} (hX : vOK P l shM ad (vR 3 65) cX12_firstNew RX12 4) (hR : (∀ pc lv, narrow .int (.int r) = .int r → decode cX12_firstNew pc = .ok (.ireturn, 1) → P t1 pc lv [.int r])) (H4 : ∀ (a1 : Int32) (a2 : Int32) (a3 : Int32) (s : vSt), r4 a1 a2 a3 s = some (r, t1) → P s 4 [(0, .ref (ad 0)), (1, .int a1), (2, .int a2), (3, .int a3)] []) {a1 : Int32} {a2 : Int32} {a3 : Int32} {s : vSt} (h : gM_EachAddsALineModel_firstNew_67 N r4 a1 a2 a3 s = some (r, t1)) : P s 67 [(0, .ref (ad 0)), (1, .int a1), (2, .int a2), (3, .int a3)] [] := by
  unfold gM_EachAddsALineModel_firstNew_67 at h
  refine v_iincN hX dX12_firstNew_67 (j := 3) rfl (c := 1) (by decide) (by decide) h (fun v1 h => ?_)
  refine v_show (lv' := [(3, .int v1), (0, .ref (ad 0)), (1, .int a1), (2, .int a2)]) hX rfl ?_
  refine v_goto (tgt := 4) hX dX12_firstNew_70 (by decide) ?_
  exact v_sub hX [1, 2, 3, 0] (by rfl) (H4 _ _ _ _ h)
noncomputable def gM_EachAddsALineModel_firstNew_65 (N : Nat) (r4 : Int32 → Int32 → Int32 → vSt → Option (Int32 × vSt)) (a1 : Int32) (a3 : Int32) (s : vSt) : Option (Int32 × vSt) :=
  gM_EachAddsALineModel_firstNew_67 N r4 a1 a3 a3 s
set_option maxRecDepth 4000 in
theorem wM_EachAddsALineModel_firstNew_65 {P : vP} {l : Launch} {ad : Nat → Nat} {N : Nat} {r4 : Int32 → Int32 → Int32 → vSt → Option (Int32 × vSt)} {r : Int32} {t1 : vSt} (hX : vOK P l shM ad (vR 3 65) cX12_firstNew RX12 4) (hR : (∀ pc lv, narrow .int (.int r) = .int r → decode cX12_firstNew pc = .ok (.ireturn, 1) → P t1 pc lv [.int r])) (H4 : ∀ (a1 : Int32) (a2 : Int32) (a3 : Int32) (s : vSt), r4 a1 a2 a3 s = some (r, t1) → P s 4 [(0, .ref (ad 0)), (1, .int a1), (2, .int a2), (3, .int a3)] []) {a1 : Int32} {a3 : Int32} {s : vSt} (h : gM_EachAddsALineModel_firstNew_65 N r4 a1 a3 s = some (r, t1)) : P s 65 [(0, .ref (ad 0)), (1, .int a1), (3, .int a3)] [] := by
  unfold gM_EachAddsALineModel_firstNew_65 at h
  refine v_iload_n hX dX12_firstNew_65 rfl 2 rfl ?_
  refine v_istore_n (lv' := [(2, .int a3), (0, .ref (ad 0)), (1, .int a1), (3, .int a3)]) hX dX12_firstNew_66 rfl (by decide) rfl ?_
  exact v_sub hX [1, 2, 0, 3] (by rfl) (wM_EachAddsALineModel_firstNew_67 hX hR H4 h)
noncomputable def gM_EachAddsALineModel_firstNew_4 (N : Nat)  : Nat → Int32 → Int32 → Int32 → vSt → Option (Int32 × vSt)
  | 0, _, _, _, _ => none
  | n + 1, a1, a2, a3, s =>
    if (s.1 0 2) ≤ a3 then
      some (a2, s)
    else
      (fM_EachAddsALineModel_refusal N a1 a3 s).bind fun p1 =>
      if p1.1 < 0 then
        gM_EachAddsALineModel_firstNew_67 N (gM_EachAddsALineModel_firstNew_4 N n) a1 a2 a3 p1.2
      else
        (fM_EachAddsALineModel_readers N a1 p1.2).bind fun p2 =>
        (fM_EachAddsALineModel_holder N a1 p2.2).bind fun p3 =>
        (fM_EachAddsALineModel_partner N p3.1 a3 p3.2).bind fun p4 =>
        (fM_EachAddsALineModel_has N p2.1 p4.1 p4.2).bind fun p5 =>
        if p5.1 = 0 then
          if a2 = (-1) then
            gM_EachAddsALineModel_firstNew_65 N (gM_EachAddsALineModel_firstNew_4 N n) a1 a3 p5.2
          else
            (ld p5.2 4 20 a3).bind fun v6 =>
            (ld p5.2 4 20 a2).bind fun v7 =>
            if v7 ≤ v6 then
              gM_EachAddsALineModel_firstNew_67 N (gM_EachAddsALineModel_firstNew_4 N n) a1 a2 a3 p5.2
            else
              gM_EachAddsALineModel_firstNew_65 N (gM_EachAddsALineModel_firstNew_4 N n) a1 a3 p5.2
        else
          gM_EachAddsALineModel_firstNew_67 N (gM_EachAddsALineModel_firstNew_4 N n) a1 a2 a3 p5.2
set_option maxRecDepth 4000 in
theorem wM_EachAddsALineModel_firstNew_4 {P : vP} {l : Launch} {ad : Nat → Nat} {N : Nat} {r : Int32} {t1 : vSt} (hX : vOK P l shM ad (vR 3 65) cX12_firstNew RX12 4) (hR : (∀ pc lv, narrow .int (.int r) = .int r → decode cX12_firstNew pc = .ok (.ireturn, 1) → P t1 pc lv [.int r]))  : ∀ (n : Nat) (a1 : Int32) (a2 : Int32) (a3 : Int32) (s : vSt), gM_EachAddsALineModel_firstNew_4 N n a1 a2 a3 s = some (r, t1) → P s 4 [(0, .ref (ad 0)), (1, .int a1), (2, .int a2), (3, .int a3)] [] := by
  intro n
  induction n with
  | zero => intro a1 a2 a3 s h; cases h
  | succ n ih =>
    intro a1 a2 a3 s h
    unfold gM_EachAddsALineModel_firstNew_4 at h
    refine v_iload_n hX dX12_firstNew_4 rfl 3 rfl ?_
    refine v_aload_n hX dX12_firstNew_5 rfl 0 rfl ?_
    refine gfM_0_2 hX kf_12_109 dX12_firstNew_6 ?_
    refine v_icmp_ge (tgt := 73) hX dX12_firstNew_9 (by decide) h (fun h => ?_) (fun h => ?_)
    · refine v_iload_n hX dX12_firstNew_73 rfl 2 rfl ?_
      exact v_retI hR h dX12_firstNew_74
    · refine v_aload_n hX dX12_firstNew_12 rfl 0 rfl ?_
      refine v_iload_n hX dX12_firstNew_13 rfl 1 rfl ?_
      refine v_iload_n hX dX12_firstNew_14 rfl 3 rfl ?_
      obtain ⟨p1, hp1, h⟩ := bsome h
      refine v_callVI (o := 0) hX (mM_EachAddsALineModel_refusal hp1 l ad) kM_X12_refusal kV_X12_refusal km_12_244 (by decide) (fun _ => rfl) rfl rfl rfl (Nat.le_of_ble_eq_true rfl) (by decide) dX12_firstNew_15 ?_
      refine v_if_lt (tgt := 67) hX dX12_firstNew_18 (by decide) h (fun h => ?_) (fun h => ?_)
      · exact v_sub hX [0, 1, 2, 3] (by rfl) (wM_EachAddsALineModel_firstNew_67 hX hR ih h)
      · refine v_aload_n hX dX12_firstNew_21 rfl 0 rfl ?_
        refine v_iload_n hX dX12_firstNew_22 rfl 1 rfl ?_
        obtain ⟨p2, hp2, h⟩ := bsome h
        refine v_callVI (o := 0) hX (mM_EachAddsALineModel_readers hp2 l ad) kM_X12_readers kV_X12_readers km_12_253 (by decide) (fun _ => rfl) rfl rfl rfl (Nat.le_of_ble_eq_true rfl) (by decide) dX12_firstNew_23 ?_
        refine v_aload_n hX dX12_firstNew_26 rfl 0 rfl ?_
        refine v_aload_n hX dX12_firstNew_27 rfl 0 rfl ?_
        refine v_iload_n hX dX12_firstNew_28 rfl 1 rfl ?_
        obtain ⟨p3, hp3, h⟩ := bsome h
        refine v_callVI (o := 0) hX (mM_EachAddsALineModel_holder hp3 l ad) kM_X12_holder kV_X12_holder km_12_224 (by decide) (fun _ => rfl) rfl rfl rfl (Nat.le_of_ble_eq_true rfl) (by decide) dX12_firstNew_29 ?_
        refine v_iload_n hX dX12_firstNew_32 rfl 3 rfl ?_
        obtain ⟨p4, hp4, h⟩ := bsome h
        refine v_callVI (o := 0) hX (mM_EachAddsALineModel_partner hp4 l ad) kM_X12_partner kV_X12_partner km_12_234 (by decide) (fun _ => rfl) rfl rfl rfl (Nat.le_of_ble_eq_true rfl) (by decide) dX12_firstNew_33 ?_
        obtain ⟨p5, hp5, h⟩ := bsome h
        refine v_callSI hX (mM_EachAddsALineModel_has hp5 l ad) kM_X12_has kS_X12_has km_12_259 rfl rfl (Nat.le_of_ble_eq_true rfl) (by decide) dX12_firstNew_36 ?_
        refine v_if_eq (tgt := 45) hX dX12_firstNew_39 (by decide) h (fun h => ?_) (fun h => ?_)
        · refine v_iload_n hX dX12_firstNew_45 rfl 2 rfl ?_
          refine v_iconst (v := (-1)) hX dX12_firstNew_46 (by decide) ?_
          refine v_icmp_eq (tgt := 65) hX dX12_firstNew_47 (by decide) h (fun h => ?_) (fun h => ?_)
          · exact v_sub hX [0, 1, 3] (by rfl) (wM_EachAddsALineModel_firstNew_65 hX hR ih h)
          · refine v_aload_n hX dX12_firstNew_50 rfl 0 rfl ?_
            refine gfM_0_5 hX kf_12_19 dX12_firstNew_51 ?_
            refine v_iload_n hX dX12_firstNew_54 rfl 3 rfl ?_
            refine alM_4 hX dX12_firstNew_55 h (fun v6 h => ?_)
            refine v_aload_n hX dX12_firstNew_56 rfl 0 rfl ?_
            refine gfM_0_5 hX kf_12_19 dX12_firstNew_57 ?_
            refine v_iload_n hX dX12_firstNew_60 rfl 2 rfl ?_
            refine alM_4 hX dX12_firstNew_61 h (fun v7 h => ?_)
            refine v_icmp_ge (tgt := 67) hX dX12_firstNew_62 (by decide) h (fun h => ?_) (fun h => ?_)
            · exact v_sub hX [0, 1, 2, 3] (by rfl) (wM_EachAddsALineModel_firstNew_67 hX hR ih h)
            · exact v_sub hX [0, 1, 3] (by rfl) (wM_EachAddsALineModel_firstNew_65 hX hR ih h)
        · refine v_goto (tgt := 67) hX dX12_firstNew_42 (by decide) ?_
          exact v_sub hX [0, 1, 2, 3] (by rfl) (wM_EachAddsALineModel_firstNew_67 hX hR ih h)
noncomputable def gM_EachAddsALineModel_firstNew_0 (N : Nat)  (a1 : Int32) (s : vSt) : Option (Int32 × vSt) :=
  (some ((-1) : Int32)).bind fun v1 =>
  gM_EachAddsALineModel_firstNew_4 N N a1 v1 0 s
set_option maxRecDepth 4000 in
theorem wM_EachAddsALineModel_firstNew_0 {P : vP} {l : Launch} {ad : Nat → Nat} {N : Nat} {r : Int32} {t1 : vSt} (hX : vOK P l shM ad (vR 3 65) cX12_firstNew RX12 4) (hR : (∀ pc lv, narrow .int (.int r) = .int r → decode cX12_firstNew pc = .ok (.ireturn, 1) → P t1 pc lv [.int r]))  {a1 : Int32} {s : vSt} (h : gM_EachAddsALineModel_firstNew_0 N a1 s = some (r, t1)) : P s 0 [(0, .ref (ad 0)), (1, .int a1)] [] := by
  unfold gM_EachAddsALineModel_firstNew_0 at h
  refine v_iconst (v := (-1)) hX dX12_firstNew_0 (by decide) ?_
  refine v_nmI hX h (fun v1 h => ?_)
  refine v_istore_n (lv' := [(2, .int v1), (0, .ref (ad 0)), (1, .int a1)]) hX dX12_firstNew_1 rfl (by decide) rfl ?_
  refine v_iconst (v := 0) hX dX12_firstNew_2 (by decide) ?_
  refine v_istore_n (lv' := [(3, .int 0), (2, .int v1), (0, .ref (ad 0)), (1, .int a1)]) hX dX12_firstNew_3 rfl (by decide) rfl ?_
  exact v_sub hX [2, 3, 1, 0] (by rfl) (wM_EachAddsALineModel_firstNew_4 hX hR  N _ _ _ _ h)
noncomputable def fM_EachAddsALineModel_firstNew (N : Nat) (a1 : Int32) (s : vSt) : Option (Int32 × vSt) := gM_EachAddsALineModel_firstNew_0 N a1 s
theorem mM_EachAddsALineModel_firstNew {N : Nat} {a1 : Int32} {s : vSt} {r : Int32} {t1 : vSt} (h : fM_EachAddsALineModel_firstNew N a1 s = some (r, t1)) (l : Launch) (ad : Nat → Nat) : vMI l shM ad yX12_firstNew cX12_firstNew 4 .int 3 65 s [.ref (ad 0), .int a1] r t1 :=
  vMI_of (by decide +kernel) (Nat.le_of_ble_eq_true rfl) (fun P hX hR => wM_EachAddsALineModel_firstNew_0 hX hR h)
-- M_EachAddsALineModel_goes
noncomputable def gM_EachAddsALineModel_goes_66 (N : Nat)  (a1 : Int32) (a3 : Int32) (s : vSt) : Option (Int32 × vSt) :=
  (some (s1 s 0 10 0)).bind fun z1 =>
  (fM_EachAddsALineModel_holder N a1 z1).bind fun p2 =>
  (fM_EachAddsALineModel_tell N p2.1 p2.2).bind fun z3 =>
  (fM_EachAddsALineModel_since N a1 z3).bind fun p4 =>
  (fM_EachAddsALineModel_tell N p4.1 p4.2).bind fun z5 =>
  some (a3, z5)
set_option maxRecDepth 4000 in
theorem wM_EachAddsALineModel_goes_66 {P : vP} {l : Launch} {ad : Nat → Nat} {N : Nat} {r : Int32} {t1 : vSt} (hX : vOK P l shM ad (vR 198 4611) cX12_goes RX12 5) (hR : (∀ pc lv, narrow .int (.int r) = .int r → decode cX12_goes pc = .ok (.ireturn, 1) → P t1 pc lv [.int r]))  {a1 : Int32} {a3 : Int32} {s : vSt} (h : gM_EachAddsALineModel_goes_66 N a1 a3 s = some (r, t1)) : P s 66 [(0, .ref (ad 0)), (1, .int a1), (3, .int a3)] [] := by
  unfold gM_EachAddsALineModel_goes_66 at h
  refine v_aload_n hX dX12_goes_66 rfl 0 rfl ?_
  refine v_iconst (v := 0) hX dX12_goes_67 (by decide) ?_
  refine pfM_0_10 hX kf_12_99 dX12_goes_68 h (fun z1 h => ?_)
  refine v_aload_n hX dX12_goes_71 rfl 0 rfl ?_
  refine v_aload_n hX dX12_goes_72 rfl 0 rfl ?_
  refine v_iload_n hX dX12_goes_73 rfl 1 rfl ?_
  obtain ⟨p2, hp2, h⟩ := bsome h
  refine v_callVI (o := 0) hX (mM_EachAddsALineModel_holder hp2 l ad) kM_X12_holder kV_X12_holder km_12_224 (by decide) (fun _ => rfl) rfl rfl rfl (Nat.le_of_ble_eq_true rfl) (by decide) dX12_goes_74 ?_
  obtain ⟨z3, hz3, h⟩ := bsome h
  refine v_callVV (o := 0) hX (mM_EachAddsALineModel_tell hz3 l ad) kM_X12_tell kV_X12_tell km_12_250 (by decide) (fun _ => rfl) rfl rfl rfl (Nat.le_of_ble_eq_true rfl) (by decide) dX12_goes_77 ?_
  refine v_aload_n hX dX12_goes_80 rfl 0 rfl ?_
  refine v_aload_n hX dX12_goes_81 rfl 0 rfl ?_
  refine v_iload_n hX dX12_goes_82 rfl 1 rfl ?_
  obtain ⟨p4, hp4, h⟩ := bsome h
  refine v_callVI (o := 0) hX (mM_EachAddsALineModel_since hp4 l ad) kM_X12_since kV_X12_since km_12_231 (by decide) (fun _ => rfl) rfl rfl rfl (Nat.le_of_ble_eq_true rfl) (by decide) dX12_goes_83 ?_
  obtain ⟨z5, hz5, h⟩ := bsome h
  refine v_callVV (o := 0) hX (mM_EachAddsALineModel_tell hz5 l ad) kM_X12_tell kV_X12_tell km_12_250 (by decide) (fun _ => rfl) rfl rfl rfl (Nat.le_of_ble_eq_true rfl) (by decide) dX12_goes_86 ?_
  refine v_iload_n hX dX12_goes_89 rfl 2 rfl ?_
  exact v_retI hR h dX12_goes_90
noncomputable def gM_EachAddsALineModel_goes_34 (N : Nat)  : Nat → Int32 → Int32 → Int32 → Int32 → vSt → Option (Int32 × vSt)
  | 0, _, _, _, _, _ => none
  | n + 1, a1, a2, a3, a4, s =>
    if a2 ≤ a3 then
      gM_EachAddsALineModel_goes_66 N a1 a3 s
    else
      if a4 = (-1) then
        gM_EachAddsALineModel_goes_66 N a1 a3 s
      else
        (fM_EachAddsALineModel_makeHand N a1 a4 s).bind fun p1 =>
        (some (a3 + 1 : Int32)).bind fun v2 =>
        (fM_EachAddsALineModel_firstNew N a1 p1.2).bind fun p3 =>
        gM_EachAddsALineModel_goes_34 N n a1 a2 v2 p3.1 p3.2
set_option maxRecDepth 4000 in
theorem wM_EachAddsALineModel_goes_34 {P : vP} {l : Launch} {ad : Nat → Nat} {N : Nat} {r : Int32} {t1 : vSt} (hX : vOK P l shM ad (vR 198 4611) cX12_goes RX12 5) (hR : (∀ pc lv, narrow .int (.int r) = .int r → decode cX12_goes pc = .ok (.ireturn, 1) → P t1 pc lv [.int r]))  : ∀ (n : Nat) (a1 : Int32) (a2 : Int32) (a3 : Int32) (a4 : Int32) (s : vSt), gM_EachAddsALineModel_goes_34 N n a1 a2 a3 a4 s = some (r, t1) → P s 34 [(0, .ref (ad 0)), (1, .int a1), (2, .int a2), (3, .int a3), (4, .int a4)] [] := by
  intro n
  induction n with
  | zero => intro a1 a2 a3 a4 s h; cases h
  | succ n ih =>
    intro a1 a2 a3 a4 s h
    unfold gM_EachAddsALineModel_goes_34 at h
    refine v_iload_n hX dX12_goes_34 rfl 3 rfl ?_
    refine v_iload_n hX dX12_goes_35 rfl 2 rfl ?_
    refine v_icmp_ge (tgt := 66) hX dX12_goes_36 (by decide) h (fun h => ?_) (fun h => ?_)
    · exact v_sub hX [0, 1, 3] (by rfl) (wM_EachAddsALineModel_goes_66 hX hR  h)
    · refine v_iload hX dX12_goes_39 4 rfl ?_
      refine v_iconst (v := (-1)) hX dX12_goes_41 (by decide) ?_
      refine v_icmp_eq (tgt := 66) hX dX12_goes_42 (by decide) h (fun h => ?_) (fun h => ?_)
      · exact v_sub hX [0, 1, 3] (by rfl) (wM_EachAddsALineModel_goes_66 hX hR  h)
      · refine v_aload_n hX dX12_goes_45 rfl 0 rfl ?_
        refine v_iload_n hX dX12_goes_46 rfl 1 rfl ?_
        refine v_iload hX dX12_goes_47 4 rfl ?_
        obtain ⟨p1, hp1, h⟩ := bsome h
        refine v_callVI (o := 0) hX (mM_EachAddsALineModel_makeHand hp1 l ad) kM_X12_makeHand kV_X12_makeHand km_12_247 (by decide) (fun _ => rfl) rfl rfl rfl (Nat.le_of_ble_eq_true rfl) (by decide) dX12_goes_49 ?_
        refine v_pop hX dX12_goes_52 rfl ?_
        refine v_iincN hX dX12_goes_53 (j := 3) rfl (c := 1) (by decide) (by decide) h (fun v2 h => ?_)
        refine v_show (lv' := [(3, .int v2), (0, .ref (ad 0)), (1, .int a1), (2, .int a2), (4, .int a4)]) hX rfl ?_
        refine v_aload_n hX dX12_goes_56 rfl 1 rfl ?_
        refine v_iload_n hX dX12_goes_57 rfl 2 rfl ?_
        obtain ⟨p3, hp3, h⟩ := bsome h
        refine v_callVI (o := 0) hX (mM_EachAddsALineModel_firstNew hp3 l ad) kM_X12_firstNew kV_X12_firstNew km_12_256 (by decide) (fun _ => rfl) rfl rfl rfl (Nat.le_of_ble_eq_true rfl) (by decide) dX12_goes_58 ?_
        refine v_istore (lv' := [(4, .int p3.1), (3, .int v2), (0, .ref (ad 0)), (1, .int a1), (2, .int a2)]) hX dX12_goes_61 (by decide) rfl ?_
        refine v_goto (tgt := 34) hX dX12_goes_63 (by decide) ?_
        exact v_sub hX [2, 3, 4, 1, 0] (by rfl) (ih _ _ _ _ _ h)
noncomputable def gM_EachAddsALineModel_goes_0 (N : Nat)  (a1 : Int32) (a2 : Int32) (s : vSt) : Option (Int32 × vSt) :=
  (some (s1 s 0 11 0)).bind fun z1 =>
  (fM_EachAddsALineModel_isLetter N a1 z1).bind fun p2 =>
  if p2.1 = 0 then
    some ((-1), p2.2)
  else
    (fM_EachAddsALineModel_in N a2 0 20 p2.2).bind fun p3 =>
    if p3.1 = 0 then
      some ((-1), p3.2)
    else
      (fM_EachAddsALineModel_firstNew N a1 p3.2).bind fun p4 =>
      gM_EachAddsALineModel_goes_34 N N a1 a2 0 p4.1 p4.2
set_option maxRecDepth 4000 in
theorem wM_EachAddsALineModel_goes_0 {P : vP} {l : Launch} {ad : Nat → Nat} {N : Nat} {r : Int32} {t1 : vSt} (hX : vOK P l shM ad (vR 198 4611) cX12_goes RX12 5) (hR : (∀ pc lv, narrow .int (.int r) = .int r → decode cX12_goes pc = .ok (.ireturn, 1) → P t1 pc lv [.int r]))  {a1 : Int32} {a2 : Int32} {s : vSt} (h : gM_EachAddsALineModel_goes_0 N a1 a2 s = some (r, t1)) : P s 0 [(0, .ref (ad 0)), (1, .int a1), (2, .int a2)] [] := by
  unfold gM_EachAddsALineModel_goes_0 at h
  refine v_aload_n hX dX12_goes_0 rfl 0 rfl ?_
  refine v_iconst (v := 0) hX dX12_goes_1 (by decide) ?_
  refine pfM_0_11 hX kf_12_96 dX12_goes_2 h (fun z1 h => ?_)
  refine v_aload_n hX dX12_goes_5 rfl 0 rfl ?_
  refine v_iload_n hX dX12_goes_6 rfl 1 rfl ?_
  obtain ⟨p2, hp2, h⟩ := bsome h
  refine v_callVI (o := 0) hX (mM_EachAddsALineModel_isLetter hp2 l ad) kM_X12_isLetter kV_X12_isLetter km_12_241 (by decide) (fun _ => rfl) rfl rfl rfl (Nat.le_of_ble_eq_true rfl) (by decide) dX12_goes_7 ?_
  refine v_if_eq (tgt := 23) hX dX12_goes_10 (by decide) h (fun h => ?_) (fun h => ?_)
  · refine v_iconst (v := (-1)) hX dX12_goes_23 (by decide) ?_
    exact v_retI hR h dX12_goes_24
  · refine v_iload_n hX dX12_goes_13 rfl 2 rfl ?_
    refine v_iconst (v := 0) hX dX12_goes_14 (by decide) ?_
    refine v_bipush (v := 20) hX dX12_goes_15 (by decide) ?_
    obtain ⟨p3, hp3, h⟩ := bsome h
    refine v_callSI hX (mM_EachAddsALineModel_in hp3 l ad) kM_X12_in kS_X12_in km_12_105 rfl rfl (Nat.le_of_ble_eq_true rfl) (by decide) dX12_goes_17 ?_
    refine v_if_ne (tgt := 25) hX dX12_goes_20 (by decide) h (fun h => ?_) (fun h => ?_)
    · refine v_iconst (v := (-1)) hX dX12_goes_23 (by decide) ?_
      exact v_retI hR h dX12_goes_24
    · refine v_iconst (v := 0) hX dX12_goes_25 (by decide) ?_
      refine v_istore_n (lv' := [(3, .int 0), (0, .ref (ad 0)), (1, .int a1), (2, .int a2)]) hX dX12_goes_26 rfl (by decide) rfl ?_
      refine v_aload_n hX dX12_goes_27 rfl 1 rfl ?_
      refine v_iload_n hX dX12_goes_28 rfl 2 rfl ?_
      obtain ⟨p4, hp4, h⟩ := bsome h
      refine v_callVI (o := 0) hX (mM_EachAddsALineModel_firstNew hp4 l ad) kM_X12_firstNew kV_X12_firstNew km_12_256 (by decide) (fun _ => rfl) rfl rfl rfl (Nat.le_of_ble_eq_true rfl) (by decide) dX12_goes_29 ?_
      refine v_istore (lv' := [(4, .int p4.1), (3, .int 0), (0, .ref (ad 0)), (1, .int a1), (2, .int a2)]) hX dX12_goes_32 (by decide) rfl ?_
      exact v_sub hX [2, 3, 4, 1, 0] (by rfl) (wM_EachAddsALineModel_goes_34 hX hR  N _ _ _ _ _ h)
noncomputable def fM_EachAddsALineModel_goes (N : Nat) (a1 : Int32) (a2 : Int32) (s : vSt) : Option (Int32 × vSt) := gM_EachAddsALineModel_goes_0 N a1 a2 s
theorem mM_EachAddsALineModel_goes {N : Nat} {a1 : Int32} {a2 : Int32} {s : vSt} {r : Int32} {t1 : vSt} (h : fM_EachAddsALineModel_goes N a1 a2 s = some (r, t1)) (l : Launch) (ad : Nat → Nat) : vMI l shM ad yX12_goes cX12_goes 5 .int 198 4611 s [.ref (ad 0), .int a1, .int a2] r t1 :=
  vMI_of (by decide +kernel) (Nat.le_of_ble_eq_true rfl) (fun P hX hR => wM_EachAddsALineModel_goes_0 hX hR h)
-- M_EachAddsALineModel_read
noncomputable def gM_EachAddsALineModel_read_52 (N : Nat) (r19 : Int32 → Int32 → Int32 → vSt → Option (Int32 × vSt)) (a1 : Int32) (a3 : Int32) (k0 : Int32) (k1 : Int32) (s : vSt) : Option (Int32 × vSt) :=
  (some (k0 ||| k1 : Int32)).bind fun v1 =>
  (some (a3 + 1 : Int32)).bind fun v2 =>
  r19 a1 v1 v2 s
set_option maxRecDepth 4000 in
theorem wM_EachAddsALineModel_read_52 {P : vP} {l : Launch} {ad : Nat → Nat} {N : Nat} {r19 : Int32 → Int32 → Int32 → vSt → Option (Int32 × vSt)} {r : Int32} {t1 : vSt} (hX : vOK P l shM ad (vR 2 44) cX12_read RX12 4) (hR : (∀ pc lv, narrow .int (.int r) = .int r → decode cX12_read pc = .ok (.ireturn, 1) → P t1 pc lv [.int r])) (H19 : ∀ (a1 : Int32) (a2 : Int32) (a3 : Int32) (s : vSt), r19 a1 a2 a3 s = some (r, t1) → P s 19 [(0, .ref (ad 0)), (1, .int a1), (2, .int a2), (3, .int a3)] []) {a1 : Int32} {a3 : Int32} {k0 : Int32} {k1 : Int32} {s : vSt} (h : gM_EachAddsALineModel_read_52 N r19 a1 a3 k0 k1 s = some (r, t1)) : P s 52 [(0, .ref (ad 0)), (1, .int a1), (3, .int a3)] [.int k1, .int k0] := by
  unfold gM_EachAddsALineModel_read_52 at h
  refine v_ior hX dX12_read_52 ?_
  refine v_nmI hX h (fun v1 h => ?_)
  refine v_istore_n (lv' := [(2, .int v1), (0, .ref (ad 0)), (1, .int a1), (3, .int a3)]) hX dX12_read_53 rfl (by decide) rfl ?_
  refine v_iincN hX dX12_read_54 (j := 3) rfl (c := 1) (by decide) (by decide) h (fun v2 h => ?_)
  refine v_show (lv' := [(3, .int v2), (2, .int v1), (0, .ref (ad 0)), (1, .int a1)]) hX rfl ?_
  refine v_goto (tgt := 19) hX dX12_read_57 (by decide) ?_
  exact v_sub hX [2, 3, 1, 0] (by rfl) (H19 _ _ _ _ h)
noncomputable def gM_EachAddsALineModel_read_51 (N : Nat) (r19 : Int32 → Int32 → Int32 → vSt → Option (Int32 × vSt)) (a1 : Int32) (a3 : Int32) (k0 : Int32) (s : vSt) : Option (Int32 × vSt) :=
  gM_EachAddsALineModel_read_52 N r19 a1 a3 k0 0 s
set_option maxRecDepth 4000 in
theorem wM_EachAddsALineModel_read_51 {P : vP} {l : Launch} {ad : Nat → Nat} {N : Nat} {r19 : Int32 → Int32 → Int32 → vSt → Option (Int32 × vSt)} {r : Int32} {t1 : vSt} (hX : vOK P l shM ad (vR 2 44) cX12_read RX12 4) (hR : (∀ pc lv, narrow .int (.int r) = .int r → decode cX12_read pc = .ok (.ireturn, 1) → P t1 pc lv [.int r])) (H19 : ∀ (a1 : Int32) (a2 : Int32) (a3 : Int32) (s : vSt), r19 a1 a2 a3 s = some (r, t1) → P s 19 [(0, .ref (ad 0)), (1, .int a1), (2, .int a2), (3, .int a3)] []) {a1 : Int32} {a3 : Int32} {k0 : Int32} {s : vSt} (h : gM_EachAddsALineModel_read_51 N r19 a1 a3 k0 s = some (r, t1)) : P s 51 [(0, .ref (ad 0)), (1, .int a1), (3, .int a3)] [.int k0] := by
  unfold gM_EachAddsALineModel_read_51 at h
  refine v_iconst (v := 0) hX dX12_read_51 (by decide) ?_
  exact v_sub hX [0, 1, 2] (by rfl) (wM_EachAddsALineModel_read_52 hX hR H19 h)
noncomputable def gM_EachAddsALineModel_read_19 (N : Nat)  : Nat → Int32 → Int32 → Int32 → vSt → Option (Int32 × vSt)
  | 0, _, _, _, _ => none
  | n + 1, a1, a2, a3, s =>
    if 3 ≤ a3 then
      some (a2, s)
    else
      (fM_EachAddsALineModel_isLetter N a3 s).bind fun p1 =>
      if p1.1 = 0 then
        gM_EachAddsALineModel_read_51 N (gM_EachAddsALineModel_read_19 N n) a1 a3 a2 p1.2
      else
        (fM_EachAddsALineModel_readers N a3 p1.2).bind fun p2 =>
        (fM_EachAddsALineModel_has N p2.1 a1 p2.2).bind fun p3 =>
        if p3.1 = 0 then
          gM_EachAddsALineModel_read_51 N (gM_EachAddsALineModel_read_19 N n) a1 a3 a2 p3.2
        else
          gM_EachAddsALineModel_read_52 N (gM_EachAddsALineModel_read_19 N n) a1 a3 a2 ((1 : Int32) <<< (a3 &&& 31)) p3.2
set_option maxRecDepth 4000 in
theorem wM_EachAddsALineModel_read_19 {P : vP} {l : Launch} {ad : Nat → Nat} {N : Nat} {r : Int32} {t1 : vSt} (hX : vOK P l shM ad (vR 2 44) cX12_read RX12 4) (hR : (∀ pc lv, narrow .int (.int r) = .int r → decode cX12_read pc = .ok (.ireturn, 1) → P t1 pc lv [.int r]))  : ∀ (n : Nat) (a1 : Int32) (a2 : Int32) (a3 : Int32) (s : vSt), gM_EachAddsALineModel_read_19 N n a1 a2 a3 s = some (r, t1) → P s 19 [(0, .ref (ad 0)), (1, .int a1), (2, .int a2), (3, .int a3)] [] := by
  intro n
  induction n with
  | zero => intro a1 a2 a3 s h; cases h
  | succ n ih =>
    intro a1 a2 a3 s h
    unfold gM_EachAddsALineModel_read_19 at h
    refine v_iload_n hX dX12_read_19 rfl 3 rfl ?_
    refine v_iconst (v := 3) hX dX12_read_20 (by decide) ?_
    refine v_icmp_ge (tgt := 60) hX dX12_read_21 (by decide) h (fun h => ?_) (fun h => ?_)
    · refine v_iload_n hX dX12_read_60 rfl 2 rfl ?_
      exact v_retI hR h dX12_read_61
    · refine v_iload_n hX dX12_read_24 rfl 2 rfl ?_
      refine v_aload_n hX dX12_read_25 rfl 0 rfl ?_
      refine v_iload_n hX dX12_read_26 rfl 3 rfl ?_
      obtain ⟨p1, hp1, h⟩ := bsome h
      refine v_callVI (o := 0) hX (mM_EachAddsALineModel_isLetter hp1 l ad) kM_X12_isLetter kV_X12_isLetter km_12_241 (by decide) (fun _ => rfl) rfl rfl rfl (Nat.le_of_ble_eq_true rfl) (by decide) dX12_read_27 ?_
      refine v_if_eq (tgt := 51) hX dX12_read_30 (by decide) h (fun h => ?_) (fun h => ?_)
      · exact v_sub hX [0, 1, 3] (by rfl) (wM_EachAddsALineModel_read_51 hX hR ih h)
      · refine v_aload_n hX dX12_read_33 rfl 0 rfl ?_
        refine v_iload_n hX dX12_read_34 rfl 3 rfl ?_
        obtain ⟨p2, hp2, h⟩ := bsome h
        refine v_callVI (o := 0) hX (mM_EachAddsALineModel_readers hp2 l ad) kM_X12_readers kV_X12_readers km_12_253 (by decide) (fun _ => rfl) rfl rfl rfl (Nat.le_of_ble_eq_true rfl) (by decide) dX12_read_35 ?_
        refine v_iload_n hX dX12_read_38 rfl 1 rfl ?_
        obtain ⟨p3, hp3, h⟩ := bsome h
        refine v_callSI hX (mM_EachAddsALineModel_has hp3 l ad) kM_X12_has kS_X12_has km_12_259 rfl rfl (Nat.le_of_ble_eq_true rfl) (by decide) dX12_read_39 ?_
        refine v_if_eq (tgt := 51) hX dX12_read_42 (by decide) h (fun h => ?_) (fun h => ?_)
        · exact v_sub hX [0, 1, 3] (by rfl) (wM_EachAddsALineModel_read_51 hX hR ih h)
        · refine v_iconst (v := 1) hX dX12_read_45 (by decide) ?_
          refine v_iload_n hX dX12_read_46 rfl 3 rfl ?_
          refine v_ishl hX dX12_read_47 ?_
          refine v_goto (tgt := 52) hX dX12_read_48 (by decide) ?_
          exact v_sub hX [0, 1, 3] (by rfl) (wM_EachAddsALineModel_read_52 hX hR ih h)
noncomputable def gM_EachAddsALineModel_read_0 (N : Nat)  (a1 : Int32) (s : vSt) : Option (Int32 × vSt) :=
  (some (s1 s 0 11 0)).bind fun z1 =>
  (fM_EachAddsALineModel_isOne N a1 z1).bind fun p2 =>
  if p2.1 = 0 then
    some ((-1), p2.2)
  else
    gM_EachAddsALineModel_read_19 N N a1 0 0 p2.2
set_option maxRecDepth 4000 in
theorem wM_EachAddsALineModel_read_0 {P : vP} {l : Launch} {ad : Nat → Nat} {N : Nat} {r : Int32} {t1 : vSt} (hX : vOK P l shM ad (vR 2 44) cX12_read RX12 4) (hR : (∀ pc lv, narrow .int (.int r) = .int r → decode cX12_read pc = .ok (.ireturn, 1) → P t1 pc lv [.int r]))  {a1 : Int32} {s : vSt} (h : gM_EachAddsALineModel_read_0 N a1 s = some (r, t1)) : P s 0 [(0, .ref (ad 0)), (1, .int a1)] [] := by
  unfold gM_EachAddsALineModel_read_0 at h
  refine v_aload_n hX dX12_read_0 rfl 0 rfl ?_
  refine v_iconst (v := 0) hX dX12_read_1 (by decide) ?_
  refine pfM_0_11 hX kf_12_96 dX12_read_2 h (fun z1 h => ?_)
  refine v_aload_n hX dX12_read_5 rfl 0 rfl ?_
  refine v_iload_n hX dX12_read_6 rfl 1 rfl ?_
  obtain ⟨p2, hp2, h⟩ := bsome h
  refine v_callVI (o := 0) hX (mM_EachAddsALineModel_isOne hp2 l ad) kM_X12_isOne kV_X12_isOne km_12_197 (by decide) (fun _ => rfl) rfl rfl rfl (Nat.le_of_ble_eq_true rfl) (by decide) dX12_read_7 ?_
  refine v_if_ne (tgt := 15) hX dX12_read_10 (by decide) h (fun h => ?_) (fun h => ?_)
  · refine v_iconst (v := (-1)) hX dX12_read_13 (by decide) ?_
    exact v_retI hR h dX12_read_14
  · refine v_iconst (v := 0) hX dX12_read_15 (by decide) ?_
    refine v_istore_n (lv' := [(2, .int 0), (0, .ref (ad 0)), (1, .int a1)]) hX dX12_read_16 rfl (by decide) rfl ?_
    refine v_iconst (v := 0) hX dX12_read_17 (by decide) ?_
    refine v_istore_n (lv' := [(3, .int 0), (2, .int 0), (0, .ref (ad 0)), (1, .int a1)]) hX dX12_read_18 rfl (by decide) rfl ?_
    exact v_sub hX [2, 3, 1, 0] (by rfl) (wM_EachAddsALineModel_read_19 hX hR  N _ _ _ _ h)
noncomputable def fM_EachAddsALineModel_read (N : Nat) (a1 : Int32) (s : vSt) : Option (Int32 × vSt) := gM_EachAddsALineModel_read_0 N a1 s
theorem mM_EachAddsALineModel_read {N : Nat} {a1 : Int32} {s : vSt} {r : Int32} {t1 : vSt} (h : fM_EachAddsALineModel_read N a1 s = some (r, t1)) (l : Launch) (ad : Nat → Nat) : vMI l shM ad yX12_read cX12_read 4 .int 2 44 s [.ref (ad 0), .int a1] r t1 :=
  vMI_of (by decide +kernel) (Nat.le_of_ble_eq_true rfl) (fun P hX hR => wM_EachAddsALineModel_read_0 hX hR h)
-- M_EachAddsALineModel_isTrip
noncomputable def gM_EachAddsALineModel_isTrip_27 (N : Nat)   (s : vSt) : Option (Int32 × vSt) :=
  some (0, s)
set_option maxRecDepth 4000 in
theorem wM_EachAddsALineModel_isTrip_27 {P : vP} {l : Launch} {ad : Nat → Nat} {N : Nat} {r : Int32} {t1 : vSt} (hX : vOK P l shM ad (vR 2 43) cX12_isTrip RX12 4) (hR : (∀ pc lv, narrow .boolean (.int r) = .int r → decode cX12_isTrip pc = .ok (.ireturn, 1) → P t1 pc lv [.int r]))   {s : vSt} (h : gM_EachAddsALineModel_isTrip_27 N s = some (r, t1)) : P s 27 [] [] := by
  unfold gM_EachAddsALineModel_isTrip_27 at h
  refine v_iconst (v := 0) hX dX12_isTrip_27 (by decide) ?_
  exact v_retZ0 hR h dX12_isTrip_28
noncomputable def gM_EachAddsALineModel_isTrip_0 (N : Nat)  (a1 : Int32) (a2 : Int32) (a3 : Int32) (s : vSt) : Option (Int32 × vSt) :=
  (fM_EachAddsALineModel_isOne N a1 s).bind fun p1 =>
  if p1.1 = 0 then
    gM_EachAddsALineModel_isTrip_27 N p1.2
  else
    (fM_EachAddsALineModel_isOne N a2 p1.2).bind fun p2 =>
    if p2.1 = 0 then
      gM_EachAddsALineModel_isTrip_27 N p2.2
    else
      (fM_EachAddsALineModel_isHour N a3 p2.2).bind fun p3 =>
      if p3.1 = 0 then
        gM_EachAddsALineModel_isTrip_27 N p3.2
      else
        some (1, p3.2)
set_option maxRecDepth 4000 in
theorem wM_EachAddsALineModel_isTrip_0 {P : vP} {l : Launch} {ad : Nat → Nat} {N : Nat} {r : Int32} {t1 : vSt} (hX : vOK P l shM ad (vR 2 43) cX12_isTrip RX12 4) (hR : (∀ pc lv, narrow .boolean (.int r) = .int r → decode cX12_isTrip pc = .ok (.ireturn, 1) → P t1 pc lv [.int r]))  {a1 : Int32} {a2 : Int32} {a3 : Int32} {s : vSt} (h : gM_EachAddsALineModel_isTrip_0 N a1 a2 a3 s = some (r, t1)) : P s 0 [(0, .ref (ad 0)), (1, .int a1), (2, .int a2), (3, .int a3)] [] := by
  unfold gM_EachAddsALineModel_isTrip_0 at h
  refine v_aload_n hX dX12_isTrip_0 rfl 0 rfl ?_
  refine v_iload_n hX dX12_isTrip_1 rfl 1 rfl ?_
  obtain ⟨p1, hp1, h⟩ := bsome h
  refine v_callVI (o := 0) hX (mM_EachAddsALineModel_isOne hp1 l ad) kM_X12_isOne kV_X12_isOne km_12_197 (by decide) (fun _ => rfl) rfl rfl rfl (Nat.le_of_ble_eq_true rfl) (by decide) dX12_isTrip_2 ?_
  refine v_if_eq (tgt := 27) hX dX12_isTrip_5 (by decide) h (fun h => ?_) (fun h => ?_)
  · exact v_sub hX [] (by rfl) (wM_EachAddsALineModel_isTrip_27 hX hR  h)
  · refine v_aload_n hX dX12_isTrip_8 rfl 0 rfl ?_
    refine v_iload_n hX dX12_isTrip_9 rfl 2 rfl ?_
    obtain ⟨p2, hp2, h⟩ := bsome h
    refine v_callVI (o := 0) hX (mM_EachAddsALineModel_isOne hp2 l ad) kM_X12_isOne kV_X12_isOne km_12_197 (by decide) (fun _ => rfl) rfl rfl rfl (Nat.le_of_ble_eq_true rfl) (by decide) dX12_isTrip_10 ?_
    refine v_if_eq (tgt := 27) hX dX12_isTrip_13 (by decide) h (fun h => ?_) (fun h => ?_)
    · exact v_sub hX [] (by rfl) (wM_EachAddsALineModel_isTrip_27 hX hR  h)
    · refine v_iload_n hX dX12_isTrip_16 rfl 3 rfl ?_
      obtain ⟨p3, hp3, h⟩ := bsome h
      refine v_callSI hX (mM_EachAddsALineModel_isHour hp3 l ad) kM_X12_isHour kS_X12_isHour km_12_221 rfl rfl (Nat.le_of_ble_eq_true rfl) (by decide) dX12_isTrip_17 ?_
      refine v_if_eq (tgt := 27) hX dX12_isTrip_20 (by decide) h (fun h => ?_) (fun h => ?_)
      · exact v_sub hX [] (by rfl) (wM_EachAddsALineModel_isTrip_27 hX hR  h)
      · refine v_iconst (v := 1) hX dX12_isTrip_23 (by decide) ?_
        refine v_goto (tgt := 28) hX dX12_isTrip_24 (by decide) ?_
        exact v_retZ1 hR h dX12_isTrip_28
noncomputable def fM_EachAddsALineModel_isTrip (N : Nat) (a1 : Int32) (a2 : Int32) (a3 : Int32) (s : vSt) : Option (Int32 × vSt) := gM_EachAddsALineModel_isTrip_0 N a1 a2 a3 s
theorem mM_EachAddsALineModel_isTrip {N : Nat} {a1 : Int32} {a2 : Int32} {a3 : Int32} {s : vSt} {r : Int32} {t1 : vSt} (h : fM_EachAddsALineModel_isTrip N a1 a2 a3 s = some (r, t1)) (l : Launch) (ad : Nat → Nat) : vMI l shM ad yX12_isTrip cX12_isTrip 4 .boolean 2 43 s [.ref (ad 0), .int a1, .int a2, .int a3] r t1 :=
  vMI_of (by decide +kernel) (Nat.le_of_ble_eq_true rfl) (fun P hX hR => wM_EachAddsALineModel_isTrip_0 hX hR h)
-- M_EachAddsALineModel_worth
noncomputable def gM_EachAddsALineModel_worth_0 (N : Nat)  (a1 : Int32) (a2 : Int32) (s : vSt) : Option (Int32 × vSt) :=
  if a2 = 2 then
    (ld s 5 20 (a1 / 2)).bind fun v1 =>
    some (v1, s)
  else
    if a2 = 1 then
      some (1, s)
    else
      some (0, s)
set_option maxRecDepth 4000 in
theorem wM_EachAddsALineModel_worth_0 {P : vP} {l : Launch} {ad : Nat → Nat} {N : Nat} {r : Int32} {t1 : vSt} (hX : vOK P l shM ad (vR 0 0) cX12_worth RX12 3) (hR : (∀ pc lv, narrow .int (.int r) = .int r → decode cX12_worth pc = .ok (.ireturn, 1) → P t1 pc lv [.int r]))  {a1 : Int32} {a2 : Int32} {s : vSt} (h : gM_EachAddsALineModel_worth_0 N a1 a2 s = some (r, t1)) : P s 0 [(0, .ref (ad 0)), (1, .int a1), (2, .int a2)] [] := by
  unfold gM_EachAddsALineModel_worth_0 at h
  refine v_iload_n hX dX12_worth_0 rfl 2 rfl ?_
  refine v_iconst (v := 2) hX dX12_worth_1 (by decide) ?_
  refine v_icmp_ne (tgt := 16) hX dX12_worth_2 (by decide) h (fun h => ?_) (fun h => ?_)
  · refine v_aload_n hX dX12_worth_5 rfl 0 rfl ?_
    refine gfM_0_6 hX kf_12_22 dX12_worth_6 ?_
    refine v_iload_n hX dX12_worth_9 rfl 1 rfl ?_
    refine v_iconst (v := 2) hX dX12_worth_10 (by decide) ?_
    refine v_idiv hX dX12_worth_11 (by decide) ?_
    refine alM_5 hX dX12_worth_12 h (fun v1 h => ?_)
    refine v_goto (tgt := 26) hX dX12_worth_13 (by decide) ?_
    exact v_retI hR h dX12_worth_26
  · refine v_iload_n hX dX12_worth_16 rfl 2 rfl ?_
    refine v_iconst (v := 1) hX dX12_worth_17 (by decide) ?_
    refine v_icmp_ne (tgt := 25) hX dX12_worth_18 (by decide) h (fun h => ?_) (fun h => ?_)
    · refine v_iconst (v := 1) hX dX12_worth_21 (by decide) ?_
      refine v_goto (tgt := 26) hX dX12_worth_22 (by decide) ?_
      exact v_retI hR h dX12_worth_26
    · refine v_iconst (v := 0) hX dX12_worth_25 (by decide) ?_
      exact v_retI hR h dX12_worth_26
noncomputable def fM_EachAddsALineModel_worth (N : Nat) (a1 : Int32) (a2 : Int32) (s : vSt) : Option (Int32 × vSt) := gM_EachAddsALineModel_worth_0 N a1 a2 s
theorem mM_EachAddsALineModel_worth {N : Nat} {a1 : Int32} {a2 : Int32} {s : vSt} {r : Int32} {t1 : vSt} (h : fM_EachAddsALineModel_worth N a1 a2 s = some (r, t1)) (l : Launch) (ad : Nat → Nat) : vMI l shM ad yX12_worth cX12_worth 3 .int 0 0 s [.ref (ad 0), .int a1, .int a2] r t1 :=
  vMI_of (by decide +kernel) (Nat.le_of_ble_eq_true rfl) (fun P hX hR => wM_EachAddsALineModel_worth_0 hX hR h)
-- M_EachAddsALineModel_giver
noncomputable def gM_EachAddsALineModel_giver_0 (N : Nat)  (a1 : Int32) (s : vSt) : Option (Int32 × vSt) :=
  if (a1 - a1 / 2 * 2) = 0 then
    (ld s 2 20 (a1 / 2)).bind fun v1 =>
    some (v1, s)
  else
    (ld s 3 20 (a1 / 2)).bind fun v2 =>
    some (v2, s)
set_option maxRecDepth 4000 in
theorem wM_EachAddsALineModel_giver_0 {P : vP} {l : Launch} {ad : Nat → Nat} {N : Nat} {r : Int32} {t1 : vSt} (hX : vOK P l shM ad (vR 0 0) cX12_giver RX12 2) (hR : (∀ pc lv, narrow .int (.int r) = .int r → decode cX12_giver pc = .ok (.ireturn, 1) → P t1 pc lv [.int r]))  {a1 : Int32} {s : vSt} (h : gM_EachAddsALineModel_giver_0 N a1 s = some (r, t1)) : P s 0 [(0, .ref (ad 0)), (1, .int a1)] [] := by
  unfold gM_EachAddsALineModel_giver_0 at h
  refine v_iload_n hX dX12_giver_0 rfl 1 rfl ?_
  refine v_iconst (v := 2) hX dX12_giver_1 (by decide) ?_
  refine v_irem hX dX12_giver_2 (by decide) ?_
  refine v_if_ne (tgt := 17) hX dX12_giver_3 (by decide) h (fun h => ?_) (fun h => ?_)
  · refine v_aload_n hX dX12_giver_6 rfl 0 rfl ?_
    refine gfM_0_3 hX kf_12_13 dX12_giver_7 ?_
    refine v_iload_n hX dX12_giver_10 rfl 1 rfl ?_
    refine v_iconst (v := 2) hX dX12_giver_11 (by decide) ?_
    refine v_idiv hX dX12_giver_12 (by decide) ?_
    refine alM_2 hX dX12_giver_13 h (fun v1 h => ?_)
    refine v_goto (tgt := 25) hX dX12_giver_14 (by decide) ?_
    exact v_retI hR h dX12_giver_25
  · refine v_aload_n hX dX12_giver_17 rfl 0 rfl ?_
    refine gfM_0_4 hX kf_12_16 dX12_giver_18 ?_
    refine v_iload_n hX dX12_giver_21 rfl 1 rfl ?_
    refine v_iconst (v := 2) hX dX12_giver_22 (by decide) ?_
    refine v_idiv hX dX12_giver_23 (by decide) ?_
    refine alM_3 hX dX12_giver_24 h (fun v2 h => ?_)
    exact v_retI hR h dX12_giver_25
noncomputable def fM_EachAddsALineModel_giver (N : Nat) (a1 : Int32) (s : vSt) : Option (Int32 × vSt) := gM_EachAddsALineModel_giver_0 N a1 s
theorem mM_EachAddsALineModel_giver {N : Nat} {a1 : Int32} {s : vSt} {r : Int32} {t1 : vSt} (h : fM_EachAddsALineModel_giver N a1 s = some (r, t1)) (l : Launch) (ad : Nat → Nat) : vMI l shM ad yX12_giver cX12_giver 2 .int 0 0 s [.ref (ad 0), .int a1] r t1 :=
  vMI_of (by decide +kernel) (Nat.le_of_ble_eq_true rfl) (fun P hX hR => wM_EachAddsALineModel_giver_0 hX hR h)
-- M_EachAddsALineModel_begins
noncomputable def gM_EachAddsALineModel_begins_25 (N : Nat)   (s : vSt) : Option (Int32 × vSt) :=
  some (0, s)
set_option maxRecDepth 4000 in
theorem wM_EachAddsALineModel_begins_25 {P : vP} {l : Launch} {ad : Nat → Nat} {N : Nat} {r : Int32} {t1 : vSt} (hX : vOK P l shM ad (vR 1 21) cX12_begins RX12 4) (hR : (∀ pc lv, narrow .boolean (.int r) = .int r → decode cX12_begins pc = .ok (.ireturn, 1) → P t1 pc lv [.int r]))   {s : vSt} (h : gM_EachAddsALineModel_begins_25 N s = some (r, t1)) : P s 25 [] [] := by
  unfold gM_EachAddsALineModel_begins_25 at h
  refine v_iconst (v := 0) hX dX12_begins_25 (by decide) ?_
  exact v_retZ0 hR h dX12_begins_26
noncomputable def gM_EachAddsALineModel_begins_0 (N : Nat)  (a1 : Int32) (a2 : Int32) (a3 : Int32) (s : vSt) : Option (Int32 × vSt) :=
  (fM_EachAddsALineModel_giver N a1 s).bind fun p1 =>
  if p1.1 = a2 then
    (ld p1.2 4 20 (a1 / 2)).bind fun v2 =>
    if v2 < a3 then
      gM_EachAddsALineModel_begins_25 N p1.2
    else
      some (1, p1.2)
  else
    gM_EachAddsALineModel_begins_25 N p1.2
set_option maxRecDepth 4000 in
theorem wM_EachAddsALineModel_begins_0 {P : vP} {l : Launch} {ad : Nat → Nat} {N : Nat} {r : Int32} {t1 : vSt} (hX : vOK P l shM ad (vR 1 21) cX12_begins RX12 4) (hR : (∀ pc lv, narrow .boolean (.int r) = .int r → decode cX12_begins pc = .ok (.ireturn, 1) → P t1 pc lv [.int r]))  {a1 : Int32} {a2 : Int32} {a3 : Int32} {s : vSt} (h : gM_EachAddsALineModel_begins_0 N a1 a2 a3 s = some (r, t1)) : P s 0 [(0, .ref (ad 0)), (1, .int a1), (2, .int a2), (3, .int a3)] [] := by
  unfold gM_EachAddsALineModel_begins_0 at h
  refine v_aload_n hX dX12_begins_0 rfl 0 rfl ?_
  refine v_iload_n hX dX12_begins_1 rfl 1 rfl ?_
  obtain ⟨p1, hp1, h⟩ := bsome h
  refine v_callVI (o := 0) hX (mM_EachAddsALineModel_giver hp1 l ad) kM_X12_giver kV_X12_giver km_12_265 (by decide) (fun _ => rfl) rfl rfl rfl (Nat.le_of_ble_eq_true rfl) (by decide) dX12_begins_2 ?_
  refine v_iload_n hX dX12_begins_5 rfl 2 rfl ?_
  refine v_icmp_ne (tgt := 25) hX dX12_begins_6 (by decide) h (fun h => ?_) (fun h => ?_)
  · refine v_aload_n hX dX12_begins_9 rfl 0 rfl ?_
    refine gfM_0_5 hX kf_12_19 dX12_begins_10 ?_
    refine v_iload_n hX dX12_begins_13 rfl 1 rfl ?_
    refine v_iconst (v := 2) hX dX12_begins_14 (by decide) ?_
    refine v_idiv hX dX12_begins_15 (by decide) ?_
    refine alM_4 hX dX12_begins_16 h (fun v2 h => ?_)
    refine v_iload_n hX dX12_begins_17 rfl 3 rfl ?_
    refine v_icmp_lt (tgt := 25) hX dX12_begins_18 (by decide) h (fun h => ?_) (fun h => ?_)
    · exact v_sub hX [] (by rfl) (wM_EachAddsALineModel_begins_25 hX hR  h)
    · refine v_iconst (v := 1) hX dX12_begins_21 (by decide) ?_
      refine v_goto (tgt := 26) hX dX12_begins_22 (by decide) ?_
      exact v_retZ1 hR h dX12_begins_26
  · exact v_sub hX [] (by rfl) (wM_EachAddsALineModel_begins_25 hX hR  h)
noncomputable def fM_EachAddsALineModel_begins (N : Nat) (a1 : Int32) (a2 : Int32) (a3 : Int32) (s : vSt) : Option (Int32 × vSt) := gM_EachAddsALineModel_begins_0 N a1 a2 a3 s
theorem mM_EachAddsALineModel_begins {N : Nat} {a1 : Int32} {a2 : Int32} {a3 : Int32} {s : vSt} {r : Int32} {t1 : vSt} (h : fM_EachAddsALineModel_begins N a1 a2 a3 s = some (r, t1)) (l : Launch) (ad : Nat → Nat) : vMI l shM ad yX12_begins cX12_begins 4 .boolean 1 21 s [.ref (ad 0), .int a1, .int a2, .int a3] r t1 :=
  vMI_of (by decide +kernel) (Nat.le_of_ble_eq_true rfl) (fun P hX hR => wM_EachAddsALineModel_begins_0 hX hR h)
-- M_EachAddsALineModel_getter
noncomputable def gM_EachAddsALineModel_getter_0 (N : Nat)  (a1 : Int32) (s : vSt) : Option (Int32 × vSt) :=
  if (a1 - a1 / 2 * 2) = 0 then
    (ld s 3 20 (a1 / 2)).bind fun v1 =>
    some (v1, s)
  else
    (ld s 2 20 (a1 / 2)).bind fun v2 =>
    some (v2, s)
set_option maxRecDepth 4000 in
theorem wM_EachAddsALineModel_getter_0 {P : vP} {l : Launch} {ad : Nat → Nat} {N : Nat} {r : Int32} {t1 : vSt} (hX : vOK P l shM ad (vR 0 0) cX12_getter RX12 2) (hR : (∀ pc lv, narrow .int (.int r) = .int r → decode cX12_getter pc = .ok (.ireturn, 1) → P t1 pc lv [.int r]))  {a1 : Int32} {s : vSt} (h : gM_EachAddsALineModel_getter_0 N a1 s = some (r, t1)) : P s 0 [(0, .ref (ad 0)), (1, .int a1)] [] := by
  unfold gM_EachAddsALineModel_getter_0 at h
  refine v_iload_n hX dX12_getter_0 rfl 1 rfl ?_
  refine v_iconst (v := 2) hX dX12_getter_1 (by decide) ?_
  refine v_irem hX dX12_getter_2 (by decide) ?_
  refine v_if_ne (tgt := 17) hX dX12_getter_3 (by decide) h (fun h => ?_) (fun h => ?_)
  · refine v_aload_n hX dX12_getter_6 rfl 0 rfl ?_
    refine gfM_0_4 hX kf_12_16 dX12_getter_7 ?_
    refine v_iload_n hX dX12_getter_10 rfl 1 rfl ?_
    refine v_iconst (v := 2) hX dX12_getter_11 (by decide) ?_
    refine v_idiv hX dX12_getter_12 (by decide) ?_
    refine alM_3 hX dX12_getter_13 h (fun v1 h => ?_)
    refine v_goto (tgt := 25) hX dX12_getter_14 (by decide) ?_
    exact v_retI hR h dX12_getter_25
  · refine v_aload_n hX dX12_getter_17 rfl 0 rfl ?_
    refine gfM_0_3 hX kf_12_13 dX12_getter_18 ?_
    refine v_iload_n hX dX12_getter_21 rfl 1 rfl ?_
    refine v_iconst (v := 2) hX dX12_getter_22 (by decide) ?_
    refine v_idiv hX dX12_getter_23 (by decide) ?_
    refine alM_2 hX dX12_getter_24 h (fun v2 h => ?_)
    exact v_retI hR h dX12_getter_25
noncomputable def fM_EachAddsALineModel_getter (N : Nat) (a1 : Int32) (s : vSt) : Option (Int32 × vSt) := gM_EachAddsALineModel_getter_0 N a1 s
theorem mM_EachAddsALineModel_getter {N : Nat} {a1 : Int32} {s : vSt} {r : Int32} {t1 : vSt} (h : fM_EachAddsALineModel_getter N a1 s = some (r, t1)) (l : Launch) (ad : Nat → Nat) : vMI l shM ad yX12_getter cX12_getter 2 .int 0 0 s [.ref (ad 0), .int a1] r t1 :=
  vMI_of (by decide +kernel) (Nat.le_of_ble_eq_true rfl) (fun P hX hR => wM_EachAddsALineModel_getter_0 hX hR h)
-- M_EachAddsALineModel_follows
noncomputable def gM_EachAddsALineModel_follows_47 (N : Nat)   (s : vSt) : Option (Int32 × vSt) :=
  some (0, s)
set_option maxRecDepth 4000 in
theorem wM_EachAddsALineModel_follows_47 {P : vP} {l : Launch} {ad : Nat → Nat} {N : Nat} {r : Int32} {t1 : vSt} (hX : vOK P l shM ad (vR 1 21) cX12_follows RX12 3) (hR : (∀ pc lv, narrow .boolean (.int r) = .int r → decode cX12_follows pc = .ok (.ireturn, 1) → P t1 pc lv [.int r]))   {s : vSt} (h : gM_EachAddsALineModel_follows_47 N s = some (r, t1)) : P s 47 [] [] := by
  unfold gM_EachAddsALineModel_follows_47 at h
  refine v_iconst (v := 0) hX dX12_follows_47 (by decide) ?_
  exact v_retZ0 hR h dX12_follows_48
noncomputable def gM_EachAddsALineModel_follows_0 (N : Nat)  (a1 : Int32) (a2 : Int32) (s : vSt) : Option (Int32 × vSt) :=
  (fM_EachAddsALineModel_giver N a1 s).bind fun p1 =>
  (fM_EachAddsALineModel_getter N a2 p1.2).bind fun p2 =>
  if p1.1 = p2.1 then
    (ld p2.2 4 20 (a1 / 2)).bind fun v3 =>
    (ld p2.2 4 20 (a2 / 2)).bind fun v4 =>
    (fM_EachAddsALineModel_getter N a2 p2.2).bind fun p5 =>
    (ld p5.2 1 9 p5.1).bind fun v6 =>
    if v3 < (v4 + v6) then
      gM_EachAddsALineModel_follows_47 N p5.2
    else
      some (1, p5.2)
  else
    gM_EachAddsALineModel_follows_47 N p2.2
set_option maxRecDepth 4000 in
theorem wM_EachAddsALineModel_follows_0 {P : vP} {l : Launch} {ad : Nat → Nat} {N : Nat} {r : Int32} {t1 : vSt} (hX : vOK P l shM ad (vR 1 21) cX12_follows RX12 3) (hR : (∀ pc lv, narrow .boolean (.int r) = .int r → decode cX12_follows pc = .ok (.ireturn, 1) → P t1 pc lv [.int r]))  {a1 : Int32} {a2 : Int32} {s : vSt} (h : gM_EachAddsALineModel_follows_0 N a1 a2 s = some (r, t1)) : P s 0 [(0, .ref (ad 0)), (1, .int a1), (2, .int a2)] [] := by
  unfold gM_EachAddsALineModel_follows_0 at h
  refine v_aload_n hX dX12_follows_0 rfl 0 rfl ?_
  refine v_iload_n hX dX12_follows_1 rfl 1 rfl ?_
  obtain ⟨p1, hp1, h⟩ := bsome h
  refine v_callVI (o := 0) hX (mM_EachAddsALineModel_giver hp1 l ad) kM_X12_giver kV_X12_giver km_12_265 (by decide) (fun _ => rfl) rfl rfl rfl (Nat.le_of_ble_eq_true rfl) (by decide) dX12_follows_2 ?_
  refine v_aload_n hX dX12_follows_5 rfl 0 rfl ?_
  refine v_iload_n hX dX12_follows_6 rfl 2 rfl ?_
  obtain ⟨p2, hp2, h⟩ := bsome h
  refine v_callVI (o := 0) hX (mM_EachAddsALineModel_getter hp2 l ad) kM_X12_getter kV_X12_getter km_12_268 (by decide) (fun _ => rfl) rfl rfl rfl (Nat.le_of_ble_eq_true rfl) (by decide) dX12_follows_7 ?_
  refine v_icmp_ne (tgt := 47) hX dX12_follows_10 (by decide) h (fun h => ?_) (fun h => ?_)
  · refine v_aload_n hX dX12_follows_13 rfl 0 rfl ?_
    refine gfM_0_5 hX kf_12_19 dX12_follows_14 ?_
    refine v_iload_n hX dX12_follows_17 rfl 1 rfl ?_
    refine v_iconst (v := 2) hX dX12_follows_18 (by decide) ?_
    refine v_idiv hX dX12_follows_19 (by decide) ?_
    refine alM_4 hX dX12_follows_20 h (fun v3 h => ?_)
    refine v_aload_n hX dX12_follows_21 rfl 0 rfl ?_
    refine gfM_0_5 hX kf_12_19 dX12_follows_22 ?_
    refine v_iload_n hX dX12_follows_25 rfl 2 rfl ?_
    refine v_iconst (v := 2) hX dX12_follows_26 (by decide) ?_
    refine v_idiv hX dX12_follows_27 (by decide) ?_
    refine alM_4 hX dX12_follows_28 h (fun v4 h => ?_)
    refine v_aload_n hX dX12_follows_29 rfl 0 rfl ?_
    refine gfM_0_1 hX kf_12_9 dX12_follows_30 ?_
    refine v_aload_n hX dX12_follows_33 rfl 0 rfl ?_
    refine v_iload_n hX dX12_follows_34 rfl 2 rfl ?_
    obtain ⟨p5, hp5, h⟩ := bsome h
    refine v_callVI (o := 0) hX (mM_EachAddsALineModel_getter hp5 l ad) kM_X12_getter kV_X12_getter km_12_268 (by decide) (fun _ => rfl) rfl rfl rfl (Nat.le_of_ble_eq_true rfl) (by decide) dX12_follows_35 ?_
    refine alM_1 hX dX12_follows_38 h (fun v6 h => ?_)
    refine v_iadd hX dX12_follows_39 ?_
    refine v_icmp_lt (tgt := 47) hX dX12_follows_40 (by decide) h (fun h => ?_) (fun h => ?_)
    · exact v_sub hX [] (by rfl) (wM_EachAddsALineModel_follows_47 hX hR  h)
    · refine v_iconst (v := 1) hX dX12_follows_43 (by decide) ?_
      refine v_goto (tgt := 48) hX dX12_follows_44 (by decide) ?_
      exact v_retZ1 hR h dX12_follows_48
  · exact v_sub hX [] (by rfl) (wM_EachAddsALineModel_follows_47 hX hR  h)
noncomputable def fM_EachAddsALineModel_follows (N : Nat) (a1 : Int32) (a2 : Int32) (s : vSt) : Option (Int32 × vSt) := gM_EachAddsALineModel_follows_0 N a1 a2 s
theorem mM_EachAddsALineModel_follows {N : Nat} {a1 : Int32} {a2 : Int32} {s : vSt} {r : Int32} {t1 : vSt} (h : fM_EachAddsALineModel_follows N a1 a2 s = some (r, t1)) (l : Launch) (ad : Nat → Nat) : vMI l shM ad yX12_follows cX12_follows 3 .boolean 1 21 s [.ref (ad 0), .int a1, .int a2] r t1 :=
  vMI_of (by decide +kernel) (Nat.le_of_ble_eq_true rfl) (fun P hX hR => wM_EachAddsALineModel_follows_0 hX hR h)
