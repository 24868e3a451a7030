-- M_EachAddsALineModel_pairs
noncomputable def gM_EachAddsALineModel_pairs_110 (N : Nat) (r44 : Int32 → Int32 → Int32 → Int32 → Int32 → Int32 → Int32 → vSt → Option (Int32 × vSt)) (a1 : Int32) (a2 : Int32) (a3 : Int32) (a4 : Int32) (a5 : Int32) (a6 : Int32) (a7 : Int32) (s : vSt) : Option (Int32 × vSt) :=
  (some (a7 + 1 : Int32)).bind fun v1 =>
  r44 a1 a2 a3 a4 a5 a6 v1 s
set_option maxRecDepth 4000 in
theorem wM_EachAddsALineModel_pairs_110 {P : vP} {l : Launch} {ad : Nat → Nat} {N : Nat} {r44 : Int32 → Int32 → Int32 → Int32 → Int32 → Int32 → Int32 → vSt → Option (Int32 × vSt)} {r : Int32} {t1 : vSt} (hX : vOK P l shM ad (vR 4 95) cX12_pairs RX12 9) (hR : (∀ pc lv, narrow .int (.int r) = .int r → decode cX12_pairs pc = .ok (.ireturn, 1) → P t1 pc lv [.int r])) (H44 : ∀ (a1 : Int32) (a2 : Int32) (a3 : Int32) (a4 : Int32) (a5 : Int32) (a6 : Int32) (a7 : Int32) (s : vSt), r44 a1 a2 a3 a4 a5 a6 a7 s = some (r, t1) → P s 44 [(0, .ref (ad 0)), (1, .int a1), (2, .int a2), (3, .int a3), (4, .int a4), (5, .int a5), (6, .int a6), (7, .int a7)] []) {a1 : Int32} {a2 : Int32} {a3 : Int32} {a4 : Int32} {a5 : Int32} {a6 : Int32} {a7 : Int32} {s : vSt} (h : gM_EachAddsALineModel_pairs_110 N r44 a1 a2 a3 a4 a5 a6 a7 s = some (r, t1)) : P s 110 [(0, .ref (ad 0)), (1, .int a1), (2, .int a2), (3, .int a3), (4, .int a4), (5, .int a5), (6, .int a6), (7, .int a7)] [] := by
  unfold gM_EachAddsALineModel_pairs_110 at h
  refine v_iincN hX dX12_pairs_110 (j := 7) rfl (c := 1) (by decide) (by decide) h (fun v1 h => ?_)
  refine v_show (lv' := [(7, .int v1), (0, .ref (ad 0)), (1, .int a1), (2, .int a2), (3, .int a3), (4, .int a4), (5, .int a5), (6, .int a6)]) hX rfl ?_
  refine v_goto (tgt := 44) hX dX12_pairs_113 (by decide) ?_
  exact v_sub hX [1, 2, 3, 4, 5, 6, 7, 0] (by rfl) (H44 _ _ _ _ _ _ _ _ h)
noncomputable def gM_EachAddsALineModel_pairs_74 (N : Nat) (r44 : Int32 → Int32 → Int32 → Int32 → Int32 → Int32 → Int32 → vSt → Option (Int32 × vSt)) (a1 : Int32) (a2 : Int32) (a3 : Int32) (a4 : Int32) (a5 : Int32) (a6 : Int32) (a7 : Int32) (k0 : Int32) (s : vSt) : Option (Int32 × vSt) :=
  if k0 < 1000000 then
    (some (a2 + 1 : Int32)).bind fun v1 =>
    if a5 < k0 then
      gM_EachAddsALineModel_pairs_110 N r44 a1 v1 a6 a7 k0 a6 a7 s
    else
      gM_EachAddsALineModel_pairs_110 N r44 a1 v1 a3 a4 a5 a6 a7 s
  else
    gM_EachAddsALineModel_pairs_110 N r44 a1 a2 a3 a4 a5 a6 a7 s
set_option maxRecDepth 4000 in
theorem wM_EachAddsALineModel_pairs_74 {P : vP} {l : Launch} {ad : Nat → Nat} {N : Nat} {r44 : Int32 → Int32 → Int32 → Int32 → Int32 → Int32 → Int32 → vSt → Option (Int32 × vSt)} {r : Int32} {t1 : vSt} (hX : vOK P l shM ad (vR 4 95) cX12_pairs RX12 9) (hR : (∀ pc lv, narrow .int (.int r) = .int r → decode cX12_pairs pc = .ok (.ireturn, 1) → P t1 pc lv [.int r])) (H44 : ∀ (a1 : Int32) (a2 : Int32) (a3 : Int32) (a4 : Int32) (a5 : Int32) (a6 : Int32) (a7 : Int32) (s : vSt), r44 a1 a2 a3 a4 a5 a6 a7 s = some (r, t1) → P s 44 [(0, .ref (ad 0)), (1, .int a1), (2, .int a2), (3, .int a3), (4, .int a4), (5, .int a5), (6, .int a6), (7, .int a7)] []) {a1 : Int32} {a2 : Int32} {a3 : Int32} {a4 : Int32} {a5 : Int32} {a6 : Int32} {a7 : Int32} {k0 : Int32} {s : vSt} (h : gM_EachAddsALineModel_pairs_74 N r44 a1 a2 a3 a4 a5 a6 a7 k0 s = some (r, t1)) : P s 74 [(0, .ref (ad 0)), (1, .int a1), (2, .int a2), (3, .int a3), (4, .int a4), (5, .int a5), (6, .int a6), (7, .int a7)] [.int k0] := by
  unfold gM_EachAddsALineModel_pairs_74 at h
  refine v_istore (lv' := [(8, .int k0), (0, .ref (ad 0)), (1, .int a1), (2, .int a2), (3, .int a3), (4, .int a4), (5, .int a5), (6, .int a6), (7, .int a7)]) hX dX12_pairs_74 (by decide) rfl ?_
  refine v_iload hX dX12_pairs_76 0 rfl ?_
  refine v_ldc hX kc_12_50 dX12_pairs_78 ?_
  refine v_icmp_lt (tgt := 86) hX dX12_pairs_80 (by decide) h (fun h => ?_) (fun h => ?_)
  · refine v_iincN hX dX12_pairs_86 (j := 3) rfl (c := 1) (by decide) (by decide) h (fun v1 h => ?_)
    refine v_show (lv' := [(2, .int v1), (8, .int k0), (0, .ref (ad 0)), (1, .int a1), (3, .int a3), (4, .int a4), (5, .int a5), (6, .int a6), (7, .int a7)]) hX rfl ?_
    refine v_iload hX dX12_pairs_89 1 rfl ?_
    refine v_iload hX dX12_pairs_91 6 rfl ?_
    refine v_icmp_gt (tgt := 99) hX dX12_pairs_93 (by decide) h (fun h => ?_) (fun h => ?_)
    · refine v_iload hX dX12_pairs_99 7 rfl ?_
      refine v_istore_n (lv' := [(3, .int a6), (2, .int v1), (8, .int k0), (0, .ref (ad 0)), (1, .int a1), (4, .int a4), (5, .int a5), (6, .int a6), (7, .int a7)]) hX dX12_pairs_101 rfl (by decide) rfl ?_
      refine v_iload hX dX12_pairs_102 8 rfl ?_
      refine v_istore (lv' := [(4, .int a7), (3, .int a6), (2, .int v1), (8, .int k0), (0, .ref (ad 0)), (1, .int a1), (5, .int a5), (6, .int a6), (7, .int a7)]) hX dX12_pairs_104 (by decide) rfl ?_
      refine v_iload hX dX12_pairs_106 3 rfl ?_
      refine v_istore (lv' := [(5, .int k0), (4, .int a7), (3, .int a6), (2, .int v1), (8, .int k0), (0, .ref (ad 0)), (1, .int a1), (6, .int a6), (7, .int a7)]) hX dX12_pairs_108 (by decide) rfl ?_
      exact v_sub hX [5, 6, 3, 2, 1, 0, 7, 8] (by rfl) (wM_EachAddsALineModel_pairs_110 hX hR H44 h)
    · refine v_goto (tgt := 110) hX dX12_pairs_96 (by decide) ?_
      exact v_sub hX [2, 3, 0, 4, 5, 6, 7, 8] (by rfl) (wM_EachAddsALineModel_pairs_110 hX hR H44 h)
  · refine v_goto (tgt := 110) hX dX12_pairs_83 (by decide) ?_
    exact v_sub hX [1, 2, 3, 4, 5, 6, 7, 8] (by rfl) (wM_EachAddsALineModel_pairs_110 hX hR H44 h)
noncomputable def gM_EachAddsALineModel_pairs_44 (N : Nat) (r32 : Int32 → Int32 → Int32 → Int32 → Int32 → Int32 → vSt → Option (Int32 × vSt)) : Nat → Int32 → Int32 → Int32 → Int32 → Int32 → Int32 → Int32 → vSt → Option (Int32 × vSt)
  | 0, _, _, _, _, _, _, _, _ => none
  | n + 1, a1, a2, a3, a4, a5, a6, a7, s =>
    if (s.1 0 0) ≤ a7 then
      (some (a6 + 1 : Int32)).bind fun v1 =>
      r32 a1 a2 a3 a4 a5 v1 s
    else
      if a6 = a7 then
        gM_EachAddsALineModel_pairs_74 N (gM_EachAddsALineModel_pairs_44 N r32 n) a1 a2 a3 a4 a5 a6 a7 1000000 s
      else
        (fM_EachAddsALineModel_soonestBy N a6 a7 a1 s).bind fun p2 =>
        gM_EachAddsALineModel_pairs_74 N (gM_EachAddsALineModel_pairs_44 N r32 n) a1 a2 a3 a4 a5 a6 a7 p2.1 p2.2
set_option maxRecDepth 4000 in
theorem wM_EachAddsALineModel_pairs_44 {P : vP} {l : Launch} {ad : Nat → Nat} {N : Nat} {r32 : Int32 → Int32 → Int32 → Int32 → Int32 → Int32 → vSt → Option (Int32 × vSt)} {r : Int32} {t1 : vSt} (hX : vOK P l shM ad (vR 4 95) cX12_pairs RX12 9) (hR : (∀ pc lv, narrow .int (.int r) = .int r → decode cX12_pairs pc = .ok (.ireturn, 1) → P t1 pc lv [.int r])) (H32 : ∀ (a1 : Int32) (a2 : Int32) (a3 : Int32) (a4 : Int32) (a5 : Int32) (a6 : Int32) (s : vSt), r32 a1 a2 a3 a4 a5 a6 s = some (r, t1) → P s 32 [(0, .ref (ad 0)), (1, .int a1), (2, .int a2), (3, .int a3), (4, .int a4), (5, .int a5), (6, .int a6)] []) : ∀ (n : Nat) (a1 : Int32) (a2 : Int32) (a3 : Int32) (a4 : Int32) (a5 : Int32) (a6 : Int32) (a7 : Int32) (s : vSt), gM_EachAddsALineModel_pairs_44 N r32 n a1 a2 a3 a4 a5 a6 a7 s = some (r, t1) → P s 44 [(0, .ref (ad 0)), (1, .int a1), (2, .int a2), (3, .int a3), (4, .int a4), (5, .int a5), (6, .int a6), (7, .int a7)] [] := by
  intro n
  induction n with
  | zero => intro a1 a2 a3 a4 a5 a6 a7 s h; cases h
  | succ n ih =>
    intro a1 a2 a3 a4 a5 a6 a7 s h
    unfold gM_EachAddsALineModel_pairs_44 at h
    refine v_iload hX dX12_pairs_44 7 rfl ?_
    refine v_aload_n hX dX12_pairs_46 rfl 0 rfl ?_
    refine gfM_0_0 hX kf_12_102 dX12_pairs_47 ?_
    refine v_icmp_ge (tgt := 116) hX dX12_pairs_50 (by decide) h (fun h => ?_) (fun h => ?_)
    · refine v_iincN hX dX12_pairs_116 (j := 6) rfl (c := 1) (by decide) (by decide) h (fun v1 h => ?_)
      refine v_show (lv' := [(6, .int v1), (0, .ref (ad 0)), (1, .int a1), (2, .int a2), (3, .int a3), (4, .int a4), (5, .int a5), (7, .int a7)]) hX rfl ?_
      refine v_goto (tgt := 32) hX dX12_pairs_119 (by decide) ?_
      exact v_sub hX [1, 2, 3, 4, 5, 6, 0] (by rfl) (H32 _ _ _ _ _ _ _ h)
    · refine v_iload hX dX12_pairs_53 6 rfl ?_
      refine v_iload hX dX12_pairs_55 7 rfl ?_
      refine v_icmp_ne (tgt := 65) hX dX12_pairs_57 (by decide) h (fun h => ?_) (fun h => ?_)
      · refine v_ldc hX kc_12_50 dX12_pairs_60 ?_
        refine v_goto (tgt := 74) hX dX12_pairs_62 (by decide) ?_
        exact v_sub hX [0, 1, 2, 3, 4, 5, 6, 7] (by rfl) (wM_EachAddsALineModel_pairs_74 hX hR ih h)
      · refine v_aload_n hX dX12_pairs_65 rfl 0 rfl ?_
        refine v_iload hX dX12_pairs_66 6 rfl ?_
        refine v_iload hX dX12_pairs_68 7 rfl ?_
        refine v_iload_n hX dX12_pairs_70 rfl 1 rfl ?_
        obtain ⟨p2, hp2, h⟩ := bsome h
        refine v_callVI (o := 0) hX (mM_EachAddsALineModel_soonestBy hp2 l ad) kM_X12_soonestBy kV_X12_soonestBy km_12_301 (by decide) (fun _ => rfl) rfl rfl rfl (Nat.le_of_ble_eq_true rfl) (by decide) dX12_pairs_71 ?_
        exact v_sub hX [0, 1, 2, 3, 4, 5, 6, 7] (by rfl) (wM_EachAddsALineModel_pairs_74 hX hR ih h)
noncomputable def gM_EachAddsALineModel_pairs_32 (N : Nat)  : Nat → Int32 → Int32 → Int32 → Int32 → Int32 → Int32 → vSt → Option (Int32 × vSt)
  | 0, _, _, _, _, _, _, _ => none
  | n + 1, a1, a2, a3, a4, a5, a6, s =>
    if (s.1 0 0) ≤ a6 then
      (some (s1 s 0 10 0)).bind fun z1 =>
      if a2 ≤ 0 then
        some (a2, z1)
      else
        (fM_EachAddsALineModel_tell N a3 z1).bind fun z2 =>
        (fM_EachAddsALineModel_tell N a4 z2).bind fun z3 =>
        (fM_EachAddsALineModel_tell N a5 z3).bind fun z4 =>
        some (a2, z4)
    else
      gM_EachAddsALineModel_pairs_44 N (gM_EachAddsALineModel_pairs_32 N n) N a1 a2 a3 a4 a5 a6 0 s
set_option maxRecDepth 4000 in
theorem wM_EachAddsALineModel_pairs_32 {P : vP} {l : Launch} {ad : Nat → Nat} {N : Nat} {r : Int32} {t1 : vSt} (hX : vOK P l shM ad (vR 4 95) cX12_pairs RX12 9) (hR : (∀ pc lv, narrow .int (.int r) = .int r → decode cX12_pairs pc = .ok (.ireturn, 1) → P t1 pc lv [.int r]))  : ∀ (n : Nat) (a1 : Int32) (a2 : Int32) (a3 : Int32) (a4 : Int32) (a5 : Int32) (a6 : Int32) (s : vSt), gM_EachAddsALineModel_pairs_32 N n a1 a2 a3 a4 a5 a6 s = some (r, t1) → P s 32 [(0, .ref (ad 0)), (1, .int a1), (2, .int a2), (3, .int a3), (4, .int a4), (5, .int a5), (6, .int a6)] [] := by
  intro n
  induction n with
  | zero => intro a1 a2 a3 a4 a5 a6 s h; cases h
  | succ n ih =>
    intro a1 a2 a3 a4 a5 a6 s h
    unfold gM_EachAddsALineModel_pairs_32 at h
    refine v_iload hX dX12_pairs_32 6 rfl ?_
    refine v_aload_n hX dX12_pairs_34 rfl 0 rfl ?_
    refine gfM_0_0 hX kf_12_102 dX12_pairs_35 ?_
    refine v_icmp_ge (tgt := 122) hX dX12_pairs_38 (by decide) h (fun h => ?_) (fun h => ?_)
    · refine v_aload_n hX dX12_pairs_122 rfl 0 rfl ?_
      refine v_iconst (v := 0) hX dX12_pairs_123 (by decide) ?_
      refine pfM_0_10 hX kf_12_99 dX12_pairs_124 h (fun z1 h => ?_)
      refine v_iload_n hX dX12_pairs_127 rfl 2 rfl ?_
      refine v_if_le (tgt := 148) hX dX12_pairs_128 (by decide) h (fun h => ?_) (fun h => ?_)
      · refine v_iload_n hX dX12_pairs_148 rfl 2 rfl ?_
        exact v_retI hR h dX12_pairs_149
      · refine v_aload_n hX dX12_pairs_131 rfl 0 rfl ?_
        refine v_iload_n hX dX12_pairs_132 rfl 3 rfl ?_
        obtain ⟨z2, hz2, h⟩ := bsome h
        refine v_callVV (o := 0) hX (mM_EachAddsALineModel_tell hz2 l ad) kM_X12_tell kV_X12_tell km_12_250 (by decide) (fun _ => rfl) rfl rfl rfl (Nat.le_of_ble_eq_true rfl) (by decide) dX12_pairs_133 ?_
        refine v_aload_n hX dX12_pairs_136 rfl 0 rfl ?_
        refine v_iload hX dX12_pairs_137 4 rfl ?_
        obtain ⟨z3, hz3, h⟩ := bsome h
        refine v_callVV (o := 0) hX (mM_EachAddsALineModel_tell hz3 l ad) kM_X12_tell kV_X12_tell km_12_250 (by decide) (fun _ => rfl) rfl rfl rfl (Nat.le_of_ble_eq_true rfl) (by decide) dX12_pairs_139 ?_
        refine v_aload_n hX dX12_pairs_142 rfl 0 rfl ?_
        refine v_iload hX dX12_pairs_143 5 rfl ?_
        obtain ⟨z4, hz4, h⟩ := bsome h
        refine v_callVV (o := 0) hX (mM_EachAddsALineModel_tell hz4 l ad) kM_X12_tell kV_X12_tell km_12_250 (by decide) (fun _ => rfl) rfl rfl rfl (Nat.le_of_ble_eq_true rfl) (by decide) dX12_pairs_145 ?_
        refine v_iload_n hX dX12_pairs_148 rfl 2 rfl ?_
        exact v_retI hR h dX12_pairs_149
    · refine v_iconst (v := 0) hX dX12_pairs_41 (by decide) ?_
      refine v_istore (lv' := [(7, .int 0), (0, .ref (ad 0)), (1, .int a1), (2, .int a2), (3, .int a3), (4, .int a4), (5, .int a5), (6, .int a6)]) hX dX12_pairs_42 (by decide) rfl ?_
      exact v_sub hX [1, 2, 3, 4, 5, 6, 7, 0] (by rfl) (wM_EachAddsALineModel_pairs_44 hX hR ih N _ _ _ _ _ _ _ _ h)
noncomputable def gM_EachAddsALineModel_pairs_0 (N : Nat)  (a1 : Int32) (s : vSt) : Option (Int32 × vSt) :=
  (some (s1 s 0 11 0)).bind fun z1 =>
  (fM_EachAddsALineModel_isHour N a1 z1).bind fun p2 =>
  if p2.1 = 0 then
    some ((-1), p2.2)
  else
    (some (s1 p2.2 0 33 0)).bind fun z3 =>
    (some ((-1) : Int32)).bind fun v4 =>
    gM_EachAddsALineModel_pairs_32 N N a1 0 0 0 v4 0 z3
set_option maxRecDepth 4000 in
theorem wM_EachAddsALineModel_pairs_0 {P : vP} {l : Launch} {ad : Nat → Nat} {N : Nat} {r : Int32} {t1 : vSt} (hX : vOK P l shM ad (vR 4 95) cX12_pairs RX12 9) (hR : (∀ pc lv, narrow .int (.int r) = .int r → decode cX12_pairs pc = .ok (.ireturn, 1) → P t1 pc lv [.int r]))  {a1 : Int32} {s : vSt} (h : gM_EachAddsALineModel_pairs_0 N a1 s = some (r, t1)) : P s 0 [(0, .ref (ad 0)), (1, .int a1)] [] := by
  unfold gM_EachAddsALineModel_pairs_0 at h
  refine v_aload_n hX dX12_pairs_0 rfl 0 rfl ?_
  refine v_iconst (v := 0) hX dX12_pairs_1 (by decide) ?_
  refine pfM_0_11 hX kf_12_96 dX12_pairs_2 h (fun z1 h => ?_)
  refine v_iload_n hX dX12_pairs_5 rfl 1 rfl ?_
  obtain ⟨p2, hp2, h⟩ := bsome h
  refine v_callSI hX (mM_EachAddsALineModel_isHour hp2 l ad) kM_X12_isHour kS_X12_isHour km_12_221 rfl rfl (Nat.le_of_ble_eq_true rfl) (by decide) dX12_pairs_6 ?_
  refine v_if_ne (tgt := 14) hX dX12_pairs_9 (by decide) h (fun h => ?_) (fun h => ?_)
  · refine v_iconst (v := (-1)) hX dX12_pairs_12 (by decide) ?_
    exact v_retI hR h dX12_pairs_13
  · refine v_aload_n hX dX12_pairs_14 rfl 0 rfl ?_
    refine v_iconst (v := 0) hX dX12_pairs_15 (by decide) ?_
    refine pfM_0_33 hX kf_12_277 dX12_pairs_16 h (fun z3 h => ?_)
    refine v_iconst (v := 0) hX dX12_pairs_19 (by decide) ?_
    refine v_istore_n (lv' := [(2, .int 0), (0, .ref (ad 0)), (1, .int a1)]) hX dX12_pairs_20 rfl (by decide) rfl ?_
    refine v_iconst (v := 0) hX dX12_pairs_21 (by decide) ?_
    refine v_istore_n (lv' := [(3, .int 0), (2, .int 0), (0, .ref (ad 0)), (1, .int a1)]) hX dX12_pairs_22 rfl (by decide) rfl ?_
    refine v_iconst (v := 0) hX dX12_pairs_23 (by decide) ?_
    refine v_istore (lv' := [(4, .int 0), (3, .int 0), (2, .int 0), (0, .ref (ad 0)), (1, .int a1)]) hX dX12_pairs_24 (by decide) rfl ?_
    refine v_iconst (v := (-1)) hX dX12_pairs_26 (by decide) ?_
    refine v_nmI hX h (fun v4 h => ?_)
    refine v_istore (lv' := [(5, .int v4), (4, .int 0), (3, .int 0), (2, .int 0), (0, .ref (ad 0)), (1, .int a1)]) hX dX12_pairs_27 (by decide) rfl ?_
    refine v_iconst (v := 0) hX dX12_pairs_29 (by decide) ?_
    refine v_istore (lv' := [(6, .int 0), (5, .int v4), (4, .int 0), (3, .int 0), (2, .int 0), (0, .ref (ad 0)), (1, .int a1)]) hX dX12_pairs_30 (by decide) rfl ?_
    exact v_sub hX [5, 6, 4, 3, 2, 1, 0] (by rfl) (wM_EachAddsALineModel_pairs_32 hX hR  N _ _ _ _ _ _ _ h)
noncomputable def fM_EachAddsALineModel_pairs (N : Nat) (a1 : Int32) (s : vSt) : Option (Int32 × vSt) := gM_EachAddsALineModel_pairs_0 N a1 s
theorem mM_EachAddsALineModel_pairs {N : Nat} {a1 : Int32} {s : vSt} {r : Int32} {t1 : vSt} (h : fM_EachAddsALineModel_pairs N a1 s = some (r, t1)) (l : Launch) (ad : Nat → Nat) : vMI l shM ad yX12_pairs cX12_pairs 9 .int 4 95 s [.ref (ad 0), .int a1] r t1 :=
  vMI_of (by decide +kernel) (Nat.le_of_ble_eq_true rfl) (fun P hX hR => wM_EachAddsALineModel_pairs_0 hX hR h)
-- M_EachAddsALineModel_bargain
noncomputable def gM_EachAddsALineModel_bargain_0 (N : Nat)  (a1 : Int32) (a2 : Int32) (a3 : Int32) (a4 : Int32) (s : vSt) : Option (Int32 × vSt) :=
  (some (s1 s 0 11 0)).bind fun z1 =>
  (fM_EachAddsALineModel_isTrip N a1 a2 a3 z1).bind fun p2 =>
  if p2.1 = 0 then
    some ((-1), p2.2)
  else
    (fM_EachAddsALineModel_isHour N a4 p2.2).bind fun p3 =>
    if p3.1 = 0 then
      some ((-1), p3.2)
    else
      (some (s1 p3.2 0 33 0)).bind fun z4 =>
      (some (s1 z4 0 34 a4)).bind fun z5 =>
      (fM_EachAddsALineModel_tellBest N a1 a2 a3 2 z5).bind fun p6 =>
      (some (s1 p6.2 0 34 1000000)).bind fun z7 =>
      some (p6.1, z7)
set_option maxRecDepth 4000 in
theorem wM_EachAddsALineModel_bargain_0 {P : vP} {l : Launch} {ad : Nat → Nat} {N : Nat} {r : Int32} {t1 : vSt} (hX : vOK P l shM ad (vR 4 102) cX12_bargain RX12 6) (hR : (∀ pc lv, narrow .int (.int r) = .int r → decode cX12_bargain pc = .ok (.ireturn, 1) → P t1 pc lv [.int r]))  {a1 : Int32} {a2 : Int32} {a3 : Int32} {a4 : Int32} {s : vSt} (h : gM_EachAddsALineModel_bargain_0 N a1 a2 a3 a4 s = some (r, t1)) : P s 0 [(0, .ref (ad 0)), (1, .int a1), (2, .int a2), (3, .int a3), (4, .int a4)] [] := by
  unfold gM_EachAddsALineModel_bargain_0 at h
  refine v_aload_n hX dX12_bargain_0 rfl 0 rfl ?_
  refine v_iconst (v := 0) hX dX12_bargain_1 (by decide) ?_
  refine pfM_0_11 hX kf_12_96 dX12_bargain_2 h (fun z1 h => ?_)
  refine v_aload_n hX dX12_bargain_5 rfl 0 rfl ?_
  refine v_iload_n hX dX12_bargain_6 rfl 1 rfl ?_
  refine v_iload_n hX dX12_bargain_7 rfl 2 rfl ?_
  refine v_iload_n hX dX12_bargain_8 rfl 3 rfl ?_
  obtain ⟨p2, hp2, h⟩ := bsome h
  refine v_callVI (o := 0) hX (mM_EachAddsALineModel_isTrip hp2 l ad) kM_X12_isTrip kV_X12_isTrip km_12_294 (by decide) (fun _ => rfl) rfl rfl rfl (Nat.le_of_ble_eq_true rfl) (by decide) dX12_bargain_9 ?_
  refine v_if_eq (tgt := 23) hX dX12_bargain_12 (by decide) h (fun h => ?_) (fun h => ?_)
  · refine v_iconst (v := (-1)) hX dX12_bargain_23 (by decide) ?_
    exact v_retI hR h dX12_bargain_24
  · refine v_iload hX dX12_bargain_15 4 rfl ?_
    obtain ⟨p3, hp3, h⟩ := bsome h
    refine v_callSI hX (mM_EachAddsALineModel_isHour hp3 l ad) kM_X12_isHour kS_X12_isHour km_12_221 rfl rfl (Nat.le_of_ble_eq_true rfl) (by decide) dX12_bargain_17 ?_
    refine v_if_ne (tgt := 25) hX dX12_bargain_20 (by decide) h (fun h => ?_) (fun h => ?_)
    · refine v_iconst (v := (-1)) hX dX12_bargain_23 (by decide) ?_
      exact v_retI hR h dX12_bargain_24
    · refine v_aload_n hX dX12_bargain_25 rfl 0 rfl ?_
      refine v_iconst (v := 0) hX dX12_bargain_26 (by decide) ?_
      refine pfM_0_33 hX kf_12_277 dX12_bargain_27 h (fun z4 h => ?_)
      refine v_aload_n hX dX12_bargain_30 rfl 0 rfl ?_
      refine v_iload hX dX12_bargain_31 4 rfl ?_
      refine pfM_0_34 hX kf_12_51 dX12_bargain_33 h (fun z5 h => ?_)
      refine v_aload_n hX dX12_bargain_36 rfl 0 rfl ?_
      refine v_iload_n hX dX12_bargain_37 rfl 1 rfl ?_
      refine v_iload_n hX dX12_bargain_38 rfl 2 rfl ?_
      refine v_iload_n hX dX12_bargain_39 rfl 3 rfl ?_
      refine v_iconst (v := 2) hX dX12_bargain_40 (by decide) ?_
      obtain ⟨p6, hp6, h⟩ := bsome h
      refine v_callVI (o := 0) hX (mM_EachAddsALineModel_tellBest hp6 l ad) kM_X12_tellBest kV_X12_tellBest km_12_297 (by decide) (fun _ => rfl) rfl rfl rfl (Nat.le_of_ble_eq_true rfl) (by decide) dX12_bargain_41 ?_
      refine v_istore (lv' := [(5, .int p6.1), (0, .ref (ad 0)), (1, .int a1), (2, .int a2), (3, .int a3), (4, .int a4)]) hX dX12_bargain_44 (by decide) rfl ?_
      refine v_aload_n hX dX12_bargain_46 rfl 1 rfl ?_
      refine v_ldc hX kc_12_50 dX12_bargain_47 ?_
      refine pfM_0_34 hX kf_12_51 dX12_bargain_49 h (fun z7 h => ?_)
      refine v_iload hX dX12_bargain_52 0 rfl ?_
      exact v_retI hR h dX12_bargain_54
noncomputable def fM_EachAddsALineModel_bargain (N : Nat) (a1 : Int32) (a2 : Int32) (a3 : Int32) (a4 : Int32) (s : vSt) : Option (Int32 × vSt) := gM_EachAddsALineModel_bargain_0 N a1 a2 a3 a4 s
theorem mM_EachAddsALineModel_bargain {N : Nat} {a1 : Int32} {a2 : Int32} {a3 : Int32} {a4 : Int32} {s : vSt} {r : Int32} {t1 : vSt} (h : fM_EachAddsALineModel_bargain N a1 a2 a3 a4 s = some (r, t1)) (l : Launch) (ad : Nat → Nat) : vMI l shM ad yX12_bargain cX12_bargain 6 .int 4 102 s [.ref (ad 0), .int a1, .int a2, .int a3, .int a4] r t1 :=
  vMI_of (by decide +kernel) (Nat.le_of_ble_eq_true rfl) (fun P hX hR => wM_EachAddsALineModel_bargain_0 hX hR h)
-- M_EachAddsALineModel_apart
noncomputable def gM_EachAddsALineModel_apart_147 (N : Nat) (r54 : Int32 → Int32 → Int32 → Int32 → Int32 → Int32 → Int32 → vSt → Option (Int32 × vSt)) (a1 : Int32) (a2 : Int32) (a3 : Int32) (a4 : Int32) (a5 : Int32) (a6 : Int32) (a7 : Int32) (s : vSt) : Option (Int32 × vSt) :=
  (some (a7 + 1 : Int32)).bind fun v1 =>
  r54 a1 a2 a3 a4 a5 a6 v1 s
set_option maxRecDepth 4000 in
theorem wM_EachAddsALineModel_apart_147 {P : vP} {l : Launch} {ad : Nat → Nat} {N : Nat} {r54 : Int32 → Int32 → Int32 → Int32 → Int32 → Int32 → Int32 → vSt → Option (Int32 × vSt)} {r : Int32} {t1 : vSt} (hX : vOK P l shM ad (vR 4 95) cX12_apart RX12 9) (hR : (∀ pc lv, narrow .int (.int r) = .int r → decode cX12_apart pc = .ok (.ireturn, 1) → P t1 pc lv [.int r])) (H54 : ∀ (a1 : Int32) (a2 : Int32) (a3 : Int32) (a4 : Int32) (a5 : Int32) (a6 : Int32) (a7 : Int32) (s : vSt), r54 a1 a2 a3 a4 a5 a6 a7 s = some (r, t1) → P s 54 [(0, .ref (ad 0)), (1, .int a1), (2, .int a2), (3, .int a3), (4, .int a4), (5, .int a5), (6, .int a6), (7, .int a7)] []) {a1 : Int32} {a2 : Int32} {a3 : Int32} {a4 : Int32} {a5 : Int32} {a6 : Int32} {a7 : Int32} {s : vSt} (h : gM_EachAddsALineModel_apart_147 N r54 a1 a2 a3 a4 a5 a6 a7 s = some (r, t1)) : P s 147 [(0, .ref (ad 0)), (1, .int a1), (2, .int a2), (3, .int a3), (4, .int a4), (5, .int a5), (6, .int a6), (7, .int a7)] [] := by
  unfold gM_EachAddsALineModel_apart_147 at h
  refine v_iincN hX dX12_apart_147 (j := 7) rfl (c := 1) (by decide) (by decide) h (fun v1 h => ?_)
  refine v_show (lv' := [(7, .int v1), (0, .ref (ad 0)), (1, .int a1), (2, .int a2), (3, .int a3), (4, .int a4), (5, .int a5), (6, .int a6)]) hX rfl ?_
  refine v_goto (tgt := 54) hX dX12_apart_150 (by decide) ?_
  exact v_sub hX [1, 2, 3, 4, 5, 6, 7, 0] (by rfl) (H54 _ _ _ _ _ _ _ _ h)
noncomputable def gM_EachAddsALineModel_apart_108 (N : Nat) (r54 : Int32 → Int32 → Int32 → Int32 → Int32 → Int32 → Int32 → vSt → Option (Int32 × vSt)) (a1 : Int32) (a2 : Int32) (a3 : Int32) (a4 : Int32) (a5 : Int32) (a6 : Int32) (a7 : Int32) (k0 : Int32) (s : vSt) : Option (Int32 × vSt) :=
  (some (s1 s 0 33 (a4 &&& ((a5 &&& (a7 ^^^ (-1))) ^^^ (-1))))).bind fun z1 =>
  if k0 = 0 then
    gM_EachAddsALineModel_apart_147 N r54 a1 a2 a3 a4 a5 a6 a7 z1
  else
    (fM_EachAddsALineModel_soonestBy N a1 a2 a3 z1).bind fun p2 =>
    if 1000000 ≤ p2.1 then
      gM_EachAddsALineModel_apart_147 N r54 a1 a2 a3 a4 a5 a6 a7 p2.2
    else
      gM_EachAddsALineModel_apart_147 N r54 a1 a2 a3 a4 a5 a7 a7 p2.2
set_option maxRecDepth 4000 in
theorem wM_EachAddsALineModel_apart_108 {P : vP} {l : Launch} {ad : Nat → Nat} {N : Nat} {r54 : Int32 → Int32 → Int32 → Int32 → Int32 → Int32 → Int32 → vSt → Option (Int32 × vSt)} {r : Int32} {t1 : vSt} (hX : vOK P l shM ad (vR 4 95) cX12_apart RX12 9) (hR : (∀ pc lv, narrow .int (.int r) = .int r → decode cX12_apart pc = .ok (.ireturn, 1) → P t1 pc lv [.int r])) (H54 : ∀ (a1 : Int32) (a2 : Int32) (a3 : Int32) (a4 : Int32) (a5 : Int32) (a6 : Int32) (a7 : Int32) (s : vSt), r54 a1 a2 a3 a4 a5 a6 a7 s = some (r, t1) → P s 54 [(0, .ref (ad 0)), (1, .int a1), (2, .int a2), (3, .int a3), (4, .int a4), (5, .int a5), (6, .int a6), (7, .int a7)] []) {a1 : Int32} {a2 : Int32} {a3 : Int32} {a4 : Int32} {a5 : Int32} {a6 : Int32} {a7 : Int32} {k0 : Int32} {s : vSt} (h : gM_EachAddsALineModel_apart_108 N r54 a1 a2 a3 a4 a5 a6 a7 k0 s = some (r, t1)) : P s 108 [(0, .ref (ad 0)), (1, .int a1), (2, .int a2), (3, .int a3), (4, .int a4), (5, .int a5), (6, .int a6), (7, .int a7)] [.int k0] := by
  unfold gM_EachAddsALineModel_apart_108 at h
  refine v_istore (lv' := [(8, .int k0), (0, .ref (ad 0)), (1, .int a1), (2, .int a2), (3, .int a3), (4, .int a4), (5, .int a5), (6, .int a6), (7, .int a7)]) hX dX12_apart_108 (by decide) rfl ?_
  refine v_aload_n hX dX12_apart_110 rfl 1 rfl ?_
  refine v_iload hX dX12_apart_111 5 rfl ?_
  refine v_iload hX dX12_apart_113 6 rfl ?_
  refine v_iload hX dX12_apart_115 8 rfl ?_
  refine v_iconst (v := (-1)) hX dX12_apart_117 (by decide) ?_
  refine v_ixor hX dX12_apart_118 ?_
  refine v_iand hX dX12_apart_119 ?_
  refine v_iconst (v := (-1)) hX dX12_apart_120 (by decide) ?_
  refine v_ixor hX dX12_apart_121 ?_
  refine v_iand hX dX12_apart_122 ?_
  refine pfM_0_33 hX kf_12_277 dX12_apart_123 h (fun z1 h => ?_)
  refine v_iload hX dX12_apart_126 0 rfl ?_
  refine v_if_eq (tgt := 147) hX dX12_apart_128 (by decide) h (fun h => ?_) (fun h => ?_)
  · exact v_sub hX [1, 2, 3, 4, 5, 6, 7, 8] (by rfl) (wM_EachAddsALineModel_apart_147 hX hR H54 h)
  · refine v_aload_n hX dX12_apart_131 rfl 1 rfl ?_
    refine v_iload_n hX dX12_apart_132 rfl 2 rfl ?_
    refine v_iload_n hX dX12_apart_133 rfl 3 rfl ?_
    refine v_iload_n hX dX12_apart_134 rfl 4 rfl ?_
    obtain ⟨p2, hp2, h⟩ := bsome h
    refine v_callVI (o := 0) hX (mM_EachAddsALineModel_soonestBy hp2 l ad) kM_X12_soonestBy kV_X12_soonestBy km_12_301 (by decide) (fun _ => rfl) rfl rfl rfl (Nat.le_of_ble_eq_true rfl) (by decide) dX12_apart_135 ?_
    refine v_ldc hX kc_12_50 dX12_apart_138 ?_
    refine v_icmp_ge (tgt := 147) hX dX12_apart_140 (by decide) h (fun h => ?_) (fun h => ?_)
    · exact v_sub hX [1, 2, 3, 4, 5, 6, 7, 8] (by rfl) (wM_EachAddsALineModel_apart_147 hX hR H54 h)
    · refine v_iload hX dX12_apart_143 8 rfl ?_
      refine v_istore (lv' := [(6, .int a7), (8, .int k0), (0, .ref (ad 0)), (1, .int a1), (2, .int a2), (3, .int a3), (4, .int a4), (5, .int a5), (7, .int a7)]) hX dX12_apart_145 (by decide) rfl ?_
      exact v_sub hX [2, 3, 4, 5, 6, 7, 0, 8] (by rfl) (wM_EachAddsALineModel_apart_147 hX hR H54 h)
noncomputable def gM_EachAddsALineModel_apart_153 (N : Nat)  (a6 : Int32) (s : vSt) : Option (Int32 × vSt) :=
  (some (s1 s 0 33 0)).bind fun z1 =>
  (some (s1 z1 0 10 0)).bind fun z2 =>
  if a6 = (-1) then
    some (0, z2)
  else
    (fM_EachAddsALineModel_tell N a6 z2).bind fun z3 =>
    some (1, z3)
set_option maxRecDepth 4000 in
theorem wM_EachAddsALineModel_apart_153 {P : vP} {l : Launch} {ad : Nat → Nat} {N : Nat} {r : Int32} {t1 : vSt} (hX : vOK P l shM ad (vR 4 95) cX12_apart RX12 9) (hR : (∀ pc lv, narrow .int (.int r) = .int r → decode cX12_apart pc = .ok (.ireturn, 1) → P t1 pc lv [.int r]))  {a6 : Int32} {s : vSt} (h : gM_EachAddsALineModel_apart_153 N a6 s = some (r, t1)) : P s 153 [(0, .ref (ad 0)), (6, .int a6)] [] := by
  unfold gM_EachAddsALineModel_apart_153 at h
  refine v_aload_n hX dX12_apart_153 rfl 0 rfl ?_
  refine v_iconst (v := 0) hX dX12_apart_154 (by decide) ?_
  refine pfM_0_33 hX kf_12_277 dX12_apart_155 h (fun z1 h => ?_)
  refine v_aload_n hX dX12_apart_158 rfl 0 rfl ?_
  refine v_iconst (v := 0) hX dX12_apart_159 (by decide) ?_
  refine pfM_0_10 hX kf_12_99 dX12_apart_160 h (fun z2 h => ?_)
  refine v_iload hX dX12_apart_163 1 rfl ?_
  refine v_iconst (v := (-1)) hX dX12_apart_165 (by decide) ?_
  refine v_icmp_ne (tgt := 171) hX dX12_apart_166 (by decide) h (fun h => ?_) (fun h => ?_)
  · refine v_iconst (v := 0) hX dX12_apart_169 (by decide) ?_
    exact v_retI hR h dX12_apart_170
  · refine v_aload_n hX dX12_apart_171 rfl 0 rfl ?_
    refine v_iload hX dX12_apart_172 1 rfl ?_
    obtain ⟨z3, hz3, h⟩ := bsome h
    refine v_callVV (o := 0) hX (mM_EachAddsALineModel_tell hz3 l ad) kM_X12_tell kV_X12_tell km_12_250 (by decide) (fun _ => rfl) rfl rfl rfl (Nat.le_of_ble_eq_true rfl) (by decide) dX12_apart_174 ?_
    refine v_iconst (v := 1) hX dX12_apart_177 (by decide) ?_
    exact v_retI hR h dX12_apart_178
noncomputable def gM_EachAddsALineModel_apart_54 (N : Nat)  : Nat → Int32 → Int32 → Int32 → Int32 → Int32 → Int32 → Int32 → vSt → Option (Int32 × vSt)
  | 0, _, _, _, _, _, _, _, _ => none
  | n + 1, a1, a2, a3, a4, a5, a6, a7, s =>
    if a5 < a7 then
      gM_EachAddsALineModel_apart_153 N a6 s
    else
      if a6 = (-1) then
        if (a7 &&& (a5 ^^^ (-1))) = 0 then
          (some (s1 s 0 33 (a4 &&& (a7 ^^^ (-1))))).bind fun z1 =>
          (fM_EachAddsALineModel_soonestBy N a1 a2 a3 z1).bind fun p2 =>
          if 1000000 ≤ p2.1 then
            gM_EachAddsALineModel_apart_108 N (gM_EachAddsALineModel_apart_54 N n) a1 a2 a3 a4 a5 a6 a7 0 p2.2
          else
            gM_EachAddsALineModel_apart_108 N (gM_EachAddsALineModel_apart_54 N n) a1 a2 a3 a4 a5 a6 a7 1 p2.2
        else
          gM_EachAddsALineModel_apart_147 N (gM_EachAddsALineModel_apart_54 N n) a1 a2 a3 a4 a5 a6 a7 s
      else
        gM_EachAddsALineModel_apart_153 N a6 s
set_option maxRecDepth 4000 in
theorem wM_EachAddsALineModel_apart_54 {P : vP} {l : Launch} {ad : Nat → Nat} {N : Nat} {r : Int32} {t1 : vSt} (hX : vOK P l shM ad (vR 4 95) cX12_apart RX12 9) (hR : (∀ pc lv, narrow .int (.int r) = .int r → decode cX12_apart pc = .ok (.ireturn, 1) → P t1 pc lv [.int r]))  : ∀ (n : Nat) (a1 : Int32) (a2 : Int32) (a3 : Int32) (a4 : Int32) (a5 : Int32) (a6 : Int32) (a7 : Int32) (s : vSt), gM_EachAddsALineModel_apart_54 N n a1 a2 a3 a4 a5 a6 a7 s = some (r, t1) → P s 54 [(0, .ref (ad 0)), (1, .int a1), (2, .int a2), (3, .int a3), (4, .int a4), (5, .int a5), (6, .int a6), (7, .int a7)] [] := by
  intro n
  induction n with
  | zero => intro a1 a2 a3 a4 a5 a6 a7 s h; cases h
  | succ n ih =>
    intro a1 a2 a3 a4 a5 a6 a7 s h
    unfold gM_EachAddsALineModel_apart_54 at h
    refine v_iload hX dX12_apart_54 7 rfl ?_
    refine v_iload hX dX12_apart_56 5 rfl ?_
    refine v_icmp_gt (tgt := 153) hX dX12_apart_58 (by decide) h (fun h => ?_) (fun h => ?_)
    · exact v_sub hX [0, 6] (by rfl) (wM_EachAddsALineModel_apart_153 hX hR  h)
    · refine v_iload hX dX12_apart_61 6 rfl ?_
      refine v_iconst (v := (-1)) hX dX12_apart_63 (by decide) ?_
      refine v_icmp_ne (tgt := 153) hX dX12_apart_64 (by decide) h (fun h => ?_) (fun h => ?_)
      · refine v_iload hX dX12_apart_67 7 rfl ?_
        refine v_iload hX dX12_apart_69 5 rfl ?_
        refine v_iconst (v := (-1)) hX dX12_apart_71 (by decide) ?_
        refine v_ixor hX dX12_apart_72 ?_
        refine v_iand hX dX12_apart_73 ?_
        refine v_if_eq (tgt := 80) hX dX12_apart_74 (by decide) h (fun h => ?_) (fun h => ?_)
        · refine v_aload_n hX dX12_apart_80 rfl 0 rfl ?_
          refine v_iload hX dX12_apart_81 4 rfl ?_
          refine v_iload hX dX12_apart_83 7 rfl ?_
          refine v_iconst (v := (-1)) hX dX12_apart_85 (by decide) ?_
          refine v_ixor hX dX12_apart_86 ?_
          refine v_iand hX dX12_apart_87 ?_
          refine pfM_0_33 hX kf_12_277 dX12_apart_88 h (fun z1 h => ?_)
          refine v_aload_n hX dX12_apart_91 rfl 0 rfl ?_
          refine v_iload_n hX dX12_apart_92 rfl 1 rfl ?_
          refine v_iload_n hX dX12_apart_93 rfl 2 rfl ?_
          refine v_iload_n hX dX12_apart_94 rfl 3 rfl ?_
          obtain ⟨p2, hp2, h⟩ := bsome h
          refine v_callVI (o := 0) hX (mM_EachAddsALineModel_soonestBy hp2 l ad) kM_X12_soonestBy kV_X12_soonestBy km_12_301 (by decide) (fun _ => rfl) rfl rfl rfl (Nat.le_of_ble_eq_true rfl) (by decide) dX12_apart_95 ?_
          refine v_ldc hX kc_12_50 dX12_apart_98 ?_
          refine v_icmp_ge (tgt := 107) hX dX12_apart_100 (by decide) h (fun h => ?_) (fun h => ?_)
          · refine v_iconst (v := 0) hX dX12_apart_107 (by decide) ?_
            exact v_sub hX [0, 1, 2, 3, 4, 5, 6, 7] (by rfl) (wM_EachAddsALineModel_apart_108 hX hR ih h)
          · refine v_iconst (v := 1) hX dX12_apart_103 (by decide) ?_
            refine v_goto (tgt := 108) hX dX12_apart_104 (by decide) ?_
            exact v_sub hX [0, 1, 2, 3, 4, 5, 6, 7] (by rfl) (wM_EachAddsALineModel_apart_108 hX hR ih h)
        · refine v_goto (tgt := 147) hX dX12_apart_77 (by decide) ?_
          exact v_sub hX [0, 1, 2, 3, 4, 5, 6, 7] (by rfl) (wM_EachAddsALineModel_apart_147 hX hR ih h)
      · exact v_sub hX [0, 6] (by rfl) (wM_EachAddsALineModel_apart_153 hX hR  h)
noncomputable def gM_EachAddsALineModel_apart_0 (N : Nat)  (a1 : Int32) (a2 : Int32) (a3 : Int32) (s : vSt) : Option (Int32 × vSt) :=
  (some (s1 s 0 11 0)).bind fun z1 =>
  (fM_EachAddsALineModel_isTrip N a1 a2 a3 z1).bind fun p2 =>
  if p2.1 = 0 then
    some ((-1), p2.2)
  else
    if a1 = a2 then
      some ((-1), p2.2)
    else
      (some (((1 : Int32) <<< ((p2.2.1 0 0) &&& 31)) - 1 : Int32)).bind fun v3 =>
      (some ((v3 &&& (((1 : Int32) <<< (a1 &&& 31)) ^^^ (-1))) &&& (((1 : Int32) <<< (a2 &&& 31)) ^^^ (-1)) : Int32)).bind fun v4 =>
      (some ((-1) : Int32)).bind fun v5 =>
      gM_EachAddsALineModel_apart_54 N N a1 a2 a3 v3 v4 v5 0 p2.2
set_option maxRecDepth 4000 in
theorem wM_EachAddsALineModel_apart_0 {P : vP} {l : Launch} {ad : Nat → Nat} {N : Nat} {r : Int32} {t1 : vSt} (hX : vOK P l shM ad (vR 4 95) cX12_apart RX12 9) (hR : (∀ pc lv, narrow .int (.int r) = .int r → decode cX12_apart pc = .ok (.ireturn, 1) → P t1 pc lv [.int r]))  {a1 : Int32} {a2 : Int32} {a3 : Int32} {s : vSt} (h : gM_EachAddsALineModel_apart_0 N a1 a2 a3 s = some (r, t1)) : P s 0 [(0, .ref (ad 0)), (1, .int a1), (2, .int a2), (3, .int a3)] [] := by
  unfold gM_EachAddsALineModel_apart_0 at h
  refine v_aload_n hX dX12_apart_0 rfl 0 rfl ?_
  refine v_iconst (v := 0) hX dX12_apart_1 (by decide) ?_
  refine pfM_0_11 hX kf_12_96 dX12_apart_2 h (fun z1 h => ?_)
  refine v_aload_n hX dX12_apart_5 rfl 0 rfl ?_
  refine v_iload_n hX dX12_apart_6 rfl 1 rfl ?_
  refine v_iload_n hX dX12_apart_7 rfl 2 rfl ?_
  refine v_iload_n hX dX12_apart_8 rfl 3 rfl ?_
  obtain ⟨p2, hp2, h⟩ := bsome h
  refine v_callVI (o := 0) hX (mM_EachAddsALineModel_isTrip hp2 l ad) kM_X12_isTrip kV_X12_isTrip km_12_294 (by decide) (fun _ => rfl) rfl rfl rfl (Nat.le_of_ble_eq_true rfl) (by decide) dX12_apart_9 ?_
  refine v_if_eq (tgt := 20) hX dX12_apart_12 (by decide) h (fun h => ?_) (fun h => ?_)
  · refine v_iconst (v := (-1)) hX dX12_apart_20 (by decide) ?_
    exact v_retI hR h dX12_apart_21
  · refine v_iload_n hX dX12_apart_15 rfl 1 rfl ?_
    refine v_iload_n hX dX12_apart_16 rfl 2 rfl ?_
    refine v_icmp_ne (tgt := 22) hX dX12_apart_17 (by decide) h (fun h => ?_) (fun h => ?_)
    · refine v_iconst (v := (-1)) hX dX12_apart_20 (by decide) ?_
      exact v_retI hR h dX12_apart_21
    · refine v_iconst (v := 1) hX dX12_apart_22 (by decide) ?_
      refine v_aload_n hX dX12_apart_23 rfl 0 rfl ?_
      refine gfM_0_0 hX kf_12_102 dX12_apart_24 ?_
      refine v_ishl hX dX12_apart_27 ?_
      refine v_iconst (v := 1) hX dX12_apart_28 (by decide) ?_
      refine v_isub hX dX12_apart_29 ?_
      refine v_nmI hX h (fun v3 h => ?_)
      refine v_istore (lv' := [(4, .int v3), (0, .ref (ad 0)), (1, .int a1), (2, .int a2), (3, .int a3)]) hX dX12_apart_30 (by decide) rfl ?_
      refine v_iload hX dX12_apart_32 0 rfl ?_
      refine v_iconst (v := 1) hX dX12_apart_34 (by decide) ?_
      refine v_iload_n hX dX12_apart_35 rfl 2 rfl ?_
      refine v_ishl hX dX12_apart_36 ?_
      refine v_iconst (v := (-1)) hX dX12_apart_37 (by decide) ?_
      refine v_ixor hX dX12_apart_38 ?_
      refine v_iand hX dX12_apart_39 ?_
      refine v_iconst (v := 1) hX dX12_apart_40 (by decide) ?_
      refine v_iload_n hX dX12_apart_41 rfl 3 rfl ?_
      refine v_ishl hX dX12_apart_42 ?_
      refine v_iconst (v := (-1)) hX dX12_apart_43 (by decide) ?_
      refine v_ixor hX dX12_apart_44 ?_
      refine v_iand hX dX12_apart_45 ?_
      refine v_nmI hX h (fun v4 h => ?_)
      refine v_istore (lv' := [(5, .int v4), (4, .int v3), (0, .ref (ad 0)), (1, .int a1), (2, .int a2), (3, .int a3)]) hX dX12_apart_46 (by decide) rfl ?_
      refine v_iconst (v := (-1)) hX dX12_apart_48 (by decide) ?_
      refine v_nmI hX h (fun v5 h => ?_)
      refine v_istore (lv' := [(6, .int v5), (5, .int v4), (4, .int v3), (0, .ref (ad 0)), (1, .int a1), (2, .int a2), (3, .int a3)]) hX dX12_apart_49 (by decide) rfl ?_
      refine v_iconst (v := 0) hX dX12_apart_51 (by decide) ?_
      refine v_istore (lv' := [(7, .int 0), (6, .int v5), (5, .int v4), (4, .int v3), (0, .ref (ad 0)), (1, .int a1), (2, .int a2), (3, .int a3)]) hX dX12_apart_52 (by decide) rfl ?_
      exact v_sub hX [4, 5, 6, 7, 3, 2, 1, 0] (by rfl) (wM_EachAddsALineModel_apart_54 hX hR  N _ _ _ _ _ _ _ _ h)
noncomputable def fM_EachAddsALineModel_apart (N : Nat) (a1 : Int32) (a2 : Int32) (a3 : Int32) (s : vSt) : Option (Int32 × vSt) := gM_EachAddsALineModel_apart_0 N a1 a2 a3 s
theorem mM_EachAddsALineModel_apart {N : Nat} {a1 : Int32} {a2 : Int32} {a3 : Int32} {s : vSt} {r : Int32} {t1 : vSt} (h : fM_EachAddsALineModel_apart N a1 a2 a3 s = some (r, t1)) (l : Launch) (ad : Nat → Nat) : vMI l shM ad yX12_apart cX12_apart 9 .int 4 95 s [.ref (ad 0), .int a1, .int a2, .int a3] r t1 :=
  vMI_of (by decide +kernel) (Nat.le_of_ble_eq_true rfl) (fun P hX hR => wM_EachAddsALineModel_apart_0 hX hR h)
-- M_EachAddsALineModel_far
noncomputable def gM_EachAddsALineModel_far_87 (N : Nat) (r32 : Int32 → Int32 → Int32 → Int32 → vSt → Option (Int32 × vSt)) (a1 : Int32) (a2 : Int32) (a4 : Int32) (k0 : Int32) (k1 : Int32) (s : vSt) : Option (Int32 × vSt) :=
  (some (k0 + k1 : Int32)).bind fun v1 =>
  (some (a4 + 1 : Int32)).bind fun v2 =>
  r32 a1 a2 v1 v2 s
set_option maxRecDepth 4000 in
theorem wM_EachAddsALineModel_far_87 {P : vP} {l : Launch} {ad : Nat → Nat} {N : Nat} {r32 : Int32 → Int32 → Int32 → Int32 → vSt → Option (Int32 × vSt)} {r : Int32} {t1 : vSt} (hX : vOK P l shM ad (vR 4 95) cX12_far RX12 6) (hR : (∀ pc lv, narrow .int (.int r) = .int r → decode cX12_far pc = .ok (.ireturn, 1) → P t1 pc lv [.int r])) (H32 : ∀ (a1 : Int32) (a2 : Int32) (a3 : Int32) (a4 : Int32) (s : vSt), r32 a1 a2 a3 a4 s = some (r, t1) → P s 32 [(0, .ref (ad 0)), (1, .int a1), (2, .int a2), (3, .int a3), (4, .int a4)] []) {a1 : Int32} {a2 : Int32} {a4 : Int32} {k0 : Int32} {k1 : Int32} {s : vSt} (h : gM_EachAddsALineModel_far_87 N r32 a1 a2 a4 k0 k1 s = some (r, t1)) : P s 87 [(0, .ref (ad 0)), (1, .int a1), (2, .int a2), (4, .int a4)] [.int k1, .int k0] := by
  unfold gM_EachAddsALineModel_far_87 at h
  refine v_iadd hX dX12_far_87 ?_
  refine v_nmI hX h (fun v1 h => ?_)
  refine v_istore_n (lv' := [(3, .int v1), (0, .ref (ad 0)), (1, .int a1), (2, .int a2), (4, .int a4)]) hX dX12_far_88 rfl (by decide) rfl ?_
  refine v_iincN hX dX12_far_89 (j := 4) rfl (c := 1) (by decide) (by decide) h (fun v2 h => ?_)
  refine v_show (lv' := [(4, .int v2), (3, .int v1), (0, .ref (ad 0)), (1, .int a1), (2, .int a2)]) hX rfl ?_
  refine v_goto (tgt := 32) hX dX12_far_92 (by decide) ?_
  exact v_sub hX [2, 3, 4, 1, 0] (by rfl) (H32 _ _ _ _ _ h)
noncomputable def gM_EachAddsALineModel_far_86 (N : Nat) (r32 : Int32 → Int32 → Int32 → Int32 → vSt → Option (Int32 × vSt)) (a1 : Int32) (a2 : Int32) (a4 : Int32) (k0 : Int32) (s : vSt) : Option (Int32 × vSt) :=
  gM_EachAddsALineModel_far_87 N r32 a1 a2 a4 k0 0 s
set_option maxRecDepth 4000 in
theorem wM_EachAddsALineModel_far_86 {P : vP} {l : Launch} {ad : Nat → Nat} {N : Nat} {r32 : Int32 → Int32 → Int32 → Int32 → vSt → Option (Int32 × vSt)} {r : Int32} {t1 : vSt} (hX : vOK P l shM ad (vR 4 95) cX12_far RX12 6) (hR : (∀ pc lv, narrow .int (.int r) = .int r → decode cX12_far pc = .ok (.ireturn, 1) → P t1 pc lv [.int r])) (H32 : ∀ (a1 : Int32) (a2 : Int32) (a3 : Int32) (a4 : Int32) (s : vSt), r32 a1 a2 a3 a4 s = some (r, t1) → P s 32 [(0, .ref (ad 0)), (1, .int a1), (2, .int a2), (3, .int a3), (4, .int a4)] []) {a1 : Int32} {a2 : Int32} {a4 : Int32} {k0 : Int32} {s : vSt} (h : gM_EachAddsALineModel_far_86 N r32 a1 a2 a4 k0 s = some (r, t1)) : P s 86 [(0, .ref (ad 0)), (1, .int a1), (2, .int a2), (4, .int a4)] [.int k0] := by
  unfold gM_EachAddsALineModel_far_86 at h
  refine v_iconst (v := 0) hX dX12_far_86 (by decide) ?_
  exact v_sub hX [0, 1, 2, 3] (by rfl) (wM_EachAddsALineModel_far_87 hX hR H32 h)
noncomputable def gM_EachAddsALineModel_far_65 (N : Nat) (r32 : Int32 → Int32 → Int32 → Int32 → vSt → Option (Int32 × vSt)) (a1 : Int32) (a2 : Int32) (a3 : Int32) (a4 : Int32) (a5 : Int32) (k1 : Int32) (s : vSt) : Option (Int32 × vSt) :=
  (fM_EachAddsALineModel_tell N k1 s).bind fun z1 =>
  if a4 = a1 then
    gM_EachAddsALineModel_far_86 N r32 a1 a2 a4 a3 z1
  else
    if 1000000 ≤ a5 then
      gM_EachAddsALineModel_far_86 N r32 a1 a2 a4 a3 z1
    else
      gM_EachAddsALineModel_far_87 N r32 a1 a2 a4 a3 1 z1
set_option maxRecDepth 4000 in
theorem wM_EachAddsALineModel_far_65 {P : vP} {l : Launch} {ad : Nat → Nat} {N : Nat} {r32 : Int32 → Int32 → Int32 → Int32 → vSt → Option (Int32 × vSt)} {r : Int32} {t1 : vSt} (hX : vOK P l shM ad (vR 4 95) cX12_far RX12 6) (hR : (∀ pc lv, narrow .int (.int r) = .int r → decode cX12_far pc = .ok (.ireturn, 1) → P t1 pc lv [.int r])) (H32 : ∀ (a1 : Int32) (a2 : Int32) (a3 : Int32) (a4 : Int32) (s : vSt), r32 a1 a2 a3 a4 s = some (r, t1) → P s 32 [(0, .ref (ad 0)), (1, .int a1), (2, .int a2), (3, .int a3), (4, .int a4)] []) {a1 : Int32} {a2 : Int32} {a3 : Int32} {a4 : Int32} {a5 : Int32} {k1 : Int32} {s : vSt} (h : gM_EachAddsALineModel_far_65 N r32 a1 a2 a3 a4 a5 k1 s = some (r, t1)) : P s 65 [(0, .ref (ad 0)), (1, .int a1), (2, .int a2), (3, .int a3), (4, .int a4), (5, .int a5)] [.int k1, .ref (ad 0)] := by
  unfold gM_EachAddsALineModel_far_65 at h
  obtain ⟨z1, hz1, h⟩ := bsome h
  refine v_callVV (o := 0) hX (mM_EachAddsALineModel_tell hz1 l ad) kM_X12_tell kV_X12_tell km_12_250 (by decide) (fun _ => rfl) rfl rfl rfl (Nat.le_of_ble_eq_true rfl) (by decide) dX12_far_65 ?_
  refine v_iload_n hX dX12_far_68 rfl 3 rfl ?_
  refine v_iload hX dX12_far_69 4 rfl ?_
  refine v_iload_n hX dX12_far_71 rfl 1 rfl ?_
  refine v_icmp_eq (tgt := 86) hX dX12_far_72 (by decide) h (fun h => ?_) (fun h => ?_)
  · exact v_sub hX [0, 1, 2, 4] (by rfl) (wM_EachAddsALineModel_far_86 hX hR H32 h)
  · refine v_iload hX dX12_far_75 5 rfl ?_
    refine v_ldc hX kc_12_50 dX12_far_77 ?_
    refine v_icmp_ge (tgt := 86) hX dX12_far_79 (by decide) h (fun h => ?_) (fun h => ?_)
    · exact v_sub hX [0, 1, 2, 4] (by rfl) (wM_EachAddsALineModel_far_86 hX hR H32 h)
    · refine v_iconst (v := 1) hX dX12_far_82 (by decide) ?_
      refine v_goto (tgt := 87) hX dX12_far_83 (by decide) ?_
      exact v_sub hX [0, 1, 2, 4] (by rfl) (wM_EachAddsALineModel_far_87 hX hR H32 h)
noncomputable def gM_EachAddsALineModel_far_32 (N : Nat)  : Nat → Int32 → Int32 → Int32 → Int32 → vSt → Option (Int32 × vSt)
  | 0, _, _, _, _, _ => none
  | n + 1, a1, a2, a3, a4, s =>
    if (s.1 0 0) ≤ a4 then
      some (a3, s)
    else
      (fM_EachAddsALineModel_soonestBy N a1 a4 a2 s).bind fun p1 =>
      if 1000000 ≤ p1.1 then
        gM_EachAddsALineModel_far_65 N (gM_EachAddsALineModel_far_32 N n) a1 a2 a3 a4 p1.1 (-1) p1.2
      else
        gM_EachAddsALineModel_far_65 N (gM_EachAddsALineModel_far_32 N n) a1 a2 a3 a4 p1.1 p1.1 p1.2
set_option maxRecDepth 4000 in
theorem wM_EachAddsALineModel_far_32 {P : vP} {l : Launch} {ad : Nat → Nat} {N : Nat} {r : Int32} {t1 : vSt} (hX : vOK P l shM ad (vR 4 95) cX12_far RX12 6) (hR : (∀ pc lv, narrow .int (.int r) = .int r → decode cX12_far pc = .ok (.ireturn, 1) → P t1 pc lv [.int r]))  : ∀ (n : Nat) (a1 : Int32) (a2 : Int32) (a3 : Int32) (a4 : Int32) (s : vSt), gM_EachAddsALineModel_far_32 N n a1 a2 a3 a4 s = some (r, t1) → P s 32 [(0, .ref (ad 0)), (1, .int a1), (2, .int a2), (3, .int a3), (4, .int a4)] [] := by
  intro n
  induction n with
  | zero => intro a1 a2 a3 a4 s h; cases h
  | succ n ih =>
    intro a1 a2 a3 a4 s h
    unfold gM_EachAddsALineModel_far_32 at h
    refine v_iload hX dX12_far_32 4 rfl ?_
    refine v_aload_n hX dX12_far_34 rfl 0 rfl ?_
    refine gfM_0_0 hX kf_12_102 dX12_far_35 ?_
    refine v_icmp_ge (tgt := 95) hX dX12_far_38 (by decide) h (fun h => ?_) (fun h => ?_)
    · refine v_iload_n hX dX12_far_95 rfl 3 rfl ?_
      exact v_retI hR h dX12_far_96
    · refine v_aload_n hX dX12_far_41 rfl 0 rfl ?_
      refine v_iload_n hX dX12_far_42 rfl 1 rfl ?_
      refine v_iload hX dX12_far_43 4 rfl ?_
      refine v_iload_n hX dX12_far_45 rfl 2 rfl ?_
      obtain ⟨p1, hp1, h⟩ := bsome h
      refine v_callVI (o := 0) hX (mM_EachAddsALineModel_soonestBy hp1 l ad) kM_X12_soonestBy kV_X12_soonestBy km_12_301 (by decide) (fun _ => rfl) rfl rfl rfl (Nat.le_of_ble_eq_true rfl) (by decide) dX12_far_46 ?_
      refine v_istore (lv' := [(5, .int p1.1), (0, .ref (ad 0)), (1, .int a1), (2, .int a2), (3, .int a3), (4, .int a4)]) hX dX12_far_49 (by decide) rfl ?_
      refine v_aload_n hX dX12_far_51 rfl 1 rfl ?_
      refine v_iload hX dX12_far_52 0 rfl ?_
      refine v_ldc hX kc_12_50 dX12_far_54 ?_
      refine v_icmp_ge (tgt := 64) hX dX12_far_56 (by decide) h (fun h => ?_) (fun h => ?_)
      · refine v_iconst (v := (-1)) hX dX12_far_64 (by decide) ?_
        exact v_sub hX [1, 2, 3, 4, 5, 0] (by rfl) (wM_EachAddsALineModel_far_65 hX hR ih h)
      · refine v_iload hX dX12_far_59 0 rfl ?_
        refine v_goto (tgt := 65) hX dX12_far_61 (by decide) ?_
        exact v_sub hX [1, 2, 3, 4, 5, 0] (by rfl) (wM_EachAddsALineModel_far_65 hX hR ih h)
noncomputable def gM_EachAddsALineModel_far_0 (N : Nat)  (a1 : Int32) (a2 : Int32) (s : vSt) : Option (Int32 × vSt) :=
  (some (s1 s 0 11 0)).bind fun z1 =>
  (fM_EachAddsALineModel_isTrip N a1 a1 a2 z1).bind fun p2 =>
  if p2.1 = 0 then
    some ((-1), p2.2)
  else
    (some (s1 p2.2 0 33 0)).bind fun z3 =>
    (some (s1 z3 0 10 0)).bind fun z4 =>
    gM_EachAddsALineModel_far_32 N N a1 a2 0 0 z4
set_option maxRecDepth 4000 in
theorem wM_EachAddsALineModel_far_0 {P : vP} {l : Launch} {ad : Nat → Nat} {N : Nat} {r : Int32} {t1 : vSt} (hX : vOK P l shM ad (vR 4 95) cX12_far RX12 6) (hR : (∀ pc lv, narrow .int (.int r) = .int r → decode cX12_far pc = .ok (.ireturn, 1) → P t1 pc lv [.int r]))  {a1 : Int32} {a2 : Int32} {s : vSt} (h : gM_EachAddsALineModel_far_0 N a1 a2 s = some (r, t1)) : P s 0 [(0, .ref (ad 0)), (1, .int a1), (2, .int a2)] [] := by
  unfold gM_EachAddsALineModel_far_0 at h
  refine v_aload_n hX dX12_far_0 rfl 0 rfl ?_
  refine v_iconst (v := 0) hX dX12_far_1 (by decide) ?_
  refine pfM_0_11 hX kf_12_96 dX12_far_2 h (fun z1 h => ?_)
  refine v_aload_n hX dX12_far_5 rfl 0 rfl ?_
  refine v_iload_n hX dX12_far_6 rfl 1 rfl ?_
  refine v_iload_n hX dX12_far_7 rfl 1 rfl ?_
  refine v_iload_n hX dX12_far_8 rfl 2 rfl ?_
  obtain ⟨p2, hp2, h⟩ := bsome h
  refine v_callVI (o := 0) hX (mM_EachAddsALineModel_isTrip hp2 l ad) kM_X12_isTrip kV_X12_isTrip km_12_294 (by decide) (fun _ => rfl) rfl rfl rfl (Nat.le_of_ble_eq_true rfl) (by decide) dX12_far_9 ?_
  refine v_if_ne (tgt := 17) hX dX12_far_12 (by decide) h (fun h => ?_) (fun h => ?_)
  · refine v_iconst (v := (-1)) hX dX12_far_15 (by decide) ?_
    exact v_retI hR h dX12_far_16
  · refine v_aload_n hX dX12_far_17 rfl 0 rfl ?_
    refine v_iconst (v := 0) hX dX12_far_18 (by decide) ?_
    refine pfM_0_33 hX kf_12_277 dX12_far_19 h (fun z3 h => ?_)
    refine v_aload_n hX dX12_far_22 rfl 0 rfl ?_
    refine v_iconst (v := 0) hX dX12_far_23 (by decide) ?_
    refine pfM_0_10 hX kf_12_99 dX12_far_24 h (fun z4 h => ?_)
    refine v_iconst (v := 0) hX dX12_far_27 (by decide) ?_
    refine v_istore_n (lv' := [(3, .int 0), (0, .ref (ad 0)), (1, .int a1), (2, .int a2)]) hX dX12_far_28 rfl (by decide) rfl ?_
    refine v_iconst (v := 0) hX dX12_far_29 (by decide) ?_
    refine v_istore (lv' := [(4, .int 0), (3, .int 0), (0, .ref (ad 0)), (1, .int a1), (2, .int a2)]) hX dX12_far_30 (by decide) rfl ?_
    exact v_sub hX [2, 3, 4, 1, 0] (by rfl) (wM_EachAddsALineModel_far_32 hX hR  N _ _ _ _ _ h)
noncomputable def fM_EachAddsALineModel_far (N : Nat) (a1 : Int32) (a2 : Int32) (s : vSt) : Option (Int32 × vSt) := gM_EachAddsALineModel_far_0 N a1 a2 s
theorem mM_EachAddsALineModel_far {N : Nat} {a1 : Int32} {a2 : Int32} {s : vSt} {r : Int32} {t1 : vSt} (h : fM_EachAddsALineModel_far N a1 a2 s = some (r, t1)) (l : Launch) (ad : Nat → Nat) : vMI l shM ad yX12_far cX12_far 6 .int 4 95 s [.ref (ad 0), .int a1, .int a2] r t1 :=
  vMI_of (by decide +kernel) (Nat.le_of_ble_eq_true rfl) (fun P hX hR => wM_EachAddsALineModel_far_0 hX hR h)
-- M_EachAddsALineModel_worst
noncomputable def gM_EachAddsALineModel_worst_88 (N : Nat) (r46 : Int32 → Int32 → Int32 → Int32 → Int32 → Int32 → vSt → Option (Int32 × vSt)) (a1 : Int32) (a2 : Int32) (a3 : Int32) (a4 : Int32) (a5 : Int32) (a6 : Int32) (s : vSt) : Option (Int32 × vSt) :=
  (some (a6 + 1 : Int32)).bind fun v1 =>
  r46 a1 a2 a3 a4 a5 v1 s
set_option maxRecDepth 4000 in
theorem wM_EachAddsALineModel_worst_88 {P : vP} {l : Launch} {ad : Nat → Nat} {N : Nat} {r46 : Int32 → Int32 → Int32 → Int32 → Int32 → Int32 → vSt → Option (Int32 × vSt)} {r : Int32} {t1 : vSt} (hX : vOK P l shM ad (vR 4 95) cX12_worst RX12 8) (hR : (∀ pc lv, narrow .int (.int r) = .int r → decode cX12_worst pc = .ok (.ireturn, 1) → P t1 pc lv [.int r])) (H46 : ∀ (a1 : Int32) (a2 : Int32) (a3 : Int32) (a4 : Int32) (a5 : Int32) (a6 : Int32) (s : vSt), r46 a1 a2 a3 a4 a5 a6 s = some (r, t1) → P s 46 [(0, .ref (ad 0)), (1, .int a1), (2, .int a2), (3, .int a3), (4, .int a4), (5, .int a5), (6, .int a6)] []) {a1 : Int32} {a2 : Int32} {a3 : Int32} {a4 : Int32} {a5 : Int32} {a6 : Int32} {s : vSt} (h : gM_EachAddsALineModel_worst_88 N r46 a1 a2 a3 a4 a5 a6 s = some (r, t1)) : P s 88 [(0, .ref (ad 0)), (1, .int a1), (2, .int a2), (3, .int a3), (4, .int a4), (5, .int a5), (6, .int a6)] [] := by
  unfold gM_EachAddsALineModel_worst_88 at h
  refine v_iincN hX dX12_worst_88 (j := 6) rfl (c := 1) (by decide) (by decide) h (fun v1 h => ?_)
  refine v_show (lv' := [(6, .int v1), (0, .ref (ad 0)), (1, .int a1), (2, .int a2), (3, .int a3), (4, .int a4), (5, .int a5)]) hX rfl ?_
  refine v_goto (tgt := 46) hX dX12_worst_91 (by decide) ?_
  exact v_sub hX [1, 2, 3, 4, 5, 6, 0] (by rfl) (H46 _ _ _ _ _ _ _ h)
noncomputable def gM_EachAddsALineModel_worst_46 (N : Nat)  : Nat → Int32 → Int32 → Int32 → Int32 → Int32 → Int32 → vSt → Option (Int32 × vSt)
  | 0, _, _, _, _, _, _, _ => none
  | n + 1, a1, a2, a3, a4, a5, a6, s =>
    if (s.1 0 2) ≤ a6 then
      (some (s1 s 0 35 (-1))).bind fun z1 =>
      (some (s1 z1 0 10 0)).bind fun z2 =>
      if 1000000 ≤ a5 then
        (fM_EachAddsALineModel_tell N (-1) z2).bind fun z3 =>
        some (a4, z3)
      else
        (fM_EachAddsALineModel_tell N a5 z2).bind fun z4 =>
        some (a4, z4)
    else
      (some (s1 s 0 35 a6)).bind fun z5 =>
      (fM_EachAddsALineModel_soonestBy N a1 a2 a3 z5).bind fun p6 =>
      if a5 < p6.1 then
        gM_EachAddsALineModel_worst_88 N (gM_EachAddsALineModel_worst_46 N n) a1 a2 a3 a6 p6.1 a6 p6.2
      else
        gM_EachAddsALineModel_worst_88 N (gM_EachAddsALineModel_worst_46 N n) a1 a2 a3 a4 a5 a6 p6.2
set_option maxRecDepth 4000 in
theorem wM_EachAddsALineModel_worst_46 {P : vP} {l : Launch} {ad : Nat → Nat} {N : Nat} {r : Int32} {t1 : vSt} (hX : vOK P l shM ad (vR 4 95) cX12_worst RX12 8) (hR : (∀ pc lv, narrow .int (.int r) = .int r → decode cX12_worst pc = .ok (.ireturn, 1) → P t1 pc lv [.int r]))  : ∀ (n : Nat) (a1 : Int32) (a2 : Int32) (a3 : Int32) (a4 : Int32) (a5 : Int32) (a6 : Int32) (s : vSt), gM_EachAddsALineModel_worst_46 N n a1 a2 a3 a4 a5 a6 s = some (r, t1) → P s 46 [(0, .ref (ad 0)), (1, .int a1), (2, .int a2), (3, .int a3), (4, .int a4), (5, .int a5), (6, .int a6)] [] := by
  intro n
  induction n with
  | zero => intro a1 a2 a3 a4 a5 a6 s h; cases h
  | succ n ih =>
    intro a1 a2 a3 a4 a5 a6 s h
    unfold gM_EachAddsALineModel_worst_46 at h
    refine v_iload hX dX12_worst_46 6 rfl ?_
    refine v_aload_n hX dX12_worst_48 rfl 0 rfl ?_
    refine gfM_0_2 hX kf_12_109 dX12_worst_49 ?_
    refine v_icmp_ge (tgt := 94) hX dX12_worst_52 (by decide) h (fun h => ?_) (fun h => ?_)
    · refine v_aload_n hX dX12_worst_94 rfl 0 rfl ?_
      refine v_iconst (v := (-1)) hX dX12_worst_95 (by decide) ?_
      refine pfM_0_35 hX kf_12_55 dX12_worst_96 h (fun z1 h => ?_)
      refine v_aload_n hX dX12_worst_99 rfl 0 rfl ?_
      refine v_iconst (v := 0) hX dX12_worst_100 (by decide) ?_
      refine pfM_0_10 hX kf_12_99 dX12_worst_101 h (fun z2 h => ?_)
      refine v_aload_n hX dX12_worst_104 rfl 0 rfl ?_
      refine v_iload hX dX12_worst_105 5 rfl ?_
      refine v_ldc hX kc_12_50 dX12_worst_107 ?_
      refine v_icmp_ge (tgt := 117) hX dX12_worst_109 (by decide) h (fun h => ?_) (fun h => ?_)
      · refine v_iconst (v := (-1)) hX dX12_worst_117 (by decide) ?_
        obtain ⟨z3, hz3, h⟩ := bsome h
        refine v_callVV (o := 0) hX (mM_EachAddsALineModel_tell hz3 l ad) kM_X12_tell kV_X12_tell km_12_250 (by decide) (fun _ => rfl) rfl rfl rfl (Nat.le_of_ble_eq_true rfl) (by decide) dX12_worst_118 ?_
        refine v_iload hX dX12_worst_121 4 rfl ?_
        exact v_retI hR h dX12_worst_123
      · refine v_iload hX dX12_worst_112 5 rfl ?_
        refine v_goto (tgt := 118) hX dX12_worst_114 (by decide) ?_
        obtain ⟨z4, hz4, h⟩ := bsome h
        refine v_callVV (o := 0) hX (mM_EachAddsALineModel_tell hz4 l ad) kM_X12_tell kV_X12_tell km_12_250 (by decide) (fun _ => rfl) rfl rfl rfl (Nat.le_of_ble_eq_true rfl) (by decide) dX12_worst_118 ?_
        refine v_iload hX dX12_worst_121 4 rfl ?_
        exact v_retI hR h dX12_worst_123
    · refine v_aload_n hX dX12_worst_55 rfl 0 rfl ?_
      refine v_iload hX dX12_worst_56 6 rfl ?_
      refine pfM_0_35 hX kf_12_55 dX12_worst_58 h (fun z5 h => ?_)
      refine v_aload_n hX dX12_worst_61 rfl 0 rfl ?_
      refine v_iload_n hX dX12_worst_62 rfl 1 rfl ?_
      refine v_iload_n hX dX12_worst_63 rfl 2 rfl ?_
      refine v_iload_n hX dX12_worst_64 rfl 3 rfl ?_
      obtain ⟨p6, hp6, h⟩ := bsome h
      refine v_callVI (o := 0) hX (mM_EachAddsALineModel_soonestBy hp6 l ad) kM_X12_soonestBy kV_X12_soonestBy km_12_301 (by decide) (fun _ => rfl) rfl rfl rfl (Nat.le_of_ble_eq_true rfl) (by decide) dX12_worst_65 ?_
      refine v_istore (lv' := [(7, .int p6.1), (0, .ref (ad 0)), (1, .int a1), (2, .int a2), (3, .int a3), (4, .int a4), (5, .int a5), (6, .int a6)]) hX dX12_worst_68 (by decide) rfl ?_
      refine v_iload hX dX12_worst_70 0 rfl ?_
      refine v_iload hX dX12_worst_72 6 rfl ?_
      refine v_icmp_gt (tgt := 80) hX dX12_worst_74 (by decide) h (fun h => ?_) (fun h => ?_)
      · refine v_iload hX dX12_worst_80 7 rfl ?_
        refine v_istore (lv' := [(4, .int a6), (7, .int p6.1), (0, .ref (ad 0)), (1, .int a1), (2, .int a2), (3, .int a3), (5, .int a5), (6, .int a6)]) hX dX12_worst_82 (by decide) rfl ?_
        refine v_iload hX dX12_worst_84 1 rfl ?_
        refine v_istore (lv' := [(5, .int p6.1), (4, .int a6), (7, .int p6.1), (0, .ref (ad 0)), (1, .int a1), (2, .int a2), (3, .int a3), (6, .int a6)]) hX dX12_worst_86 (by decide) rfl ?_
        exact v_sub hX [3, 4, 5, 6, 1, 0, 7] (by rfl) (wM_EachAddsALineModel_worst_88 hX hR ih h)
      · refine v_goto (tgt := 88) hX dX12_worst_77 (by decide) ?_
        exact v_sub hX [1, 2, 3, 4, 5, 6, 7] (by rfl) (wM_EachAddsALineModel_worst_88 hX hR ih h)
noncomputable def gM_EachAddsALineModel_worst_0 (N : Nat)  (a1 : Int32) (a2 : Int32) (a3 : Int32) (s : vSt) : Option (Int32 × vSt) :=
  (some (s1 s 0 11 0)).bind fun z1 =>
  (fM_EachAddsALineModel_isTrip N a1 a2 a3 z1).bind fun p2 =>
  if p2.1 = 0 then
    some ((-1), p2.2)
  else
    (some (s1 p2.2 0 33 0)).bind fun z3 =>
    (fM_EachAddsALineModel_soonestBy N a1 a2 a3 z3).bind fun p4 =>
    if p4.1 < 1000000 then
      (some ((-1) : Int32)).bind fun v5 =>
      (some ((-1) : Int32)).bind fun v6 =>
      gM_EachAddsALineModel_worst_46 N N a1 a2 a3 v5 v6 0 p4.2
    else
      some ((-2), p4.2)
set_option maxRecDepth 4000 in
theorem wM_EachAddsALineModel_worst_0 {P : vP} {l : Launch} {ad : Nat → Nat} {N : Nat} {r : Int32} {t1 : vSt} (hX : vOK P l shM ad (vR 4 95) cX12_worst RX12 8) (hR : (∀ pc lv, narrow .int (.int r) = .int r → decode cX12_worst pc = .ok (.ireturn, 1) → P t1 pc lv [.int r]))  {a1 : Int32} {a2 : Int32} {a3 : Int32} {s : vSt} (h : gM_EachAddsALineModel_worst_0 N a1 a2 a3 s = some (r, t1)) : P s 0 [(0, .ref (ad 0)), (1, .int a1), (2, .int a2), (3, .int a3)] [] := by
  unfold gM_EachAddsALineModel_worst_0 at h
  refine v_aload_n hX dX12_worst_0 rfl 0 rfl ?_
  refine v_iconst (v := 0) hX dX12_worst_1 (by decide) ?_
  refine pfM_0_11 hX kf_12_96 dX12_worst_2 h (fun z1 h => ?_)
  refine v_aload_n hX dX12_worst_5 rfl 0 rfl ?_
  refine v_iload_n hX dX12_worst_6 rfl 1 rfl ?_
  refine v_iload_n hX dX12_worst_7 rfl 2 rfl ?_
  refine v_iload_n hX dX12_worst_8 rfl 3 rfl ?_
  obtain ⟨p2, hp2, h⟩ := bsome h
  refine v_callVI (o := 0) hX (mM_EachAddsALineModel_isTrip hp2 l ad) kM_X12_isTrip kV_X12_isTrip km_12_294 (by decide) (fun _ => rfl) rfl rfl rfl (Nat.le_of_ble_eq_true rfl) (by decide) dX12_worst_9 ?_
  refine v_if_ne (tgt := 17) hX dX12_worst_12 (by decide) h (fun h => ?_) (fun h => ?_)
  · refine v_iconst (v := (-1)) hX dX12_worst_15 (by decide) ?_
    exact v_retI hR h dX12_worst_16
  · refine v_aload_n hX dX12_worst_17 rfl 0 rfl ?_
    refine v_iconst (v := 0) hX dX12_worst_18 (by decide) ?_
    refine pfM_0_33 hX kf_12_277 dX12_worst_19 h (fun z3 h => ?_)
    refine v_aload_n hX dX12_worst_22 rfl 0 rfl ?_
    refine v_iload_n hX dX12_worst_23 rfl 1 rfl ?_
    refine v_iload_n hX dX12_worst_24 rfl 2 rfl ?_
    refine v_iload_n hX dX12_worst_25 rfl 3 rfl ?_
    obtain ⟨p4, hp4, h⟩ := bsome h
    refine v_callVI (o := 0) hX (mM_EachAddsALineModel_soonestBy hp4 l ad) kM_X12_soonestBy kV_X12_soonestBy km_12_301 (by decide) (fun _ => rfl) rfl rfl rfl (Nat.le_of_ble_eq_true rfl) (by decide) dX12_worst_26 ?_
    refine v_ldc hX kc_12_50 dX12_worst_29 ?_
    refine v_icmp_lt (tgt := 37) hX dX12_worst_31 (by decide) h (fun h => ?_) (fun h => ?_)
    · refine v_iconst (v := (-1)) hX dX12_worst_37 (by decide) ?_
      refine v_nmI hX h (fun v5 h => ?_)
      refine v_istore (lv' := [(4, .int v5), (0, .ref (ad 0)), (1, .int a1), (2, .int a2), (3, .int a3)]) hX dX12_worst_38 (by decide) rfl ?_
      refine v_iconst (v := (-1)) hX dX12_worst_40 (by decide) ?_
      refine v_nmI hX h (fun v6 h => ?_)
      refine v_istore (lv' := [(5, .int v6), (4, .int v5), (0, .ref (ad 0)), (1, .int a1), (2, .int a2), (3, .int a3)]) hX dX12_worst_41 (by decide) rfl ?_
      refine v_iconst (v := 0) hX dX12_worst_43 (by decide) ?_
      refine v_istore (lv' := [(6, .int 0), (5, .int v6), (4, .int v5), (0, .ref (ad 0)), (1, .int a1), (2, .int a2), (3, .int a3)]) hX dX12_worst_44 (by decide) rfl ?_
      exact v_sub hX [3, 4, 5, 6, 2, 1, 0] (by rfl) (wM_EachAddsALineModel_worst_46 hX hR  N _ _ _ _ _ _ _ h)
    · refine v_bipush (v := (-2)) hX dX12_worst_34 (by decide) ?_
      exact v_retI hR h dX12_worst_36
noncomputable def fM_EachAddsALineModel_worst (N : Nat) (a1 : Int32) (a2 : Int32) (a3 : Int32) (s : vSt) : Option (Int32 × vSt) := gM_EachAddsALineModel_worst_0 N a1 a2 a3 s
theorem mM_EachAddsALineModel_worst {N : Nat} {a1 : Int32} {a2 : Int32} {a3 : Int32} {s : vSt} {r : Int32} {t1 : vSt} (h : fM_EachAddsALineModel_worst N a1 a2 a3 s = some (r, t1)) (l : Launch) (ad : Nat → Nat) : vMI l shM ad yX12_worst cX12_worst 8 .int 4 95 s [.ref (ad 0), .int a1, .int a2, .int a3] r t1 :=
  vMI_of (by decide +kernel) (Nat.le_of_ble_eq_true rfl) (fun P hX hR => wM_EachAddsALineModel_worst_0 hX hR h)
-- M_EachAddsALineModel_way
noncomputable def gM_EachAddsALineModel_way_248 (N : Nat) (r151 : Int32 → Int32 → Int32 → Int32 → Int32 → Int32 → Int32 → vSt → Option (Int32 × vSt)) (a3 : Int32) (a4 : Int32) (a5 : Int32) (a6 : Int32) (a7 : Int32) (a8 : Int32) (a9 : Int32) (s : vSt) : Option (Int32 × vSt) :=
  (some (a9 + 1 : Int32)).bind fun v1 =>
  r151 a3 a4 a5 a6 a7 a8 v1 s
set_option maxRecDepth 4000 in
theorem wM_EachAddsALineModel_way_248 {P : vP} {l : Launch} {ad : Nat → Nat} {N : Nat} {r151 : Int32 → Int32 → Int32 → Int32 → Int32 → Int32 → Int32 → vSt → Option (Int32 × vSt)} {r : Int32} {t1 : vSt} (hX : vOK P l shM ad (vR 3 62) cX12_way RX12 10) (hR : (∀ pc lv, narrow .int (.int r) = .int r → decode cX12_way pc = .ok (.ireturn, 1) → P t1 pc lv [.int r])) (H151 : ∀ (a3 : Int32) (a4 : Int32) (a5 : Int32) (a6 : Int32) (a7 : Int32) (a8 : Int32) (a9 : Int32) (s : vSt), r151 a3 a4 a5 a6 a7 a8 a9 s = some (r, t1) → P s 151 [(0, .ref (ad 0)), (3, .int a3), (4, .int a4), (5, .int a5), (6, .int a6), (7, .int a7), (8, .int a8), (9, .int a9)] []) {a3 : Int32} {a4 : Int32} {a5 : Int32} {a6 : Int32} {a7 : Int32} {a8 : Int32} {a9 : Int32} {s : vSt} (h : gM_EachAddsALineModel_way_248 N r151 a3 a4 a5 a6 a7 a8 a9 s = some (r, t1)) : P s 248 [(0, .ref (ad 0)), (3, .int a3), (4, .int a4), (5, .int a5), (6, .int a6), (7, .int a7), (8, .int a8), (9, .int a9)] [] := by
  unfold gM_EachAddsALineModel_way_248 at h
  refine v_iincN hX dX12_way_248 (j := 7) rfl (c := 1) (by decide) (by decide) h (fun v1 h => ?_)
  refine v_show (lv' := [(9, .int v1), (0, .ref (ad 0)), (3, .int a3), (4, .int a4), (5, .int a5), (6, .int a6), (7, .int a7), (8, .int a8)]) hX rfl ?_
  refine v_goto (tgt := 151) hX dX12_way_251 (by decide) ?_
  exact v_sub hX [1, 2, 3, 4, 5, 6, 7, 0] (by rfl) (H151 _ _ _ _ _ _ _ _ h)
noncomputable def gM_EachAddsALineModel_way_244 (N : Nat) (r151 : Int32 → Int32 → Int32 → Int32 → Int32 → Int32 → Int32 → vSt → Option (Int32 × vSt)) (a3 : Int32) (a4 : Int32) (a5 : Int32) (a6 : Int32) (a7 : Int32) (a9 : Int32) (s : vSt) : Option (Int32 × vSt) :=
  gM_EachAddsALineModel_way_248 N r151 a3 a4 a5 a6 a7 a9 a9 s
set_option maxRecDepth 4000 in
theorem wM_EachAddsALineModel_way_244 {P : vP} {l : Launch} {ad : Nat → Nat} {N : Nat} {r151 : Int32 → Int32 → Int32 → Int32 → Int32 → Int32 → Int32 → vSt → Option (Int32 × vSt)} {r : Int32} {t1 : vSt} (hX : vOK P l shM ad (vR 3 62) cX12_way RX12 10) (hR : (∀ pc lv, narrow .int (.int r) = .int r → decode cX12_way pc = .ok (.ireturn, 1) → P t1 pc lv [.int r])) (H151 : ∀ (a3 : Int32) (a4 : Int32) (a5 : Int32) (a6 : Int32) (a7 : Int32) (a8 : Int32) (a9 : Int32) (s : vSt), r151 a3 a4 a5 a6 a7 a8 a9 s = some (r, t1) → P s 151 [(0, .ref (ad 0)), (3, .int a3), (4, .int a4), (5, .int a5), (6, .int a6), (7, .int a7), (8, .int a8), (9, .int a9)] []) {a3 : Int32} {a4 : Int32} {a5 : Int32} {a6 : Int32} {a7 : Int32} {a9 : Int32} {s : vSt} (h : gM_EachAddsALineModel_way_244 N r151 a3 a4 a5 a6 a7 a9 s = some (r, t1)) : P s 244 [(0, .ref (ad 0)), (3, .int a3), (4, .int a4), (5, .int a5), (6, .int a6), (7, .int a7), (9, .int a9)] [] := by
  unfold gM_EachAddsALineModel_way_244 at h
  refine v_iload hX dX12_way_244 6 rfl ?_
  refine v_istore (lv' := [(8, .int a9), (0, .ref (ad 0)), (3, .int a3), (4, .int a4), (5, .int a5), (6, .int a6), (7, .int a7), (9, .int a9)]) hX dX12_way_246 (by decide) rfl ?_
  exact v_sub hX [1, 2, 3, 4, 5, 6, 0, 7] (by rfl) (wM_EachAddsALineModel_way_248 hX hR H151 h)
noncomputable def gM_EachAddsALineModel_way_214 (N : Nat) (r151 : Int32 → Int32 → Int32 → Int32 → Int32 → Int32 → Int32 → vSt → Option (Int32 × vSt)) (a3 : Int32) (a4 : Int32) (a5 : Int32) (a6 : Int32) (a7 : Int32) (a8 : Int32) (a9 : Int32) (k0 : Int32) (k1 : Int32) (k2 : Int32) (s : vSt) : Option (Int32 × vSt) :=
  if (k1 + k2) ≤ k0 then
    if a8 = (-1) then
      gM_EachAddsALineModel_way_244 N r151 a3 a4 a5 a6 a7 a9 s
    else
      (ld s 4 20 a9).bind fun v1 =>
      (ld s 4 20 a8).bind fun v2 =>
      if v2 ≤ v1 then
        gM_EachAddsALineModel_way_248 N r151 a3 a4 a5 a6 a7 a8 a9 s
      else
        gM_EachAddsALineModel_way_244 N r151 a3 a4 a5 a6 a7 a9 s
  else
    gM_EachAddsALineModel_way_248 N r151 a3 a4 a5 a6 a7 a8 a9 s
set_option maxRecDepth 4000 in
theorem wM_EachAddsALineModel_way_214 {P : vP} {l : Launch} {ad : Nat → Nat} {N : Nat} {r151 : Int32 → Int32 → Int32 → Int32 → Int32 → Int32 → Int32 → vSt → Option (Int32 × vSt)} {r : Int32} {t1 : vSt} (hX : vOK P l shM ad (vR 3 62) cX12_way RX12 10) (hR : (∀ pc lv, narrow .int (.int r) = .int r → decode cX12_way pc = .ok (.ireturn, 1) → P t1 pc lv [.int r])) (H151 : ∀ (a3 : Int32) (a4 : Int32) (a5 : Int32) (a6 : Int32) (a7 : Int32) (a8 : Int32) (a9 : Int32) (s : vSt), r151 a3 a4 a5 a6 a7 a8 a9 s = some (r, t1) → P s 151 [(0, .ref (ad 0)), (3, .int a3), (4, .int a4), (5, .int a5), (6, .int a6), (7, .int a7), (8, .int a8), (9, .int a9)] []) {a3 : Int32} {a4 : Int32} {a5 : Int32} {a6 : Int32} {a7 : Int32} {a8 : Int32} {a9 : Int32} {k0 : Int32} {k1 : Int32} {k2 : Int32} {s : vSt} (h : gM_EachAddsALineModel_way_214 N r151 a3 a4 a5 a6 a7 a8 a9 k0 k1 k2 s = some (r, t1)) : P s 214 [(0, .ref (ad 0)), (3, .int a3), (4, .int a4), (5, .int a5), (6, .int a6), (7, .int a7), (8, .int a8), (9, .int a9)] [.int k2, .int k1, .int k0] := by
  unfold gM_EachAddsALineModel_way_214 at h
  refine v_iadd hX dX12_way_214 ?_
  refine v_icmp_ge (tgt := 221) hX dX12_way_215 (by decide) h (fun h => ?_) (fun h => ?_)
  · refine v_iload hX dX12_way_221 6 rfl ?_
    refine v_iconst (v := (-1)) hX dX12_way_223 (by decide) ?_
    refine v_icmp_eq (tgt := 244) hX dX12_way_224 (by decide) h (fun h => ?_) (fun h => ?_)
    · exact v_sub hX [0, 1, 2, 3, 4, 5, 7] (by rfl) (wM_EachAddsALineModel_way_244 hX hR H151 h)
    · refine v_aload_n hX dX12_way_227 rfl 0 rfl ?_
      refine gfM_0_5 hX kf_12_19 dX12_way_228 ?_
      refine v_iload hX dX12_way_231 7 rfl ?_
      refine alM_4 hX dX12_way_233 h (fun v1 h => ?_)
      refine v_aload_n hX dX12_way_234 rfl 0 rfl ?_
      refine gfM_0_5 hX kf_12_19 dX12_way_235 ?_
      refine v_iload hX dX12_way_238 6 rfl ?_
      refine alM_4 hX dX12_way_240 h (fun v2 h => ?_)
      refine v_icmp_ge (tgt := 248) hX dX12_way_241 (by decide) h (fun h => ?_) (fun h => ?_)
      · exact v_sub hX [0, 1, 2, 3, 4, 5, 6, 7] (by rfl) (wM_EachAddsALineModel_way_248 hX hR H151 h)
      · exact v_sub hX [0, 1, 2, 3, 4, 5, 7] (by rfl) (wM_EachAddsALineModel_way_244 hX hR H151 h)
  · refine v_goto (tgt := 248) hX dX12_way_218 (by decide) ?_
    exact v_sub hX [0, 1, 2, 3, 4, 5, 6, 7] (by rfl) (wM_EachAddsALineModel_way_248 hX hR H151 h)
noncomputable def gM_EachAddsALineModel_way_151 (N : Nat) (r139 : Int32 → Int32 → Int32 → Int32 → Int32 → vSt → Option (Int32 × vSt)) : Nat → Int32 → Int32 → Int32 → Int32 → Int32 → Int32 → Int32 → vSt → Option (Int32 × vSt)
  | 0, _, _, _, _, _, _, _, _ => none
  | n + 1, a3, a4, a5, a6, a7, a8, a9, s =>
    if (s.1 0 2) ≤ a9 then
      if a8 = (-1) then
        some (((-100) : Int32) - a7, s)
      else
        (sto s 10 30 a7 a8).bind fun z1 =>
        (ld z1 15 30 a7).bind fun v2 =>
        (ld z1 4 20 a8).bind fun v3 =>
        (some (a7 + 1 : Int32)).bind fun v4 =>
        r139 a3 v2 v3 0 v4 z1
    else
      (fM_EachAddsALineModel_isThere N a4 a9 s).bind fun p5 =>
      if p5.1 = 0 then
        gM_EachAddsALineModel_way_248 N (gM_EachAddsALineModel_way_151 N r139 n) a3 a4 a5 a6 a7 a8 a9 p5.2
      else
        (fM_EachAddsALineModel_partner N a4 a9 p5.2).bind fun p6 =>
        (ld p6.2 15 30 a7).bind fun v7 =>
        if p6.1 = v7 then
          (ld p6.2 4 20 a9).bind fun v8 =>
          if a6 = 0 then
            (ld p6.2 1 9 a4).bind fun v9 =>
            gM_EachAddsALineModel_way_214 N (gM_EachAddsALineModel_way_151 N r139 n) a3 a4 a5 a6 a7 a8 a9 v8 a5 v9 p6.2
          else
            gM_EachAddsALineModel_way_214 N (gM_EachAddsALineModel_way_151 N r139 n) a3 a4 a5 a6 a7 a8 a9 v8 a5 0 p6.2
        else
          gM_EachAddsALineModel_way_248 N (gM_EachAddsALineModel_way_151 N r139 n) a3 a4 a5 a6 a7 a8 a9 p6.2
set_option maxRecDepth 4000 in
theorem wM_EachAddsALineModel_way_151 {P : vP} {l : Launch} {ad : Nat → Nat} {N : Nat} {r139 : Int32 → Int32 → Int32 → Int32 → Int32 → vSt → Option (Int32 × vSt)} {r : Int32} {t1 : vSt} (hX : vOK P l shM ad (vR 3 62) cX12_way RX12 10) (hR : (∀ pc lv, narrow .int (.int r) = .int r → decode cX12_way pc = .ok (.ireturn, 1) → P t1 pc lv [.int r])) (H139 : ∀ (a3 : Int32) (a4 : Int32) (a5 : Int32) (a6 : Int32) (a7 : Int32) (s : vSt), r139 a3 a4 a5 a6 a7 s = some (r, t1) → P s 139 [(0, .ref (ad 0)), (3, .int a3), (4, .int a4), (5, .int a5), (6, .int a6), (7, .int a7)] []) : ∀ (n : Nat) (a3 : Int32) (a4 : Int32) (a5 : Int32) (a6 : Int32) (a7 : Int32) (a8 : Int32) (a9 : Int32) (s : vSt), gM_EachAddsALineModel_way_151 N r139 n a3 a4 a5 a6 a7 a8 a9 s = some (r, t1) → P s 151 [(0, .ref (ad 0)), (3, .int a3), (4, .int a4), (5, .int a5), (6, .int a6), (7, .int a7), (8, .int a8), (9, .int a9)] [] := by
  intro n
  induction n with
  | zero => intro a3 a4 a5 a6 a7 a8 a9 s h; cases h
  | succ n ih =>
    intro a3 a4 a5 a6 a7 a8 a9 s h
    unfold gM_EachAddsALineModel_way_151 at h
    refine v_iload hX dX12_way_151 7 rfl ?_
    refine v_aload_n hX dX12_way_153 rfl 0 rfl ?_
    refine gfM_0_2 hX kf_12_109 dX12_way_154 ?_
    refine v_icmp_ge (tgt := 254) hX dX12_way_157 (by decide) h (fun h => ?_) (fun h => ?_)
    · refine v_iload hX dX12_way_254 6 rfl ?_
      refine v_iconst (v := (-1)) hX dX12_way_256 (by decide) ?_
      refine v_icmp_ne (tgt := 266) hX dX12_way_257 (by decide) h (fun h => ?_) (fun h => ?_)
      · refine v_bipush (v := (-100)) hX dX12_way_260 (by decide) ?_
        refine v_iload hX dX12_way_262 5 rfl ?_
        refine v_isub hX dX12_way_264 ?_
        exact v_retI hR h dX12_way_265
      · refine v_aload_n hX dX12_way_266 rfl 0 rfl ?_
        refine gfM_0_28 hX kf_12_38 dX12_way_267 ?_
        refine v_iload hX dX12_way_270 5 rfl ?_
        refine v_iload hX dX12_way_272 6 rfl ?_
        refine asM_10 hX dX12_way_274 h (fun z1 h => ?_)
        refine v_aload_n hX dX12_way_275 rfl 0 rfl ?_
        refine gfM_0_38 hX kf_12_65 dX12_way_276 ?_
        refine v_iload hX dX12_way_279 5 rfl ?_
        refine alM_15 hX dX12_way_281 h (fun v2 h => ?_)
        refine v_istore (lv' := [(4, .int v2), (0, .ref (ad 0)), (3, .int a3), (5, .int a5), (6, .int a6), (7, .int a7), (8, .int a8), (9, .int a9)]) hX dX12_way_282 (by decide) rfl ?_
        refine v_aload_n hX dX12_way_284 rfl 1 rfl ?_
        refine gfM_0_5 hX kf_12_19 dX12_way_285 ?_
        refine v_iload hX dX12_way_288 6 rfl ?_
        refine alM_4 hX dX12_way_290 h (fun v3 h => ?_)
        refine v_istore (lv' := [(5, .int v3), (4, .int v2), (0, .ref (ad 0)), (3, .int a3), (6, .int a6), (7, .int a7), (8, .int a8), (9, .int a9)]) hX dX12_way_291 (by decide) rfl ?_
        refine v_iconst (v := 0) hX dX12_way_293 (by decide) ?_
        refine v_istore (lv' := [(6, .int 0), (5, .int v3), (4, .int v2), (0, .ref (ad 0)), (3, .int a3), (7, .int a7), (8, .int a8), (9, .int a9)]) hX dX12_way_294 (by decide) rfl ?_
        refine v_iincN hX dX12_way_296 (j := 5) rfl (c := 1) (by decide) (by decide) h (fun v4 h => ?_)
        refine v_show (lv' := [(7, .int v4), (6, .int 0), (5, .int v3), (4, .int v2), (0, .ref (ad 0)), (3, .int a3), (8, .int a8), (9, .int a9)]) hX rfl ?_
        refine v_goto (tgt := 139) hX dX12_way_299 (by decide) ?_
        exact v_sub hX [4, 5, 3, 2, 1, 0] (by rfl) (H139 _ _ _ _ _ _ h)
    · refine v_aload_n hX dX12_way_160 rfl 0 rfl ?_
      refine v_iload hX dX12_way_161 2 rfl ?_
      refine v_iload hX dX12_way_163 7 rfl ?_
      obtain ⟨p5, hp5, h⟩ := bsome h
      refine v_callVI (o := 0) hX (mM_EachAddsALineModel_isThere hp5 l ad) kM_X12_isThere kV_X12_isThere km_12_227 (by decide) (fun _ => rfl) rfl rfl rfl (Nat.le_of_ble_eq_true rfl) (by decide) dX12_way_165 ?_
      refine v_if_eq (tgt := 248) hX dX12_way_168 (by decide) h (fun h => ?_) (fun h => ?_)
      · exact v_sub hX [0, 1, 2, 3, 4, 5, 6, 7] (by rfl) (wM_EachAddsALineModel_way_248 hX hR ih h)
      · refine v_aload_n hX dX12_way_171 rfl 0 rfl ?_
        refine v_iload hX dX12_way_172 2 rfl ?_
        refine v_iload hX dX12_way_174 7 rfl ?_
        obtain ⟨p6, hp6, h⟩ := bsome h
        refine v_callVI (o := 0) hX (mM_EachAddsALineModel_partner hp6 l ad) kM_X12_partner kV_X12_partner km_12_234 (by decide) (fun _ => rfl) rfl rfl rfl (Nat.le_of_ble_eq_true rfl) (by decide) dX12_way_176 ?_
        refine v_aload_n hX dX12_way_179 rfl 0 rfl ?_
        refine gfM_0_38 hX kf_12_65 dX12_way_180 ?_
        refine v_iload hX dX12_way_183 5 rfl ?_
        refine alM_15 hX dX12_way_185 h (fun v7 h => ?_)
        refine v_icmp_ne (tgt := 248) hX dX12_way_186 (by decide) h (fun h => ?_) (fun h => ?_)
        · refine v_aload_n hX dX12_way_189 rfl 0 rfl ?_
          refine gfM_0_5 hX kf_12_19 dX12_way_190 ?_
          refine v_iload hX dX12_way_193 7 rfl ?_
          refine alM_4 hX dX12_way_195 h (fun v8 h => ?_)
          refine v_iload hX dX12_way_196 3 rfl ?_
          refine v_iload hX dX12_way_198 4 rfl ?_
          refine v_if_eq (tgt := 207) hX dX12_way_200 (by decide) h (fun h => ?_) (fun h => ?_)
          · refine v_aload_n hX dX12_way_207 rfl 0 rfl ?_
            refine gfM_0_1 hX kf_12_9 dX12_way_208 ?_
            refine v_iload hX dX12_way_211 2 rfl ?_
            refine alM_1 hX dX12_way_213 h (fun v9 h => ?_)
            exact v_sub hX [0, 1, 2, 3, 4, 5, 6, 7] (by rfl) (wM_EachAddsALineModel_way_214 hX hR ih h)
          · refine v_iconst (v := 0) hX dX12_way_203 (by decide) ?_
            refine v_goto (tgt := 214) hX dX12_way_204 (by decide) ?_
            exact v_sub hX [0, 1, 2, 3, 4, 5, 6, 7] (by rfl) (wM_EachAddsALineModel_way_214 hX hR ih h)
        · exact v_sub hX [0, 1, 2, 3, 4, 5, 6, 7] (by rfl) (wM_EachAddsALineModel_way_248 hX hR ih h)
noncomputable def gM_EachAddsALineModel_way_310 (N : Nat)  : Nat → Int32 → Int32 → Int32 → vSt → Option (Int32 × vSt)
  | 0, _, _, _, _ => none
  | n + 1, a3, a5, a7, s =>
    if a3 ≤ a7 then
      some (a5, s)
    else
      if 12 ≤ a7 then
        some (a5, s)
      else
        (ld s 10 30 a7).bind fun v1 =>
        (fM_EachAddsALineModel_tell N v1 s).bind fun z2 =>
        (some (a7 + 1 : Int32)).bind fun v3 =>
        gM_EachAddsALineModel_way_310 N n a3 a5 v3 z2
set_option maxRecDepth 4000 in
theorem wM_EachAddsALineModel_way_310 {P : vP} {l : Launch} {ad : Nat → Nat} {N : Nat} {r : Int32} {t1 : vSt} (hX : vOK P l shM ad (vR 3 62) cX12_way RX12 10) (hR : (∀ pc lv, narrow .int (.int r) = .int r → decode cX12_way pc = .ok (.ireturn, 1) → P t1 pc lv [.int r]))  : ∀ (n : Nat) (a3 : Int32) (a5 : Int32) (a7 : Int32) (s : vSt), gM_EachAddsALineModel_way_310 N n a3 a5 a7 s = some (r, t1) → P s 310 [(0, .ref (ad 0)), (3, .int a3), (5, .int a5), (7, .int a7)] [] := by
  intro n
  induction n with
  | zero => intro a3 a5 a7 s h; cases h
  | succ n ih =>
    intro a3 a5 a7 s h
    unfold gM_EachAddsALineModel_way_310 at h
    refine v_iload hX dX12_way_310 3 rfl ?_
    refine v_iload_n hX dX12_way_312 rfl 1 rfl ?_
    refine v_icmp_ge (tgt := 340) hX dX12_way_313 (by decide) h (fun h => ?_) (fun h => ?_)
    · refine v_iload hX dX12_way_340 2 rfl ?_
      exact v_retI hR h dX12_way_342
    · refine v_iload hX dX12_way_316 3 rfl ?_
      refine v_bipush (v := 12) hX dX12_way_318 (by decide) ?_
      refine v_icmp_ge (tgt := 340) hX dX12_way_320 (by decide) h (fun h => ?_) (fun h => ?_)
      · refine v_iload hX dX12_way_340 2 rfl ?_
        exact v_retI hR h dX12_way_342
      · refine v_aload_n hX dX12_way_323 rfl 0 rfl ?_
        refine v_aload_n hX dX12_way_324 rfl 0 rfl ?_
        refine gfM_0_28 hX kf_12_38 dX12_way_325 ?_
        refine v_iload hX dX12_way_328 3 rfl ?_
        refine alM_10 hX dX12_way_330 h (fun v1 h => ?_)
        obtain ⟨z2, hz2, h⟩ := bsome h
        refine v_callVV (o := 0) hX (mM_EachAddsALineModel_tell hz2 l ad) kM_X12_tell kV_X12_tell km_12_250 (by decide) (fun _ => rfl) rfl rfl rfl (Nat.le_of_ble_eq_true rfl) (by decide) dX12_way_331 ?_
        refine v_iincN hX dX12_way_334 (j := 3) rfl (c := 1) (by decide) (by decide) h (fun v3 h => ?_)
        refine v_show (lv' := [(7, .int v3), (0, .ref (ad 0)), (3, .int a3), (5, .int a5)]) hX rfl ?_
        refine v_goto (tgt := 310) hX dX12_way_337 (by decide) ?_
        exact v_sub hX [1, 2, 3, 0] (by rfl) (ih _ _ _ _ h)
noncomputable def gM_EachAddsALineModel_way_139 (N : Nat)  : Nat → Int32 → Int32 → Int32 → Int32 → Int32 → vSt → Option (Int32 × vSt)
  | 0, _, _, _, _, _, _ => none
  | n + 1, a3, a4, a5, a6, a7, s =>
    if a3 ≤ a7 then
      (some (s1 s 0 10 0)).bind fun z1 =>
      gM_EachAddsALineModel_way_310 N N a3 a5 0 z1
    else
      (some ((-1) : Int32)).bind fun v2 =>
      gM_EachAddsALineModel_way_151 N (gM_EachAddsALineModel_way_139 N n) N a3 a4 a5 a6 a7 v2 0 s
set_option maxRecDepth 4000 in
theorem wM_EachAddsALineModel_way_139 {P : vP} {l : Launch} {ad : Nat → Nat} {N : Nat} {r : Int32} {t1 : vSt} (hX : vOK P l shM ad (vR 3 62) cX12_way RX12 10) (hR : (∀ pc lv, narrow .int (.int r) = .int r → decode cX12_way pc = .ok (.ireturn, 1) → P t1 pc lv [.int r]))  : ∀ (n : Nat) (a3 : Int32) (a4 : Int32) (a5 : Int32) (a6 : Int32) (a7 : Int32) (s : vSt), gM_EachAddsALineModel_way_139 N n a3 a4 a5 a6 a7 s = some (r, t1) → P s 139 [(0, .ref (ad 0)), (3, .int a3), (4, .int a4), (5, .int a5), (6, .int a6), (7, .int a7)] [] := by
  intro n
  induction n with
  | zero => intro a3 a4 a5 a6 a7 s h; cases h
  | succ n ih =>
    intro a3 a4 a5 a6 a7 s h
    unfold gM_EachAddsALineModel_way_139 at h
    refine v_iload hX dX12_way_139 5 rfl ?_
    refine v_iload_n hX dX12_way_141 rfl 1 rfl ?_
    refine v_icmp_ge (tgt := 302) hX dX12_way_142 (by decide) h (fun h => ?_) (fun h => ?_)
    · refine v_aload_n hX dX12_way_302 rfl 0 rfl ?_
      refine v_iconst (v := 0) hX dX12_way_303 (by decide) ?_
      refine pfM_0_10 hX kf_12_99 dX12_way_304 h (fun z1 h => ?_)
      refine v_iconst (v := 0) hX dX12_way_307 (by decide) ?_
      refine v_istore (lv' := [(7, .int 0), (0, .ref (ad 0)), (3, .int a3), (4, .int a4), (5, .int a5), (6, .int a6)]) hX dX12_way_308 (by decide) rfl ?_
      exact v_sub hX [1, 2, 4, 0] (by rfl) (wM_EachAddsALineModel_way_310 hX hR  N _ _ _ _ h)
    · refine v_iconst (v := (-1)) hX dX12_way_145 (by decide) ?_
      refine v_nmI hX h (fun v2 h => ?_)
      refine v_istore (lv' := [(8, .int v2), (0, .ref (ad 0)), (3, .int a3), (4, .int a4), (5, .int a5), (6, .int a6), (7, .int a7)]) hX dX12_way_146 (by decide) rfl ?_
      refine v_iconst (v := 0) hX dX12_way_148 (by decide) ?_
      refine v_istore (lv' := [(9, .int 0), (8, .int v2), (0, .ref (ad 0)), (3, .int a3), (4, .int a4), (5, .int a5), (6, .int a6), (7, .int a7)]) hX dX12_way_149 (by decide) rfl ?_
      exact v_sub hX [2, 3, 4, 5, 6, 7, 1, 0] (by rfl) (wM_EachAddsALineModel_way_151 hX hR ih N _ _ _ _ _ _ _ _ h)
noncomputable def gM_EachAddsALineModel_way_113 (N : Nat)  (a1 : Int32) (a2 : Int32) (a3 : Int32) (s : vSt) : Option (Int32 × vSt) :=
  (fM_EachAddsALineModel_fine N s).bind fun p1 =>
  if p1.1 = 0 then
    some (((-1) : Int32) - (p1.2.1 0 16), p1.2)
  else
    gM_EachAddsALineModel_way_139 N N a3 a1 a2 1 0 p1.2
set_option maxRecDepth 4000 in
theorem wM_EachAddsALineModel_way_113 {P : vP} {l : Launch} {ad : Nat → Nat} {N : Nat} {r : Int32} {t1 : vSt} (hX : vOK P l shM ad (vR 3 62) cX12_way RX12 10) (hR : (∀ pc lv, narrow .int (.int r) = .int r → decode cX12_way pc = .ok (.ireturn, 1) → P t1 pc lv [.int r]))  {a1 : Int32} {a2 : Int32} {a3 : Int32} {s : vSt} (h : gM_EachAddsALineModel_way_113 N a1 a2 a3 s = some (r, t1)) : P s 113 [(0, .ref (ad 0)), (1, .int a1), (2, .int a2), (3, .int a3)] [] := by
  unfold gM_EachAddsALineModel_way_113 at h
  refine v_aload_n hX dX12_way_113 rfl 0 rfl ?_
  obtain ⟨p1, hp1, h⟩ := bsome h
  refine v_callVI (o := 0) hX (mM_EachAddsALineModel_fine hp1 l ad) kM_X12_fine kV_X12_fine km_12_130 (by decide) (fun _ => rfl) rfl rfl rfl (Nat.le_of_ble_eq_true rfl) (by decide) dX12_way_114 ?_
  refine v_if_ne (tgt := 127) hX dX12_way_117 (by decide) h (fun h => ?_) (fun h => ?_)
  · refine v_iconst (v := (-1)) hX dX12_way_120 (by decide) ?_
    refine v_aload_n hX dX12_way_121 rfl 0 rfl ?_
    refine gfM_0_16 hX kf_12_127 dX12_way_122 ?_
    refine v_isub hX dX12_way_125 ?_
    exact v_retI hR h dX12_way_126
  · refine v_iload_n hX dX12_way_127 rfl 1 rfl ?_
    refine v_istore (lv' := [(4, .int a1), (0, .ref (ad 0)), (1, .int a1), (2, .int a2), (3, .int a3)]) hX dX12_way_128 (by decide) rfl ?_
    refine v_iload_n hX dX12_way_130 rfl 3 rfl ?_
    refine v_istore (lv' := [(5, .int a2), (4, .int a1), (0, .ref (ad 0)), (1, .int a1), (2, .int a2), (3, .int a3)]) hX dX12_way_131 (by decide) rfl ?_
    refine v_iconst (v := 1) hX dX12_way_133 (by decide) ?_
    refine v_istore (lv' := [(6, .int 1), (5, .int a2), (4, .int a1), (0, .ref (ad 0)), (1, .int a1), (2, .int a2), (3, .int a3)]) hX dX12_way_134 (by decide) rfl ?_
    refine v_iconst (v := 0) hX dX12_way_136 (by decide) ?_
    refine v_istore (lv' := [(7, .int 0), (6, .int 1), (5, .int a2), (4, .int a1), (0, .ref (ad 0)), (1, .int a1), (2, .int a2), (3, .int a3)]) hX dX12_way_137 (by decide) rfl ?_
    exact v_sub hX [4, 7, 3, 2, 1, 0] (by rfl) (wM_EachAddsALineModel_way_139 hX hR  N _ _ _ _ _ _ h)
noncomputable def gM_EachAddsALineModel_way_94 (N : Nat)  (a1 : Int32) (a2 : Int32) (a3 : Int32) (s : vSt) : Option (Int32 × vSt) :=
  if (s.1 0 13) ≤ (s.1 0 15) then
    gM_EachAddsALineModel_way_113 N a1 a2 a3 s
  else
    (fM_EachAddsALineModel_fault N (s.1 0 15) s).bind fun z1 =>
    gM_EachAddsALineModel_way_113 N a1 a2 a3 z1
set_option maxRecDepth 4000 in
theorem wM_EachAddsALineModel_way_94 {P : vP} {l : Launch} {ad : Nat → Nat} {N : Nat} {r : Int32} {t1 : vSt} (hX : vOK P l shM ad (vR 3 62) cX12_way RX12 10) (hR : (∀ pc lv, narrow .int (.int r) = .int r → decode cX12_way pc = .ok (.ireturn, 1) → P t1 pc lv [.int r]))  {a1 : Int32} {a2 : Int32} {a3 : Int32} {s : vSt} (h : gM_EachAddsALineModel_way_94 N a1 a2 a3 s = some (r, t1)) : P s 94 [(0, .ref (ad 0)), (1, .int a1), (2, .int a2), (3, .int a3)] [] := by
  unfold gM_EachAddsALineModel_way_94 at h
  refine v_aload_n hX dX12_way_94 rfl 0 rfl ?_
  refine gfM_0_15 hX kf_12_124 dX12_way_95 ?_
  refine v_aload_n hX dX12_way_98 rfl 0 rfl ?_
  refine gfM_0_13 hX kf_12_118 dX12_way_99 ?_
  refine v_icmp_ge (tgt := 113) hX dX12_way_102 (by decide) h (fun h => ?_) (fun h => ?_)
  · exact v_sub hX [0, 1, 2, 3] (by rfl) (wM_EachAddsALineModel_way_113 hX hR  h)
  · refine v_aload_n hX dX12_way_105 rfl 0 rfl ?_
    refine v_aload_n hX dX12_way_106 rfl 0 rfl ?_
    refine gfM_0_15 hX kf_12_124 dX12_way_107 ?_
    obtain ⟨z1, hz1, h⟩ := bsome h
    refine v_callVV (o := 0) hX (mM_EachAddsALineModel_fault hz1 l ad) kM_X12_fault kV_X12_fault km_12_138 (by decide) (fun _ => rfl) rfl rfl rfl (Nat.le_of_ble_eq_true rfl) (by decide) dX12_way_110 ?_
    exact v_sub hX [0, 1, 2, 3] (by rfl) (wM_EachAddsALineModel_way_113 hX hR  h)
noncomputable def gM_EachAddsALineModel_way_45 (N : Nat)  : Nat → Int32 → Int32 → Int32 → vSt → Option (Int32 × vSt)
  | 0, _, _, _, _ => none
  | n + 1, a1, a2, a3, s =>
    (fM_EachAddsALineModel_fine N s).bind fun p1 =>
    if p1.1 = 0 then
      gM_EachAddsALineModel_way_94 N a1 a2 a3 p1.2
    else
      if (p1.2.1 0 13) ≤ (p1.2.1 0 15) then
        gM_EachAddsALineModel_way_94 N a1 a2 a3 p1.2
      else
        if (p1.2.1 0 14) ≤ (p1.2.1 0 15) then
          gM_EachAddsALineModel_way_94 N a1 a2 a3 p1.2
        else
          (fM_EachAddsALineModel_letter N (p1.2.1 0 0) p1.2).bind fun p2 =>
          (sto p2.2 15 30 a3 p2.1).bind fun z3 =>
          (some (a3 + 1 : Int32)).bind fun v4 =>
          gM_EachAddsALineModel_way_45 N n a1 a2 v4 z3
set_option maxRecDepth 4000 in
theorem wM_EachAddsALineModel_way_45 {P : vP} {l : Launch} {ad : Nat → Nat} {N : Nat} {r : Int32} {t1 : vSt} (hX : vOK P l shM ad (vR 3 62) cX12_way RX12 10) (hR : (∀ pc lv, narrow .int (.int r) = .int r → decode cX12_way pc = .ok (.ireturn, 1) → P t1 pc lv [.int r]))  : ∀ (n : Nat) (a1 : Int32) (a2 : Int32) (a3 : Int32) (s : vSt), gM_EachAddsALineModel_way_45 N n a1 a2 a3 s = some (r, t1) → P s 45 [(0, .ref (ad 0)), (1, .int a1), (2, .int a2), (3, .int a3)] [] := by
  intro n
  induction n with
  | zero => intro a1 a2 a3 s h; cases h
  | succ n ih =>
    intro a1 a2 a3 s h
    unfold gM_EachAddsALineModel_way_45 at h
    refine v_aload_n hX dX12_way_45 rfl 0 rfl ?_
    obtain ⟨p1, hp1, h⟩ := bsome h
    refine v_callVI (o := 0) hX (mM_EachAddsALineModel_fine hp1 l ad) kM_X12_fine kV_X12_fine km_12_130 (by decide) (fun _ => rfl) rfl rfl rfl (Nat.le_of_ble_eq_true rfl) (by decide) dX12_way_46 ?_
    refine v_if_eq (tgt := 94) hX dX12_way_49 (by decide) h (fun h => ?_) (fun h => ?_)
    · exact v_sub hX [0, 1, 2, 3] (by rfl) (wM_EachAddsALineModel_way_94 hX hR  h)
    · refine v_aload_n hX dX12_way_52 rfl 0 rfl ?_
      refine gfM_0_15 hX kf_12_124 dX12_way_53 ?_
      refine v_aload_n hX dX12_way_56 rfl 0 rfl ?_
      refine gfM_0_13 hX kf_12_118 dX12_way_57 ?_
      refine v_icmp_ge (tgt := 94) hX dX12_way_60 (by decide) h (fun h => ?_) (fun h => ?_)
      · exact v_sub hX [0, 1, 2, 3] (by rfl) (wM_EachAddsALineModel_way_94 hX hR  h)
      · refine v_aload_n hX dX12_way_63 rfl 0 rfl ?_
        refine gfM_0_15 hX kf_12_124 dX12_way_64 ?_
        refine v_aload_n hX dX12_way_67 rfl 0 rfl ?_
        refine gfM_0_14 hX kf_12_121 dX12_way_68 ?_
        refine v_icmp_ge (tgt := 94) hX dX12_way_71 (by decide) h (fun h => ?_) (fun h => ?_)
        · exact v_sub hX [0, 1, 2, 3] (by rfl) (wM_EachAddsALineModel_way_94 hX hR  h)
        · refine v_aload_n hX dX12_way_74 rfl 0 rfl ?_
          refine gfM_0_38 hX kf_12_65 dX12_way_75 ?_
          refine v_iload_n hX dX12_way_78 rfl 3 rfl ?_
          refine v_aload_n hX dX12_way_79 rfl 0 rfl ?_
          refine v_aload_n hX dX12_way_80 rfl 0 rfl ?_
          refine gfM_0_0 hX kf_12_102 dX12_way_81 ?_
          obtain ⟨p2, hp2, h⟩ := bsome h
          refine v_callVI (o := 0) hX (mM_EachAddsALineModel_letter hp2 l ad) kM_X12_letter kV_X12_letter km_12_150 (by decide) (fun _ => rfl) rfl rfl rfl (Nat.le_of_ble_eq_true rfl) (by decide) dX12_way_84 ?_
          refine asM_15 hX dX12_way_87 h (fun z3 h => ?_)
          refine v_iincN hX dX12_way_88 (j := 3) rfl (c := 1) (by decide) (by decide) h (fun v4 h => ?_)
          refine v_show (lv' := [(3, .int v4), (0, .ref (ad 0)), (1, .int a1), (2, .int a2)]) hX rfl ?_
          refine v_goto (tgt := 45) hX dX12_way_91 (by decide) ?_
          exact v_sub hX [1, 2, 3, 0] (by rfl) (ih _ _ _ _ h)
noncomputable def gM_EachAddsALineModel_way_0 (N : Nat)  (a1 : Int32) (a2 : Int32) (s : vSt) : Option (Int32 × vSt) :=
  (some (s1 s 0 11 0)).bind fun z1 =>
  (fM_EachAddsALineModel_begin_m_text N (z1.1 0 8) 30 z1).bind fun z2 =>
  (some (s1 z2 0 8 0)).bind fun z3 =>
  (fM_EachAddsALineModel_isOne N a1 z3).bind fun p4 =>
  if p4.1 = 0 then
    some ((-200), p4.2)
  else
    (fM_EachAddsALineModel_isHour N a2 p4.2).bind fun p5 =>
    if p5.1 = 0 then
      some ((-200), p5.2)
    else
      gM_EachAddsALineModel_way_45 N N a1 a2 0 p5.2
set_option maxRecDepth 4000 in
theorem wM_EachAddsALineModel_way_0 {P : vP} {l : Launch} {ad : Nat → Nat} {N : Nat} {r : Int32} {t1 : vSt} (hX : vOK P l shM ad (vR 3 62) cX12_way RX12 10) (hR : (∀ pc lv, narrow .int (.int r) = .int r → decode cX12_way pc = .ok (.ireturn, 1) → P t1 pc lv [.int r]))  {a1 : Int32} {a2 : Int32} {s : vSt} (h : gM_EachAddsALineModel_way_0 N a1 a2 s = some (r, t1)) : P s 0 [(0, .ref (ad 0)), (1, .int a1), (2, .int a2)] [] := by
  unfold gM_EachAddsALineModel_way_0 at h
  refine v_aload_n hX dX12_way_0 rfl 0 rfl ?_
  refine v_iconst (v := 0) hX dX12_way_1 (by decide) ?_
  refine pfM_0_11 hX kf_12_96 dX12_way_2 h (fun z1 h => ?_)
  refine v_aload_n hX dX12_way_5 rfl 0 rfl ?_
  refine v_aload_n hX dX12_way_6 rfl 0 rfl ?_
  refine gfM_0_7 hX kf_12_25 dX12_way_7 ?_
  refine v_aload_n hX dX12_way_10 rfl 0 rfl ?_
  refine gfM_0_8 hX kf_12_112 dX12_way_11 ?_
  refine v_bipush (v := 30) hX dX12_way_14 (by decide) ?_
  obtain ⟨z2, hz2, h⟩ := bsome h
  refine v_callVV (o := 0) hX (mM_EachAddsALineModel_begin_m_text hz2 l ad) kM_X12_begin kV_X12_begin km_12_142 (by decide) (fun _ => rfl) rfl rfl rfl (Nat.le_of_ble_eq_true rfl) (by decide) dX12_way_16 ?_
  refine v_aload_n hX dX12_way_19 rfl 0 rfl ?_
  refine v_iconst (v := 0) hX dX12_way_20 (by decide) ?_
  refine pfM_0_8 hX kf_12_112 dX12_way_21 h (fun z3 h => ?_)
  refine v_aload_n hX dX12_way_24 rfl 0 rfl ?_
  refine v_iload_n hX dX12_way_25 rfl 1 rfl ?_
  obtain ⟨p4, hp4, h⟩ := bsome h
  refine v_callVI (o := 0) hX (mM_EachAddsALineModel_isOne hp4 l ad) kM_X12_isOne kV_X12_isOne km_12_197 (by decide) (fun _ => rfl) rfl rfl rfl (Nat.le_of_ble_eq_true rfl) (by decide) dX12_way_26 ?_
  refine v_if_eq (tgt := 39) hX dX12_way_29 (by decide) h (fun h => ?_) (fun h => ?_)
  · refine v_sipush (v := (-200)) hX dX12_way_39 (by decide) ?_
    exact v_retI hR h dX12_way_42
  · refine v_iload_n hX dX12_way_32 rfl 2 rfl ?_
    obtain ⟨p5, hp5, h⟩ := bsome h
    refine v_callSI hX (mM_EachAddsALineModel_isHour hp5 l ad) kM_X12_isHour kS_X12_isHour km_12_221 rfl rfl (Nat.le_of_ble_eq_true rfl) (by decide) dX12_way_33 ?_
    refine v_if_ne (tgt := 43) hX dX12_way_36 (by decide) h (fun h => ?_) (fun h => ?_)
    · refine v_sipush (v := (-200)) hX dX12_way_39 (by decide) ?_
      exact v_retI hR h dX12_way_42
    · refine v_iconst (v := 0) hX dX12_way_43 (by decide) ?_
      refine v_istore_n (lv' := [(3, .int 0), (0, .ref (ad 0)), (1, .int a1), (2, .int a2)]) hX dX12_way_44 rfl (by decide) rfl ?_
      exact v_sub hX [1, 2, 3, 0] (by rfl) (wM_EachAddsALineModel_way_45 hX hR  N _ _ _ _ h)
noncomputable def fM_EachAddsALineModel_way (N : Nat) (a1 : Int32) (a2 : Int32) (s : vSt) : Option (Int32 × vSt) := gM_EachAddsALineModel_way_0 N a1 a2 s
theorem mM_EachAddsALineModel_way {N : Nat} {a1 : Int32} {a2 : Int32} {s : vSt} {r : Int32} {t1 : vSt} (h : fM_EachAddsALineModel_way N a1 a2 s = some (r, t1)) (l : Launch) (ad : Nat → Nat) : vMI l shM ad yX12_way cX12_way 10 .int 3 62 s [.ref (ad 0), .int a1, .int a2] r t1 :=
  vMI_of (by decide +kernel) (Nat.le_of_ble_eq_true rfl) (fun P hX hR => wM_EachAddsALineModel_way_0 hX hR h)
-- M_EachAddsALineModel_tale
noncomputable def gM_EachAddsALineModel_tale_126 (N : Nat)  : Nat → Int32 → vSt → Option (Int32 × vSt)
  | 0, _, _ => none
  | n + 1, a1, s =>
    if (s.1 0 13) ≤ a1 then
      (some (s1 s 0 40 (s.1 0 13))).bind fun z1 =>
      some (z1.1 0 13, z1)
    else
      (ld s 6 80 a1).bind fun v2 =>
      (sto s 16 24 a1 (v2 - 48)).bind fun z3 =>
      (some (a1 + 1 : Int32)).bind fun v4 =>
      gM_EachAddsALineModel_tale_126 N n v4 z3
set_option maxRecDepth 4000 in
theorem wM_EachAddsALineModel_tale_126 {P : vP} {l : Launch} {ad : Nat → Nat} {N : Nat} {r : Int32} {t1 : vSt} (hX : vOK P l shM ad (vR 2 41) cX12_tale RX12 2) (hR : (∀ pc lv, narrow .int (.int r) = .int r → decode cX12_tale pc = .ok (.ireturn, 1) → P t1 pc lv [.int r]))  : ∀ (n : Nat) (a1 : Int32) (s : vSt), gM_EachAddsALineModel_tale_126 N n a1 s = some (r, t1) → P s 126 [(0, .ref (ad 0)), (1, .int a1)] [] := by
  intro n
  induction n with
  | zero => intro a1 s h; cases h
  | succ n ih =>
    intro a1 s h
    unfold gM_EachAddsALineModel_tale_126 at h
    refine v_iload_n hX dX12_tale_126 rfl 1 rfl ?_
    refine v_aload_n hX dX12_tale_127 rfl 0 rfl ?_
    refine gfM_0_13 hX kf_12_118 dX12_tale_128 ?_
    refine v_icmp_ge (tgt := 155) hX dX12_tale_131 (by decide) h (fun h => ?_) (fun h => ?_)
    · refine v_aload_n hX dX12_tale_155 rfl 0 rfl ?_
      refine v_aload_n hX dX12_tale_156 rfl 0 rfl ?_
      refine gfM_0_13 hX kf_12_118 dX12_tale_157 ?_
      refine pfM_0_40 hX kf_12_314 dX12_tale_160 h (fun z1 h => ?_)
      refine v_aload_n hX dX12_tale_163 rfl 0 rfl ?_
      refine gfM_0_13 hX kf_12_118 dX12_tale_164 ?_
      exact v_retI hR h dX12_tale_167
    · refine v_aload_n hX dX12_tale_134 rfl 0 rfl ?_
      refine gfM_0_39 hX kf_12_68 dX12_tale_135 ?_
      refine v_iload_n hX dX12_tale_138 rfl 1 rfl ?_
      refine v_aload_n hX dX12_tale_139 rfl 0 rfl ?_
      refine gfM_0_7 hX kf_12_25 dX12_tale_140 ?_
      refine v_iload_n hX dX12_tale_143 rfl 1 rfl ?_
      refine alM_6 hX dX12_tale_144 h (fun v2 h => ?_)
      refine v_bipush (v := 48) hX dX12_tale_145 (by decide) ?_
      refine v_isub hX dX12_tale_147 ?_
      refine asM_16 hX dX12_tale_148 h (fun z3 h => ?_)
      refine v_iincN hX dX12_tale_149 (j := 1) rfl (c := 1) (by decide) (by decide) h (fun v4 h => ?_)
      refine v_show (lv' := [(1, .int v4), (0, .ref (ad 0))]) hX rfl ?_
      refine v_goto (tgt := 126) hX dX12_tale_152 (by decide) ?_
      exact v_sub hX [1, 0] (by rfl) (ih _ _ h)
noncomputable def gM_EachAddsALineModel_tale_110 (N : Nat)   (s : vSt) : Option (Int32 × vSt) :=
  (fM_EachAddsALineModel_fine N s).bind fun p1 =>
  if p1.1 = 0 then
    some (((-1) : Int32) - (p1.2.1 0 16), p1.2)
  else
    gM_EachAddsALineModel_tale_126 N N 0 p1.2
set_option maxRecDepth 4000 in
theorem wM_EachAddsALineModel_tale_110 {P : vP} {l : Launch} {ad : Nat → Nat} {N : Nat} {r : Int32} {t1 : vSt} (hX : vOK P l shM ad (vR 2 41) cX12_tale RX12 2) (hR : (∀ pc lv, narrow .int (.int r) = .int r → decode cX12_tale pc = .ok (.ireturn, 1) → P t1 pc lv [.int r]))   {s : vSt} (h : gM_EachAddsALineModel_tale_110 N s = some (r, t1)) : P s 110 [(0, .ref (ad 0))] [] := by
  unfold gM_EachAddsALineModel_tale_110 at h
  refine v_aload_n hX dX12_tale_110 rfl 0 rfl ?_
  obtain ⟨p1, hp1, h⟩ := bsome h
  refine v_callVI (o := 0) hX (mM_EachAddsALineModel_fine hp1 l ad) kM_X12_fine kV_X12_fine km_12_130 (by decide) (fun _ => rfl) rfl rfl rfl (Nat.le_of_ble_eq_true rfl) (by decide) dX12_tale_111 ?_
  refine v_if_ne (tgt := 124) hX dX12_tale_114 (by decide) h (fun h => ?_) (fun h => ?_)
  · refine v_iconst (v := (-1)) hX dX12_tale_117 (by decide) ?_
    refine v_aload_n hX dX12_tale_118 rfl 0 rfl ?_
    refine gfM_0_16 hX kf_12_127 dX12_tale_119 ?_
    refine v_isub hX dX12_tale_122 ?_
    exact v_retI hR h dX12_tale_123
  · refine v_iconst (v := 0) hX dX12_tale_124 (by decide) ?_
    refine v_istore_n (lv' := [(1, .int 0), (0, .ref (ad 0))]) hX dX12_tale_125 rfl (by decide) rfl ?_
    exact v_sub hX [1, 0] (by rfl) (wM_EachAddsALineModel_tale_126 hX hR  N _ _ h)
noncomputable def gM_EachAddsALineModel_tale_91 (N : Nat)   (s : vSt) : Option (Int32 × vSt) :=
  if (s.1 0 13) ≤ (s.1 0 15) then
    gM_EachAddsALineModel_tale_110 N s
  else
    (fM_EachAddsALineModel_fault N (s.1 0 15) s).bind fun z1 =>
    gM_EachAddsALineModel_tale_110 N z1
set_option maxRecDepth 4000 in
theorem wM_EachAddsALineModel_tale_91 {P : vP} {l : Launch} {ad : Nat → Nat} {N : Nat} {r : Int32} {t1 : vSt} (hX : vOK P l shM ad (vR 2 41) cX12_tale RX12 2) (hR : (∀ pc lv, narrow .int (.int r) = .int r → decode cX12_tale pc = .ok (.ireturn, 1) → P t1 pc lv [.int r]))   {s : vSt} (h : gM_EachAddsALineModel_tale_91 N s = some (r, t1)) : P s 91 [(0, .ref (ad 0))] [] := by
  unfold gM_EachAddsALineModel_tale_91 at h
  refine v_aload_n hX dX12_tale_91 rfl 0 rfl ?_
  refine gfM_0_15 hX kf_12_124 dX12_tale_92 ?_
  refine v_aload_n hX dX12_tale_95 rfl 0 rfl ?_
  refine gfM_0_13 hX kf_12_118 dX12_tale_96 ?_
  refine v_icmp_ge (tgt := 110) hX dX12_tale_99 (by decide) h (fun h => ?_) (fun h => ?_)
  · exact v_sub hX [0] (by rfl) (wM_EachAddsALineModel_tale_110 hX hR  h)
  · refine v_aload_n hX dX12_tale_102 rfl 0 rfl ?_
    refine v_aload_n hX dX12_tale_103 rfl 0 rfl ?_
    refine gfM_0_15 hX kf_12_124 dX12_tale_104 ?_
    obtain ⟨z1, hz1, h⟩ := bsome h
    refine v_callVV (o := 0) hX (mM_EachAddsALineModel_fault hz1 l ad) kM_X12_fault kV_X12_fault km_12_138 (by decide) (fun _ => rfl) rfl rfl rfl (Nat.le_of_ble_eq_true rfl) (by decide) dX12_tale_107 ?_
    exact v_sub hX [0] (by rfl) (wM_EachAddsALineModel_tale_110 hX hR  h)
noncomputable def gM_EachAddsALineModel_tale_24 (N : Nat)  : Nat → vSt → Option (Int32 × vSt)
  | 0, _ => none
  | n + 1, s =>
    (fM_EachAddsALineModel_fine N s).bind fun p1 =>
    if p1.1 = 0 then
      gM_EachAddsALineModel_tale_91 N p1.2
    else
      if (p1.2.1 0 13) ≤ (p1.2.1 0 15) then
        gM_EachAddsALineModel_tale_91 N p1.2
      else
        if (p1.2.1 0 14) ≤ (p1.2.1 0 15) then
          gM_EachAddsALineModel_tale_91 N p1.2
        else
          (fM_EachAddsALineModel_here N p1.2).bind fun p2 =>
          (fM_EachAddsALineModel_in N p2.1 48 57 p2.2).bind fun p3 =>
          if p3.1 = 0 then
            (fM_EachAddsALineModel_fault N (p3.2.1 0 15) p3.2).bind fun z4 =>
            gM_EachAddsALineModel_tale_24 N n z4
          else
            (some (s1 p3.2 0 15 ((p3.2.1 0 15) + 1))).bind fun z5 =>
            gM_EachAddsALineModel_tale_24 N n z5
set_option maxRecDepth 4000 in
theorem wM_EachAddsALineModel_tale_24 {P : vP} {l : Launch} {ad : Nat → Nat} {N : Nat} {r : Int32} {t1 : vSt} (hX : vOK P l shM ad (vR 2 41) cX12_tale RX12 2) (hR : (∀ pc lv, narrow .int (.int r) = .int r → decode cX12_tale pc = .ok (.ireturn, 1) → P t1 pc lv [.int r]))  : ∀ (n : Nat)  (s : vSt), gM_EachAddsALineModel_tale_24 N n s = some (r, t1) → P s 24 [(0, .ref (ad 0))] [] := by
  intro n
  induction n with
  | zero => intro s h; cases h
  | succ n ih =>
    intro s h
    unfold gM_EachAddsALineModel_tale_24 at h
    refine v_aload_n hX dX12_tale_24 rfl 0 rfl ?_
    obtain ⟨p1, hp1, h⟩ := bsome h
    refine v_callVI (o := 0) hX (mM_EachAddsALineModel_fine hp1 l ad) kM_X12_fine kV_X12_fine km_12_130 (by decide) (fun _ => rfl) rfl rfl rfl (Nat.le_of_ble_eq_true rfl) (by decide) dX12_tale_25 ?_
    refine v_if_eq (tgt := 91) hX dX12_tale_28 (by decide) h (fun h => ?_) (fun h => ?_)
    · exact v_sub hX [0] (by rfl) (wM_EachAddsALineModel_tale_91 hX hR  h)
    · refine v_aload_n hX dX12_tale_31 rfl 0 rfl ?_
      refine gfM_0_15 hX kf_12_124 dX12_tale_32 ?_
      refine v_aload_n hX dX12_tale_35 rfl 0 rfl ?_
      refine gfM_0_13 hX kf_12_118 dX12_tale_36 ?_
      refine v_icmp_ge (tgt := 91) hX dX12_tale_39 (by decide) h (fun h => ?_) (fun h => ?_)
      · exact v_sub hX [0] (by rfl) (wM_EachAddsALineModel_tale_91 hX hR  h)
      · refine v_aload_n hX dX12_tale_42 rfl 0 rfl ?_
        refine gfM_0_15 hX kf_12_124 dX12_tale_43 ?_
        refine v_aload_n hX dX12_tale_46 rfl 0 rfl ?_
        refine gfM_0_14 hX kf_12_121 dX12_tale_47 ?_
        refine v_icmp_ge (tgt := 91) hX dX12_tale_50 (by decide) h (fun h => ?_) (fun h => ?_)
        · exact v_sub hX [0] (by rfl) (wM_EachAddsALineModel_tale_91 hX hR  h)
        · refine v_aload_n hX dX12_tale_53 rfl 0 rfl ?_
          obtain ⟨p2, hp2, h⟩ := bsome h
          refine v_callVI (o := 0) hX (mM_EachAddsALineModel_here hp2 l ad) kM_X12_here kV_X12_here km_12_134 (by decide) (fun _ => rfl) rfl rfl rfl (Nat.le_of_ble_eq_true rfl) (by decide) dX12_tale_54 ?_
          refine v_bipush (v := 48) hX dX12_tale_57 (by decide) ?_
          refine v_bipush (v := 57) hX dX12_tale_59 (by decide) ?_
          obtain ⟨p3, hp3, h⟩ := bsome h
          refine v_callSI hX (mM_EachAddsALineModel_in hp3 l ad) kM_X12_in kS_X12_in km_12_105 rfl rfl (Nat.le_of_ble_eq_true rfl) (by decide) dX12_tale_61 ?_
          refine v_if_eq (tgt := 80) hX dX12_tale_64 (by decide) h (fun h => ?_) (fun h => ?_)
          · refine v_aload_n hX dX12_tale_80 rfl 0 rfl ?_
            refine v_aload_n hX dX12_tale_81 rfl 0 rfl ?_
            refine gfM_0_15 hX kf_12_124 dX12_tale_82 ?_
            obtain ⟨z4, hz4, h⟩ := bsome h
            refine v_callVV (o := 0) hX (mM_EachAddsALineModel_fault hz4 l ad) kM_X12_fault kV_X12_fault km_12_138 (by decide) (fun _ => rfl) rfl rfl rfl (Nat.le_of_ble_eq_true rfl) (by decide) dX12_tale_85 ?_
            refine v_goto (tgt := 24) hX dX12_tale_88 (by decide) ?_
            exact v_sub hX [0] (by rfl) (ih _ h)
          · refine v_aload_n hX dX12_tale_67 rfl 0 rfl ?_
            refine v_dup hX dX12_tale_68 rfl ?_
            refine gfM_0_15 hX kf_12_124 dX12_tale_69 ?_
            refine v_iconst (v := 1) hX dX12_tale_72 (by decide) ?_
            refine v_iadd hX dX12_tale_73 ?_
            refine pfM_0_15 hX kf_12_124 dX12_tale_74 h (fun z5 h => ?_)
            refine v_goto (tgt := 24) hX dX12_tale_77 (by decide) ?_
            exact v_sub hX [0] (by rfl) (ih _ h)
noncomputable def gM_EachAddsALineModel_tale_0 (N : Nat)   (s : vSt) : Option (Int32 × vSt) :=
  (some (s1 s 0 11 0)).bind fun z1 =>
  (fM_EachAddsALineModel_begin_m_text N (z1.1 0 8) 12 z1).bind fun z2 =>
  (some (s1 z2 0 8 0)).bind fun z3 =>
  gM_EachAddsALineModel_tale_24 N N z3
set_option maxRecDepth 4000 in
theorem wM_EachAddsALineModel_tale_0 {P : vP} {l : Launch} {ad : Nat → Nat} {N : Nat} {r : Int32} {t1 : vSt} (hX : vOK P l shM ad (vR 2 41) cX12_tale RX12 2) (hR : (∀ pc lv, narrow .int (.int r) = .int r → decode cX12_tale pc = .ok (.ireturn, 1) → P t1 pc lv [.int r]))   {s : vSt} (h : gM_EachAddsALineModel_tale_0 N s = some (r, t1)) : P s 0 [(0, .ref (ad 0))] [] := by
  unfold gM_EachAddsALineModel_tale_0 at h
  refine v_aload_n hX dX12_tale_0 rfl 0 rfl ?_
  refine v_iconst (v := 0) hX dX12_tale_1 (by decide) ?_
  refine pfM_0_11 hX kf_12_96 dX12_tale_2 h (fun z1 h => ?_)
  refine v_aload_n hX dX12_tale_5 rfl 0 rfl ?_
  refine v_aload_n hX dX12_tale_6 rfl 0 rfl ?_
  refine gfM_0_7 hX kf_12_25 dX12_tale_7 ?_
  refine v_aload_n hX dX12_tale_10 rfl 0 rfl ?_
  refine gfM_0_8 hX kf_12_112 dX12_tale_11 ?_
  refine v_bipush (v := 12) hX dX12_tale_14 (by decide) ?_
  obtain ⟨z2, hz2, h⟩ := bsome h
  refine v_callVV (o := 0) hX (mM_EachAddsALineModel_begin_m_text hz2 l ad) kM_X12_begin kV_X12_begin km_12_142 (by decide) (fun _ => rfl) rfl rfl rfl (Nat.le_of_ble_eq_true rfl) (by decide) dX12_tale_16 ?_
  refine v_aload_n hX dX12_tale_19 rfl 0 rfl ?_
  refine v_iconst (v := 0) hX dX12_tale_20 (by decide) ?_
  refine pfM_0_8 hX kf_12_112 dX12_tale_21 h (fun z3 h => ?_)
  exact v_sub hX [0] (by rfl) (wM_EachAddsALineModel_tale_24 hX hR  N _ h)
noncomputable def fM_EachAddsALineModel_tale (N : Nat)  (s : vSt) : Option (Int32 × vSt) := gM_EachAddsALineModel_tale_0 N s
theorem mM_EachAddsALineModel_tale {N : Nat}  {s : vSt} {r : Int32} {t1 : vSt} (h : fM_EachAddsALineModel_tale N s = some (r, t1)) (l : Launch) (ad : Nat → Nat) : vMI l shM ad yX12_tale cX12_tale 2 .int 2 41 s [.ref (ad 0)] r t1 :=
  vMI_of (by decide +kernel) (Nat.le_of_ble_eq_true rfl) (fun P hX hR => wM_EachAddsALineModel_tale_0 hX hR h)
-- M_EachAddsALineModel_check
noncomputable def gM_EachAddsALineModel_check_50 (N : Nat)  : Nat → Int32 → Int32 → vSt → Option (Int32 × vSt)
  | 0, _, _, _ => none
  | n + 1, a1, a2, s =>
    (fM_EachAddsALineModel_linesOf N a1 s).bind fun p1 =>
    if p1.1 ≤ a2 then
      some ((-2), p1.2)
    else
      (fM_EachAddsALineModel_at N a1 a2 p1.2).bind fun p2 =>
      (ld p2.2 9 273 (p2.1 + 1)).bind fun v3 =>
      (fM_EachAddsALineModel_at N a1 (a2 - 1) p2.2).bind fun p4 =>
      (ld p4.2 9 273 (p4.1 + 1)).bind fun v5 =>
      (fM_EachAddsALineModel_at N a1 a2 p4.2).bind fun p6 =>
      (ld p6.2 9 273 (p6.1 + 2)).bind fun v7 =>
      (fM_EachAddsALineModel_lineBy_m_told N v3 v5 v7 0 a2 p6.2).bind fun p8 =>
      (ld p8.2 10 30 a2).bind fun v9 =>
      if p8.1 = v9 then
        (some (a2 + 1 : Int32)).bind fun v10 =>
        gM_EachAddsALineModel_check_50 N n a1 v10 p8.2
      else
        some (a2, p8.2)
set_option maxRecDepth 4000 in
theorem wM_EachAddsALineModel_check_50 {P : vP} {l : Launch} {ad : Nat → Nat} {N : Nat} {r : Int32} {t1 : vSt} (hX : vOK P l shM ad (vR 197 4585) cX12_check RX12 3) (hR : (∀ pc lv, narrow .int (.int r) = .int r → decode cX12_check pc = .ok (.ireturn, 1) → P t1 pc lv [.int r]))  : ∀ (n : Nat) (a1 : Int32) (a2 : Int32) (s : vSt), gM_EachAddsALineModel_check_50 N n a1 a2 s = some (r, t1) → P s 50 [(0, .ref (ad 0)), (1, .int a1), (2, .int a2)] [] := by
  intro n
  induction n with
  | zero => intro a1 a2 s h; cases h
  | succ n ih =>
    intro a1 a2 s h
    unfold gM_EachAddsALineModel_check_50 at h
    refine v_iload_n hX dX12_check_50 rfl 2 rfl ?_
    refine v_aload_n hX dX12_check_51 rfl 0 rfl ?_
    refine v_iload_n hX dX12_check_52 rfl 1 rfl ?_
    obtain ⟨p1, hp1, h⟩ := bsome h
    refine v_callVI (o := 0) hX (mM_EachAddsALineModel_linesOf hp1 l ad) kM_X12_linesOf kV_X12_linesOf km_12_216 (by decide) (fun _ => rfl) rfl rfl rfl (Nat.le_of_ble_eq_true rfl) (by decide) dX12_check_53 ?_
    refine v_icmp_ge (tgt := 124) hX dX12_check_56 (by decide) h (fun h => ?_) (fun h => ?_)
    · refine v_bipush (v := (-2)) hX dX12_check_124 (by decide) ?_
      exact v_retI hR h dX12_check_126
    · refine v_aload_n hX dX12_check_59 rfl 0 rfl ?_
      refine v_aload_n hX dX12_check_60 rfl 0 rfl ?_
      refine gfM_0_27 hX kf_12_35 dX12_check_61 ?_
      refine v_iload_n hX dX12_check_64 rfl 1 rfl ?_
      refine v_iload_n hX dX12_check_65 rfl 2 rfl ?_
      obtain ⟨p2, hp2, h⟩ := bsome h
      refine v_callSI hX (mM_EachAddsALineModel_at hp2 l ad) kM_X12_at kS_X12_at km_12_219 rfl rfl (Nat.le_of_ble_eq_true rfl) (by decide) dX12_check_66 ?_
      refine v_iconst (v := 1) hX dX12_check_69 (by decide) ?_
      refine v_iadd hX dX12_check_70 ?_
      refine alM_9 hX dX12_check_71 h (fun v3 h => ?_)
      refine v_aload_n hX dX12_check_72 rfl 0 rfl ?_
      refine gfM_0_27 hX kf_12_35 dX12_check_73 ?_
      refine v_iload_n hX dX12_check_76 rfl 1 rfl ?_
      refine v_iload_n hX dX12_check_77 rfl 2 rfl ?_
      refine v_iconst (v := 1) hX dX12_check_78 (by decide) ?_
      refine v_isub hX dX12_check_79 ?_
      obtain ⟨p4, hp4, h⟩ := bsome h
      refine v_callSI hX (mM_EachAddsALineModel_at hp4 l ad) kM_X12_at kS_X12_at km_12_219 rfl rfl (Nat.le_of_ble_eq_true rfl) (by decide) dX12_check_80 ?_
      refine v_iconst (v := 1) hX dX12_check_83 (by decide) ?_
      refine v_iadd hX dX12_check_84 ?_
      refine alM_9 hX dX12_check_85 h (fun v5 h => ?_)
      refine v_aload_n hX dX12_check_86 rfl 0 rfl ?_
      refine gfM_0_27 hX kf_12_35 dX12_check_87 ?_
      refine v_iload_n hX dX12_check_90 rfl 1 rfl ?_
      refine v_iload_n hX dX12_check_91 rfl 2 rfl ?_
      obtain ⟨p6, hp6, h⟩ := bsome h
      refine v_callSI hX (mM_EachAddsALineModel_at hp6 l ad) kM_X12_at kS_X12_at km_12_219 rfl rfl (Nat.le_of_ble_eq_true rfl) (by decide) dX12_check_92 ?_
      refine v_iconst (v := 2) hX dX12_check_95 (by decide) ?_
      refine v_iadd hX dX12_check_96 ?_
      refine alM_9 hX dX12_check_97 h (fun v7 h => ?_)
      refine v_aload_n hX dX12_check_98 rfl 0 rfl ?_
      refine gfM_0_28 hX kf_12_38 dX12_check_99 ?_
      refine v_iconst (v := 0) hX dX12_check_102 (by decide) ?_
      refine v_iload_n hX dX12_check_103 rfl 2 rfl ?_
      obtain ⟨p8, hp8, h⟩ := bsome h
      refine v_callVI (o := 0) hX (mM_EachAddsALineModel_lineBy_m_told hp8 l ad) kM_X12_lineBy kV_X12_lineBy km_12_237 (by decide) (fun _ => rfl) rfl rfl rfl (Nat.le_of_ble_eq_true rfl) (by decide) dX12_check_104 ?_
      refine v_aload_n hX dX12_check_107 rfl 0 rfl ?_
      refine gfM_0_28 hX kf_12_38 dX12_check_108 ?_
      refine v_iload_n hX dX12_check_111 rfl 2 rfl ?_
      refine alM_10 hX dX12_check_112 h (fun v9 h => ?_)
      refine v_icmp_eq (tgt := 118) hX dX12_check_113 (by decide) h (fun h => ?_) (fun h => ?_)
      · refine v_iincN hX dX12_check_118 (j := 2) rfl (c := 1) (by decide) (by decide) h (fun v10 h => ?_)
        refine v_show (lv' := [(2, .int v10), (0, .ref (ad 0)), (1, .int a1)]) hX rfl ?_
        refine v_goto (tgt := 50) hX dX12_check_121 (by decide) ?_
        exact v_sub hX [1, 2, 0] (by rfl) (ih _ _ _ h)
      · refine v_iload_n hX dX12_check_116 rfl 2 rfl ?_
        exact v_retI hR h dX12_check_117
noncomputable def gM_EachAddsALineModel_check_17 (N : Nat)  : Nat → Int32 → Int32 → vSt → Option (Int32 × vSt)
  | 0, _, _, _ => none
  | n + 1, a1, a2, s =>
    (fM_EachAddsALineModel_linesOf N a1 s).bind fun p1 =>
    if p1.1 ≤ a2 then
      gM_EachAddsALineModel_check_50 N N a1 1 p1.2
    else
      (fM_EachAddsALineModel_at N a1 a2 p1.2).bind fun p2 =>
      (ld p2.2 9 273 p2.1).bind fun v3 =>
      (sto p2.2 10 30 a2 v3).bind fun z4 =>
      (some (a2 + 1 : Int32)).bind fun v5 =>
      gM_EachAddsALineModel_check_17 N n a1 v5 z4
set_option maxRecDepth 4000 in
theorem wM_EachAddsALineModel_check_17 {P : vP} {l : Launch} {ad : Nat → Nat} {N : Nat} {r : Int32} {t1 : vSt} (hX : vOK P l shM ad (vR 197 4585) cX12_check RX12 3) (hR : (∀ pc lv, narrow .int (.int r) = .int r → decode cX12_check pc = .ok (.ireturn, 1) → P t1 pc lv [.int r]))  : ∀ (n : Nat) (a1 : Int32) (a2 : Int32) (s : vSt), gM_EachAddsALineModel_check_17 N n a1 a2 s = some (r, t1) → P s 17 [(0, .ref (ad 0)), (1, .int a1), (2, .int a2)] [] := by
  intro n
  induction n with
  | zero => intro a1 a2 s h; cases h
  | succ n ih =>
    intro a1 a2 s h
    unfold gM_EachAddsALineModel_check_17 at h
    refine v_iload_n hX dX12_check_17 rfl 2 rfl ?_
    refine v_aload_n hX dX12_check_18 rfl 0 rfl ?_
    refine v_iload_n hX dX12_check_19 rfl 1 rfl ?_
    obtain ⟨p1, hp1, h⟩ := bsome h
    refine v_callVI (o := 0) hX (mM_EachAddsALineModel_linesOf hp1 l ad) kM_X12_linesOf kV_X12_linesOf km_12_216 (by decide) (fun _ => rfl) rfl rfl rfl (Nat.le_of_ble_eq_true rfl) (by decide) dX12_check_20 ?_
    refine v_icmp_ge (tgt := 48) hX dX12_check_23 (by decide) h (fun h => ?_) (fun h => ?_)
    · refine v_iconst (v := 1) hX dX12_check_48 (by decide) ?_
      refine v_istore_n (lv' := [(2, .int 1), (0, .ref (ad 0)), (1, .int a1)]) hX dX12_check_49 rfl (by decide) rfl ?_
      exact v_sub hX [1, 2, 0] (by rfl) (wM_EachAddsALineModel_check_50 hX hR  N _ _ _ h)
    · refine v_aload_n hX dX12_check_26 rfl 0 rfl ?_
      refine gfM_0_28 hX kf_12_38 dX12_check_27 ?_
      refine v_iload_n hX dX12_check_30 rfl 2 rfl ?_
      refine v_aload_n hX dX12_check_31 rfl 0 rfl ?_
      refine gfM_0_27 hX kf_12_35 dX12_check_32 ?_
      refine v_iload_n hX dX12_check_35 rfl 1 rfl ?_
      refine v_iload_n hX dX12_check_36 rfl 2 rfl ?_
      obtain ⟨p2, hp2, h⟩ := bsome h
      refine v_callSI hX (mM_EachAddsALineModel_at hp2 l ad) kM_X12_at kS_X12_at km_12_219 rfl rfl (Nat.le_of_ble_eq_true rfl) (by decide) dX12_check_37 ?_
      refine alM_9 hX dX12_check_40 h (fun v3 h => ?_)
      refine asM_10 hX dX12_check_41 h (fun z4 h => ?_)
      refine v_iincN hX dX12_check_42 (j := 2) rfl (c := 1) (by decide) (by decide) h (fun v5 h => ?_)
      refine v_show (lv' := [(2, .int v5), (0, .ref (ad 0)), (1, .int a1)]) hX rfl ?_
      refine v_goto (tgt := 17) hX dX12_check_45 (by decide) ?_
      exact v_sub hX [1, 2, 0] (by rfl) (ih _ _ _ h)
noncomputable def gM_EachAddsALineModel_check_0 (N : Nat)  (a1 : Int32) (s : vSt) : Option (Int32 × vSt) :=
  (some (s1 s 0 11 0)).bind fun z1 =>
  (fM_EachAddsALineModel_isLetter N a1 z1).bind fun p2 =>
  if p2.1 = 0 then
    some ((-1), p2.2)
  else
    gM_EachAddsALineModel_check_17 N N a1 0 p2.2
set_option maxRecDepth 4000 in
theorem wM_EachAddsALineModel_check_0 {P : vP} {l : Launch} {ad : Nat → Nat} {N : Nat} {r : Int32} {t1 : vSt} (hX : vOK P l shM ad (vR 197 4585) cX12_check RX12 3) (hR : (∀ pc lv, narrow .int (.int r) = .int r → decode cX12_check pc = .ok (.ireturn, 1) → P t1 pc lv [.int r]))  {a1 : Int32} {s : vSt} (h : gM_EachAddsALineModel_check_0 N a1 s = some (r, t1)) : P s 0 [(0, .ref (ad 0)), (1, .int a1)] [] := by
  unfold gM_EachAddsALineModel_check_0 at h
  refine v_aload_n hX dX12_check_0 rfl 0 rfl ?_
  refine v_iconst (v := 0) hX dX12_check_1 (by decide) ?_
  refine pfM_0_11 hX kf_12_96 dX12_check_2 h (fun z1 h => ?_)
  refine v_aload_n hX dX12_check_5 rfl 0 rfl ?_
  refine v_iload_n hX dX12_check_6 rfl 1 rfl ?_
  obtain ⟨p2, hp2, h⟩ := bsome h
  refine v_callVI (o := 0) hX (mM_EachAddsALineModel_isLetter hp2 l ad) kM_X12_isLetter kV_X12_isLetter km_12_241 (by decide) (fun _ => rfl) rfl rfl rfl (Nat.le_of_ble_eq_true rfl) (by decide) dX12_check_7 ?_
  refine v_if_ne (tgt := 15) hX dX12_check_10 (by decide) h (fun h => ?_) (fun h => ?_)
  · refine v_iconst (v := (-1)) hX dX12_check_13 (by decide) ?_
    exact v_retI hR h dX12_check_14
  · refine v_iconst (v := 0) hX dX12_check_15 (by decide) ?_
    refine v_istore_n (lv' := [(2, .int 0), (0, .ref (ad 0)), (1, .int a1)]) hX dX12_check_16 rfl (by decide) rfl ?_
    exact v_sub hX [1, 2, 0] (by rfl) (wM_EachAddsALineModel_check_17 hX hR  N _ _ _ h)
noncomputable def fM_EachAddsALineModel_check (N : Nat) (a1 : Int32) (s : vSt) : Option (Int32 × vSt) := gM_EachAddsALineModel_check_0 N a1 s
theorem mM_EachAddsALineModel_check {N : Nat} {a1 : Int32} {s : vSt} {r : Int32} {t1 : vSt} (h : fM_EachAddsALineModel_check N a1 s = some (r, t1)) (l : Launch) (ad : Nat → Nat) : vMI l shM ad yX12_check cX12_check 3 .int 197 4585 s [.ref (ad 0), .int a1] r t1 :=
  vMI_of (by decide +kernel) (Nat.le_of_ble_eq_true rfl) (fun P hX hR => wM_EachAddsALineModel_check_0 hX hR h)
-- M_EachAddsALineModel_copy
noncomputable def gM_EachAddsALineModel_copy_31 (N : Nat)  : Nat → Int32 → Int32 → vSt → Option (Int32 × vSt)
  | 0, _, _, _ => none
  | n + 1, a1, a2, s =>
    if (s.1 0 40) ≤ a2 then
      some (s.1 0 40, s)
    else
      (fM_EachAddsALineModel_at N a1 a2 s).bind fun p1 =>
      (ld p1.2 9 273 p1.1).bind fun v2 =>
      (sto p1.2 16 24 a2 v2).bind fun z3 =>
      (some (a2 + 1 : Int32)).bind fun v4 =>
      gM_EachAddsALineModel_copy_31 N n a1 v4 z3
set_option maxRecDepth 4000 in
theorem wM_EachAddsALineModel_copy_31 {P : vP} {l : Launch} {ad : Nat → Nat} {N : Nat} {r : Int32} {t1 : vSt} (hX : vOK P l shM ad (vR 2 43) cX12_copy RX12 3) (hR : (∀ pc lv, narrow .int (.int r) = .int r → decode cX12_copy pc = .ok (.ireturn, 1) → P t1 pc lv [.int r]))  : ∀ (n : Nat) (a1 : Int32) (a2 : Int32) (s : vSt), gM_EachAddsALineModel_copy_31 N n a1 a2 s = some (r, t1) → P s 31 [(0, .ref (ad 0)), (1, .int a1), (2, .int a2)] [] := by
  intro n
  induction n with
  | zero => intro a1 a2 s h; cases h
  | succ n ih =>
    intro a1 a2 s h
    unfold gM_EachAddsALineModel_copy_31 at h
    refine v_iload_n hX dX12_copy_31 rfl 2 rfl ?_
    refine v_aload_n hX dX12_copy_32 rfl 0 rfl ?_
    refine gfM_0_40 hX kf_12_314 dX12_copy_33 ?_
    refine v_icmp_ge (tgt := 61) hX dX12_copy_36 (by decide) h (fun h => ?_) (fun h => ?_)
    · refine v_aload_n hX dX12_copy_61 rfl 0 rfl ?_
      refine gfM_0_40 hX kf_12_314 dX12_copy_62 ?_
      exact v_retI hR h dX12_copy_65
    · refine v_aload_n hX dX12_copy_39 rfl 0 rfl ?_
      refine gfM_0_39 hX kf_12_68 dX12_copy_40 ?_
      refine v_iload_n hX dX12_copy_43 rfl 2 rfl ?_
      refine v_aload_n hX dX12_copy_44 rfl 0 rfl ?_
      refine gfM_0_27 hX kf_12_35 dX12_copy_45 ?_
      refine v_iload_n hX dX12_copy_48 rfl 1 rfl ?_
      refine v_iload_n hX dX12_copy_49 rfl 2 rfl ?_
      obtain ⟨p1, hp1, h⟩ := bsome h
      refine v_callSI hX (mM_EachAddsALineModel_at hp1 l ad) kM_X12_at kS_X12_at km_12_219 rfl rfl (Nat.le_of_ble_eq_true rfl) (by decide) dX12_copy_50 ?_
      refine alM_9 hX dX12_copy_53 h (fun v2 h => ?_)
      refine asM_16 hX dX12_copy_54 h (fun z3 h => ?_)
      refine v_iincN hX dX12_copy_55 (j := 2) rfl (c := 1) (by decide) (by decide) h (fun v4 h => ?_)
      refine v_show (lv' := [(2, .int v4), (0, .ref (ad 0)), (1, .int a1)]) hX rfl ?_
      refine v_goto (tgt := 31) hX dX12_copy_58 (by decide) ?_
      exact v_sub hX [1, 2, 0] (by rfl) (ih _ _ _ h)
noncomputable def gM_EachAddsALineModel_copy_0 (N : Nat)  (a1 : Int32) (s : vSt) : Option (Int32 × vSt) :=
  (some (s1 s 0 11 0)).bind fun z1 =>
  (fM_EachAddsALineModel_isLetter N a1 z1).bind fun p2 =>
  if p2.1 = 0 then
    some ((-1), p2.2)
  else
    (fM_EachAddsALineModel_linesOf N a1 p2.2).bind fun p3 =>
    (some (s1 p3.2 0 40 (if (12 : Int32) > p3.1 then p3.1 else (12 : Int32)))).bind fun z4 =>
    gM_EachAddsALineModel_copy_31 N N a1 0 z4
set_option maxRecDepth 4000 in
theorem wM_EachAddsALineModel_copy_0 {P : vP} {l : Launch} {ad : Nat → Nat} {N : Nat} {r : Int32} {t1 : vSt} (hX : vOK P l shM ad (vR 2 43) cX12_copy RX12 3) (hR : (∀ pc lv, narrow .int (.int r) = .int r → decode cX12_copy pc = .ok (.ireturn, 1) → P t1 pc lv [.int r]))  {a1 : Int32} {s : vSt} (h : gM_EachAddsALineModel_copy_0 N a1 s = some (r, t1)) : P s 0 [(0, .ref (ad 0)), (1, .int a1)] [] := by
  unfold gM_EachAddsALineModel_copy_0 at h
  refine v_aload_n hX dX12_copy_0 rfl 0 rfl ?_
  refine v_iconst (v := 0) hX dX12_copy_1 (by decide) ?_
  refine pfM_0_11 hX kf_12_96 dX12_copy_2 h (fun z1 h => ?_)
  refine v_aload_n hX dX12_copy_5 rfl 0 rfl ?_
  refine v_iload_n hX dX12_copy_6 rfl 1 rfl ?_
  obtain ⟨p2, hp2, h⟩ := bsome h
  refine v_callVI (o := 0) hX (mM_EachAddsALineModel_isLetter hp2 l ad) kM_X12_isLetter kV_X12_isLetter km_12_241 (by decide) (fun _ => rfl) rfl rfl rfl (Nat.le_of_ble_eq_true rfl) (by decide) dX12_copy_7 ?_
  refine v_if_ne (tgt := 15) hX dX12_copy_10 (by decide) h (fun h => ?_) (fun h => ?_)
  · refine v_iconst (v := (-1)) hX dX12_copy_13 (by decide) ?_
    exact v_retI hR h dX12_copy_14
  · refine v_aload_n hX dX12_copy_15 rfl 0 rfl ?_
    refine v_bipush (v := 12) hX dX12_copy_16 (by decide) ?_
    refine v_aload_n hX dX12_copy_18 rfl 0 rfl ?_
    refine v_iload_n hX dX12_copy_19 rfl 1 rfl ?_
    obtain ⟨p3, hp3, h⟩ := bsome h
    refine v_callVI (o := 0) hX (mM_EachAddsALineModel_linesOf hp3 l ad) kM_X12_linesOf kV_X12_linesOf km_12_216 (by decide) (fun _ => rfl) rfl rfl rfl (Nat.le_of_ble_eq_true rfl) (by decide) dX12_copy_20 ?_
    refine v_min hX km_12_207 kS_J9_min_7cf53 kI_Math kC_min (Nat.le_of_ble_eq_true rfl) (Nat.le_of_ble_eq_true rfl) dX12_copy_23 ?_
    refine pfM_0_40 hX kf_12_314 dX12_copy_26 h (fun z4 h => ?_)
    refine v_iconst (v := 0) hX dX12_copy_29 (by decide) ?_
    refine v_istore_n (lv' := [(2, .int 0), (0, .ref (ad 0)), (1, .int a1)]) hX dX12_copy_30 rfl (by decide) rfl ?_
    exact v_sub hX [1, 2, 0] (by rfl) (wM_EachAddsALineModel_copy_31 hX hR  N _ _ _ h)
noncomputable def fM_EachAddsALineModel_copy (N : Nat) (a1 : Int32) (s : vSt) : Option (Int32 × vSt) := gM_EachAddsALineModel_copy_0 N a1 s
theorem mM_EachAddsALineModel_copy {N : Nat} {a1 : Int32} {s : vSt} {r : Int32} {t1 : vSt} (h : fM_EachAddsALineModel_copy N a1 s = some (r, t1)) (l : Launch) (ad : Nat → Nat) : vMI l shM ad yX12_copy cX12_copy 3 .int 2 43 s [.ref (ad 0), .int a1] r t1 :=
  vMI_of (by decide +kernel) (Nat.le_of_ble_eq_true rfl) (fun P hX hR => wM_EachAddsALineModel_copy_0 hX hR h)
-- M_EachAddsALineModel_lineBy_m_tales
noncomputable def gM_EachAddsALineModel_lineBy_m_tales_119 (N : Nat)  (a7 : Int32) (s : vSt) : Option (Int32 × vSt) :=
  some (((a7 - a7 / 10 * 10) + 10) - ((a7 - a7 / 10 * 10) + 10) / 10 * 10, s)
set_option maxRecDepth 4000 in
theorem wM_EachAddsALineModel_lineBy_m_tales_119 {P : vP} {l : Launch} {ad : Nat → Nat} {N : Nat} {r : Int32} {t1 : vSt} (hX : vOK P l shM ad (vR 196 4557) cX12_lineBy RX12 9) (hR : (∀ pc lv, narrow .int (.int r) = .int r → decode cX12_lineBy pc = .ok (.ireturn, 1) → P t1 pc lv [.int r]))  {a7 : Int32} {s : vSt} (h : gM_EachAddsALineModel_lineBy_m_tales_119 N a7 s = some (r, t1)) : P s 119 [(7, .int a7)] [] := by
  unfold gM_EachAddsALineModel_lineBy_m_tales_119 at h
  refine v_iload hX dX12_lineBy_119 0 rfl ?_
  refine v_bipush (v := 10) hX dX12_lineBy_121 (by decide) ?_
  refine v_irem hX dX12_lineBy_123 (by decide) ?_
  refine v_bipush (v := 10) hX dX12_lineBy_124 (by decide) ?_
  refine v_iadd hX dX12_lineBy_126 ?_
  refine v_bipush (v := 10) hX dX12_lineBy_127 (by decide) ?_
  refine v_irem hX dX12_lineBy_129 (by decide) ?_
  exact v_retI hR h dX12_lineBy_130
noncomputable def gM_EachAddsALineModel_lineBy_m_tales_63 (N : Nat)  : Nat → Int32 → Int32 → Int32 → vSt → Option (Int32 × vSt)
  | 0, _, _, _, _ => none
  | n + 1, a5, a6, a8, s =>
    if a6 ≤ a8 then
      (some (s1 s 0 19 1)).bind fun z1 =>
      (fM_EachAddsALineModel_begin_m_rule N (z1.1 0 18) 40 z1).bind fun z2 =>
      (fM_EachAddsALineModel_held N (fM_EachAddsALineModel_thing N 48) 0 z2).bind fun p3 =>
      gM_EachAddsALineModel_lineBy_m_tales_119 N p3.1 p3.2
    else
      (ld s 16 24 (a5 + a8)).bind fun v4 =>
      (some (s1 s 0 26 ((s.1 0 26) + v4))).bind fun z5 =>
      (some (a8 + 1 : Int32)).bind fun v6 =>
      gM_EachAddsALineModel_lineBy_m_tales_63 N n a5 a6 v6 z5
set_option maxRecDepth 4000 in
theorem wM_EachAddsALineModel_lineBy_m_tales_63 {P : vP} {l : Launch} {ad : Nat → Nat} {N : Nat} {r : Int32} {t1 : vSt} (hX : vOK P l shM ad (vR 196 4557) cX12_lineBy RX12 9) (hR : (∀ pc lv, narrow .int (.int r) = .int r → decode cX12_lineBy pc = .ok (.ireturn, 1) → P t1 pc lv [.int r]))  : ∀ (n : Nat) (a5 : Int32) (a6 : Int32) (a8 : Int32) (s : vSt), gM_EachAddsALineModel_lineBy_m_tales_63 N n a5 a6 a8 s = some (r, t1) → P s 63 [(0, .ref (ad 0)), (4, .ref (ad 16)), (5, .int a5), (6, .int a6), (8, .int a8)] [] := by
  intro n
  induction n with
  | zero => intro a5 a6 a8 s h; cases h
  | succ n ih =>
    intro a5 a6 a8 s h
    unfold gM_EachAddsALineModel_lineBy_m_tales_63 at h
    refine v_iload hX dX12_lineBy_63 4 rfl ?_
    refine v_iload hX dX12_lineBy_65 3 rfl ?_
    refine v_icmp_ge (tgt := 93) hX dX12_lineBy_67 (by decide) h (fun h => ?_) (fun h => ?_)
    · refine v_aload_n hX dX12_lineBy_93 rfl 0 rfl ?_
      refine v_iconst (v := 1) hX dX12_lineBy_94 (by decide) ?_
      refine pfM_0_19 hX (Or.inr rfl) kf_12_169 dX12_lineBy_95 h (fun z1 h => ?_)
      refine v_aload_n hX dX12_lineBy_98 rfl 0 rfl ?_
      refine v_aload_n hX dX12_lineBy_99 rfl 0 rfl ?_
      refine gfM_0_17 hX kf_12_32 dX12_lineBy_100 ?_
      refine v_aload_n hX dX12_lineBy_103 rfl 0 rfl ?_
      refine gfM_0_18 hX kf_12_194 dX12_lineBy_104 ?_
      refine v_bipush (v := 40) hX dX12_lineBy_107 (by decide) ?_
      obtain ⟨z2, hz2, h⟩ := bsome h
      refine v_callVV (o := 0) hX (mM_EachAddsALineModel_begin_m_rule hz2 l ad) kM_X12_begin kV_X12_begin km_12_142 (by decide) (fun _ => rfl) rfl rfl rfl (Nat.le_of_ble_eq_true rfl) (by decide) dX12_lineBy_109 ?_
      refine v_aload_n hX dX12_lineBy_112 rfl 0 rfl ?_
      refine v_iconst (v := 0) hX dX12_lineBy_113 (by decide) ?_
      obtain ⟨p3, hp3, h⟩ := bsome h
      refine v_callVI (o := 0) hX (mM_EachAddsALineModel_held (fun _ _ _ _ z => mM_EachAddsALineModel_thing 48 z l ad) hp3) kM_X12_held kV_X12_held km_12_166 (by decide) (fun _ => rfl) rfl rfl rfl (Nat.le_of_ble_eq_true rfl) (by decide) dX12_lineBy_114 ?_
      refine v_istore (lv' := [(7, .int p3.1), (0, .ref (ad 0)), (4, .ref (ad 16)), (5, .int a5), (6, .int a6), (8, .int a8)]) hX dX12_lineBy_117 (by decide) rfl ?_
      exact v_sub hX [0] (by rfl) (wM_EachAddsALineModel_lineBy_m_tales_119 hX hR  h)
    · refine v_aload_n hX dX12_lineBy_70 rfl 0 rfl ?_
      refine v_dup hX dX12_lineBy_71 rfl ?_
      refine gfM_0_26 hX kf_12_191 dX12_lineBy_72 ?_
      refine v_aload hX dX12_lineBy_75 1 rfl ?_
      refine v_iload hX dX12_lineBy_77 2 rfl ?_
      refine v_iload hX dX12_lineBy_79 4 rfl ?_
      refine v_iadd hX dX12_lineBy_81 ?_
      refine alM_16 hX dX12_lineBy_82 h (fun v4 h => ?_)
      refine v_iadd hX dX12_lineBy_83 ?_
      refine pfM_0_26 hX kf_12_191 dX12_lineBy_84 h (fun z5 h => ?_)
      refine v_iincN hX dX12_lineBy_87 (j := 4) rfl (c := 1) (by decide) (by decide) h (fun v6 h => ?_)
      refine v_show (lv' := [(8, .int v6), (0, .ref (ad 0)), (4, .ref (ad 16)), (5, .int a5), (6, .int a6)]) hX rfl ?_
      refine v_goto (tgt := 63) hX dX12_lineBy_90 (by decide) ?_
      exact v_sub hX [1, 2, 3, 4, 0] (by rfl) (ih _ _ _ _ h)
noncomputable def gM_EachAddsALineModel_lineBy_m_tales_0 (N : Nat)  (a1 : Int32) (a2 : Int32) (a3 : Int32) (a5 : Int32) (a6 : Int32) (s : vSt) : Option (Int32 × vSt) :=
  if (s.1 0 18) ≤ 0 then
    gM_EachAddsALineModel_lineBy_m_tales_119 N a6 s
  else
    (some (s1 s 0 20 a1)).bind fun z1 =>
    (some (s1 z1 0 21 a2)).bind fun z2 =>
    (some (s1 z2 0 22 a3)).bind fun z3 =>
    (some (s1 z3 0 23 a6)).bind fun z4 =>
    (ld z4 16 24 a5).bind fun v5 =>
    (some (s1 z4 0 24 v5)).bind fun z6 =>
    (ld z6 16 24 ((a5 + a6) - 1)).bind fun v7 =>
    (some (s1 z6 0 25 v7)).bind fun z8 =>
    (some (s1 z8 0 26 0)).bind fun z9 =>
    gM_EachAddsALineModel_lineBy_m_tales_63 N N a5 a6 0 z9
set_option maxRecDepth 4000 in
theorem wM_EachAddsALineModel_lineBy_m_tales_0 {P : vP} {l : Launch} {ad : Nat → Nat} {N : Nat} {r : Int32} {t1 : vSt} (hX : vOK P l shM ad (vR 196 4557) cX12_lineBy RX12 9) (hR : (∀ pc lv, narrow .int (.int r) = .int r → decode cX12_lineBy pc = .ok (.ireturn, 1) → P t1 pc lv [.int r]))  {a1 : Int32} {a2 : Int32} {a3 : Int32} {a5 : Int32} {a6 : Int32} {s : vSt} (h : gM_EachAddsALineModel_lineBy_m_tales_0 N a1 a2 a3 a5 a6 s = some (r, t1)) : P s 0 [(0, .ref (ad 0)), (1, .int a1), (2, .int a2), (3, .int a3), (4, .ref (ad 16)), (5, .int a5), (6, .int a6)] [] := by
  unfold gM_EachAddsALineModel_lineBy_m_tales_0 at h
  refine v_iload hX dX12_lineBy_0 6 rfl ?_
  refine v_istore (lv' := [(7, .int a6), (0, .ref (ad 0)), (1, .int a1), (2, .int a2), (3, .int a3), (4, .ref (ad 16)), (5, .int a5), (6, .int a6)]) hX dX12_lineBy_2 (by decide) rfl ?_
  refine v_aload_n hX dX12_lineBy_4 rfl 1 rfl ?_
  refine gfM_0_18 hX kf_12_194 dX12_lineBy_5 ?_
  refine v_if_le (tgt := 119) hX dX12_lineBy_8 (by decide) h (fun h => ?_) (fun h => ?_)
  · exact v_sub hX [0] (by rfl) (wM_EachAddsALineModel_lineBy_m_tales_119 hX hR  h)
  · refine v_aload_n hX dX12_lineBy_11 rfl 1 rfl ?_
    refine v_iload_n hX dX12_lineBy_12 rfl 2 rfl ?_
    refine pfM_0_20 hX kf_12_173 dX12_lineBy_13 h (fun z1 h => ?_)
    refine v_aload_n hX dX12_lineBy_16 rfl 1 rfl ?_
    refine v_iload_n hX dX12_lineBy_17 rfl 3 rfl ?_
    refine pfM_0_21 hX kf_12_176 dX12_lineBy_18 h (fun z2 h => ?_)
    refine v_aload_n hX dX12_lineBy_21 rfl 1 rfl ?_
    refine v_iload_n hX dX12_lineBy_22 rfl 4 rfl ?_
    refine pfM_0_22 hX kf_12_179 dX12_lineBy_23 h (fun z3 h => ?_)
    refine v_aload_n hX dX12_lineBy_26 rfl 1 rfl ?_
    refine v_iload hX dX12_lineBy_27 7 rfl ?_
    refine pfM_0_23 hX kf_12_182 dX12_lineBy_29 h (fun z4 h => ?_)
    refine v_aload_n hX dX12_lineBy_32 rfl 1 rfl ?_
    refine v_aload hX dX12_lineBy_33 5 rfl ?_
    refine v_iload hX dX12_lineBy_35 6 rfl ?_
    refine alM_16 hX dX12_lineBy_37 h (fun v5 h => ?_)
    refine pfM_0_24 hX kf_12_185 dX12_lineBy_38 h (fun z6 h => ?_)
    refine v_aload_n hX dX12_lineBy_41 rfl 1 rfl ?_
    refine v_aload hX dX12_lineBy_42 5 rfl ?_
    refine v_iload hX dX12_lineBy_44 6 rfl ?_
    refine v_iload hX dX12_lineBy_46 7 rfl ?_
    refine v_iadd hX dX12_lineBy_48 ?_
    refine v_iconst (v := 1) hX dX12_lineBy_49 (by decide) ?_
    refine v_isub hX dX12_lineBy_50 ?_
    refine alM_16 hX dX12_lineBy_51 h (fun v7 h => ?_)
    refine pfM_0_25 hX kf_12_188 dX12_lineBy_52 h (fun z8 h => ?_)
    refine v_aload_n hX dX12_lineBy_55 rfl 1 rfl ?_
    refine v_iconst (v := 0) hX dX12_lineBy_56 (by decide) ?_
    refine pfM_0_26 hX kf_12_191 dX12_lineBy_57 h (fun z9 h => ?_)
    refine v_iconst (v := 0) hX dX12_lineBy_60 (by decide) ?_
    refine v_istore (lv' := [(8, .int 0), (7, .int a6), (0, .ref (ad 0)), (1, .int a1), (2, .int a2), (3, .int a3), (4, .ref (ad 16)), (5, .int a5), (6, .int a6)]) hX dX12_lineBy_61 (by decide) rfl ?_
    exact v_sub hX [2, 6, 7, 8, 0] (by rfl) (wM_EachAddsALineModel_lineBy_m_tales_63 hX hR  N _ _ _ _ h)
noncomputable def fM_EachAddsALineModel_lineBy_m_tales (N : Nat) (a1 : Int32) (a2 : Int32) (a3 : Int32) (a5 : Int32) (a6 : Int32) (s : vSt) : Option (Int32 × vSt) := gM_EachAddsALineModel_lineBy_m_tales_0 N a1 a2 a3 a5 a6 s
theorem mM_EachAddsALineModel_lineBy_m_tales {N : Nat} {a1 : Int32} {a2 : Int32} {a3 : Int32} {a5 : Int32} {a6 : Int32} {s : vSt} {r : Int32} {t1 : vSt} (h : fM_EachAddsALineModel_lineBy_m_tales N a1 a2 a3 a5 a6 s = some (r, t1)) (l : Launch) (ad : Nat → Nat) : vMI l shM ad yX12_lineBy cX12_lineBy 9 .int 196 4557 s [.ref (ad 0), .int a1, .int a2, .int a3, .ref (ad 16), .int a5, .int a6] r t1 :=
  vMI_of (by decide +kernel) (Nat.le_of_ble_eq_true rfl) (fun P hX hR => wM_EachAddsALineModel_lineBy_m_tales_0 hX hR h)
-- M_EachAddsALineModel_isSo
noncomputable def gM_EachAddsALineModel_isSo_0 (N : Nat)  (a1 : Int32) (a2 : Int32) (a3 : Int32) (s : vSt) : Option (Int32 × vSt) :=
  (fM_EachAddsALineModel_getter N a1 s).bind fun p1 =>
  (fM_EachAddsALineModel_giver N a1 p1.2).bind fun p2 =>
  (ld p2.2 4 20 (a1 / 2)).bind fun v3 =>
  (fM_EachAddsALineModel_lineBy_m_tales N p1.1 p2.1 v3 a2 a3 p2.2).bind fun p4 =>
  (ld p4.2 16 24 (a2 + a3)).bind fun v5 =>
  if p4.1 = v5 then
    some (1, p4.2)
  else
    some (0, p4.2)
set_option maxRecDepth 4000 in
theorem wM_EachAddsALineModel_isSo_0 {P : vP} {l : Launch} {ad : Nat → Nat} {N : Nat} {r : Int32} {t1 : vSt} (hX : vOK P l shM ad (vR 197 4585) cX12_isSo RX12 4) (hR : (∀ pc lv, narrow .boolean (.int r) = .int r → decode cX12_isSo pc = .ok (.ireturn, 1) → P t1 pc lv [.int r]))  {a1 : Int32} {a2 : Int32} {a3 : Int32} {s : vSt} (h : gM_EachAddsALineModel_isSo_0 N a1 a2 a3 s = some (r, t1)) : P s 0 [(0, .ref (ad 0)), (1, .int a1), (2, .int a2), (3, .int a3)] [] := by
  unfold gM_EachAddsALineModel_isSo_0 at h
  refine v_aload_n hX dX12_isSo_0 rfl 0 rfl ?_
  refine v_aload_n hX dX12_isSo_1 rfl 0 rfl ?_
  refine v_iload_n hX dX12_isSo_2 rfl 1 rfl ?_
  obtain ⟨p1, hp1, h⟩ := bsome h
  refine v_callVI (o := 0) hX (mM_EachAddsALineModel_getter hp1 l ad) kM_X12_getter kV_X12_getter km_12_268 (by decide) (fun _ => rfl) rfl rfl rfl (Nat.le_of_ble_eq_true rfl) (by decide) dX12_isSo_3 ?_
  refine v_aload_n hX dX12_isSo_6 rfl 0 rfl ?_
  refine v_iload_n hX dX12_isSo_7 rfl 1 rfl ?_
  obtain ⟨p2, hp2, h⟩ := bsome h
  refine v_callVI (o := 0) hX (mM_EachAddsALineModel_giver hp2 l ad) kM_X12_giver kV_X12_giver km_12_265 (by decide) (fun _ => rfl) rfl rfl rfl (Nat.le_of_ble_eq_true rfl) (by decide) dX12_isSo_8 ?_
  refine v_aload_n hX dX12_isSo_11 rfl 0 rfl ?_
  refine gfM_0_5 hX kf_12_19 dX12_isSo_12 ?_
  refine v_iload_n hX dX12_isSo_15 rfl 1 rfl ?_
  refine v_iconst (v := 2) hX dX12_isSo_16 (by decide) ?_
  refine v_idiv hX dX12_isSo_17 (by decide) ?_
  refine alM_4 hX dX12_isSo_18 h (fun v3 h => ?_)
  refine v_aload_n hX dX12_isSo_19 rfl 0 rfl ?_
  refine gfM_0_39 hX kf_12_68 dX12_isSo_20 ?_
  refine v_iload_n hX dX12_isSo_23 rfl 2 rfl ?_
  refine v_iload_n hX dX12_isSo_24 rfl 3 rfl ?_
  obtain ⟨p4, hp4, h⟩ := bsome h
  refine v_callVI (o := 0) hX (mM_EachAddsALineModel_lineBy_m_tales hp4 l ad) kM_X12_lineBy kV_X12_lineBy km_12_237 (by decide) (fun _ => rfl) rfl rfl rfl (Nat.le_of_ble_eq_true rfl) (by decide) dX12_isSo_25 ?_
  refine v_aload_n hX dX12_isSo_28 rfl 0 rfl ?_
  refine gfM_0_39 hX kf_12_68 dX12_isSo_29 ?_
  refine v_iload_n hX dX12_isSo_32 rfl 2 rfl ?_
  refine v_iload_n hX dX12_isSo_33 rfl 3 rfl ?_
  refine v_iadd hX dX12_isSo_34 ?_
  refine alM_16 hX dX12_isSo_35 h (fun v5 h => ?_)
  refine v_icmp_ne (tgt := 43) hX dX12_isSo_36 (by decide) h (fun h => ?_) (fun h => ?_)
  · refine v_iconst (v := 1) hX dX12_isSo_39 (by decide) ?_
    refine v_goto (tgt := 44) hX dX12_isSo_40 (by decide) ?_
    exact v_retZ1 hR h dX12_isSo_44
  · refine v_iconst (v := 0) hX dX12_isSo_43 (by decide) ?_
    exact v_retZ0 hR h dX12_isSo_44
noncomputable def fM_EachAddsALineModel_isSo (N : Nat) (a1 : Int32) (a2 : Int32) (a3 : Int32) (s : vSt) : Option (Int32 × vSt) := gM_EachAddsALineModel_isSo_0 N a1 a2 a3 s
theorem mM_EachAddsALineModel_isSo {N : Nat} {a1 : Int32} {a2 : Int32} {a3 : Int32} {s : vSt} {r : Int32} {t1 : vSt} (h : fM_EachAddsALineModel_isSo N a1 a2 a3 s = some (r, t1)) (l : Launch) (ad : Nat → Nat) : vMI l shM ad yX12_isSo cX12_isSo 4 .boolean 197 4585 s [.ref (ad 0), .int a1, .int a2, .int a3] r t1 :=
  vMI_of (by decide +kernel) (Nat.le_of_ble_eq_true rfl) (fun P hX hR => wM_EachAddsALineModel_isSo_0 hX hR h)
-- M_EachAddsALineModel_findFits
noncomputable def gM_EachAddsALineModel_findFits_126 (N : Nat) (r78 : Int32 → Int32 → Int32 → Int32 → Int32 → Int64 → Int32 → vSt → Option (vSt)) (a1 : Int32) (a2 : Int32) (a3 : Int32) (a4 : Int32) (a5 : Int32) (a6 : Int64) (a8 : Int32) (s : vSt) : Option (vSt) :=
  (some (a8 + 1 : Int32)).bind fun v1 =>
  r78 a1 a2 a3 a4 a5 a6 v1 s
set_option maxRecDepth 4000 in
theorem wM_EachAddsALineModel_findFits_126 {P : vP} {l : Launch} {ad : Nat → Nat} {N : Nat} {r78 : Int32 → Int32 → Int32 → Int32 → Int32 → Int64 → Int32 → vSt → Option (vSt)} {t1 : vSt} (hX : vOK P l shM ad (vR 198 4608) cX12_findFits RX12 9) (hR : (∀ pc lv, decode cX12_findFits pc = .ok (.return_, 1) → P t1 pc lv [])) (H78 : ∀ (a1 : Int32) (a2 : Int32) (a3 : Int32) (a4 : Int32) (a5 : Int32) (a6 : Int64) (a8 : Int32) (s : vSt), r78 a1 a2 a3 a4 a5 a6 a8 s = some t1 → P s 78 [(0, .ref (ad 0)), (1, .int a1), (2, .int a2), (3, .int a3), (4, .int a4), (5, .int a5), (6, .long a6), (8, .int a8)] []) {a1 : Int32} {a2 : Int32} {a3 : Int32} {a4 : Int32} {a5 : Int32} {a6 : Int64} {a8 : Int32} {s : vSt} (h : gM_EachAddsALineModel_findFits_126 N r78 a1 a2 a3 a4 a5 a6 a8 s = some t1) : P s 126 [(0, .ref (ad 0)), (1, .int a1), (2, .int a2), (3, .int a3), (4, .int a4), (5, .int a5), (6, .long a6), (8, .int a8)] [] := by
  unfold gM_EachAddsALineModel_findFits_126 at h
  refine v_iincN hX dX12_findFits_126 (j := 7) rfl (c := 1) (by decide) (by decide) h (fun v1 h => ?_)
  refine v_show (lv' := [(8, .int v1), (0, .ref (ad 0)), (1, .int a1), (2, .int a2), (3, .int a3), (4, .int a4), (5, .int a5), (6, .long a6)]) hX rfl ?_
  refine v_goto (tgt := 78) hX dX12_findFits_129 (by decide) ?_
  exact v_sub hX [1, 2, 3, 4, 5, 6, 7, 0] (by rfl) (H78 _ _ _ _ _ _ _ _ h)
noncomputable def gM_EachAddsALineModel_findFits_132 (N : Nat) (r17 : Int32 → Int32 → Int32 → Int32 → Int32 → vSt → Option (vSt)) (a1 : Int32) (a2 : Int32) (a3 : Int32) (a4 : Int32) (a5 : Int32) (a6 : Int64) (s : vSt) : Option (vSt) :=
  (stoL s 17 520 (((40 : Int32) * a4) + a5) a6).bind fun z1 =>
  (some (a5 + 1 : Int32)).bind fun v2 =>
  r17 a1 a2 a3 a4 v2 z1
set_option maxRecDepth 4000 in
theorem wM_EachAddsALineModel_findFits_132 {P : vP} {l : Launch} {ad : Nat → Nat} {N : Nat} {r17 : Int32 → Int32 → Int32 → Int32 → Int32 → vSt → Option (vSt)} {t1 : vSt} (hX : vOK P l shM ad (vR 198 4608) cX12_findFits RX12 9) (hR : (∀ pc lv, decode cX12_findFits pc = .ok (.return_, 1) → P t1 pc lv [])) (H17 : ∀ (a1 : Int32) (a2 : Int32) (a3 : Int32) (a4 : Int32) (a5 : Int32) (s : vSt), r17 a1 a2 a3 a4 a5 s = some t1 → P s 17 [(0, .ref (ad 0)), (1, .int a1), (2, .int a2), (3, .int a3), (4, .int a4), (5, .int a5)] []) {a1 : Int32} {a2 : Int32} {a3 : Int32} {a4 : Int32} {a5 : Int32} {a6 : Int64} {s : vSt} (h : gM_EachAddsALineModel_findFits_132 N r17 a1 a2 a3 a4 a5 a6 s = some t1) : P s 132 [(0, .ref (ad 0)), (1, .int a1), (2, .int a2), (3, .int a3), (4, .int a4), (5, .int a5), (6, .long a6)] [] := by
  unfold gM_EachAddsALineModel_findFits_132 at h
  refine v_aload_n hX dX12_findFits_132 rfl 0 rfl ?_
  refine gfM_0_42 hX kf_12_71 dX12_findFits_133 ?_
  refine v_bipush (v := 40) hX dX12_findFits_136 (by decide) ?_
  refine v_iload hX dX12_findFits_138 4 rfl ?_
  refine v_imul hX dX12_findFits_140 ?_
  refine v_iload hX dX12_findFits_141 5 rfl ?_
  refine v_iadd hX dX12_findFits_143 ?_
  refine v_lload hX dX12_findFits_144 6 rfl ?_
  refine asM_17 hX dX12_findFits_146 h (fun z1 h => ?_)
  refine v_iincN hX dX12_findFits_147 (j := 5) rfl (c := 1) (by decide) (by decide) h (fun v2 h => ?_)
  refine v_show (lv' := [(5, .int v2), (0, .ref (ad 0)), (1, .int a1), (2, .int a2), (3, .int a3), (4, .int a4), (6, .long a6)]) hX rfl ?_
  refine v_goto (tgt := 17) hX dX12_findFits_150 (by decide) ?_
  exact v_sub hX [1, 2, 3, 4, 5, 0] (by rfl) (H17 _ _ _ _ _ _ h)
noncomputable def gM_EachAddsALineModel_findFits_78 (N : Nat) (r17 : Int32 → Int32 → Int32 → Int32 → Int32 → vSt → Option (vSt)) : Nat → Int32 → Int32 → Int32 → Int32 → Int32 → Int64 → Int32 → vSt → Option (vSt)
  | 0, _, _, _, _, _, _, _, _ => none
  | n + 1, a1, a2, a3, a4, a5, a6, a8, s =>
    if (s.1 0 30) ≤ a8 then
      gM_EachAddsALineModel_findFits_132 N r17 a1 a2 a3 a4 a5 a6 s
    else
      if (a2 - 1) ≤ a4 then
        gM_EachAddsALineModel_findFits_132 N r17 a1 a2 a3 a4 a5 a6 s
      else
        (fM_EachAddsALineModel_follows N a8 a5 s).bind fun p1 =>
        if p1.1 = 0 then
          gM_EachAddsALineModel_findFits_126 N (gM_EachAddsALineModel_findFits_78 N r17 n) a1 a2 a3 a4 a5 a6 a8 p1.2
        else
          (ldL p1.2 17 520 (((40 : Int32) * (a4 + 1)) + a8)).bind fun v2 =>
          (some (a6 + v2 : Int64)).bind fun v3 =>
          gM_EachAddsALineModel_findFits_126 N (gM_EachAddsALineModel_findFits_78 N r17 n) a1 a2 a3 a4 a5 v3 a8 p1.2
set_option maxRecDepth 4000 in
theorem wM_EachAddsALineModel_findFits_78 {P : vP} {l : Launch} {ad : Nat → Nat} {N : Nat} {r17 : Int32 → Int32 → Int32 → Int32 → Int32 → vSt → Option (vSt)} {t1 : vSt} (hX : vOK P l shM ad (vR 198 4608) cX12_findFits RX12 9) (hR : (∀ pc lv, decode cX12_findFits pc = .ok (.return_, 1) → P t1 pc lv [])) (H17 : ∀ (a1 : Int32) (a2 : Int32) (a3 : Int32) (a4 : Int32) (a5 : Int32) (s : vSt), r17 a1 a2 a3 a4 a5 s = some t1 → P s 17 [(0, .ref (ad 0)), (1, .int a1), (2, .int a2), (3, .int a3), (4, .int a4), (5, .int a5)] []) : ∀ (n : Nat) (a1 : Int32) (a2 : Int32) (a3 : Int32) (a4 : Int32) (a5 : Int32) (a6 : Int64) (a8 : Int32) (s : vSt), gM_EachAddsALineModel_findFits_78 N r17 n a1 a2 a3 a4 a5 a6 a8 s = some t1 → P s 78 [(0, .ref (ad 0)), (1, .int a1), (2, .int a2), (3, .int a3), (4, .int a4), (5, .int a5), (6, .long a6), (8, .int a8)] [] := by
  intro n
  induction n with
  | zero => intro a1 a2 a3 a4 a5 a6 a8 s h; cases h
  | succ n ih =>
    intro a1 a2 a3 a4 a5 a6 a8 s h
    unfold gM_EachAddsALineModel_findFits_78 at h
    refine v_iload hX dX12_findFits_78 7 rfl ?_
    refine v_aload_n hX dX12_findFits_80 rfl 0 rfl ?_
    refine gfM_0_30 hX kf_12_262 dX12_findFits_81 ?_
    refine v_icmp_ge (tgt := 132) hX dX12_findFits_84 (by decide) h (fun h => ?_) (fun h => ?_)
    · exact v_sub hX [0, 1, 2, 3, 4, 5, 6] (by rfl) (wM_EachAddsALineModel_findFits_132 hX hR H17 h)
    · refine v_iload hX dX12_findFits_87 4 rfl ?_
      refine v_iload_n hX dX12_findFits_89 rfl 2 rfl ?_
      refine v_iconst (v := 1) hX dX12_findFits_90 (by decide) ?_
      refine v_isub hX dX12_findFits_91 ?_
      refine v_icmp_ge (tgt := 132) hX dX12_findFits_92 (by decide) h (fun h => ?_) (fun h => ?_)
      · exact v_sub hX [0, 1, 2, 3, 4, 5, 6] (by rfl) (wM_EachAddsALineModel_findFits_132 hX hR H17 h)
      · refine v_aload_n hX dX12_findFits_95 rfl 0 rfl ?_
        refine v_iload hX dX12_findFits_96 7 rfl ?_
        refine v_iload hX dX12_findFits_98 5 rfl ?_
        obtain ⟨p1, hp1, h⟩ := bsome h
        refine v_callVI (o := 0) hX (mM_EachAddsALineModel_follows hp1 l ad) kM_X12_follows kV_X12_follows km_12_280 (by decide) (fun _ => rfl) rfl rfl rfl (Nat.le_of_ble_eq_true rfl) (by decide) dX12_findFits_100 ?_
        refine v_if_eq (tgt := 126) hX dX12_findFits_103 (by decide) h (fun h => ?_) (fun h => ?_)
        · exact v_sub hX [0, 1, 2, 3, 4, 5, 6, 7] (by rfl) (wM_EachAddsALineModel_findFits_126 hX hR ih h)
        · refine v_lload hX dX12_findFits_106 6 rfl ?_
          refine v_aload_n hX dX12_findFits_108 rfl 0 rfl ?_
          refine gfM_0_42 hX kf_12_71 dX12_findFits_109 ?_
          refine v_bipush (v := 40) hX dX12_findFits_112 (by decide) ?_
          refine v_iload hX dX12_findFits_114 4 rfl ?_
          refine v_iconst (v := 1) hX dX12_findFits_116 (by decide) ?_
          refine v_iadd hX dX12_findFits_117 ?_
          refine v_imul hX dX12_findFits_118 ?_
          refine v_iload hX dX12_findFits_119 7 rfl ?_
          refine v_iadd hX dX12_findFits_121 ?_
          refine alM_17 hX dX12_findFits_122 h (fun v2 h => ?_)
          refine v_ladd hX dX12_findFits_123 ?_
          refine v_nmL hX h (fun v3 h => ?_)
          refine v_lstore (lv' := [(6, .long v3), (0, .ref (ad 0)), (1, .int a1), (2, .int a2), (3, .int a3), (4, .int a4), (5, .int a5), (8, .int a8)]) hX dX12_findFits_124 (by decide) rfl ?_
          exact v_sub hX [1, 2, 3, 4, 5, 6, 0, 7] (by rfl) (wM_EachAddsALineModel_findFits_126 hX hR ih h)
noncomputable def gM_EachAddsALineModel_findFits_73 (N : Nat) (r17 : Int32 → Int32 → Int32 → Int32 → Int32 → vSt → Option (vSt)) (a1 : Int32) (a2 : Int32) (a3 : Int32) (a4 : Int32) (a5 : Int32) (k0 : Int64) (s : vSt) : Option (vSt) :=
  gM_EachAddsALineModel_findFits_78 N r17 N a1 a2 a3 a4 a5 k0 0 s
set_option maxRecDepth 4000 in
theorem wM_EachAddsALineModel_findFits_73 {P : vP} {l : Launch} {ad : Nat → Nat} {N : Nat} {r17 : Int32 → Int32 → Int32 → Int32 → Int32 → vSt → Option (vSt)} {t1 : vSt} (hX : vOK P l shM ad (vR 198 4608) cX12_findFits RX12 9) (hR : (∀ pc lv, decode cX12_findFits pc = .ok (.return_, 1) → P t1 pc lv [])) (H17 : ∀ (a1 : Int32) (a2 : Int32) (a3 : Int32) (a4 : Int32) (a5 : Int32) (s : vSt), r17 a1 a2 a3 a4 a5 s = some t1 → P s 17 [(0, .ref (ad 0)), (1, .int a1), (2, .int a2), (3, .int a3), (4, .int a4), (5, .int a5)] []) {a1 : Int32} {a2 : Int32} {a3 : Int32} {a4 : Int32} {a5 : Int32} {k0 : Int64} {s : vSt} (h : gM_EachAddsALineModel_findFits_73 N r17 a1 a2 a3 a4 a5 k0 s = some t1) : P s 73 [(0, .ref (ad 0)), (1, .int a1), (2, .int a2), (3, .int a3), (4, .int a4), (5, .int a5)] [.long k0] := by
  unfold gM_EachAddsALineModel_findFits_73 at h
  refine v_lstore (lv' := [(6, .long k0), (0, .ref (ad 0)), (1, .int a1), (2, .int a2), (3, .int a3), (4, .int a4), (5, .int a5)]) hX dX12_findFits_73 (by decide) rfl ?_
  refine v_iconst (v := 0) hX dX12_findFits_75 (by decide) ?_
  refine v_istore (lv' := [(8, .int 0), (6, .long k0), (0, .ref (ad 0)), (1, .int a1), (2, .int a2), (3, .int a3), (4, .int a4), (5, .int a5)]) hX dX12_findFits_76 (by decide) rfl ?_
  exact v_sub hX [2, 3, 4, 5, 6, 7, 1, 0] (by rfl) (wM_EachAddsALineModel_findFits_78 hX hR H17 N _ _ _ _ _ _ _ _ h)
noncomputable def gM_EachAddsALineModel_findFits_72 (N : Nat) (r17 : Int32 → Int32 → Int32 → Int32 → Int32 → vSt → Option (vSt)) (a1 : Int32) (a2 : Int32) (a3 : Int32) (a4 : Int32) (a5 : Int32) (s : vSt) : Option (vSt) :=
  gM_EachAddsALineModel_findFits_73 N r17 a1 a2 a3 a4 a5 0 s
set_option maxRecDepth 4000 in
theorem wM_EachAddsALineModel_findFits_72 {P : vP} {l : Launch} {ad : Nat → Nat} {N : Nat} {r17 : Int32 → Int32 → Int32 → Int32 → Int32 → vSt → Option (vSt)} {t1 : vSt} (hX : vOK P l shM ad (vR 198 4608) cX12_findFits RX12 9) (hR : (∀ pc lv, decode cX12_findFits pc = .ok (.return_, 1) → P t1 pc lv [])) (H17 : ∀ (a1 : Int32) (a2 : Int32) (a3 : Int32) (a4 : Int32) (a5 : Int32) (s : vSt), r17 a1 a2 a3 a4 a5 s = some t1 → P s 17 [(0, .ref (ad 0)), (1, .int a1), (2, .int a2), (3, .int a3), (4, .int a4), (5, .int a5)] []) {a1 : Int32} {a2 : Int32} {a3 : Int32} {a4 : Int32} {a5 : Int32} {s : vSt} (h : gM_EachAddsALineModel_findFits_72 N r17 a1 a2 a3 a4 a5 s = some t1) : P s 72 [(0, .ref (ad 0)), (1, .int a1), (2, .int a2), (3, .int a3), (4, .int a4), (5, .int a5)] [] := by
  unfold gM_EachAddsALineModel_findFits_72 at h
  refine v_lconst (v := 0) hX dX12_findFits_72 (by decide) ?_
  exact v_sub hX [0, 1, 2, 3, 4, 5] (by rfl) (wM_EachAddsALineModel_findFits_73 hX hR H17 h)
noncomputable def gM_EachAddsALineModel_findFits_17 (N : Nat) (r9 : Int32 → Int32 → Int32 → Int32 → vSt → Option (vSt)) : Nat → Int32 → Int32 → Int32 → Int32 → Int32 → vSt → Option (vSt)
  | 0, _, _, _, _, _, _ => none
  | n + 1, a1, a2, a3, a4, a5, s =>
    if (s.1 0 30) ≤ a5 then
      (some (a4 + (-1) : Int32)).bind fun v1 =>
      r9 a1 a2 a3 v1 s
    else
      (fM_EachAddsALineModel_isFree N a5 s).bind fun p2 =>
      if p2.1 = 0 then
        gM_EachAddsALineModel_findFits_132 N (gM_EachAddsALineModel_findFits_17 N r9 n) a1 a2 a3 a4 a5 0 p2.2
      else
        (fM_EachAddsALineModel_isSo N a5 a1 a4 p2.2).bind fun p3 =>
        if p3.1 = 0 then
          gM_EachAddsALineModel_findFits_132 N (gM_EachAddsALineModel_findFits_17 N r9 n) a1 a2 a3 a4 a5 0 p3.2
        else
          if a4 = (a2 - 1) then
            (fM_EachAddsALineModel_getter N a5 p3.2).bind fun p4 =>
            if p4.1 = a3 then
              gM_EachAddsALineModel_findFits_73 N (gM_EachAddsALineModel_findFits_17 N r9 n) a1 a2 a3 a4 a5 1 p4.2
            else
              gM_EachAddsALineModel_findFits_72 N (gM_EachAddsALineModel_findFits_17 N r9 n) a1 a2 a3 a4 a5 p4.2
          else
            gM_EachAddsALineModel_findFits_72 N (gM_EachAddsALineModel_findFits_17 N r9 n) a1 a2 a3 a4 a5 p3.2
set_option maxRecDepth 4000 in
theorem wM_EachAddsALineModel_findFits_17 {P : vP} {l : Launch} {ad : Nat → Nat} {N : Nat} {r9 : Int32 → Int32 → Int32 → Int32 → vSt → Option (vSt)} {t1 : vSt} (hX : vOK P l shM ad (vR 198 4608) cX12_findFits RX12 9) (hR : (∀ pc lv, decode cX12_findFits pc = .ok (.return_, 1) → P t1 pc lv [])) (H9 : ∀ (a1 : Int32) (a2 : Int32) (a3 : Int32) (a4 : Int32) (s : vSt), r9 a1 a2 a3 a4 s = some t1 → P s 9 [(0, .ref (ad 0)), (1, .int a1), (2, .int a2), (3, .int a3), (4, .int a4)] []) : ∀ (n : Nat) (a1 : Int32) (a2 : Int32) (a3 : Int32) (a4 : Int32) (a5 : Int32) (s : vSt), gM_EachAddsALineModel_findFits_17 N r9 n a1 a2 a3 a4 a5 s = some t1 → P s 17 [(0, .ref (ad 0)), (1, .int a1), (2, .int a2), (3, .int a3), (4, .int a4), (5, .int a5)] [] := by
  intro n
  induction n with
  | zero => intro a1 a2 a3 a4 a5 s h; cases h
  | succ n ih =>
    intro a1 a2 a3 a4 a5 s h
    unfold gM_EachAddsALineModel_findFits_17 at h
    refine v_iload hX dX12_findFits_17 5 rfl ?_
    refine v_aload_n hX dX12_findFits_19 rfl 0 rfl ?_
    refine gfM_0_30 hX kf_12_262 dX12_findFits_20 ?_
    refine v_icmp_ge (tgt := 153) hX dX12_findFits_23 (by decide) h (fun h => ?_) (fun h => ?_)
    · refine v_iincN hX dX12_findFits_153 (j := 4) rfl (c := (-1)) (by decide) (by decide) h (fun v1 h => ?_)
      refine v_show (lv' := [(4, .int v1), (0, .ref (ad 0)), (1, .int a1), (2, .int a2), (3, .int a3), (5, .int a5)]) hX rfl ?_
      refine v_goto (tgt := 9) hX dX12_findFits_156 (by decide) ?_
      exact v_sub hX [1, 2, 3, 4, 0] (by rfl) (H9 _ _ _ _ _ h)
    · refine v_lconst (v := 0) hX dX12_findFits_26 (by decide) ?_
      refine v_lstore (lv' := [(6, .long 0), (0, .ref (ad 0)), (1, .int a1), (2, .int a2), (3, .int a3), (4, .int a4), (5, .int a5)]) hX dX12_findFits_27 (by decide) rfl ?_
      refine v_aload_n hX dX12_findFits_29 rfl 1 rfl ?_
      refine v_iload hX dX12_findFits_30 6 rfl ?_
      obtain ⟨p2, hp2, h⟩ := bsome h
      refine v_callVI (o := 0) hX (mM_EachAddsALineModel_isFree hp2 l ad) kM_X12_isFree kV_X12_isFree km_12_305 (by decide) (fun _ => rfl) rfl rfl rfl (Nat.le_of_ble_eq_true rfl) (by decide) dX12_findFits_32 ?_
      refine v_if_eq (tgt := 132) hX dX12_findFits_35 (by decide) h (fun h => ?_) (fun h => ?_)
      · exact v_sub hX [1, 2, 3, 4, 5, 6, 0] (by rfl) (wM_EachAddsALineModel_findFits_132 hX hR ih h)
      · refine v_aload_n hX dX12_findFits_38 rfl 1 rfl ?_
        refine v_iload hX dX12_findFits_39 6 rfl ?_
        refine v_iload_n hX dX12_findFits_41 rfl 2 rfl ?_
        refine v_iload hX dX12_findFits_42 5 rfl ?_
        obtain ⟨p3, hp3, h⟩ := bsome h
        refine v_callVI (o := 0) hX (mM_EachAddsALineModel_isSo hp3 l ad) kM_X12_isSo kV_X12_isSo km_12_317 (by decide) (fun _ => rfl) rfl rfl rfl (Nat.le_of_ble_eq_true rfl) (by decide) dX12_findFits_44 ?_
        refine v_if_eq (tgt := 132) hX dX12_findFits_47 (by decide) h (fun h => ?_) (fun h => ?_)
        · exact v_sub hX [1, 2, 3, 4, 5, 6, 0] (by rfl) (wM_EachAddsALineModel_findFits_132 hX hR ih h)
        · refine v_iload hX dX12_findFits_50 5 rfl ?_
          refine v_iload_n hX dX12_findFits_52 rfl 3 rfl ?_
          refine v_iconst (v := 1) hX dX12_findFits_53 (by decide) ?_
          refine v_isub hX dX12_findFits_54 ?_
          refine v_icmp_ne (tgt := 72) hX dX12_findFits_55 (by decide) h (fun h => ?_) (fun h => ?_)
          · refine v_aload_n hX dX12_findFits_58 rfl 1 rfl ?_
            refine v_iload hX dX12_findFits_59 6 rfl ?_
            obtain ⟨p4, hp4, h⟩ := bsome h
            refine v_callVI (o := 0) hX (mM_EachAddsALineModel_getter hp4 l ad) kM_X12_getter kV_X12_getter km_12_268 (by decide) (fun _ => rfl) rfl rfl rfl (Nat.le_of_ble_eq_true rfl) (by decide) dX12_findFits_61 ?_
            refine v_iload_n hX dX12_findFits_64 rfl 4 rfl ?_
            refine v_icmp_ne (tgt := 72) hX dX12_findFits_65 (by decide) h (fun h => ?_) (fun h => ?_)
            · refine v_lconst (v := 1) hX dX12_findFits_68 (by decide) ?_
              refine v_goto (tgt := 73) hX dX12_findFits_69 (by decide) ?_
              exact v_sub hX [1, 2, 3, 4, 5, 6] (by rfl) (wM_EachAddsALineModel_findFits_73 hX hR ih h)
            · exact v_sub hX [1, 2, 3, 4, 5, 6] (by rfl) (wM_EachAddsALineModel_findFits_72 hX hR ih h)
          · exact v_sub hX [1, 2, 3, 4, 5, 6] (by rfl) (wM_EachAddsALineModel_findFits_72 hX hR ih h)
noncomputable def gM_EachAddsALineModel_findFits_9 (N : Nat)  : Nat → Int32 → Int32 → Int32 → Int32 → vSt → Option (vSt)
  | 0, _, _, _, _, _ => none
  | n + 1, a1, a2, a3, a4, s =>
    if a4 ≤ 0 then
      some s
    else
      gM_EachAddsALineModel_findFits_17 N (gM_EachAddsALineModel_findFits_9 N n) N a1 a2 a3 a4 0 s
set_option maxRecDepth 4000 in
theorem wM_EachAddsALineModel_findFits_9 {P : vP} {l : Launch} {ad : Nat → Nat} {N : Nat} {t1 : vSt} (hX : vOK P l shM ad (vR 198 4608) cX12_findFits RX12 9) (hR : (∀ pc lv, decode cX12_findFits pc = .ok (.return_, 1) → P t1 pc lv []))  : ∀ (n : Nat) (a1 : Int32) (a2 : Int32) (a3 : Int32) (a4 : Int32) (s : vSt), gM_EachAddsALineModel_findFits_9 N n a1 a2 a3 a4 s = some t1 → P s 9 [(0, .ref (ad 0)), (1, .int a1), (2, .int a2), (3, .int a3), (4, .int a4)] [] := by
  intro n
  induction n with
  | zero => intro a1 a2 a3 a4 s h; cases h
  | succ n ih =>
    intro a1 a2 a3 a4 s h
    unfold gM_EachAddsALineModel_findFits_9 at h
    refine v_iload hX dX12_findFits_9 4 rfl ?_
    refine v_if_le (tgt := 159) hX dX12_findFits_11 (by decide) h (fun h => ?_) (fun h => ?_)
    · exact v_retV hR h dX12_findFits_159
    · refine v_iconst (v := 0) hX dX12_findFits_14 (by decide) ?_
      refine v_istore (lv' := [(5, .int 0), (0, .ref (ad 0)), (1, .int a1), (2, .int a2), (3, .int a3), (4, .int a4)]) hX dX12_findFits_15 (by decide) rfl ?_
      exact v_sub hX [1, 2, 3, 4, 5, 0] (by rfl) (wM_EachAddsALineModel_findFits_17 hX hR ih N _ _ _ _ _ _ h)
noncomputable def gM_EachAddsALineModel_findFits_0 (N : Nat)  (a1 : Int32) (a2 : Int32) (a3 : Int32) (s : vSt) : Option (vSt) :=
  (fM_EachAddsALineModel_findOrder N s).bind fun z1 =>
  (some (a2 - 1 : Int32)).bind fun v2 =>
  gM_EachAddsALineModel_findFits_9 N N a1 a2 a3 v2 z1
set_option maxRecDepth 4000 in
theorem wM_EachAddsALineModel_findFits_0 {P : vP} {l : Launch} {ad : Nat → Nat} {N : Nat} {t1 : vSt} (hX : vOK P l shM ad (vR 198 4608) cX12_findFits RX12 9) (hR : (∀ pc lv, decode cX12_findFits pc = .ok (.return_, 1) → P t1 pc lv []))  {a1 : Int32} {a2 : Int32} {a3 : Int32} {s : vSt} (h : gM_EachAddsALineModel_findFits_0 N a1 a2 a3 s = some t1) : P s 0 [(0, .ref (ad 0)), (1, .int a1), (2, .int a2), (3, .int a3)] [] := by
  unfold gM_EachAddsALineModel_findFits_0 at h
  refine v_aload_n hX dX12_findFits_0 rfl 0 rfl ?_
  obtain ⟨z1, hz1, h⟩ := bsome h
  refine v_callVV (o := 0) hX (mM_EachAddsALineModel_findOrder hz1 l ad) kM_X12_findOrder kV_X12_findOrder km_12_271 (by decide) (fun _ => rfl) rfl rfl rfl (Nat.le_of_ble_eq_true rfl) (by decide) dX12_findFits_1 ?_
  refine v_iload_n hX dX12_findFits_4 rfl 2 rfl ?_
  refine v_iconst (v := 1) hX dX12_findFits_5 (by decide) ?_
  refine v_isub hX dX12_findFits_6 ?_
  refine v_nmI hX h (fun v2 h => ?_)
  refine v_istore (lv' := [(4, .int v2), (0, .ref (ad 0)), (1, .int a1), (2, .int a2), (3, .int a3)]) hX dX12_findFits_7 (by decide) rfl ?_
  exact v_sub hX [1, 2, 3, 4, 0] (by rfl) (wM_EachAddsALineModel_findFits_9 hX hR  N _ _ _ _ _ h)
noncomputable def fM_EachAddsALineModel_findFits (N : Nat) (a1 : Int32) (a2 : Int32) (a3 : Int32) (s : vSt) : Option (vSt) := gM_EachAddsALineModel_findFits_0 N a1 a2 a3 s
theorem mM_EachAddsALineModel_findFits {N : Nat} {a1 : Int32} {a2 : Int32} {a3 : Int32} {s : vSt} {t1 : vSt} (h : fM_EachAddsALineModel_findFits N a1 a2 a3 s = some t1) (l : Launch) (ad : Nat → Nat) : vMV l shM ad yX12_findFits cX12_findFits 9 198 4608 s [.ref (ad 0), .int a1, .int a2, .int a3] t1 :=
  vMV_of (by decide +kernel) (Nat.le_of_ble_eq_true rfl) (fun P hX hR => wM_EachAddsALineModel_findFits_0 hX hR h)
