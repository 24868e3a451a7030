-- M_EachAddsALineModel_lay
noncomputable def gM_EachAddsALineModel_lay_7 (N : Nat)  : Nat → Int32 → vSt → Option (Int32 × vSt)
  | 0, _, _ => none
  | n + 1, a1, s =>
    if 12 ≤ a1 then
      (some (s1 s 0 41 (s.1 0 40))).bind fun z1 =>
      some (1, z1)
    else
      (ld s 16 24 a1).bind fun v2 =>
      (sto s 16 24 ((12 : Int32) + a1) v2).bind fun z3 =>
      (some (a1 + 1 : Int32)).bind fun v4 =>
      gM_EachAddsALineModel_lay_7 N n v4 z3
set_option maxRecDepth 4000 in
theorem wM_EachAddsALineModel_lay_7 {P : vP} {l : Launch} {ad : Nat → Nat} {N : Nat} {r : Int32} {t1 : vSt} (hX : vOK P l shM ad (vR 0 0) cX12_lay RX12 2) (hR : (∀ pc lv, narrow .boolean (.int r) = .int r → decode cX12_lay pc = .ok (.ireturn, 1) → P t1 pc lv [.int r]))  : ∀ (n : Nat) (a1 : Int32) (s : vSt), gM_EachAddsALineModel_lay_7 N n a1 s = some (r, t1) → P s 7 [(0, .ref (ad 0)), (1, .int a1)] [] := by
  intro n
  induction n with
  | zero => intro a1 s h; cases h
  | succ n ih =>
    intro a1 s h
    unfold gM_EachAddsALineModel_lay_7 at h
    refine v_iload_n hX dX12_lay_7 rfl 1 rfl ?_
    refine v_bipush (v := 12) hX dX12_lay_8 (by decide) ?_
    refine v_icmp_ge (tgt := 34) hX dX12_lay_10 (by decide) h (fun h => ?_) (fun h => ?_)
    · refine v_aload_n hX dX12_lay_34 rfl 0 rfl ?_
      refine v_aload_n hX dX12_lay_35 rfl 0 rfl ?_
      refine gfM_0_40 hX kf_12_314 dX12_lay_36 ?_
      refine pfM_0_41 hX kf_12_336 dX12_lay_39 h (fun z1 h => ?_)
      refine v_iconst (v := 1) hX dX12_lay_42 (by decide) ?_
      exact v_retZ1 hR h dX12_lay_43
    · refine v_aload_n hX dX12_lay_13 rfl 0 rfl ?_
      refine gfM_0_39 hX kf_12_68 dX12_lay_14 ?_
      refine v_bipush (v := 12) hX dX12_lay_17 (by decide) ?_
      refine v_iload_n hX dX12_lay_19 rfl 1 rfl ?_
      refine v_iadd hX dX12_lay_20 ?_
      refine v_aload_n hX dX12_lay_21 rfl 0 rfl ?_
      refine gfM_0_39 hX kf_12_68 dX12_lay_22 ?_
      refine v_iload_n hX dX12_lay_25 rfl 1 rfl ?_
      refine alM_16 hX dX12_lay_26 h (fun v2 h => ?_)
      refine asM_16 hX dX12_lay_27 h (fun z3 h => ?_)
      refine v_iincN hX dX12_lay_28 (j := 1) rfl (c := 1) (by decide) (by decide) h (fun v4 h => ?_)
      refine v_show (lv' := [(1, .int v4), (0, .ref (ad 0))]) hX rfl ?_
      refine v_goto (tgt := 7) hX dX12_lay_31 (by decide) ?_
      exact v_sub hX [1, 0] (by rfl) (ih _ _ h)
noncomputable def gM_EachAddsALineModel_lay_0 (N : Nat)   (s : vSt) : Option (Int32 × vSt) :=
  (some (s1 s 0 11 0)).bind fun z1 =>
  gM_EachAddsALineModel_lay_7 N N 0 z1
set_option maxRecDepth 4000 in
theorem wM_EachAddsALineModel_lay_0 {P : vP} {l : Launch} {ad : Nat → Nat} {N : Nat} {r : Int32} {t1 : vSt} (hX : vOK P l shM ad (vR 0 0) cX12_lay RX12 2) (hR : (∀ pc lv, narrow .boolean (.int r) = .int r → decode cX12_lay pc = .ok (.ireturn, 1) → P t1 pc lv [.int r]))   {s : vSt} (h : gM_EachAddsALineModel_lay_0 N s = some (r, t1)) : P s 0 [(0, .ref (ad 0))] [] := by
  unfold gM_EachAddsALineModel_lay_0 at h
  refine v_aload_n hX dX12_lay_0 rfl 0 rfl ?_
  refine v_iconst (v := 0) hX dX12_lay_1 (by decide) ?_
  refine pfM_0_11 hX kf_12_96 dX12_lay_2 h (fun z1 h => ?_)
  refine v_iconst (v := 0) hX dX12_lay_5 (by decide) ?_
  refine v_istore_n (lv' := [(1, .int 0), (0, .ref (ad 0))]) hX dX12_lay_6 rfl (by decide) rfl ?_
  exact v_sub hX [1, 0] (by rfl) (wM_EachAddsALineModel_lay_7 hX hR  N _ _ h)
noncomputable def fM_EachAddsALineModel_lay (N : Nat)  (s : vSt) : Option (Int32 × vSt) := gM_EachAddsALineModel_lay_0 N s
theorem mM_EachAddsALineModel_lay {N : Nat}  {s : vSt} {r : Int32} {t1 : vSt} (h : fM_EachAddsALineModel_lay N s = some (r, t1)) (l : Launch) (ad : Nat → Nat) : vMI l shM ad yX12_lay cX12_lay 2 .boolean 0 0 s [.ref (ad 0)] r t1 :=
  vMI_of (by decide +kernel) (Nat.le_of_ble_eq_true rfl) (fun P hX hR => wM_EachAddsALineModel_lay_0 hX hR h)
-- M_EachAddsALineModel_copies
noncomputable def gM_EachAddsALineModel_copies_143 (N : Nat) (r62 : Int32 → Int32 → Int32 → Int32 → Int32 → Int32 → vSt → Option (Int32 × vSt)) (a1 : Int32) (a2 : Int32) (a3 : Int32) (a4 : Int32) (a5 : Int32) (a6 : Int32) (s : vSt) : Option (Int32 × vSt) :=
  (some (a6 + 1 : Int32)).bind fun v1 =>
  r62 a1 a2 a3 a4 a5 v1 s
set_option maxRecDepth 4000 in
theorem wM_EachAddsALineModel_copies_143 {P : vP} {l : Launch} {ad : Nat → Nat} {N : Nat} {r62 : Int32 → Int32 → Int32 → Int32 → Int32 → Int32 → vSt → Option (Int32 × vSt)} {r : Int32} {t1 : vSt} (hX : vOK P l shM ad (vR 200 4664) cX12_copies RX12 7) (hR : (∀ pc lv, narrow .int (.int r) = .int r → decode cX12_copies pc = .ok (.ireturn, 1) → P t1 pc lv [.int r])) (H62 : ∀ (a1 : Int32) (a2 : Int32) (a3 : Int32) (a4 : Int32) (a5 : Int32) (a6 : Int32) (s : vSt), r62 a1 a2 a3 a4 a5 a6 s = some (r, t1) → P s 62 [(0, .ref (ad 0)), (1, .int a1), (2, .int a2), (3, .int a3), (4, .int a4), (5, .int a5), (6, .int a6)] []) {a1 : Int32} {a2 : Int32} {a3 : Int32} {a4 : Int32} {a5 : Int32} {a6 : Int32} {s : vSt} (h : gM_EachAddsALineModel_copies_143 N r62 a1 a2 a3 a4 a5 a6 s = some (r, t1)) : P s 143 [(0, .ref (ad 0)), (1, .int a1), (2, .int a2), (3, .int a3), (4, .int a4), (5, .int a5), (6, .int a6)] [] := by
  unfold gM_EachAddsALineModel_copies_143 at h
  refine v_iincN hX dX12_copies_143 (j := 6) rfl (c := 1) (by decide) (by decide) h (fun v1 h => ?_)
  refine v_show (lv' := [(6, .int v1), (0, .ref (ad 0)), (1, .int a1), (2, .int a2), (3, .int a3), (4, .int a4), (5, .int a5)]) hX rfl ?_
  refine v_goto (tgt := 62) hX dX12_copies_146 (by decide) ?_
  exact v_sub hX [1, 2, 3, 4, 5, 6, 0] (by rfl) (H62 _ _ _ _ _ _ _ h)
noncomputable def gM_EachAddsALineModel_copies_136 (N : Nat) (r62 : Int32 → Int32 → Int32 → Int32 → Int32 → Int32 → vSt → Option (Int32 × vSt)) (a1 : Int32) (a2 : Int32) (a3 : Int32) (a4 : Int32) (a6 : Int32) (s : vSt) : Option (Int32 × vSt) :=
  (some (a4 + 1 : Int32)).bind fun v1 =>
  gM_EachAddsALineModel_copies_143 N r62 a1 a2 a3 v1 a6 a6 s
set_option maxRecDepth 4000 in
theorem wM_EachAddsALineModel_copies_136 {P : vP} {l : Launch} {ad : Nat → Nat} {N : Nat} {r62 : Int32 → Int32 → Int32 → Int32 → Int32 → Int32 → vSt → Option (Int32 × vSt)} {r : Int32} {t1 : vSt} (hX : vOK P l shM ad (vR 200 4664) cX12_copies RX12 7) (hR : (∀ pc lv, narrow .int (.int r) = .int r → decode cX12_copies pc = .ok (.ireturn, 1) → P t1 pc lv [.int r])) (H62 : ∀ (a1 : Int32) (a2 : Int32) (a3 : Int32) (a4 : Int32) (a5 : Int32) (a6 : Int32) (s : vSt), r62 a1 a2 a3 a4 a5 a6 s = some (r, t1) → P s 62 [(0, .ref (ad 0)), (1, .int a1), (2, .int a2), (3, .int a3), (4, .int a4), (5, .int a5), (6, .int a6)] []) {a1 : Int32} {a2 : Int32} {a3 : Int32} {a4 : Int32} {a6 : Int32} {s : vSt} (h : gM_EachAddsALineModel_copies_136 N r62 a1 a2 a3 a4 a6 s = some (r, t1)) : P s 136 [(0, .ref (ad 0)), (1, .int a1), (2, .int a2), (3, .int a3), (4, .int a4), (6, .int a6)] [] := by
  unfold gM_EachAddsALineModel_copies_136 at h
  refine v_iload hX dX12_copies_136 5 rfl ?_
  refine v_istore (lv' := [(5, .int a6), (0, .ref (ad 0)), (1, .int a1), (2, .int a2), (3, .int a3), (4, .int a4), (6, .int a6)]) hX dX12_copies_138 (by decide) rfl ?_
  refine v_iincN hX dX12_copies_140 (j := 5) rfl (c := 1) (by decide) (by decide) h (fun v1 h => ?_)
  refine v_show (lv' := [(4, .int v1), (5, .int a6), (0, .ref (ad 0)), (1, .int a1), (2, .int a2), (3, .int a3), (6, .int a6)]) hX rfl ?_
  exact v_sub hX [2, 3, 4, 5, 0, 1, 6] (by rfl) (wM_EachAddsALineModel_copies_143 hX hR H62 h)
noncomputable def gM_EachAddsALineModel_copies_149 (N : Nat)  (a4 : Int32) (a5 : Int32) (s : vSt) : Option (Int32 × vSt) :=
  if a4 ≤ 0 then
    some (a4, s)
  else
    (fM_EachAddsALineModel_tell N a5 s).bind fun z1 =>
    some (a4, z1)
set_option maxRecDepth 4000 in
theorem wM_EachAddsALineModel_copies_149 {P : vP} {l : Launch} {ad : Nat → Nat} {N : Nat} {r : Int32} {t1 : vSt} (hX : vOK P l shM ad (vR 200 4664) cX12_copies RX12 7) (hR : (∀ pc lv, narrow .int (.int r) = .int r → decode cX12_copies pc = .ok (.ireturn, 1) → P t1 pc lv [.int r]))  {a4 : Int32} {a5 : Int32} {s : vSt} (h : gM_EachAddsALineModel_copies_149 N a4 a5 s = some (r, t1)) : P s 149 [(0, .ref (ad 0)), (4, .int a4), (5, .int a5)] [] := by
  unfold gM_EachAddsALineModel_copies_149 at h
  refine v_iload hX dX12_copies_149 1 rfl ?_
  refine v_if_le (tgt := 160) hX dX12_copies_151 (by decide) h (fun h => ?_) (fun h => ?_)
  · refine v_iload hX dX12_copies_160 1 rfl ?_
    exact v_retI hR h dX12_copies_162
  · refine v_aload_n hX dX12_copies_154 rfl 0 rfl ?_
    refine v_iload hX dX12_copies_155 2 rfl ?_
    obtain ⟨z1, hz1, h⟩ := bsome h
    refine v_callVV (o := 0) hX (mM_EachAddsALineModel_tell hz1 l ad) kM_X12_tell kV_X12_tell km_12_250 (by decide) (fun _ => rfl) rfl rfl rfl (Nat.le_of_ble_eq_true rfl) (by decide) dX12_copies_157 ?_
    refine v_iload hX dX12_copies_160 1 rfl ?_
    exact v_retI hR h dX12_copies_162
noncomputable def gM_EachAddsALineModel_copies_62 (N : Nat)  : Nat → Int32 → Int32 → Int32 → Int32 → Int32 → Int32 → vSt → Option (Int32 × vSt)
  | 0, _, _, _, _, _, _, _ => none
  | n + 1, a1, a2, a3, a4, a5, a6, s =>
    if 99 < a6 then
      gM_EachAddsALineModel_copies_149 N a4 a5 s
    else
      (ld s 16 24 0).bind fun v1 =>
      (ld s 16 24 12).bind fun v2 =>
      if v1 = v2 then
        (fM_EachAddsALineModel_countFits N 0 (s.1 0 40) a1 a2 a6 s).bind fun p3 =>
        if (lg_cmp p3.1 0) = 0 then
          gM_EachAddsALineModel_copies_143 N (gM_EachAddsALineModel_copies_62 N n) a1 a2 a3 a4 a5 a6 p3.2
        else
          (fM_EachAddsALineModel_countFits N 12 (p3.2.1 0 41) a1 a3 a6 p3.2).bind fun p4 =>
          if (lg_cmp p4.1 0) = 0 then
            gM_EachAddsALineModel_copies_143 N (gM_EachAddsALineModel_copies_62 N n) a1 a2 a3 a4 a5 a6 p4.2
          else
            if a4 = 0 then
              (fM_EachAddsALineModel_tell N a6 p4.2).bind fun z5 =>
              gM_EachAddsALineModel_copies_136 N (gM_EachAddsALineModel_copies_62 N n) a1 a2 a3 a4 a6 z5
            else
              gM_EachAddsALineModel_copies_136 N (gM_EachAddsALineModel_copies_62 N n) a1 a2 a3 a4 a6 p4.2
      else
        gM_EachAddsALineModel_copies_149 N a4 a5 s
set_option maxRecDepth 4000 in
theorem wM_EachAddsALineModel_copies_62 {P : vP} {l : Launch} {ad : Nat → Nat} {N : Nat} {r : Int32} {t1 : vSt} (hX : vOK P l shM ad (vR 200 4664) cX12_copies RX12 7) (hR : (∀ pc lv, narrow .int (.int r) = .int r → decode cX12_copies pc = .ok (.ireturn, 1) → P t1 pc lv [.int r]))  : ∀ (n : Nat) (a1 : Int32) (a2 : Int32) (a3 : Int32) (a4 : Int32) (a5 : Int32) (a6 : Int32) (s : vSt), gM_EachAddsALineModel_copies_62 N n a1 a2 a3 a4 a5 a6 s = some (r, t1) → P s 62 [(0, .ref (ad 0)), (1, .int a1), (2, .int a2), (3, .int a3), (4, .int a4), (5, .int a5), (6, .int a6)] [] := by
  intro n
  induction n with
  | zero => intro a1 a2 a3 a4 a5 a6 s h; cases h
  | succ n ih =>
    intro a1 a2 a3 a4 a5 a6 s h
    unfold gM_EachAddsALineModel_copies_62 at h
    refine v_iload hX dX12_copies_62 6 rfl ?_
    refine v_bipush (v := 99) hX dX12_copies_64 (by decide) ?_
    refine v_icmp_gt (tgt := 149) hX dX12_copies_66 (by decide) h (fun h => ?_) (fun h => ?_)
    · exact v_sub hX [0, 4, 5] (by rfl) (wM_EachAddsALineModel_copies_149 hX hR  h)
    · refine v_aload_n hX dX12_copies_69 rfl 0 rfl ?_
      refine gfM_0_39 hX kf_12_68 dX12_copies_70 ?_
      refine v_iconst (v := 0) hX dX12_copies_73 (by decide) ?_
      refine alM_16 hX dX12_copies_74 h (fun v1 h => ?_)
      refine v_aload_n hX dX12_copies_75 rfl 0 rfl ?_
      refine gfM_0_39 hX kf_12_68 dX12_copies_76 ?_
      refine v_bipush (v := 12) hX dX12_copies_79 (by decide) ?_
      refine alM_16 hX dX12_copies_81 h (fun v2 h => ?_)
      refine v_icmp_ne (tgt := 149) hX dX12_copies_82 (by decide) h (fun h => ?_) (fun h => ?_)
      · refine v_aload_n hX dX12_copies_85 rfl 0 rfl ?_
        refine v_iconst (v := 0) hX dX12_copies_86 (by decide) ?_
        refine v_aload_n hX dX12_copies_87 rfl 0 rfl ?_
        refine gfM_0_40 hX kf_12_314 dX12_copies_88 ?_
        refine v_iload_n hX dX12_copies_91 rfl 1 rfl ?_
        refine v_iload_n hX dX12_copies_92 rfl 2 rfl ?_
        refine v_iload hX dX12_copies_93 6 rfl ?_
        obtain ⟨p3, hp3, h⟩ := bsome h
        refine v_callVL (o := 0) hX (mM_EachAddsALineModel_countFits hp3 l ad) kM_X12_countFits kV_X12_countFits km_12_326 (by decide) (fun _ => rfl) rfl rfl rfl (Nat.le_of_ble_eq_true rfl) (by decide) dX12_copies_95 ?_
        refine v_lconst (v := 0) hX dX12_copies_98 (by decide) ?_
        refine v_lcmp hX dX12_copies_99 ?_
        refine v_if_eq (tgt := 143) hX dX12_copies_100 (by decide) h (fun h => ?_) (fun h => ?_)
        · exact v_sub hX [0, 1, 2, 3, 4, 5, 6] (by rfl) (wM_EachAddsALineModel_copies_143 hX hR ih h)
        · refine v_aload_n hX dX12_copies_103 rfl 0 rfl ?_
          refine v_bipush (v := 12) hX dX12_copies_104 (by decide) ?_
          refine v_aload_n hX dX12_copies_106 rfl 0 rfl ?_
          refine gfM_0_41 hX kf_12_336 dX12_copies_107 ?_
          refine v_iload_n hX dX12_copies_110 rfl 1 rfl ?_
          refine v_iload_n hX dX12_copies_111 rfl 3 rfl ?_
          refine v_iload hX dX12_copies_112 6 rfl ?_
          obtain ⟨p4, hp4, h⟩ := bsome h
          refine v_callVL (o := 0) hX (mM_EachAddsALineModel_countFits hp4 l ad) kM_X12_countFits kV_X12_countFits km_12_326 (by decide) (fun _ => rfl) rfl rfl rfl (Nat.le_of_ble_eq_true rfl) (by decide) dX12_copies_114 ?_
          refine v_lconst (v := 0) hX dX12_copies_117 (by decide) ?_
          refine v_lcmp hX dX12_copies_118 ?_
          refine v_if_ne (tgt := 125) hX dX12_copies_119 (by decide) h (fun h => ?_) (fun h => ?_)
          · refine v_goto (tgt := 143) hX dX12_copies_122 (by decide) ?_
            exact v_sub hX [0, 1, 2, 3, 4, 5, 6] (by rfl) (wM_EachAddsALineModel_copies_143 hX hR ih h)
          · refine v_iload hX dX12_copies_125 4 rfl ?_
            refine v_if_ne (tgt := 136) hX dX12_copies_127 (by decide) h (fun h => ?_) (fun h => ?_)
            · refine v_aload_n hX dX12_copies_130 rfl 0 rfl ?_
              refine v_iload hX dX12_copies_131 6 rfl ?_
              obtain ⟨z5, hz5, h⟩ := bsome h
              refine v_callVV (o := 0) hX (mM_EachAddsALineModel_tell hz5 l ad) kM_X12_tell kV_X12_tell km_12_250 (by decide) (fun _ => rfl) rfl rfl rfl (Nat.le_of_ble_eq_true rfl) (by decide) dX12_copies_133 ?_
              exact v_sub hX [0, 1, 2, 3, 4, 6] (by rfl) (wM_EachAddsALineModel_copies_136 hX hR ih h)
            · exact v_sub hX [0, 1, 2, 3, 4, 6] (by rfl) (wM_EachAddsALineModel_copies_136 hX hR ih h)
      · exact v_sub hX [0, 4, 5] (by rfl) (wM_EachAddsALineModel_copies_149 hX hR  h)
noncomputable def gM_EachAddsALineModel_copies_0 (N : Nat)  (a1 : Int32) (a2 : Int32) (a3 : Int32) (s : vSt) : Option (Int32 × vSt) :=
  (some (s1 s 0 11 0)).bind fun z1 =>
  (fM_EachAddsALineModel_isOne N a1 z1).bind fun p2 =>
  if p2.1 = 0 then
    some ((-1), p2.2)
  else
    (fM_EachAddsALineModel_isOne N a2 p2.2).bind fun p3 =>
    if p3.1 = 0 then
      some ((-1), p3.2)
    else
      (fM_EachAddsALineModel_isOne N a3 p3.2).bind fun p4 =>
      if p4.1 = 0 then
        some ((-1), p4.2)
      else
        if (p4.2.1 0 40) = 0 then
          some ((-2), p4.2)
        else
          if (p4.2.1 0 41) = 0 then
            some ((-2), p4.2)
          else
            (some (s1 p4.2 0 10 0)).bind fun z5 =>
            (some ((-1) : Int32)).bind fun v6 =>
            gM_EachAddsALineModel_copies_62 N N a1 a2 a3 0 v6 0 z5
set_option maxRecDepth 4000 in
theorem wM_EachAddsALineModel_copies_0 {P : vP} {l : Launch} {ad : Nat → Nat} {N : Nat} {r : Int32} {t1 : vSt} (hX : vOK P l shM ad (vR 200 4664) cX12_copies RX12 7) (hR : (∀ pc lv, narrow .int (.int r) = .int r → decode cX12_copies pc = .ok (.ireturn, 1) → P t1 pc lv [.int r]))  {a1 : Int32} {a2 : Int32} {a3 : Int32} {s : vSt} (h : gM_EachAddsALineModel_copies_0 N a1 a2 a3 s = some (r, t1)) : P s 0 [(0, .ref (ad 0)), (1, .int a1), (2, .int a2), (3, .int a3)] [] := by
  unfold gM_EachAddsALineModel_copies_0 at h
  refine v_aload_n hX dX12_copies_0 rfl 0 rfl ?_
  refine v_iconst (v := 0) hX dX12_copies_1 (by decide) ?_
  refine pfM_0_11 hX kf_12_96 dX12_copies_2 h (fun z1 h => ?_)
  refine v_aload_n hX dX12_copies_5 rfl 0 rfl ?_
  refine v_iload_n hX dX12_copies_6 rfl 1 rfl ?_
  obtain ⟨p2, hp2, h⟩ := bsome h
  refine v_callVI (o := 0) hX (mM_EachAddsALineModel_isOne hp2 l ad) kM_X12_isOne kV_X12_isOne km_12_197 (by decide) (fun _ => rfl) rfl rfl rfl (Nat.le_of_ble_eq_true rfl) (by decide) dX12_copies_7 ?_
  refine v_if_eq (tgt := 29) hX dX12_copies_10 (by decide) h (fun h => ?_) (fun h => ?_)
  · refine v_iconst (v := (-1)) hX dX12_copies_29 (by decide) ?_
    exact v_retI hR h dX12_copies_30
  · refine v_aload_n hX dX12_copies_13 rfl 0 rfl ?_
    refine v_iload_n hX dX12_copies_14 rfl 2 rfl ?_
    obtain ⟨p3, hp3, h⟩ := bsome h
    refine v_callVI (o := 0) hX (mM_EachAddsALineModel_isOne hp3 l ad) kM_X12_isOne kV_X12_isOne km_12_197 (by decide) (fun _ => rfl) rfl rfl rfl (Nat.le_of_ble_eq_true rfl) (by decide) dX12_copies_15 ?_
    refine v_if_eq (tgt := 29) hX dX12_copies_18 (by decide) h (fun h => ?_) (fun h => ?_)
    · refine v_iconst (v := (-1)) hX dX12_copies_29 (by decide) ?_
      exact v_retI hR h dX12_copies_30
    · refine v_aload_n hX dX12_copies_21 rfl 0 rfl ?_
      refine v_iload_n hX dX12_copies_22 rfl 3 rfl ?_
      obtain ⟨p4, hp4, h⟩ := bsome h
      refine v_callVI (o := 0) hX (mM_EachAddsALineModel_isOne hp4 l ad) kM_X12_isOne kV_X12_isOne km_12_197 (by decide) (fun _ => rfl) rfl rfl rfl (Nat.le_of_ble_eq_true rfl) (by decide) dX12_copies_23 ?_
      refine v_if_ne (tgt := 31) hX dX12_copies_26 (by decide) h (fun h => ?_) (fun h => ?_)
      · refine v_iconst (v := (-1)) hX dX12_copies_29 (by decide) ?_
        exact v_retI hR h dX12_copies_30
      · refine v_aload_n hX dX12_copies_31 rfl 0 rfl ?_
        refine gfM_0_40 hX kf_12_314 dX12_copies_32 ?_
        refine v_if_eq (tgt := 45) hX dX12_copies_35 (by decide) h (fun h => ?_) (fun h => ?_)
        · refine v_bipush (v := (-2)) hX dX12_copies_45 (by decide) ?_
          exact v_retI hR h dX12_copies_47
        · refine v_aload_n hX dX12_copies_38 rfl 0 rfl ?_
          refine gfM_0_41 hX kf_12_336 dX12_copies_39 ?_
          refine v_if_ne (tgt := 48) hX dX12_copies_42 (by decide) h (fun h => ?_) (fun h => ?_)
          · refine v_bipush (v := (-2)) hX dX12_copies_45 (by decide) ?_
            exact v_retI hR h dX12_copies_47
          · refine v_iconst (v := 0) hX dX12_copies_48 (by decide) ?_
            refine v_istore (lv' := [(4, .int 0), (0, .ref (ad 0)), (1, .int a1), (2, .int a2), (3, .int a3)]) hX dX12_copies_49 (by decide) rfl ?_
            refine v_aload_n hX dX12_copies_51 rfl 1 rfl ?_
            refine v_iconst (v := 0) hX dX12_copies_52 (by decide) ?_
            refine pfM_0_10 hX kf_12_99 dX12_copies_53 h (fun z5 h => ?_)
            refine v_iconst (v := (-1)) hX dX12_copies_56 (by decide) ?_
            refine v_nmI hX h (fun v6 h => ?_)
            refine v_istore (lv' := [(5, .int v6), (4, .int 0), (0, .ref (ad 0)), (1, .int a1), (2, .int a2), (3, .int a3)]) hX dX12_copies_57 (by decide) rfl ?_
            refine v_iconst (v := 0) hX dX12_copies_59 (by decide) ?_
            refine v_istore (lv' := [(6, .int 0), (5, .int v6), (4, .int 0), (0, .ref (ad 0)), (1, .int a1), (2, .int a2), (3, .int a3)]) hX dX12_copies_60 (by decide) rfl ?_
            exact v_sub hX [3, 4, 5, 6, 2, 1, 0] (by rfl) (wM_EachAddsALineModel_copies_62 hX hR  N _ _ _ _ _ _ _ h)
noncomputable def fM_EachAddsALineModel_copies (N : Nat) (a1 : Int32) (a2 : Int32) (a3 : Int32) (s : vSt) : Option (Int32 × vSt) := gM_EachAddsALineModel_copies_0 N a1 a2 a3 s
theorem mM_EachAddsALineModel_copies {N : Nat} {a1 : Int32} {a2 : Int32} {a3 : Int32} {s : vSt} {r : Int32} {t1 : vSt} (h : fM_EachAddsALineModel_copies N a1 a2 a3 s = some (r, t1)) (l : Launch) (ad : Nat → Nat) : vMI l shM ad yX12_copies cX12_copies 7 .int 200 4664 s [.ref (ad 0), .int a1, .int a2, .int a3] r t1 :=
  vMI_of (by decide +kernel) (Nat.le_of_ble_eq_true rfl) (fun P hX hR => wM_EachAddsALineModel_copies_0 hX hR h)
-- M_EachAddsALineModel_when
noncomputable def gM_EachAddsALineModel_when_91 (N : Nat) (r46 : Int32 → Int32 → Int32 → Int32 → Int32 → vSt → Option (Int32 × vSt)) (a1 : Int32) (a2 : Int32) (a3 : Int32) (a4 : Int32) (a5 : Int32) (s : vSt) : Option (Int32 × vSt) :=
  (some (a5 + 1 : Int32)).bind fun v1 =>
  r46 a1 a2 a3 a4 v1 s
set_option maxRecDepth 4000 in
theorem wM_EachAddsALineModel_when_91 {P : vP} {l : Launch} {ad : Nat → Nat} {N : Nat} {r46 : Int32 → Int32 → Int32 → Int32 → Int32 → vSt → Option (Int32 × vSt)} {r : Int32} {t1 : vSt} (hX : vOK P l shM ad (vR 200 4664) cX12_when RX12 6) (hR : (∀ pc lv, narrow .int (.int r) = .int r → decode cX12_when pc = .ok (.ireturn, 1) → P t1 pc lv [.int r])) (H46 : ∀ (a1 : Int32) (a2 : Int32) (a3 : Int32) (a4 : Int32) (a5 : Int32) (s : vSt), r46 a1 a2 a3 a4 a5 s = some (r, t1) → P s 46 [(0, .ref (ad 0)), (1, .int a1), (2, .int a2), (3, .int a3), (4, .int a4), (5, .int a5)] []) {a1 : Int32} {a2 : Int32} {a3 : Int32} {a4 : Int32} {a5 : Int32} {s : vSt} (h : gM_EachAddsALineModel_when_91 N r46 a1 a2 a3 a4 a5 s = some (r, t1)) : P s 91 [(0, .ref (ad 0)), (1, .int a1), (2, .int a2), (3, .int a3), (4, .int a4), (5, .int a5)] [] := by
  unfold gM_EachAddsALineModel_when_91 at h
  refine v_iincN hX dX12_when_91 (j := 5) rfl (c := 1) (by decide) (by decide) h (fun v1 h => ?_)
  refine v_show (lv' := [(5, .int v1), (0, .ref (ad 0)), (1, .int a1), (2, .int a2), (3, .int a3), (4, .int a4)]) hX rfl ?_
  refine v_goto (tgt := 46) hX dX12_when_94 (by decide) ?_
  exact v_sub hX [1, 2, 3, 4, 5, 0] (by rfl) (H46 _ _ _ _ _ _ h)
noncomputable def gM_EachAddsALineModel_when_84 (N : Nat) (r46 : Int32 → Int32 → Int32 → Int32 → Int32 → vSt → Option (Int32 × vSt)) (a1 : Int32) (a2 : Int32) (a3 : Int32) (a5 : Int32) (s : vSt) : Option (Int32 × vSt) :=
  (some (a3 + 1 : Int32)).bind fun v1 =>
  gM_EachAddsALineModel_when_91 N r46 a1 a2 v1 a5 a5 s
set_option maxRecDepth 4000 in
theorem wM_EachAddsALineModel_when_84 {P : vP} {l : Launch} {ad : Nat → Nat} {N : Nat} {r46 : Int32 → Int32 → Int32 → Int32 → Int32 → vSt → Option (Int32 × vSt)} {r : Int32} {t1 : vSt} (hX : vOK P l shM ad (vR 200 4664) cX12_when RX12 6) (hR : (∀ pc lv, narrow .int (.int r) = .int r → decode cX12_when pc = .ok (.ireturn, 1) → P t1 pc lv [.int r])) (H46 : ∀ (a1 : Int32) (a2 : Int32) (a3 : Int32) (a4 : Int32) (a5 : Int32) (s : vSt), r46 a1 a2 a3 a4 a5 s = some (r, t1) → P s 46 [(0, .ref (ad 0)), (1, .int a1), (2, .int a2), (3, .int a3), (4, .int a4), (5, .int a5)] []) {a1 : Int32} {a2 : Int32} {a3 : Int32} {a5 : Int32} {s : vSt} (h : gM_EachAddsALineModel_when_84 N r46 a1 a2 a3 a5 s = some (r, t1)) : P s 84 [(0, .ref (ad 0)), (1, .int a1), (2, .int a2), (3, .int a3), (5, .int a5)] [] := by
  unfold gM_EachAddsALineModel_when_84 at h
  refine v_iload hX dX12_when_84 4 rfl ?_
  refine v_istore (lv' := [(4, .int a5), (0, .ref (ad 0)), (1, .int a1), (2, .int a2), (3, .int a3), (5, .int a5)]) hX dX12_when_86 (by decide) rfl ?_
  refine v_iincN hX dX12_when_88 (j := 4) rfl (c := 1) (by decide) (by decide) h (fun v1 h => ?_)
  refine v_show (lv' := [(3, .int v1), (4, .int a5), (0, .ref (ad 0)), (1, .int a1), (2, .int a2), (5, .int a5)]) hX rfl ?_
  exact v_sub hX [2, 3, 4, 0, 1, 5] (by rfl) (wM_EachAddsALineModel_when_91 hX hR H46 h)
noncomputable def gM_EachAddsALineModel_when_46 (N : Nat)  : Nat → Int32 → Int32 → Int32 → Int32 → Int32 → vSt → Option (Int32 × vSt)
  | 0, _, _, _, _, _, _ => none
  | n + 1, a1, a2, a3, a4, a5, s =>
    if 99 < a5 then
      if a3 ≤ 0 then
        some (a3, s)
      else
        (fM_EachAddsALineModel_tell N a4 s).bind fun z1 =>
        some (a3, z1)
    else
      (fM_EachAddsALineModel_countFits N 0 (s.1 0 40) a1 a2 a5 s).bind fun p2 =>
      if (lg_cmp p2.1 0) = 0 then
        gM_EachAddsALineModel_when_91 N (gM_EachAddsALineModel_when_46 N n) a1 a2 a3 a4 a5 p2.2
      else
        if a3 = 0 then
          (fM_EachAddsALineModel_tell N a5 p2.2).bind fun z3 =>
          gM_EachAddsALineModel_when_84 N (gM_EachAddsALineModel_when_46 N n) a1 a2 a3 a5 z3
        else
          gM_EachAddsALineModel_when_84 N (gM_EachAddsALineModel_when_46 N n) a1 a2 a3 a5 p2.2
set_option maxRecDepth 4000 in
theorem wM_EachAddsALineModel_when_46 {P : vP} {l : Launch} {ad : Nat → Nat} {N : Nat} {r : Int32} {t1 : vSt} (hX : vOK P l shM ad (vR 200 4664) cX12_when RX12 6) (hR : (∀ pc lv, narrow .int (.int r) = .int r → decode cX12_when pc = .ok (.ireturn, 1) → P t1 pc lv [.int r]))  : ∀ (n : Nat) (a1 : Int32) (a2 : Int32) (a3 : Int32) (a4 : Int32) (a5 : Int32) (s : vSt), gM_EachAddsALineModel_when_46 N n a1 a2 a3 a4 a5 s = some (r, t1) → P s 46 [(0, .ref (ad 0)), (1, .int a1), (2, .int a2), (3, .int a3), (4, .int a4), (5, .int a5)] [] := by
  intro n
  induction n with
  | zero => intro a1 a2 a3 a4 a5 s h; cases h
  | succ n ih =>
    intro a1 a2 a3 a4 a5 s h
    unfold gM_EachAddsALineModel_when_46 at h
    refine v_iload hX dX12_when_46 5 rfl ?_
    refine v_bipush (v := 99) hX dX12_when_48 (by decide) ?_
    refine v_icmp_gt (tgt := 97) hX dX12_when_50 (by decide) h (fun h => ?_) (fun h => ?_)
    · refine v_iload_n hX dX12_when_97 rfl 3 rfl ?_
      refine v_if_le (tgt := 107) hX dX12_when_98 (by decide) h (fun h => ?_) (fun h => ?_)
      · refine v_iload_n hX dX12_when_107 rfl 3 rfl ?_
        exact v_retI hR h dX12_when_108
      · refine v_aload_n hX dX12_when_101 rfl 0 rfl ?_
        refine v_iload hX dX12_when_102 4 rfl ?_
        obtain ⟨z1, hz1, h⟩ := bsome h
        refine v_callVV (o := 0) hX (mM_EachAddsALineModel_tell hz1 l ad) kM_X12_tell kV_X12_tell km_12_250 (by decide) (fun _ => rfl) rfl rfl rfl (Nat.le_of_ble_eq_true rfl) (by decide) dX12_when_104 ?_
        refine v_iload_n hX dX12_when_107 rfl 3 rfl ?_
        exact v_retI hR h dX12_when_108
    · refine v_aload_n hX dX12_when_53 rfl 0 rfl ?_
      refine v_iconst (v := 0) hX dX12_when_54 (by decide) ?_
      refine v_aload_n hX dX12_when_55 rfl 0 rfl ?_
      refine gfM_0_40 hX kf_12_314 dX12_when_56 ?_
      refine v_iload_n hX dX12_when_59 rfl 1 rfl ?_
      refine v_iload_n hX dX12_when_60 rfl 2 rfl ?_
      refine v_iload hX dX12_when_61 5 rfl ?_
      obtain ⟨p2, hp2, h⟩ := bsome h
      refine v_callVL (o := 0) hX (mM_EachAddsALineModel_countFits hp2 l ad) kM_X12_countFits kV_X12_countFits km_12_326 (by decide) (fun _ => rfl) rfl rfl rfl (Nat.le_of_ble_eq_true rfl) (by decide) dX12_when_63 ?_
      refine v_lconst (v := 0) hX dX12_when_66 (by decide) ?_
      refine v_lcmp hX dX12_when_67 ?_
      refine v_if_ne (tgt := 74) hX dX12_when_68 (by decide) h (fun h => ?_) (fun h => ?_)
      · refine v_goto (tgt := 91) hX dX12_when_71 (by decide) ?_
        exact v_sub hX [0, 1, 2, 3, 4, 5] (by rfl) (wM_EachAddsALineModel_when_91 hX hR ih h)
      · refine v_iload_n hX dX12_when_74 rfl 3 rfl ?_
        refine v_if_ne (tgt := 84) hX dX12_when_75 (by decide) h (fun h => ?_) (fun h => ?_)
        · refine v_aload_n hX dX12_when_78 rfl 0 rfl ?_
          refine v_iload hX dX12_when_79 5 rfl ?_
          obtain ⟨z3, hz3, h⟩ := bsome h
          refine v_callVV (o := 0) hX (mM_EachAddsALineModel_tell hz3 l ad) kM_X12_tell kV_X12_tell km_12_250 (by decide) (fun _ => rfl) rfl rfl rfl (Nat.le_of_ble_eq_true rfl) (by decide) dX12_when_81 ?_
          exact v_sub hX [0, 1, 2, 3, 5] (by rfl) (wM_EachAddsALineModel_when_84 hX hR ih h)
        · exact v_sub hX [0, 1, 2, 3, 5] (by rfl) (wM_EachAddsALineModel_when_84 hX hR ih h)
noncomputable def gM_EachAddsALineModel_when_0 (N : Nat)  (a1 : Int32) (a2 : Int32) (s : vSt) : Option (Int32 × vSt) :=
  (some (s1 s 0 11 0)).bind fun z1 =>
  (fM_EachAddsALineModel_isOne N a1 z1).bind fun p2 =>
  if p2.1 = 0 then
    some ((-1), p2.2)
  else
    (fM_EachAddsALineModel_isOne N a2 p2.2).bind fun p3 =>
    if p3.1 = 0 then
      some ((-1), p3.2)
    else
      if (p3.2.1 0 40) = 0 then
        some ((-2), p3.2)
      else
        (some ((-1) : Int32)).bind fun v4 =>
        (some (s1 p3.2 0 10 0)).bind fun z5 =>
        gM_EachAddsALineModel_when_46 N N a1 a2 0 v4 0 z5
set_option maxRecDepth 4000 in
theorem wM_EachAddsALineModel_when_0 {P : vP} {l : Launch} {ad : Nat → Nat} {N : Nat} {r : Int32} {t1 : vSt} (hX : vOK P l shM ad (vR 200 4664) cX12_when RX12 6) (hR : (∀ pc lv, narrow .int (.int r) = .int r → decode cX12_when pc = .ok (.ireturn, 1) → P t1 pc lv [.int r]))  {a1 : Int32} {a2 : Int32} {s : vSt} (h : gM_EachAddsALineModel_when_0 N a1 a2 s = some (r, t1)) : P s 0 [(0, .ref (ad 0)), (1, .int a1), (2, .int a2)] [] := by
  unfold gM_EachAddsALineModel_when_0 at h
  refine v_aload_n hX dX12_when_0 rfl 0 rfl ?_
  refine v_iconst (v := 0) hX dX12_when_1 (by decide) ?_
  refine pfM_0_11 hX kf_12_96 dX12_when_2 h (fun z1 h => ?_)
  refine v_aload_n hX dX12_when_5 rfl 0 rfl ?_
  refine v_iload_n hX dX12_when_6 rfl 1 rfl ?_
  obtain ⟨p2, hp2, h⟩ := bsome h
  refine v_callVI (o := 0) hX (mM_EachAddsALineModel_isOne hp2 l ad) kM_X12_isOne kV_X12_isOne km_12_197 (by decide) (fun _ => rfl) rfl rfl rfl (Nat.le_of_ble_eq_true rfl) (by decide) dX12_when_7 ?_
  refine v_if_eq (tgt := 21) hX dX12_when_10 (by decide) h (fun h => ?_) (fun h => ?_)
  · refine v_iconst (v := (-1)) hX dX12_when_21 (by decide) ?_
    exact v_retI hR h dX12_when_22
  · refine v_aload_n hX dX12_when_13 rfl 0 rfl ?_
    refine v_iload_n hX dX12_when_14 rfl 2 rfl ?_
    obtain ⟨p3, hp3, h⟩ := bsome h
    refine v_callVI (o := 0) hX (mM_EachAddsALineModel_isOne hp3 l ad) kM_X12_isOne kV_X12_isOne km_12_197 (by decide) (fun _ => rfl) rfl rfl rfl (Nat.le_of_ble_eq_true rfl) (by decide) dX12_when_15 ?_
    refine v_if_ne (tgt := 23) hX dX12_when_18 (by decide) h (fun h => ?_) (fun h => ?_)
    · refine v_iconst (v := (-1)) hX dX12_when_21 (by decide) ?_
      exact v_retI hR h dX12_when_22
    · refine v_aload_n hX dX12_when_23 rfl 0 rfl ?_
      refine gfM_0_40 hX kf_12_314 dX12_when_24 ?_
      refine v_if_ne (tgt := 33) hX dX12_when_27 (by decide) h (fun h => ?_) (fun h => ?_)
      · refine v_bipush (v := (-2)) hX dX12_when_30 (by decide) ?_
        exact v_retI hR h dX12_when_32
      · refine v_iconst (v := 0) hX dX12_when_33 (by decide) ?_
        refine v_istore_n (lv' := [(3, .int 0), (0, .ref (ad 0)), (1, .int a1), (2, .int a2)]) hX dX12_when_34 rfl (by decide) rfl ?_
        refine v_iconst (v := (-1)) hX dX12_when_35 (by decide) ?_
        refine v_nmI hX h (fun v4 h => ?_)
        refine v_istore (lv' := [(4, .int v4), (3, .int 0), (0, .ref (ad 0)), (1, .int a1), (2, .int a2)]) hX dX12_when_36 (by decide) rfl ?_
        refine v_aload_n hX dX12_when_38 rfl 2 rfl ?_
        refine v_iconst (v := 0) hX dX12_when_39 (by decide) ?_
        refine pfM_0_10 hX kf_12_99 dX12_when_40 h (fun z5 h => ?_)
        refine v_iconst (v := 0) hX dX12_when_43 (by decide) ?_
        refine v_istore (lv' := [(5, .int 0), (4, .int v4), (3, .int 0), (0, .ref (ad 0)), (1, .int a1), (2, .int a2)]) hX dX12_when_44 (by decide) rfl ?_
        exact v_sub hX [3, 4, 5, 2, 1, 0] (by rfl) (wM_EachAddsALineModel_when_46 hX hR  N _ _ _ _ _ _ h)
noncomputable def fM_EachAddsALineModel_when (N : Nat) (a1 : Int32) (a2 : Int32) (s : vSt) : Option (Int32 × vSt) := gM_EachAddsALineModel_when_0 N a1 a2 s
theorem mM_EachAddsALineModel_when {N : Nat} {a1 : Int32} {a2 : Int32} {s : vSt} {r : Int32} {t1 : vSt} (h : fM_EachAddsALineModel_when N a1 a2 s = some (r, t1)) (l : Launch) (ad : Nat → Nat) : vMI l shM ad yX12_when cX12_when 6 .int 200 4664 s [.ref (ad 0), .int a1, .int a2] r t1 :=
  vMI_of (by decide +kernel) (Nat.le_of_ble_eq_true rfl) (fun P hX hR => wM_EachAddsALineModel_when_0 hX hR h)
-- M_EachAddsALineModel_answerBy
noncomputable def gM_EachAddsALineModel_answerBy_0 (N : Nat)  (a1 : Int32) (a2 : Int32) (a3 : Int32) (s : vSt) : Option (Int32 × vSt) :=
  (some (s1 s 0 33 0)).bind fun z1 =>
  (fM_EachAddsALineModel_soonestBy N a1 a2 a3 z1).bind fun p2 =>
  (some (s1 p2.2 0 46 p2.1)).bind fun z3 =>
  if (z3.1 0 46) < 1000000 then
    (ld z3 1 9 a2).bind fun v4 =>
    (fM_EachAddsALineModel_soonestBy N a2 a1 ((z3.1 0 46) + v4) z3).bind fun p5 =>
    some (p5.1, p5.2)
  else
    some (1000000, z3)
set_option maxRecDepth 4000 in
theorem wM_EachAddsALineModel_answerBy_0 {P : vP} {l : Launch} {ad : Nat → Nat} {N : Nat} {r : Int32} {t1 : vSt} (hX : vOK P l shM ad (vR 4 95) cX12_answerBy RX12 4) (hR : (∀ pc lv, narrow .int (.int r) = .int r → decode cX12_answerBy pc = .ok (.ireturn, 1) → P t1 pc lv [.int r]))  {a1 : Int32} {a2 : Int32} {a3 : Int32} {s : vSt} (h : gM_EachAddsALineModel_answerBy_0 N a1 a2 a3 s = some (r, t1)) : P s 0 [(0, .ref (ad 0)), (1, .int a1), (2, .int a2), (3, .int a3)] [] := by
  unfold gM_EachAddsALineModel_answerBy_0 at h
  refine v_aload_n hX dX12_answerBy_0 rfl 0 rfl ?_
  refine v_iconst (v := 0) hX dX12_answerBy_1 (by decide) ?_
  refine pfM_0_33 hX kf_12_277 dX12_answerBy_2 h (fun z1 h => ?_)
  refine v_aload_n hX dX12_answerBy_5 rfl 0 rfl ?_
  refine v_aload_n hX dX12_answerBy_6 rfl 0 rfl ?_
  refine v_iload_n hX dX12_answerBy_7 rfl 1 rfl ?_
  refine v_iload_n hX dX12_answerBy_8 rfl 2 rfl ?_
  refine v_iload_n hX dX12_answerBy_9 rfl 3 rfl ?_
  obtain ⟨p2, hp2, h⟩ := bsome h
  refine v_callVI (o := 0) hX (mM_EachAddsALineModel_soonestBy hp2 l ad) kM_X12_soonestBy kV_X12_soonestBy km_12_301 (by decide) (fun _ => rfl) rfl rfl rfl (Nat.le_of_ble_eq_true rfl) (by decide) dX12_answerBy_10 ?_
  refine pfM_0_46 hX kf_12_339 dX12_answerBy_13 h (fun z3 h => ?_)
  refine v_aload_n hX dX12_answerBy_16 rfl 0 rfl ?_
  refine gfM_0_46 hX kf_12_339 dX12_answerBy_17 ?_
  refine v_ldc hX kc_12_50 dX12_answerBy_20 ?_
  refine v_icmp_lt (tgt := 28) hX dX12_answerBy_22 (by decide) h (fun h => ?_) (fun h => ?_)
  · refine v_aload_n hX dX12_answerBy_28 rfl 0 rfl ?_
    refine v_iload_n hX dX12_answerBy_29 rfl 2 rfl ?_
    refine v_iload_n hX dX12_answerBy_30 rfl 1 rfl ?_
    refine v_aload_n hX dX12_answerBy_31 rfl 0 rfl ?_
    refine gfM_0_46 hX kf_12_339 dX12_answerBy_32 ?_
    refine v_aload_n hX dX12_answerBy_35 rfl 0 rfl ?_
    refine gfM_0_1 hX kf_12_9 dX12_answerBy_36 ?_
    refine v_iload_n hX dX12_answerBy_39 rfl 2 rfl ?_
    refine alM_1 hX dX12_answerBy_40 h (fun v4 h => ?_)
    refine v_iadd hX dX12_answerBy_41 ?_
    obtain ⟨p5, hp5, h⟩ := bsome h
    refine v_callVI (o := 0) hX (mM_EachAddsALineModel_soonestBy hp5 l ad) kM_X12_soonestBy kV_X12_soonestBy km_12_301 (by decide) (fun _ => rfl) rfl rfl rfl (Nat.le_of_ble_eq_true rfl) (by decide) dX12_answerBy_42 ?_
    exact v_retI hR h dX12_answerBy_45
  · refine v_ldc hX kc_12_50 dX12_answerBy_25 ?_
    exact v_retI hR h dX12_answerBy_27
noncomputable def fM_EachAddsALineModel_answerBy (N : Nat) (a1 : Int32) (a2 : Int32) (a3 : Int32) (s : vSt) : Option (Int32 × vSt) := gM_EachAddsALineModel_answerBy_0 N a1 a2 a3 s
theorem mM_EachAddsALineModel_answerBy {N : Nat} {a1 : Int32} {a2 : Int32} {a3 : Int32} {s : vSt} {r : Int32} {t1 : vSt} (h : fM_EachAddsALineModel_answerBy N a1 a2 a3 s = some (r, t1)) (l : Launch) (ad : Nat → Nat) : vMI l shM ad yX12_answerBy cX12_answerBy 4 .int 4 95 s [.ref (ad 0), .int a1, .int a2, .int a3] r t1 :=
  vMI_of (by decide +kernel) (Nat.le_of_ble_eq_true rfl) (fun P hX hR => wM_EachAddsALineModel_answerBy_0 hX hR h)
-- M_EachAddsALineModel_answer
noncomputable def gM_EachAddsALineModel_answer_0 (N : Nat)  (a1 : Int32) (a2 : Int32) (a3 : Int32) (s : vSt) : Option (Int32 × vSt) :=
  (some (s1 s 0 11 0)).bind fun z1 =>
  (fM_EachAddsALineModel_isTrip N a1 a2 a3 z1).bind fun p2 =>
  if p2.1 = 0 then
    some ((-1), p2.2)
  else
    if a1 = a2 then
      some ((-1), p2.2)
    else
      (fM_EachAddsALineModel_answerBy N a1 a2 a3 p2.2).bind fun p3 =>
      if p3.1 < 1000000 then
        (some (s1 p3.2 0 10 0)).bind fun z4 =>
        (fM_EachAddsALineModel_tell N (z4.1 0 46) z4).bind fun z5 =>
        some (p3.1, z5)
      else
        some ((-2), p3.2)
set_option maxRecDepth 4000 in
theorem wM_EachAddsALineModel_answer_0 {P : vP} {l : Launch} {ad : Nat → Nat} {N : Nat} {r : Int32} {t1 : vSt} (hX : vOK P l shM ad (vR 5 118) cX12_answer RX12 5) (hR : (∀ pc lv, narrow .int (.int r) = .int r → decode cX12_answer pc = .ok (.ireturn, 1) → P t1 pc lv [.int r]))  {a1 : Int32} {a2 : Int32} {a3 : Int32} {s : vSt} (h : gM_EachAddsALineModel_answer_0 N a1 a2 a3 s = some (r, t1)) : P s 0 [(0, .ref (ad 0)), (1, .int a1), (2, .int a2), (3, .int a3)] [] := by
  unfold gM_EachAddsALineModel_answer_0 at h
  refine v_aload_n hX dX12_answer_0 rfl 0 rfl ?_
  refine v_iconst (v := 0) hX dX12_answer_1 (by decide) ?_
  refine pfM_0_11 hX kf_12_96 dX12_answer_2 h (fun z1 h => ?_)
  refine v_aload_n hX dX12_answer_5 rfl 0 rfl ?_
  refine v_iload_n hX dX12_answer_6 rfl 1 rfl ?_
  refine v_iload_n hX dX12_answer_7 rfl 2 rfl ?_
  refine v_iload_n hX dX12_answer_8 rfl 3 rfl ?_
  obtain ⟨p2, hp2, h⟩ := bsome h
  refine v_callVI (o := 0) hX (mM_EachAddsALineModel_isTrip hp2 l ad) kM_X12_isTrip kV_X12_isTrip km_12_294 (by decide) (fun _ => rfl) rfl rfl rfl (Nat.le_of_ble_eq_true rfl) (by decide) dX12_answer_9 ?_
  refine v_if_eq (tgt := 20) hX dX12_answer_12 (by decide) h (fun h => ?_) (fun h => ?_)
  · refine v_iconst (v := (-1)) hX dX12_answer_20 (by decide) ?_
    exact v_retI hR h dX12_answer_21
  · refine v_iload_n hX dX12_answer_15 rfl 1 rfl ?_
    refine v_iload_n hX dX12_answer_16 rfl 2 rfl ?_
    refine v_icmp_ne (tgt := 22) hX dX12_answer_17 (by decide) h (fun h => ?_) (fun h => ?_)
    · refine v_iconst (v := (-1)) hX dX12_answer_20 (by decide) ?_
      exact v_retI hR h dX12_answer_21
    · refine v_aload_n hX dX12_answer_22 rfl 0 rfl ?_
      refine v_iload_n hX dX12_answer_23 rfl 1 rfl ?_
      refine v_iload_n hX dX12_answer_24 rfl 2 rfl ?_
      refine v_iload_n hX dX12_answer_25 rfl 3 rfl ?_
      obtain ⟨p3, hp3, h⟩ := bsome h
      refine v_callVI (o := 0) hX (mM_EachAddsALineModel_answerBy hp3 l ad) kM_X12_answerBy kV_X12_answerBy km_12_342 (by decide) (fun _ => rfl) rfl rfl rfl (Nat.le_of_ble_eq_true rfl) (by decide) dX12_answer_26 ?_
      refine v_istore (lv' := [(4, .int p3.1), (0, .ref (ad 0)), (1, .int a1), (2, .int a2), (3, .int a3)]) hX dX12_answer_29 (by decide) rfl ?_
      refine v_iload hX dX12_answer_31 0 rfl ?_
      refine v_ldc hX kc_12_50 dX12_answer_33 ?_
      refine v_icmp_lt (tgt := 41) hX dX12_answer_35 (by decide) h (fun h => ?_) (fun h => ?_)
      · refine v_aload_n hX dX12_answer_41 rfl 1 rfl ?_
        refine v_iconst (v := 0) hX dX12_answer_42 (by decide) ?_
        refine pfM_0_10 hX kf_12_99 dX12_answer_43 h (fun z4 h => ?_)
        refine v_aload_n hX dX12_answer_46 rfl 1 rfl ?_
        refine v_aload_n hX dX12_answer_47 rfl 1 rfl ?_
        refine gfM_0_46 hX kf_12_339 dX12_answer_48 ?_
        obtain ⟨z5, hz5, h⟩ := bsome h
        refine v_callVV (o := 0) hX (mM_EachAddsALineModel_tell hz5 l ad) kM_X12_tell kV_X12_tell km_12_250 (by decide) (fun _ => rfl) rfl rfl rfl (Nat.le_of_ble_eq_true rfl) (by decide) dX12_answer_51 ?_
        refine v_iload hX dX12_answer_54 0 rfl ?_
        exact v_retI hR h dX12_answer_56
      · refine v_bipush (v := (-2)) hX dX12_answer_38 (by decide) ?_
        exact v_retI hR h dX12_answer_40
noncomputable def fM_EachAddsALineModel_answer (N : Nat) (a1 : Int32) (a2 : Int32) (a3 : Int32) (s : vSt) : Option (Int32 × vSt) := gM_EachAddsALineModel_answer_0 N a1 a2 a3 s
theorem mM_EachAddsALineModel_answer {N : Nat} {a1 : Int32} {a2 : Int32} {a3 : Int32} {s : vSt} {r : Int32} {t1 : vSt} (h : fM_EachAddsALineModel_answer N a1 a2 a3 s = some (r, t1)) (l : Launch) (ad : Nat → Nat) : vMI l shM ad yX12_answer cX12_answer 5 .int 5 118 s [.ref (ad 0), .int a1, .int a2, .int a3] r t1 :=
  vMI_of (by decide +kernel) (Nat.le_of_ble_eq_true rfl) (fun P hX hR => wM_EachAddsALineModel_answer_0 hX hR h)
-- M_EachAddsALineModel_ask
noncomputable def gM_EachAddsALineModel_ask_74 (N : Nat) (r27 : Int32 → Int32 → Int32 → Int32 → Int32 → vSt → Option (Int32 × vSt)) (a1 : Int32) (a2 : Int32) (a3 : Int32) (a4 : Int32) (a5 : Int32) (s : vSt) : Option (Int32 × vSt) :=
  (some (a5 + 1 : Int32)).bind fun v1 =>
  r27 a1 a2 a3 a4 v1 s
set_option maxRecDepth 4000 in
theorem wM_EachAddsALineModel_ask_74 {P : vP} {l : Launch} {ad : Nat → Nat} {N : Nat} {r27 : Int32 → Int32 → Int32 → Int32 → Int32 → vSt → Option (Int32 × vSt)} {r : Int32} {t1 : vSt} (hX : vOK P l shM ad (vR 5 118) cX12_ask RX12 7) (hR : (∀ pc lv, narrow .int (.int r) = .int r → decode cX12_ask pc = .ok (.ireturn, 1) → P t1 pc lv [.int r])) (H27 : ∀ (a1 : Int32) (a2 : Int32) (a3 : Int32) (a4 : Int32) (a5 : Int32) (s : vSt), r27 a1 a2 a3 a4 a5 s = some (r, t1) → P s 27 [(0, .ref (ad 0)), (1, .int a1), (2, .int a2), (3, .int a3), (4, .int a4), (5, .int a5)] []) {a1 : Int32} {a2 : Int32} {a3 : Int32} {a4 : Int32} {a5 : Int32} {s : vSt} (h : gM_EachAddsALineModel_ask_74 N r27 a1 a2 a3 a4 a5 s = some (r, t1)) : P s 74 [(0, .ref (ad 0)), (1, .int a1), (2, .int a2), (3, .int a3), (4, .int a4), (5, .int a5)] [] := by
  unfold gM_EachAddsALineModel_ask_74 at h
  refine v_iincN hX dX12_ask_74 (j := 5) rfl (c := 1) (by decide) (by decide) h (fun v1 h => ?_)
  refine v_show (lv' := [(5, .int v1), (0, .ref (ad 0)), (1, .int a1), (2, .int a2), (3, .int a3), (4, .int a4)]) hX rfl ?_
  refine v_goto (tgt := 27) hX dX12_ask_77 (by decide) ?_
  exact v_sub hX [1, 2, 3, 4, 5, 0] (by rfl) (H27 _ _ _ _ _ _ h)
noncomputable def gM_EachAddsALineModel_ask_55 (N : Nat) (r27 : Int32 → Int32 → Int32 → Int32 → Int32 → vSt → Option (Int32 × vSt)) (a1 : Int32) (a2 : Int32) (a3 : Int32) (a4 : Int32) (a5 : Int32) (k0 : Int32) (s : vSt) : Option (Int32 × vSt) :=
  if k0 < a4 then
    gM_EachAddsALineModel_ask_74 N r27 a1 a2 a5 k0 a5 s
  else
    gM_EachAddsALineModel_ask_74 N r27 a1 a2 a3 a4 a5 s
set_option maxRecDepth 4000 in
theorem wM_EachAddsALineModel_ask_55 {P : vP} {l : Launch} {ad : Nat → Nat} {N : Nat} {r27 : Int32 → Int32 → Int32 → Int32 → Int32 → vSt → Option (Int32 × vSt)} {r : Int32} {t1 : vSt} (hX : vOK P l shM ad (vR 5 118) cX12_ask RX12 7) (hR : (∀ pc lv, narrow .int (.int r) = .int r → decode cX12_ask pc = .ok (.ireturn, 1) → P t1 pc lv [.int r])) (H27 : ∀ (a1 : Int32) (a2 : Int32) (a3 : Int32) (a4 : Int32) (a5 : Int32) (s : vSt), r27 a1 a2 a3 a4 a5 s = some (r, t1) → P s 27 [(0, .ref (ad 0)), (1, .int a1), (2, .int a2), (3, .int a3), (4, .int a4), (5, .int a5)] []) {a1 : Int32} {a2 : Int32} {a3 : Int32} {a4 : Int32} {a5 : Int32} {k0 : Int32} {s : vSt} (h : gM_EachAddsALineModel_ask_55 N r27 a1 a2 a3 a4 a5 k0 s = some (r, t1)) : P s 55 [(0, .ref (ad 0)), (1, .int a1), (2, .int a2), (3, .int a3), (4, .int a4), (5, .int a5)] [.int k0] := by
  unfold gM_EachAddsALineModel_ask_55 at h
  refine v_istore (lv' := [(6, .int k0), (0, .ref (ad 0)), (1, .int a1), (2, .int a2), (3, .int a3), (4, .int a4), (5, .int a5)]) hX dX12_ask_55 (by decide) rfl ?_
  refine v_iload hX dX12_ask_57 0 rfl ?_
  refine v_iload hX dX12_ask_59 5 rfl ?_
  refine v_icmp_lt (tgt := 67) hX dX12_ask_61 (by decide) h (fun h => ?_) (fun h => ?_)
  · refine v_iload hX dX12_ask_67 6 rfl ?_
    refine v_istore_n (lv' := [(3, .int a5), (6, .int k0), (0, .ref (ad 0)), (1, .int a1), (2, .int a2), (4, .int a4), (5, .int a5)]) hX dX12_ask_69 rfl (by decide) rfl ?_
    refine v_iload hX dX12_ask_70 1 rfl ?_
    refine v_istore (lv' := [(4, .int k0), (3, .int a5), (6, .int k0), (0, .ref (ad 0)), (1, .int a1), (2, .int a2), (5, .int a5)]) hX dX12_ask_72 (by decide) rfl ?_
    exact v_sub hX [3, 4, 5, 1, 0, 6] (by rfl) (wM_EachAddsALineModel_ask_74 hX hR H27 h)
  · refine v_goto (tgt := 74) hX dX12_ask_64 (by decide) ?_
    exact v_sub hX [1, 2, 3, 4, 5, 6] (by rfl) (wM_EachAddsALineModel_ask_74 hX hR H27 h)
noncomputable def gM_EachAddsALineModel_ask_27 (N : Nat)  : Nat → Int32 → Int32 → Int32 → Int32 → Int32 → vSt → Option (Int32 × vSt)
  | 0, _, _, _, _, _, _ => none
  | n + 1, a1, a2, a3, a4, a5, s =>
    if (s.1 0 0) ≤ a5 then
      if 0 ≤ a3 then
        (some (s1 s 0 10 0)).bind fun z1 =>
        (fM_EachAddsALineModel_tell N a4 z1).bind fun z2 =>
        some (a3, z2)
      else
        some ((-2), s)
    else
      if a5 = a1 then
        gM_EachAddsALineModel_ask_55 N (gM_EachAddsALineModel_ask_27 N n) a1 a2 a3 a4 a5 1000000 s
      else
        (fM_EachAddsALineModel_answerBy N a1 a5 a2 s).bind fun p3 =>
        gM_EachAddsALineModel_ask_55 N (gM_EachAddsALineModel_ask_27 N n) a1 a2 a3 a4 a5 p3.1 p3.2
set_option maxRecDepth 4000 in
theorem wM_EachAddsALineModel_ask_27 {P : vP} {l : Launch} {ad : Nat → Nat} {N : Nat} {r : Int32} {t1 : vSt} (hX : vOK P l shM ad (vR 5 118) cX12_ask RX12 7) (hR : (∀ pc lv, narrow .int (.int r) = .int r → decode cX12_ask pc = .ok (.ireturn, 1) → P t1 pc lv [.int r]))  : ∀ (n : Nat) (a1 : Int32) (a2 : Int32) (a3 : Int32) (a4 : Int32) (a5 : Int32) (s : vSt), gM_EachAddsALineModel_ask_27 N n a1 a2 a3 a4 a5 s = some (r, t1) → P s 27 [(0, .ref (ad 0)), (1, .int a1), (2, .int a2), (3, .int a3), (4, .int a4), (5, .int a5)] [] := by
  intro n
  induction n with
  | zero => intro a1 a2 a3 a4 a5 s h; cases h
  | succ n ih =>
    intro a1 a2 a3 a4 a5 s h
    unfold gM_EachAddsALineModel_ask_27 at h
    refine v_iload hX dX12_ask_27 5 rfl ?_
    refine v_aload_n hX dX12_ask_29 rfl 0 rfl ?_
    refine gfM_0_0 hX kf_12_102 dX12_ask_30 ?_
    refine v_icmp_ge (tgt := 80) hX dX12_ask_33 (by decide) h (fun h => ?_) (fun h => ?_)
    · refine v_iload_n hX dX12_ask_80 rfl 3 rfl ?_
      refine v_if_ge (tgt := 87) hX dX12_ask_81 (by decide) h (fun h => ?_) (fun h => ?_)
      · refine v_aload_n hX dX12_ask_87 rfl 0 rfl ?_
        refine v_iconst (v := 0) hX dX12_ask_88 (by decide) ?_
        refine pfM_0_10 hX kf_12_99 dX12_ask_89 h (fun z1 h => ?_)
        refine v_aload_n hX dX12_ask_92 rfl 0 rfl ?_
        refine v_iload hX dX12_ask_93 4 rfl ?_
        obtain ⟨z2, hz2, h⟩ := bsome h
        refine v_callVV (o := 0) hX (mM_EachAddsALineModel_tell hz2 l ad) kM_X12_tell kV_X12_tell km_12_250 (by decide) (fun _ => rfl) rfl rfl rfl (Nat.le_of_ble_eq_true rfl) (by decide) dX12_ask_95 ?_
        refine v_iload_n hX dX12_ask_98 rfl 3 rfl ?_
        exact v_retI hR h dX12_ask_99
      · refine v_bipush (v := (-2)) hX dX12_ask_84 (by decide) ?_
        exact v_retI hR h dX12_ask_86
    · refine v_iload hX dX12_ask_36 5 rfl ?_
      refine v_iload_n hX dX12_ask_38 rfl 1 rfl ?_
      refine v_icmp_ne (tgt := 47) hX dX12_ask_39 (by decide) h (fun h => ?_) (fun h => ?_)
      · refine v_ldc hX kc_12_50 dX12_ask_42 ?_
        refine v_goto (tgt := 55) hX dX12_ask_44 (by decide) ?_
        exact v_sub hX [0, 1, 2, 3, 4, 5] (by rfl) (wM_EachAddsALineModel_ask_55 hX hR ih h)
      · refine v_aload_n hX dX12_ask_47 rfl 0 rfl ?_
        refine v_iload_n hX dX12_ask_48 rfl 1 rfl ?_
        refine v_iload hX dX12_ask_49 5 rfl ?_
        refine v_iload_n hX dX12_ask_51 rfl 2 rfl ?_
        obtain ⟨p3, hp3, h⟩ := bsome h
        refine v_callVI (o := 0) hX (mM_EachAddsALineModel_answerBy hp3 l ad) kM_X12_answerBy kV_X12_answerBy km_12_342 (by decide) (fun _ => rfl) rfl rfl rfl (Nat.le_of_ble_eq_true rfl) (by decide) dX12_ask_52 ?_
        exact v_sub hX [0, 1, 2, 3, 4, 5] (by rfl) (wM_EachAddsALineModel_ask_55 hX hR ih h)
noncomputable def gM_EachAddsALineModel_ask_0 (N : Nat)  (a1 : Int32) (a2 : Int32) (s : vSt) : Option (Int32 × vSt) :=
  (some (s1 s 0 11 0)).bind fun z1 =>
  (fM_EachAddsALineModel_isTrip N a1 a1 a2 z1).bind fun p2 =>
  if p2.1 = 0 then
    some ((-1), p2.2)
  else
    (some ((-2) : Int32)).bind fun v3 =>
    gM_EachAddsALineModel_ask_27 N N a1 a2 v3 1000000 0 p2.2
set_option maxRecDepth 4000 in
theorem wM_EachAddsALineModel_ask_0 {P : vP} {l : Launch} {ad : Nat → Nat} {N : Nat} {r : Int32} {t1 : vSt} (hX : vOK P l shM ad (vR 5 118) cX12_ask RX12 7) (hR : (∀ pc lv, narrow .int (.int r) = .int r → decode cX12_ask pc = .ok (.ireturn, 1) → P t1 pc lv [.int r]))  {a1 : Int32} {a2 : Int32} {s : vSt} (h : gM_EachAddsALineModel_ask_0 N a1 a2 s = some (r, t1)) : P s 0 [(0, .ref (ad 0)), (1, .int a1), (2, .int a2)] [] := by
  unfold gM_EachAddsALineModel_ask_0 at h
  refine v_aload_n hX dX12_ask_0 rfl 0 rfl ?_
  refine v_iconst (v := 0) hX dX12_ask_1 (by decide) ?_
  refine pfM_0_11 hX kf_12_96 dX12_ask_2 h (fun z1 h => ?_)
  refine v_aload_n hX dX12_ask_5 rfl 0 rfl ?_
  refine v_iload_n hX dX12_ask_6 rfl 1 rfl ?_
  refine v_iload_n hX dX12_ask_7 rfl 1 rfl ?_
  refine v_iload_n hX dX12_ask_8 rfl 2 rfl ?_
  obtain ⟨p2, hp2, h⟩ := bsome h
  refine v_callVI (o := 0) hX (mM_EachAddsALineModel_isTrip hp2 l ad) kM_X12_isTrip kV_X12_isTrip km_12_294 (by decide) (fun _ => rfl) rfl rfl rfl (Nat.le_of_ble_eq_true rfl) (by decide) dX12_ask_9 ?_
  refine v_if_ne (tgt := 17) hX dX12_ask_12 (by decide) h (fun h => ?_) (fun h => ?_)
  · refine v_iconst (v := (-1)) hX dX12_ask_15 (by decide) ?_
    exact v_retI hR h dX12_ask_16
  · refine v_bipush (v := (-2)) hX dX12_ask_17 (by decide) ?_
    refine v_nmI hX h (fun v3 h => ?_)
    refine v_istore_n (lv' := [(3, .int v3), (0, .ref (ad 0)), (1, .int a1), (2, .int a2)]) hX dX12_ask_19 rfl (by decide) rfl ?_
    refine v_ldc hX kc_12_50 dX12_ask_20 ?_
    refine v_istore (lv' := [(4, .int 1000000), (3, .int v3), (0, .ref (ad 0)), (1, .int a1), (2, .int a2)]) hX dX12_ask_22 (by decide) rfl ?_
    refine v_iconst (v := 0) hX dX12_ask_24 (by decide) ?_
    refine v_istore (lv' := [(5, .int 0), (4, .int 1000000), (3, .int v3), (0, .ref (ad 0)), (1, .int a1), (2, .int a2)]) hX dX12_ask_25 (by decide) rfl ?_
    exact v_sub hX [3, 4, 5, 2, 1, 0] (by rfl) (wM_EachAddsALineModel_ask_27 hX hR  N _ _ _ _ _ _ h)
noncomputable def fM_EachAddsALineModel_ask (N : Nat) (a1 : Int32) (a2 : Int32) (s : vSt) : Option (Int32 × vSt) := gM_EachAddsALineModel_ask_0 N a1 a2 s
theorem mM_EachAddsALineModel_ask {N : Nat} {a1 : Int32} {a2 : Int32} {s : vSt} {r : Int32} {t1 : vSt} (h : fM_EachAddsALineModel_ask N a1 a2 s = some (r, t1)) (l : Launch) (ad : Nat → Nat) : vMI l shM ad yX12_ask cX12_ask 7 .int 5 118 s [.ref (ad 0), .int a1, .int a2] r t1 :=
  vMI_of (by decide +kernel) (Nat.le_of_ble_eq_true rfl) (fun P hX hR => wM_EachAddsALineModel_ask_0 hX hR h)
-- M_EachAddsALineModel_areHours
noncomputable def gM_EachAddsALineModel_areHours_21 (N : Nat)   (s : vSt) : Option (Int32 × vSt) :=
  some (0, s)
set_option maxRecDepth 4000 in
theorem wM_EachAddsALineModel_areHours_21 {P : vP} {l : Launch} {ad : Nat → Nat} {N : Nat} {r : Int32} {t1 : vSt} (hX : vOK P l shM ad (vR 2 42) cX12_areHours RX12 3) (hR : (∀ pc lv, narrow .boolean (.int r) = .int r → decode cX12_areHours pc = .ok (.ireturn, 1) → P t1 pc lv [.int r]))   {s : vSt} (h : gM_EachAddsALineModel_areHours_21 N s = some (r, t1)) : P s 21 [] [] := by
  unfold gM_EachAddsALineModel_areHours_21 at h
  refine v_iconst (v := 0) hX dX12_areHours_21 (by decide) ?_
  exact v_retZ0 hR h dX12_areHours_22
noncomputable def gM_EachAddsALineModel_areHours_0 (N : Nat)  (a1 : Int32) (a2 : Int32) (s : vSt) : Option (Int32 × vSt) :=
  (fM_EachAddsALineModel_isHour N a1 s).bind fun p1 =>
  if p1.1 = 0 then
    gM_EachAddsALineModel_areHours_21 N p1.2
  else
    (fM_EachAddsALineModel_in N a2 a1 99 p1.2).bind fun p2 =>
    if p2.1 = 0 then
      gM_EachAddsALineModel_areHours_21 N p2.2
    else
      some (1, p2.2)
set_option maxRecDepth 4000 in
theorem wM_EachAddsALineModel_areHours_0 {P : vP} {l : Launch} {ad : Nat → Nat} {N : Nat} {r : Int32} {t1 : vSt} (hX : vOK P l shM ad (vR 2 42) cX12_areHours RX12 3) (hR : (∀ pc lv, narrow .boolean (.int r) = .int r → decode cX12_areHours pc = .ok (.ireturn, 1) → P t1 pc lv [.int r]))  {a1 : Int32} {a2 : Int32} {s : vSt} (h : gM_EachAddsALineModel_areHours_0 N a1 a2 s = some (r, t1)) : P s 0 [(0, .ref (ad 0)), (1, .int a1), (2, .int a2)] [] := by
  unfold gM_EachAddsALineModel_areHours_0 at h
  refine v_iload_n hX dX12_areHours_0 rfl 1 rfl ?_
  obtain ⟨p1, hp1, h⟩ := bsome h
  refine v_callSI hX (mM_EachAddsALineModel_isHour hp1 l ad) kM_X12_isHour kS_X12_isHour km_12_221 rfl rfl (Nat.le_of_ble_eq_true rfl) (by decide) dX12_areHours_1 ?_
  refine v_if_eq (tgt := 21) hX dX12_areHours_4 (by decide) h (fun h => ?_) (fun h => ?_)
  · exact v_sub hX [] (by rfl) (wM_EachAddsALineModel_areHours_21 hX hR  h)
  · refine v_iload_n hX dX12_areHours_7 rfl 2 rfl ?_
    refine v_iload_n hX dX12_areHours_8 rfl 1 rfl ?_
    refine v_bipush (v := 99) hX dX12_areHours_9 (by decide) ?_
    obtain ⟨p2, hp2, h⟩ := bsome h
    refine v_callSI hX (mM_EachAddsALineModel_in hp2 l ad) kM_X12_in kS_X12_in km_12_105 rfl rfl (Nat.le_of_ble_eq_true rfl) (by decide) dX12_areHours_11 ?_
    refine v_if_eq (tgt := 21) hX dX12_areHours_14 (by decide) h (fun h => ?_) (fun h => ?_)
    · exact v_sub hX [] (by rfl) (wM_EachAddsALineModel_areHours_21 hX hR  h)
    · refine v_iconst (v := 1) hX dX12_areHours_17 (by decide) ?_
      refine v_goto (tgt := 22) hX dX12_areHours_18 (by decide) ?_
      exact v_retZ1 hR h dX12_areHours_22
noncomputable def fM_EachAddsALineModel_areHours (N : Nat) (a1 : Int32) (a2 : Int32) (s : vSt) : Option (Int32 × vSt) := gM_EachAddsALineModel_areHours_0 N a1 a2 s
theorem mM_EachAddsALineModel_areHours {N : Nat} {a1 : Int32} {a2 : Int32} {s : vSt} {r : Int32} {t1 : vSt} (h : fM_EachAddsALineModel_areHours N a1 a2 s = some (r, t1)) (l : Launch) (ad : Nat → Nat) : vMI l shM ad yX12_areHours cX12_areHours 3 .boolean 2 42 s [.ref (ad 0), .int a1, .int a2] r t1 :=
  vMI_of (by decide +kernel) (Nat.le_of_ble_eq_true rfl) (fun P hX hR => wM_EachAddsALineModel_areHours_0 hX hR h)
-- M_EachAddsALineModel_knowing
noncomputable def gM_EachAddsALineModel_knowing_30 (N : Nat) (r3 : Int32 → Int32 → Int32 → Int32 → vSt → Option (Int32 × vSt)) (a1 : Int32) (a2 : Int32) (a3 : Int32) (a4 : Int32) (k1 : Int32) (k2 : Int32) (s : vSt) : Option (Int32 × vSt) :=
  (sto s 20 9 k1 k2).bind fun z1 =>
  (some (a4 + 1 : Int32)).bind fun v2 =>
  r3 a1 a2 a3 v2 z1
set_option maxRecDepth 4000 in
theorem wM_EachAddsALineModel_knowing_30 {P : vP} {l : Launch} {ad : Nat → Nat} {N : Nat} {r3 : Int32 → Int32 → Int32 → Int32 → vSt → Option (Int32 × vSt)} {r : Int32} {t1 : vSt} (hX : vOK P l shM ad (vR 1 30) cX12_knowing RX12 8) (hR : (∀ pc lv, narrow .int (.int r) = .int r → decode cX12_knowing pc = .ok (.ireturn, 1) → P t1 pc lv [.int r])) (H3 : ∀ (a1 : Int32) (a2 : Int32) (a3 : Int32) (a4 : Int32) (s : vSt), r3 a1 a2 a3 a4 s = some (r, t1) → P s 3 [(0, .ref (ad 0)), (1, .int a1), (2, .int a2), (3, .int a3), (4, .int a4)] []) {a1 : Int32} {a2 : Int32} {a3 : Int32} {a4 : Int32} {k1 : Int32} {k2 : Int32} {s : vSt} (h : gM_EachAddsALineModel_knowing_30 N r3 a1 a2 a3 a4 k1 k2 s = some (r, t1)) : P s 30 [(0, .ref (ad 0)), (1, .int a1), (2, .int a2), (3, .int a3), (4, .int a4)] [.int k2, .int k1, .ref (ad 20)] := by
  unfold gM_EachAddsALineModel_knowing_30 at h
  refine asM_20 hX dX12_knowing_30 h (fun z1 h => ?_)
  refine v_iincN hX dX12_knowing_31 (j := 4) rfl (c := 1) (by decide) (by decide) h (fun v2 h => ?_)
  refine v_show (lv' := [(4, .int v2), (0, .ref (ad 0)), (1, .int a1), (2, .int a2), (3, .int a3)]) hX rfl ?_
  refine v_goto (tgt := 3) hX dX12_knowing_34 (by decide) ?_
  exact v_sub hX [1, 2, 3, 4, 0] (by rfl) (H3 _ _ _ _ _ h)
noncomputable def gM_EachAddsALineModel_knowing_152 (N : Nat) (r44 : Int32 → Int32 → Int32 → vSt → Option (Int32 × vSt)) (a1 : Int32) (a3 : Int32) (a4 : Int32) (s : vSt) : Option (Int32 × vSt) :=
  (some (a4 + 1 : Int32)).bind fun v1 =>
  r44 a1 a3 v1 s
set_option maxRecDepth 4000 in
theorem wM_EachAddsALineModel_knowing_152 {P : vP} {l : Launch} {ad : Nat → Nat} {N : Nat} {r44 : Int32 → Int32 → Int32 → vSt → Option (Int32 × vSt)} {r : Int32} {t1 : vSt} (hX : vOK P l shM ad (vR 1 30) cX12_knowing RX12 8) (hR : (∀ pc lv, narrow .int (.int r) = .int r → decode cX12_knowing pc = .ok (.ireturn, 1) → P t1 pc lv [.int r])) (H44 : ∀ (a1 : Int32) (a3 : Int32) (a4 : Int32) (s : vSt), r44 a1 a3 a4 s = some (r, t1) → P s 44 [(0, .ref (ad 0)), (1, .int a1), (3, .int a3), (4, .int a4)] []) {a1 : Int32} {a3 : Int32} {a4 : Int32} {s : vSt} (h : gM_EachAddsALineModel_knowing_152 N r44 a1 a3 a4 s = some (r, t1)) : P s 152 [(0, .ref (ad 0)), (1, .int a1), (3, .int a3), (4, .int a4)] [] := by
  unfold gM_EachAddsALineModel_knowing_152 at h
  refine v_iincN hX dX12_knowing_152 (j := 3) rfl (c := 1) (by decide) (by decide) h (fun v1 h => ?_)
  refine v_show (lv' := [(4, .int v1), (0, .ref (ad 0)), (1, .int a1), (3, .int a3)]) hX rfl ?_
  refine v_goto (tgt := 44) hX dX12_knowing_155 (by decide) ?_
  exact v_sub hX [1, 2, 3, 0] (by rfl) (H44 _ _ _ _ h)
noncomputable def gM_EachAddsALineModel_knowing_109 (N : Nat) (r44 : Int32 → Int32 → Int32 → vSt → Option (Int32 × vSt)) (a1 : Int32) (a3 : Int32) (a4 : Int32) (a5 : Int32) (a6 : Int32) (k0 : Int32) (k1 : Int32) (s : vSt) : Option (Int32 × vSt) :=
  (some (k0 + k1 : Int32)).bind fun v1 =>
  if a6 < v1 then
    gM_EachAddsALineModel_knowing_152 N r44 a1 a3 a4 s
  else
    if a3 < a6 then
      gM_EachAddsALineModel_knowing_152 N r44 a1 a3 a4 s
    else
      (fM_EachAddsALineModel_getter N a5 s).bind fun p2 =>
      (fM_EachAddsALineModel_getter N a5 p2.2).bind fun p3 =>
      (ld p3.2 20 9 p3.1).bind fun v4 =>
      (sto p3.2 20 9 p2.1 (if v4 > a6 then a6 else v4)).bind fun z5 =>
      gM_EachAddsALineModel_knowing_152 N r44 a1 a3 a4 z5
set_option maxRecDepth 4000 in
theorem wM_EachAddsALineModel_knowing_109 {P : vP} {l : Launch} {ad : Nat → Nat} {N : Nat} {r44 : Int32 → Int32 → Int32 → vSt → Option (Int32 × vSt)} {r : Int32} {t1 : vSt} (hX : vOK P l shM ad (vR 1 30) cX12_knowing RX12 8) (hR : (∀ pc lv, narrow .int (.int r) = .int r → decode cX12_knowing pc = .ok (.ireturn, 1) → P t1 pc lv [.int r])) (H44 : ∀ (a1 : Int32) (a3 : Int32) (a4 : Int32) (s : vSt), r44 a1 a3 a4 s = some (r, t1) → P s 44 [(0, .ref (ad 0)), (1, .int a1), (3, .int a3), (4, .int a4)] []) {a1 : Int32} {a3 : Int32} {a4 : Int32} {a5 : Int32} {a6 : Int32} {k0 : Int32} {k1 : Int32} {s : vSt} (h : gM_EachAddsALineModel_knowing_109 N r44 a1 a3 a4 a5 a6 k0 k1 s = some (r, t1)) : P s 109 [(0, .ref (ad 0)), (1, .int a1), (3, .int a3), (4, .int a4), (5, .int a5), (6, .int a6)] [.int k1, .int k0] := by
  unfold gM_EachAddsALineModel_knowing_109 at h
  refine v_iadd hX dX12_knowing_109 ?_
  refine v_nmI hX h (fun v1 h => ?_)
  refine v_istore (lv' := [(7, .int v1), (0, .ref (ad 0)), (1, .int a1), (3, .int a3), (4, .int a4), (5, .int a5), (6, .int a6)]) hX dX12_knowing_110 (by decide) rfl ?_
  refine v_iload hX dX12_knowing_112 0 rfl ?_
  refine v_iload hX dX12_knowing_114 6 rfl ?_
  refine v_icmp_gt (tgt := 152) hX dX12_knowing_116 (by decide) h (fun h => ?_) (fun h => ?_)
  · exact v_sub hX [1, 2, 3, 4] (by rfl) (wM_EachAddsALineModel_knowing_152 hX hR H44 h)
  · refine v_iload hX dX12_knowing_119 6 rfl ?_
    refine v_iload_n hX dX12_knowing_121 rfl 3 rfl ?_
    refine v_icmp_gt (tgt := 152) hX dX12_knowing_122 (by decide) h (fun h => ?_) (fun h => ?_)
    · exact v_sub hX [1, 2, 3, 4] (by rfl) (wM_EachAddsALineModel_knowing_152 hX hR H44 h)
    · refine v_aload_n hX dX12_knowing_125 rfl 1 rfl ?_
      refine gfM_0_47 hX kf_12_83 dX12_knowing_126 ?_
      refine v_aload_n hX dX12_knowing_129 rfl 1 rfl ?_
      refine v_iload hX dX12_knowing_130 5 rfl ?_
      obtain ⟨p2, hp2, h⟩ := bsome h
      refine v_callVI (o := 0) hX (mM_EachAddsALineModel_getter hp2 l ad) kM_X12_getter kV_X12_getter km_12_268 (by decide) (fun _ => rfl) rfl rfl rfl (Nat.le_of_ble_eq_true rfl) (by decide) dX12_knowing_132 ?_
      refine v_aload_n hX dX12_knowing_135 rfl 1 rfl ?_
      refine gfM_0_47 hX kf_12_83 dX12_knowing_136 ?_
      refine v_aload_n hX dX12_knowing_139 rfl 1 rfl ?_
      refine v_iload hX dX12_knowing_140 5 rfl ?_
      obtain ⟨p3, hp3, h⟩ := bsome h
      refine v_callVI (o := 0) hX (mM_EachAddsALineModel_getter hp3 l ad) kM_X12_getter kV_X12_getter km_12_268 (by decide) (fun _ => rfl) rfl rfl rfl (Nat.le_of_ble_eq_true rfl) (by decide) dX12_knowing_142 ?_
      refine alM_20 hX dX12_knowing_145 h (fun v4 h => ?_)
      refine v_iload hX dX12_knowing_146 6 rfl ?_
      refine v_min hX km_12_207 kS_J9_min_7cf53 kI_Math kC_min (Nat.le_of_ble_eq_true rfl) (Nat.le_of_ble_eq_true rfl) dX12_knowing_148 ?_
      refine asM_20 hX dX12_knowing_151 h (fun z5 h => ?_)
      exact v_sub hX [1, 2, 3, 4] (by rfl) (wM_EachAddsALineModel_knowing_152 hX hR H44 h)
noncomputable def gM_EachAddsALineModel_knowing_194 (N : Nat) (r164 : Int32 → Int32 → Int32 → vSt → Option (Int32 × vSt)) (a3 : Int32) (a5 : Int32) (k0 : Int32) (k1 : Int32) (s : vSt) : Option (Int32 × vSt) :=
  (some (k0 ||| k1 : Int32)).bind fun v1 =>
  (some (a5 + 1 : Int32)).bind fun v2 =>
  r164 a3 v1 v2 s
set_option maxRecDepth 4000 in
theorem wM_EachAddsALineModel_knowing_194 {P : vP} {l : Launch} {ad : Nat → Nat} {N : Nat} {r164 : Int32 → Int32 → Int32 → vSt → Option (Int32 × vSt)} {r : Int32} {t1 : vSt} (hX : vOK P l shM ad (vR 1 30) cX12_knowing RX12 8) (hR : (∀ pc lv, narrow .int (.int r) = .int r → decode cX12_knowing pc = .ok (.ireturn, 1) → P t1 pc lv [.int r])) (H164 : ∀ (a3 : Int32) (a4 : Int32) (a5 : Int32) (s : vSt), r164 a3 a4 a5 s = some (r, t1) → P s 164 [(0, .ref (ad 0)), (3, .int a3), (4, .int a4), (5, .int a5)] []) {a3 : Int32} {a5 : Int32} {k0 : Int32} {k1 : Int32} {s : vSt} (h : gM_EachAddsALineModel_knowing_194 N r164 a3 a5 k0 k1 s = some (r, t1)) : P s 194 [(0, .ref (ad 0)), (3, .int a3), (5, .int a5)] [.int k1, .int k0] := by
  unfold gM_EachAddsALineModel_knowing_194 at h
  refine v_ior hX dX12_knowing_194 ?_
  refine v_nmI hX h (fun v1 h => ?_)
  refine v_istore (lv' := [(4, .int v1), (0, .ref (ad 0)), (3, .int a3), (5, .int a5)]) hX dX12_knowing_195 (by decide) rfl ?_
  refine v_iincN hX dX12_knowing_197 (j := 3) rfl (c := 1) (by decide) (by decide) h (fun v2 h => ?_)
  refine v_show (lv' := [(5, .int v2), (4, .int v1), (0, .ref (ad 0)), (3, .int a3)]) hX rfl ?_
  refine v_goto (tgt := 164) hX dX12_knowing_200 (by decide) ?_
  exact v_sub hX [2, 3, 1, 0] (by rfl) (H164 _ _ _ _ h)
noncomputable def gM_EachAddsALineModel_knowing_164 (N : Nat)  : Nat → Int32 → Int32 → Int32 → vSt → Option (Int32 × vSt)
  | 0, _, _, _, _ => none
  | n + 1, a3, a4, a5, s =>
    if (s.1 0 0) ≤ a5 then
      some (a4, s)
    else
      (ld s 20 9 a5).bind fun v1 =>
      if a3 < v1 then
        gM_EachAddsALineModel_knowing_194 N (gM_EachAddsALineModel_knowing_164 N n) a3 a5 a4 0 s
      else
        gM_EachAddsALineModel_knowing_194 N (gM_EachAddsALineModel_knowing_164 N n) a3 a5 a4 ((1 : Int32) <<< (a5 &&& 31)) s
set_option maxRecDepth 4000 in
theorem wM_EachAddsALineModel_knowing_164 {P : vP} {l : Launch} {ad : Nat → Nat} {N : Nat} {r : Int32} {t1 : vSt} (hX : vOK P l shM ad (vR 1 30) cX12_knowing RX12 8) (hR : (∀ pc lv, narrow .int (.int r) = .int r → decode cX12_knowing pc = .ok (.ireturn, 1) → P t1 pc lv [.int r]))  : ∀ (n : Nat) (a3 : Int32) (a4 : Int32) (a5 : Int32) (s : vSt), gM_EachAddsALineModel_knowing_164 N n a3 a4 a5 s = some (r, t1) → P s 164 [(0, .ref (ad 0)), (3, .int a3), (4, .int a4), (5, .int a5)] [] := by
  intro n
  induction n with
  | zero => intro a3 a4 a5 s h; cases h
  | succ n ih =>
    intro a3 a4 a5 s h
    unfold gM_EachAddsALineModel_knowing_164 at h
    refine v_iload hX dX12_knowing_164 3 rfl ?_
    refine v_aload_n hX dX12_knowing_166 rfl 0 rfl ?_
    refine gfM_0_0 hX kf_12_102 dX12_knowing_167 ?_
    refine v_icmp_ge (tgt := 203) hX dX12_knowing_170 (by decide) h (fun h => ?_) (fun h => ?_)
    · refine v_iload hX dX12_knowing_203 2 rfl ?_
      exact v_retI hR h dX12_knowing_205
    · refine v_iload hX dX12_knowing_173 2 rfl ?_
      refine v_aload_n hX dX12_knowing_175 rfl 0 rfl ?_
      refine gfM_0_47 hX kf_12_83 dX12_knowing_176 ?_
      refine v_iload hX dX12_knowing_179 3 rfl ?_
      refine alM_20 hX dX12_knowing_181 h (fun v1 h => ?_)
      refine v_iload_n hX dX12_knowing_182 rfl 1 rfl ?_
      refine v_icmp_gt (tgt := 193) hX dX12_knowing_183 (by decide) h (fun h => ?_) (fun h => ?_)
      · refine v_iconst (v := 0) hX dX12_knowing_193 (by decide) ?_
        exact v_sub hX [0, 1, 3] (by rfl) (wM_EachAddsALineModel_knowing_194 hX hR ih h)
      · refine v_iconst (v := 1) hX dX12_knowing_186 (by decide) ?_
        refine v_iload hX dX12_knowing_187 3 rfl ?_
        refine v_ishl hX dX12_knowing_189 ?_
        refine v_goto (tgt := 194) hX dX12_knowing_190 (by decide) ?_
        exact v_sub hX [0, 1, 3] (by rfl) (wM_EachAddsALineModel_knowing_194 hX hR ih h)
noncomputable def gM_EachAddsALineModel_knowing_44 (N : Nat)  : Nat → Int32 → Int32 → Int32 → vSt → Option (Int32 × vSt)
  | 0, _, _, _, _ => none
  | n + 1, a1, a3, a4, s =>
    if (s.1 0 30) ≤ a4 then
      gM_EachAddsALineModel_knowing_164 N N a3 0 0 s
    else
      (ld s 11 40 a4).bind fun v1 =>
      (ld s 4 20 (v1 / 2)).bind fun v2 =>
      (fM_EachAddsALineModel_giver N v1 s).bind fun p3 =>
      (ld p3.2 20 9 p3.1).bind fun v4 =>
      (fM_EachAddsALineModel_giver N v1 p3.2).bind fun p5 =>
      if p5.1 = a1 then
        gM_EachAddsALineModel_knowing_109 N (gM_EachAddsALineModel_knowing_44 N n) a1 a3 a4 v1 v2 v4 0 p5.2
      else
        (fM_EachAddsALineModel_giver N v1 p5.2).bind fun p6 =>
        (ld p6.2 1 9 p6.1).bind fun v7 =>
        gM_EachAddsALineModel_knowing_109 N (gM_EachAddsALineModel_knowing_44 N n) a1 a3 a4 v1 v2 v4 v7 p6.2
set_option maxRecDepth 4000 in
theorem wM_EachAddsALineModel_knowing_44 {P : vP} {l : Launch} {ad : Nat → Nat} {N : Nat} {r : Int32} {t1 : vSt} (hX : vOK P l shM ad (vR 1 30) cX12_knowing RX12 8) (hR : (∀ pc lv, narrow .int (.int r) = .int r → decode cX12_knowing pc = .ok (.ireturn, 1) → P t1 pc lv [.int r]))  : ∀ (n : Nat) (a1 : Int32) (a3 : Int32) (a4 : Int32) (s : vSt), gM_EachAddsALineModel_knowing_44 N n a1 a3 a4 s = some (r, t1) → P s 44 [(0, .ref (ad 0)), (1, .int a1), (3, .int a3), (4, .int a4)] [] := by
  intro n
  induction n with
  | zero => intro a1 a3 a4 s h; cases h
  | succ n ih =>
    intro a1 a3 a4 s h
    unfold gM_EachAddsALineModel_knowing_44 at h
    refine v_iload hX dX12_knowing_44 3 rfl ?_
    refine v_aload_n hX dX12_knowing_46 rfl 0 rfl ?_
    refine gfM_0_30 hX kf_12_262 dX12_knowing_47 ?_
    refine v_icmp_ge (tgt := 158) hX dX12_knowing_50 (by decide) h (fun h => ?_) (fun h => ?_)
    · refine v_iconst (v := 0) hX dX12_knowing_158 (by decide) ?_
      refine v_istore (lv' := [(4, .int 0), (0, .ref (ad 0)), (1, .int a1), (3, .int a3)]) hX dX12_knowing_159 (by decide) rfl ?_
      refine v_iconst (v := 0) hX dX12_knowing_161 (by decide) ?_
      refine v_istore (lv' := [(5, .int 0), (4, .int 0), (0, .ref (ad 0)), (1, .int a1), (3, .int a3)]) hX dX12_knowing_162 (by decide) rfl ?_
      exact v_sub hX [2, 4, 1, 0] (by rfl) (wM_EachAddsALineModel_knowing_164 hX hR  N _ _ _ _ h)
    · refine v_aload_n hX dX12_knowing_53 rfl 0 rfl ?_
      refine gfM_0_29 hX kf_12_41 dX12_knowing_54 ?_
      refine v_iload hX dX12_knowing_57 3 rfl ?_
      refine alM_11 hX dX12_knowing_59 h (fun v1 h => ?_)
      refine v_istore (lv' := [(5, .int v1), (0, .ref (ad 0)), (1, .int a1), (3, .int a3), (4, .int a4)]) hX dX12_knowing_60 (by decide) rfl ?_
      refine v_aload_n hX dX12_knowing_62 rfl 1 rfl ?_
      refine gfM_0_5 hX kf_12_19 dX12_knowing_63 ?_
      refine v_iload hX dX12_knowing_66 0 rfl ?_
      refine v_iconst (v := 2) hX dX12_knowing_68 (by decide) ?_
      refine v_idiv hX dX12_knowing_69 (by decide) ?_
      refine alM_4 hX dX12_knowing_70 h (fun v2 h => ?_)
      refine v_istore (lv' := [(6, .int v2), (5, .int v1), (0, .ref (ad 0)), (1, .int a1), (3, .int a3), (4, .int a4)]) hX dX12_knowing_71 (by decide) rfl ?_
      refine v_aload_n hX dX12_knowing_73 rfl 2 rfl ?_
      refine gfM_0_47 hX kf_12_83 dX12_knowing_74 ?_
      refine v_aload_n hX dX12_knowing_77 rfl 2 rfl ?_
      refine v_iload hX dX12_knowing_78 1 rfl ?_
      obtain ⟨p3, hp3, h⟩ := bsome h
      refine v_callVI (o := 0) hX (mM_EachAddsALineModel_giver hp3 l ad) kM_X12_giver kV_X12_giver km_12_265 (by decide) (fun _ => rfl) rfl rfl rfl (Nat.le_of_ble_eq_true rfl) (by decide) dX12_knowing_80 ?_
      refine alM_20 hX dX12_knowing_83 h (fun v4 h => ?_)
      refine v_aload_n hX dX12_knowing_84 rfl 2 rfl ?_
      refine v_iload hX dX12_knowing_85 1 rfl ?_
      obtain ⟨p5, hp5, h⟩ := bsome h
      refine v_callVI (o := 0) hX (mM_EachAddsALineModel_giver hp5 l ad) kM_X12_giver kV_X12_giver km_12_265 (by decide) (fun _ => rfl) rfl rfl rfl (Nat.le_of_ble_eq_true rfl) (by decide) dX12_knowing_87 ?_
      refine v_iload_n hX dX12_knowing_90 rfl 3 rfl ?_
      refine v_icmp_ne (tgt := 98) hX dX12_knowing_91 (by decide) h (fun h => ?_) (fun h => ?_)
      · refine v_iconst (v := 0) hX dX12_knowing_94 (by decide) ?_
        refine v_goto (tgt := 109) hX dX12_knowing_95 (by decide) ?_
        exact v_sub hX [2, 3, 4, 5, 1, 0] (by rfl) (wM_EachAddsALineModel_knowing_109 hX hR ih h)
      · refine v_aload_n hX dX12_knowing_98 rfl 2 rfl ?_
        refine gfM_0_1 hX kf_12_9 dX12_knowing_99 ?_
        refine v_aload_n hX dX12_knowing_102 rfl 2 rfl ?_
        refine v_iload hX dX12_knowing_103 1 rfl ?_
        obtain ⟨p6, hp6, h⟩ := bsome h
        refine v_callVI (o := 0) hX (mM_EachAddsALineModel_giver hp6 l ad) kM_X12_giver kV_X12_giver km_12_265 (by decide) (fun _ => rfl) rfl rfl rfl (Nat.le_of_ble_eq_true rfl) (by decide) dX12_knowing_105 ?_
        refine alM_1 hX dX12_knowing_108 h (fun v7 h => ?_)
        exact v_sub hX [2, 3, 4, 5, 1, 0] (by rfl) (wM_EachAddsALineModel_knowing_109 hX hR ih h)
noncomputable def gM_EachAddsALineModel_knowing_3 (N : Nat)  : Nat → Int32 → Int32 → Int32 → Int32 → vSt → Option (Int32 × vSt)
  | 0, _, _, _, _, _ => none
  | n + 1, a1, a2, a3, a4, s =>
    if (s.1 0 0) ≤ a4 then
      (fM_EachAddsALineModel_findOrder N s).bind fun z1 =>
      gM_EachAddsALineModel_knowing_44 N N a1 a3 0 z1
    else
      if a4 = a1 then
        gM_EachAddsALineModel_knowing_30 N (gM_EachAddsALineModel_knowing_3 N n) a1 a2 a3 a4 a4 a2 s
      else
        gM_EachAddsALineModel_knowing_30 N (gM_EachAddsALineModel_knowing_3 N n) a1 a2 a3 a4 a4 1000000 s
set_option maxRecDepth 4000 in
theorem wM_EachAddsALineModel_knowing_3 {P : vP} {l : Launch} {ad : Nat → Nat} {N : Nat} {r : Int32} {t1 : vSt} (hX : vOK P l shM ad (vR 1 30) cX12_knowing RX12 8) (hR : (∀ pc lv, narrow .int (.int r) = .int r → decode cX12_knowing pc = .ok (.ireturn, 1) → P t1 pc lv [.int r]))  : ∀ (n : Nat) (a1 : Int32) (a2 : Int32) (a3 : Int32) (a4 : Int32) (s : vSt), gM_EachAddsALineModel_knowing_3 N n a1 a2 a3 a4 s = some (r, t1) → P s 3 [(0, .ref (ad 0)), (1, .int a1), (2, .int a2), (3, .int a3), (4, .int a4)] [] := by
  intro n
  induction n with
  | zero => intro a1 a2 a3 a4 s h; cases h
  | succ n ih =>
    intro a1 a2 a3 a4 s h
    unfold gM_EachAddsALineModel_knowing_3 at h
    refine v_iload hX dX12_knowing_3 4 rfl ?_
    refine v_aload_n hX dX12_knowing_5 rfl 0 rfl ?_
    refine gfM_0_0 hX kf_12_102 dX12_knowing_6 ?_
    refine v_icmp_ge (tgt := 37) hX dX12_knowing_9 (by decide) h (fun h => ?_) (fun h => ?_)
    · refine v_aload_n hX dX12_knowing_37 rfl 0 rfl ?_
      obtain ⟨z1, hz1, h⟩ := bsome h
      refine v_callVV (o := 0) hX (mM_EachAddsALineModel_findOrder hz1 l ad) kM_X12_findOrder kV_X12_findOrder km_12_271 (by decide) (fun _ => rfl) rfl rfl rfl (Nat.le_of_ble_eq_true rfl) (by decide) dX12_knowing_38 ?_
      refine v_iconst (v := 0) hX dX12_knowing_41 (by decide) ?_
      refine v_istore (lv' := [(4, .int 0), (0, .ref (ad 0)), (1, .int a1), (2, .int a2), (3, .int a3)]) hX dX12_knowing_42 (by decide) rfl ?_
      exact v_sub hX [1, 2, 4, 0] (by rfl) (wM_EachAddsALineModel_knowing_44 hX hR  N _ _ _ _ h)
    · refine v_aload_n hX dX12_knowing_12 rfl 0 rfl ?_
      refine gfM_0_47 hX kf_12_83 dX12_knowing_13 ?_
      refine v_iload hX dX12_knowing_16 4 rfl ?_
      refine v_iload hX dX12_knowing_18 4 rfl ?_
      refine v_iload_n hX dX12_knowing_20 rfl 1 rfl ?_
      refine v_icmp_ne (tgt := 28) hX dX12_knowing_21 (by decide) h (fun h => ?_) (fun h => ?_)
      · refine v_iload_n hX dX12_knowing_24 rfl 2 rfl ?_
        refine v_goto (tgt := 30) hX dX12_knowing_25 (by decide) ?_
        exact v_sub hX [0, 1, 2, 3, 4] (by rfl) (wM_EachAddsALineModel_knowing_30 hX hR ih h)
      · refine v_ldc hX kc_12_50 dX12_knowing_28 ?_
        exact v_sub hX [0, 1, 2, 3, 4] (by rfl) (wM_EachAddsALineModel_knowing_30 hX hR ih h)
noncomputable def gM_EachAddsALineModel_knowing_0 (N : Nat)  (a1 : Int32) (a2 : Int32) (a3 : Int32) (s : vSt) : Option (Int32 × vSt) :=
  gM_EachAddsALineModel_knowing_3 N N a1 a2 a3 0 s
set_option maxRecDepth 4000 in
theorem wM_EachAddsALineModel_knowing_0 {P : vP} {l : Launch} {ad : Nat → Nat} {N : Nat} {r : Int32} {t1 : vSt} (hX : vOK P l shM ad (vR 1 30) cX12_knowing RX12 8) (hR : (∀ pc lv, narrow .int (.int r) = .int r → decode cX12_knowing pc = .ok (.ireturn, 1) → P t1 pc lv [.int r]))  {a1 : Int32} {a2 : Int32} {a3 : Int32} {s : vSt} (h : gM_EachAddsALineModel_knowing_0 N a1 a2 a3 s = some (r, t1)) : P s 0 [(0, .ref (ad 0)), (1, .int a1), (2, .int a2), (3, .int a3)] [] := by
  unfold gM_EachAddsALineModel_knowing_0 at h
  refine v_iconst (v := 0) hX dX12_knowing_0 (by decide) ?_
  refine v_istore (lv' := [(4, .int 0), (0, .ref (ad 0)), (1, .int a1), (2, .int a2), (3, .int a3)]) hX dX12_knowing_1 (by decide) rfl ?_
  exact v_sub hX [1, 2, 3, 4, 0] (by rfl) (wM_EachAddsALineModel_knowing_3 hX hR  N _ _ _ _ _ h)
noncomputable def fM_EachAddsALineModel_knowing (N : Nat) (a1 : Int32) (a2 : Int32) (a3 : Int32) (s : vSt) : Option (Int32 × vSt) := gM_EachAddsALineModel_knowing_0 N a1 a2 a3 s
theorem mM_EachAddsALineModel_knowing {N : Nat} {a1 : Int32} {a2 : Int32} {a3 : Int32} {s : vSt} {r : Int32} {t1 : vSt} (h : fM_EachAddsALineModel_knowing N a1 a2 a3 s = some (r, t1)) (l : Launch) (ad : Nat → Nat) : vMI l shM ad yX12_knowing cX12_knowing 8 .int 1 30 s [.ref (ad 0), .int a1, .int a2, .int a3] r t1 :=
  vMI_of (by decide +kernel) (Nat.le_of_ble_eq_true rfl) (fun P hX hR => wM_EachAddsALineModel_knowing_0 hX hR h)
-- M_EachAddsALineModel_gossip
noncomputable def gM_EachAddsALineModel_gossip_72 (N : Nat) (r39 : Int32 → Int32 → Int32 → vSt → Option (Int32 × vSt)) (a4 : Int32) (a5 : Int32) (a6 : Int32) (s : vSt) : Option (Int32 × vSt) :=
  (some (a6 + 1 : Int32)).bind fun v1 =>
  r39 a4 a5 v1 s
set_option maxRecDepth 4000 in
theorem wM_EachAddsALineModel_gossip_72 {P : vP} {l : Launch} {ad : Nat → Nat} {N : Nat} {r39 : Int32 → Int32 → Int32 → vSt → Option (Int32 × vSt)} {r : Int32} {t1 : vSt} (hX : vOK P l shM ad (vR 3 64) cX12_gossip RX12 7) (hR : (∀ pc lv, narrow .int (.int r) = .int r → decode cX12_gossip pc = .ok (.ireturn, 1) → P t1 pc lv [.int r])) (H39 : ∀ (a4 : Int32) (a5 : Int32) (a6 : Int32) (s : vSt), r39 a4 a5 a6 s = some (r, t1) → P s 39 [(0, .ref (ad 0)), (4, .int a4), (5, .int a5), (6, .int a6)] []) {a4 : Int32} {a5 : Int32} {a6 : Int32} {s : vSt} (h : gM_EachAddsALineModel_gossip_72 N r39 a4 a5 a6 s = some (r, t1)) : P s 72 [(0, .ref (ad 0)), (4, .int a4), (5, .int a5), (6, .int a6)] [] := by
  unfold gM_EachAddsALineModel_gossip_72 at h
  refine v_iincN hX dX12_gossip_72 (j := 3) rfl (c := 1) (by decide) (by decide) h (fun v1 h => ?_)
  refine v_show (lv' := [(6, .int v1), (0, .ref (ad 0)), (4, .int a4), (5, .int a5)]) hX rfl ?_
  refine v_goto (tgt := 39) hX dX12_gossip_75 (by decide) ?_
  exact v_sub hX [1, 2, 3, 0] (by rfl) (H39 _ _ _ _ h)
noncomputable def gM_EachAddsALineModel_gossip_39 (N : Nat)  : Nat → Int32 → Int32 → Int32 → vSt → Option (Int32 × vSt)
  | 0, _, _, _, _ => none
  | n + 1, a4, a5, a6, s =>
    if (s.1 0 0) ≤ a6 then
      (some (s1 s 0 10 0)).bind fun z1 =>
      (fM_EachAddsALineModel_tell N a5 z1).bind fun z2 =>
      some (a4, z2)
    else
      (fM_EachAddsALineModel_has N a4 a6 s).bind fun p3 =>
      if p3.1 = 0 then
        gM_EachAddsALineModel_gossip_72 N (gM_EachAddsALineModel_gossip_39 N n) a4 a5 a6 p3.2
      else
        (ld p3.2 20 9 a6).bind fun v4 =>
        (some (if a5 < v4 then v4 else a5 : Int32)).bind fun v5 =>
        gM_EachAddsALineModel_gossip_72 N (gM_EachAddsALineModel_gossip_39 N n) a4 v5 a6 p3.2
set_option maxRecDepth 4000 in
theorem wM_EachAddsALineModel_gossip_39 {P : vP} {l : Launch} {ad : Nat → Nat} {N : Nat} {r : Int32} {t1 : vSt} (hX : vOK P l shM ad (vR 3 64) cX12_gossip RX12 7) (hR : (∀ pc lv, narrow .int (.int r) = .int r → decode cX12_gossip pc = .ok (.ireturn, 1) → P t1 pc lv [.int r]))  : ∀ (n : Nat) (a4 : Int32) (a5 : Int32) (a6 : Int32) (s : vSt), gM_EachAddsALineModel_gossip_39 N n a4 a5 a6 s = some (r, t1) → P s 39 [(0, .ref (ad 0)), (4, .int a4), (5, .int a5), (6, .int a6)] [] := by
  intro n
  induction n with
  | zero => intro a4 a5 a6 s h; cases h
  | succ n ih =>
    intro a4 a5 a6 s h
    unfold gM_EachAddsALineModel_gossip_39 at h
    refine v_iload hX dX12_gossip_39 3 rfl ?_
    refine v_aload_n hX dX12_gossip_41 rfl 0 rfl ?_
    refine gfM_0_0 hX kf_12_102 dX12_gossip_42 ?_
    refine v_icmp_ge (tgt := 78) hX dX12_gossip_45 (by decide) h (fun h => ?_) (fun h => ?_)
    · refine v_aload_n hX dX12_gossip_78 rfl 0 rfl ?_
      refine v_iconst (v := 0) hX dX12_gossip_79 (by decide) ?_
      refine pfM_0_10 hX kf_12_99 dX12_gossip_80 h (fun z1 h => ?_)
      refine v_aload_n hX dX12_gossip_83 rfl 0 rfl ?_
      refine v_iload hX dX12_gossip_84 2 rfl ?_
      obtain ⟨z2, hz2, h⟩ := bsome h
      refine v_callVV (o := 0) hX (mM_EachAddsALineModel_tell hz2 l ad) kM_X12_tell kV_X12_tell km_12_250 (by decide) (fun _ => rfl) rfl rfl rfl (Nat.le_of_ble_eq_true rfl) (by decide) dX12_gossip_86 ?_
      refine v_iload hX dX12_gossip_89 1 rfl ?_
      exact v_retI hR h dX12_gossip_91
    · refine v_iload hX dX12_gossip_48 1 rfl ?_
      refine v_iload hX dX12_gossip_50 3 rfl ?_
      obtain ⟨p3, hp3, h⟩ := bsome h
      refine v_callSI hX (mM_EachAddsALineModel_has hp3 l ad) kM_X12_has kS_X12_has km_12_259 rfl rfl (Nat.le_of_ble_eq_true rfl) (by decide) dX12_gossip_52 ?_
      refine v_if_eq (tgt := 72) hX dX12_gossip_55 (by decide) h (fun h => ?_) (fun h => ?_)
      · exact v_sub hX [0, 1, 2, 3] (by rfl) (wM_EachAddsALineModel_gossip_72 hX hR ih h)
      · refine v_iload hX dX12_gossip_58 2 rfl ?_
        refine v_aload_n hX dX12_gossip_60 rfl 0 rfl ?_
        refine gfM_0_47 hX kf_12_83 dX12_gossip_61 ?_
        refine v_iload hX dX12_gossip_64 3 rfl ?_
        refine alM_20 hX dX12_gossip_66 h (fun v4 h => ?_)
        refine v_max hX km_12_213 kS_J9_max_7cf53 kI_Math kC_max (Nat.le_of_ble_eq_true rfl) (Nat.le_of_ble_eq_true rfl) dX12_gossip_67 ?_
        refine v_nmI hX h (fun v5 h => ?_)
        refine v_istore (lv' := [(5, .int v5), (0, .ref (ad 0)), (4, .int a4), (6, .int a6)]) hX dX12_gossip_70 (by decide) rfl ?_
        exact v_sub hX [1, 2, 0, 3] (by rfl) (wM_EachAddsALineModel_gossip_72 hX hR ih h)
noncomputable def gM_EachAddsALineModel_gossip_0 (N : Nat)  (a1 : Int32) (a2 : Int32) (a3 : Int32) (s : vSt) : Option (Int32 × vSt) :=
  (some (s1 s 0 11 0)).bind fun z1 =>
  (fM_EachAddsALineModel_isOne N a1 z1).bind fun p2 =>
  if p2.1 = 0 then
    some ((-1), p2.2)
  else
    (fM_EachAddsALineModel_areHours N a2 a3 p2.2).bind fun p3 =>
    if p3.1 = 0 then
      some ((-1), p3.2)
    else
      (fM_EachAddsALineModel_knowing N a1 a2 a3 p3.2).bind fun p4 =>
      gM_EachAddsALineModel_gossip_39 N N p4.1 0 0 p4.2
set_option maxRecDepth 4000 in
theorem wM_EachAddsALineModel_gossip_0 {P : vP} {l : Launch} {ad : Nat → Nat} {N : Nat} {r : Int32} {t1 : vSt} (hX : vOK P l shM ad (vR 3 64) cX12_gossip RX12 7) (hR : (∀ pc lv, narrow .int (.int r) = .int r → decode cX12_gossip pc = .ok (.ireturn, 1) → P t1 pc lv [.int r]))  {a1 : Int32} {a2 : Int32} {a3 : Int32} {s : vSt} (h : gM_EachAddsALineModel_gossip_0 N a1 a2 a3 s = some (r, t1)) : P s 0 [(0, .ref (ad 0)), (1, .int a1), (2, .int a2), (3, .int a3)] [] := by
  unfold gM_EachAddsALineModel_gossip_0 at h
  refine v_aload_n hX dX12_gossip_0 rfl 0 rfl ?_
  refine v_iconst (v := 0) hX dX12_gossip_1 (by decide) ?_
  refine pfM_0_11 hX kf_12_96 dX12_gossip_2 h (fun z1 h => ?_)
  refine v_aload_n hX dX12_gossip_5 rfl 0 rfl ?_
  refine v_iload_n hX dX12_gossip_6 rfl 1 rfl ?_
  obtain ⟨p2, hp2, h⟩ := bsome h
  refine v_callVI (o := 0) hX (mM_EachAddsALineModel_isOne hp2 l ad) kM_X12_isOne kV_X12_isOne km_12_197 (by decide) (fun _ => rfl) rfl rfl rfl (Nat.le_of_ble_eq_true rfl) (by decide) dX12_gossip_7 ?_
  refine v_if_eq (tgt := 22) hX dX12_gossip_10 (by decide) h (fun h => ?_) (fun h => ?_)
  · refine v_iconst (v := (-1)) hX dX12_gossip_22 (by decide) ?_
    exact v_retI hR h dX12_gossip_23
  · refine v_aload_n hX dX12_gossip_13 rfl 0 rfl ?_
    refine v_iload_n hX dX12_gossip_14 rfl 2 rfl ?_
    refine v_iload_n hX dX12_gossip_15 rfl 3 rfl ?_
    obtain ⟨p3, hp3, h⟩ := bsome h
    refine v_callVI (o := 0) hX (mM_EachAddsALineModel_areHours hp3 l ad) kM_X12_areHours kV_X12_areHours km_12_345 (by decide) (fun _ => rfl) rfl rfl rfl (Nat.le_of_ble_eq_true rfl) (by decide) dX12_gossip_16 ?_
    refine v_if_ne (tgt := 24) hX dX12_gossip_19 (by decide) h (fun h => ?_) (fun h => ?_)
    · refine v_iconst (v := (-1)) hX dX12_gossip_22 (by decide) ?_
      exact v_retI hR h dX12_gossip_23
    · refine v_aload_n hX dX12_gossip_24 rfl 0 rfl ?_
      refine v_iload_n hX dX12_gossip_25 rfl 1 rfl ?_
      refine v_iload_n hX dX12_gossip_26 rfl 2 rfl ?_
      refine v_iload_n hX dX12_gossip_27 rfl 3 rfl ?_
      obtain ⟨p4, hp4, h⟩ := bsome h
      refine v_callVI (o := 0) hX (mM_EachAddsALineModel_knowing hp4 l ad) kM_X12_knowing kV_X12_knowing km_12_348 (by decide) (fun _ => rfl) rfl rfl rfl (Nat.le_of_ble_eq_true rfl) (by decide) dX12_gossip_28 ?_
      refine v_istore (lv' := [(4, .int p4.1), (0, .ref (ad 0)), (1, .int a1), (2, .int a2), (3, .int a3)]) hX dX12_gossip_31 (by decide) rfl ?_
      refine v_iconst (v := 0) hX dX12_gossip_33 (by decide) ?_
      refine v_istore (lv' := [(5, .int 0), (4, .int p4.1), (0, .ref (ad 0)), (1, .int a1), (2, .int a2), (3, .int a3)]) hX dX12_gossip_34 (by decide) rfl ?_
      refine v_iconst (v := 0) hX dX12_gossip_36 (by decide) ?_
      refine v_istore (lv' := [(6, .int 0), (5, .int 0), (4, .int p4.1), (0, .ref (ad 0)), (1, .int a1), (2, .int a2), (3, .int a3)]) hX dX12_gossip_37 (by decide) rfl ?_
      exact v_sub hX [3, 2, 1, 0] (by rfl) (wM_EachAddsALineModel_gossip_39 hX hR  N _ _ _ _ h)
noncomputable def fM_EachAddsALineModel_gossip (N : Nat) (a1 : Int32) (a2 : Int32) (a3 : Int32) (s : vSt) : Option (Int32 × vSt) := gM_EachAddsALineModel_gossip_0 N a1 a2 a3 s
theorem mM_EachAddsALineModel_gossip {N : Nat} {a1 : Int32} {a2 : Int32} {a3 : Int32} {s : vSt} {r : Int32} {t1 : vSt} (h : fM_EachAddsALineModel_gossip N a1 a2 a3 s = some (r, t1)) (l : Launch) (ad : Nat → Nat) : vMI l shM ad yX12_gossip cX12_gossip 7 .int 3 64 s [.ref (ad 0), .int a1, .int a2, .int a3] r t1 :=
  vMI_of (by decide +kernel) (Nat.le_of_ble_eq_true rfl) (fun P hX hR => wM_EachAddsALineModel_gossip_0 hX hR h)
-- M_Integer_bitCount
noncomputable def gM_Integer_bitCount_0 (N : Nat)  (a0 : Int32) (s : vSt) : Option (Int32 × vSt) :=
  (some (a0 - ((((a0 : Int32).toUInt32 >>> ((1 : Int32).toUInt32 &&& Int32.toUInt32 31)).toInt32) &&& 1431655765) : Int32)).bind fun v1 =>
  (some ((v1 &&& 858993459) + ((((v1 : Int32).toUInt32 >>> ((2 : Int32).toUInt32 &&& Int32.toUInt32 31)).toInt32) &&& 858993459) : Int32)).bind fun v2 =>
  (some ((v2 + (((v2 : Int32).toUInt32 >>> ((4 : Int32).toUInt32 &&& Int32.toUInt32 31)).toInt32)) &&& 252645135 : Int32)).bind fun v3 =>
  (some (v3 + (((v3 : Int32).toUInt32 >>> ((8 : Int32).toUInt32 &&& Int32.toUInt32 31)).toInt32) : Int32)).bind fun v4 =>
  (some (v4 + (((v4 : Int32).toUInt32 >>> ((16 : Int32).toUInt32 &&& Int32.toUInt32 31)).toInt32) : Int32)).bind fun v5 =>
  some (v5 &&& 63, s)
set_option maxRecDepth 4000 in
theorem wM_Integer_bitCount_0 {P : vP} {l : Launch} {ad : Nat → Nat} {N : Nat} {r : Int32} {t1 : vSt} (hX : vOK P l shM ad (vR 0 0) cJ6_bitCount_0f7a4 RJ6 1) (hR : (∀ pc lv, narrow .int (.int r) = .int r → decode cJ6_bitCount_0f7a4 pc = .ok (.ireturn, 1) → P t1 pc lv [.int r]))  {a0 : Int32} {s : vSt} (h : gM_Integer_bitCount_0 N a0 s = some (r, t1)) : P s 0 [(0, .int a0)] [] := by
  unfold gM_Integer_bitCount_0 at h
  refine v_iload_n hX dJ6_bitCount_0f7a4_0 rfl 0 rfl ?_
  refine v_iload_n hX dJ6_bitCount_0f7a4_1 rfl 0 rfl ?_
  refine v_iconst (v := 1) hX dJ6_bitCount_0f7a4_2 (by decide) ?_
  refine v_iushr hX dJ6_bitCount_0f7a4_3 ?_
  refine v_ldcw hX kc_J6_265 dJ6_bitCount_0f7a4_4 ?_
  refine v_iand hX dJ6_bitCount_0f7a4_7 ?_
  refine v_isub hX dJ6_bitCount_0f7a4_8 ?_
  refine v_nmI hX h (fun v1 h => ?_)
  refine v_istore_n (lv' := [(0, .int v1)]) hX dJ6_bitCount_0f7a4_9 rfl (by decide) rfl ?_
  refine v_iload_n hX dJ6_bitCount_0f7a4_10 rfl 0 rfl ?_
  refine v_ldcw hX kc_J6_266 dJ6_bitCount_0f7a4_11 ?_
  refine v_iand hX dJ6_bitCount_0f7a4_14 ?_
  refine v_iload_n hX dJ6_bitCount_0f7a4_15 rfl 0 rfl ?_
  refine v_iconst (v := 2) hX dJ6_bitCount_0f7a4_16 (by decide) ?_
  refine v_iushr hX dJ6_bitCount_0f7a4_17 ?_
  refine v_ldcw hX kc_J6_266 dJ6_bitCount_0f7a4_18 ?_
  refine v_iand hX dJ6_bitCount_0f7a4_21 ?_
  refine v_iadd hX dJ6_bitCount_0f7a4_22 ?_
  refine v_nmI hX h (fun v2 h => ?_)
  refine v_istore_n (lv' := [(0, .int v2)]) hX dJ6_bitCount_0f7a4_23 rfl (by decide) rfl ?_
  refine v_iload_n hX dJ6_bitCount_0f7a4_24 rfl 0 rfl ?_
  refine v_iload_n hX dJ6_bitCount_0f7a4_25 rfl 0 rfl ?_
  refine v_iconst (v := 4) hX dJ6_bitCount_0f7a4_26 (by decide) ?_
  refine v_iushr hX dJ6_bitCount_0f7a4_27 ?_
  refine v_iadd hX dJ6_bitCount_0f7a4_28 ?_
  refine v_ldcw hX kc_J6_267 dJ6_bitCount_0f7a4_29 ?_
  refine v_iand hX dJ6_bitCount_0f7a4_32 ?_
  refine v_nmI hX h (fun v3 h => ?_)
  refine v_istore_n (lv' := [(0, .int v3)]) hX dJ6_bitCount_0f7a4_33 rfl (by decide) rfl ?_
  refine v_iload_n hX dJ6_bitCount_0f7a4_34 rfl 0 rfl ?_
  refine v_iload_n hX dJ6_bitCount_0f7a4_35 rfl 0 rfl ?_
  refine v_bipush (v := 8) hX dJ6_bitCount_0f7a4_36 (by decide) ?_
  refine v_iushr hX dJ6_bitCount_0f7a4_38 ?_
  refine v_iadd hX dJ6_bitCount_0f7a4_39 ?_
  refine v_nmI hX h (fun v4 h => ?_)
  refine v_istore_n (lv' := [(0, .int v4)]) hX dJ6_bitCount_0f7a4_40 rfl (by decide) rfl ?_
  refine v_iload_n hX dJ6_bitCount_0f7a4_41 rfl 0 rfl ?_
  refine v_iload_n hX dJ6_bitCount_0f7a4_42 rfl 0 rfl ?_
  refine v_bipush (v := 16) hX dJ6_bitCount_0f7a4_43 (by decide) ?_
  refine v_iushr hX dJ6_bitCount_0f7a4_45 ?_
  refine v_iadd hX dJ6_bitCount_0f7a4_46 ?_
  refine v_nmI hX h (fun v5 h => ?_)
  refine v_istore_n (lv' := [(0, .int v5)]) hX dJ6_bitCount_0f7a4_47 rfl (by decide) rfl ?_
  refine v_iload_n hX dJ6_bitCount_0f7a4_48 rfl 0 rfl ?_
  refine v_bipush (v := 63) hX dJ6_bitCount_0f7a4_49 (by decide) ?_
  refine v_iand hX dJ6_bitCount_0f7a4_51 ?_
  exact v_retI hR h dJ6_bitCount_0f7a4_52
noncomputable def fM_Integer_bitCount (N : Nat) (a0 : Int32) (s : vSt) : Option (Int32 × vSt) := gM_Integer_bitCount_0 N a0 s
theorem mM_Integer_bitCount {N : Nat} {a0 : Int32} {s : vSt} {r : Int32} {t1 : vSt} (h : fM_Integer_bitCount N a0 s = some (r, t1)) (l : Launch) (ad : Nat → Nat) : vMI l shM ad yJ6_bitCount_0f7a4 cJ6_bitCount_0f7a4 1 .int 0 0 s [.int a0] r t1 :=
  vMI_of (by decide +kernel) (Nat.le_of_ble_eq_true rfl) (fun P hX hR => wM_Integer_bitCount_0 hX hR h)
-- M_EachAddsALineModel_postman
noncomputable def gM_EachAddsALineModel_postman_64 (N : Nat) (r25 : Int32 → Int32 → Int32 → Int32 → Int32 → vSt → Option (Int32 × vSt)) (a1 : Int32) (a2 : Int32) (a3 : Int32) (a4 : Int32) (a5 : Int32) (s : vSt) : Option (Int32 × vSt) :=
  (some (a5 + 1 : Int32)).bind fun v1 =>
  r25 a1 a2 a3 a4 v1 s
set_option maxRecDepth 4000 in
theorem wM_EachAddsALineModel_postman_64 {P : vP} {l : Launch} {ad : Nat → Nat} {N : Nat} {r25 : Int32 → Int32 → Int32 → Int32 → Int32 → vSt → Option (Int32 × vSt)} {r : Int32} {t1 : vSt} (hX : vOK P l shM ad (vR 3 64) cX12_postman RX12 7) (hR : (∀ pc lv, narrow .int (.int r) = .int r → decode cX12_postman pc = .ok (.ireturn, 1) → P t1 pc lv [.int r])) (H25 : ∀ (a1 : Int32) (a2 : Int32) (a3 : Int32) (a4 : Int32) (a5 : Int32) (s : vSt), r25 a1 a2 a3 a4 a5 s = some (r, t1) → P s 25 [(0, .ref (ad 0)), (1, .int a1), (2, .int a2), (3, .int a3), (4, .int a4), (5, .int a5)] []) {a1 : Int32} {a2 : Int32} {a3 : Int32} {a4 : Int32} {a5 : Int32} {s : vSt} (h : gM_EachAddsALineModel_postman_64 N r25 a1 a2 a3 a4 a5 s = some (r, t1)) : P s 64 [(0, .ref (ad 0)), (1, .int a1), (2, .int a2), (3, .int a3), (4, .int a4), (5, .int a5)] [] := by
  unfold gM_EachAddsALineModel_postman_64 at h
  refine v_iincN hX dX12_postman_64 (j := 5) rfl (c := 1) (by decide) (by decide) h (fun v1 h => ?_)
  refine v_show (lv' := [(5, .int v1), (0, .ref (ad 0)), (1, .int a1), (2, .int a2), (3, .int a3), (4, .int a4)]) hX rfl ?_
  refine v_goto (tgt := 25) hX dX12_postman_67 (by decide) ?_
  exact v_sub hX [1, 2, 3, 4, 5, 0] (by rfl) (H25 _ _ _ _ _ _ h)
noncomputable def gM_EachAddsALineModel_postman_25 (N : Nat)  : Nat → Int32 → Int32 → Int32 → Int32 → Int32 → vSt → Option (Int32 × vSt)
  | 0, _, _, _, _, _, _ => none
  | n + 1, a1, a2, a3, a4, a5, s =>
    if (s.1 0 0) ≤ a5 then
      if 0 ≤ a3 then
        (some (s1 s 0 10 0)).bind fun z1 =>
        (fM_EachAddsALineModel_tell N a4 z1).bind fun z2 =>
        some (a3, z2)
      else
        some ((-2), s)
    else
      (fM_EachAddsALineModel_knowing N a5 a1 a2 s).bind fun p3 =>
      (fM_Integer_bitCount N p3.1 p3.2).bind fun p4 =>
      if a4 < p4.1 then
        gM_EachAddsALineModel_postman_64 N (gM_EachAddsALineModel_postman_25 N n) a1 a2 a5 p4.1 a5 p4.2
      else
        gM_EachAddsALineModel_postman_64 N (gM_EachAddsALineModel_postman_25 N n) a1 a2 a3 a4 a5 p4.2
set_option maxRecDepth 4000 in
theorem wM_EachAddsALineModel_postman_25 {P : vP} {l : Launch} {ad : Nat → Nat} {N : Nat} {r : Int32} {t1 : vSt} (hX : vOK P l shM ad (vR 3 64) cX12_postman RX12 7) (hR : (∀ pc lv, narrow .int (.int r) = .int r → decode cX12_postman pc = .ok (.ireturn, 1) → P t1 pc lv [.int r]))  : ∀ (n : Nat) (a1 : Int32) (a2 : Int32) (a3 : Int32) (a4 : Int32) (a5 : Int32) (s : vSt), gM_EachAddsALineModel_postman_25 N n a1 a2 a3 a4 a5 s = some (r, t1) → P s 25 [(0, .ref (ad 0)), (1, .int a1), (2, .int a2), (3, .int a3), (4, .int a4), (5, .int a5)] [] := by
  intro n
  induction n with
  | zero => intro a1 a2 a3 a4 a5 s h; cases h
  | succ n ih =>
    intro a1 a2 a3 a4 a5 s h
    unfold gM_EachAddsALineModel_postman_25 at h
    refine v_iload hX dX12_postman_25 5 rfl ?_
    refine v_aload_n hX dX12_postman_27 rfl 0 rfl ?_
    refine gfM_0_0 hX kf_12_102 dX12_postman_28 ?_
    refine v_icmp_ge (tgt := 70) hX dX12_postman_31 (by decide) h (fun h => ?_) (fun h => ?_)
    · refine v_iload_n hX dX12_postman_70 rfl 3 rfl ?_
      refine v_if_ge (tgt := 77) hX dX12_postman_71 (by decide) h (fun h => ?_) (fun h => ?_)
      · refine v_aload_n hX dX12_postman_77 rfl 0 rfl ?_
        refine v_iconst (v := 0) hX dX12_postman_78 (by decide) ?_
        refine pfM_0_10 hX kf_12_99 dX12_postman_79 h (fun z1 h => ?_)
        refine v_aload_n hX dX12_postman_82 rfl 0 rfl ?_
        refine v_iload hX dX12_postman_83 4 rfl ?_
        obtain ⟨z2, hz2, h⟩ := bsome h
        refine v_callVV (o := 0) hX (mM_EachAddsALineModel_tell hz2 l ad) kM_X12_tell kV_X12_tell km_12_250 (by decide) (fun _ => rfl) rfl rfl rfl (Nat.le_of_ble_eq_true rfl) (by decide) dX12_postman_85 ?_
        refine v_iload_n hX dX12_postman_88 rfl 3 rfl ?_
        exact v_retI hR h dX12_postman_89
      · refine v_bipush (v := (-2)) hX dX12_postman_74 (by decide) ?_
        exact v_retI hR h dX12_postman_76
    · refine v_aload_n hX dX12_postman_34 rfl 0 rfl ?_
      refine v_iload hX dX12_postman_35 5 rfl ?_
      refine v_iload_n hX dX12_postman_37 rfl 1 rfl ?_
      refine v_iload_n hX dX12_postman_38 rfl 2 rfl ?_
      obtain ⟨p3, hp3, h⟩ := bsome h
      refine v_callVI (o := 0) hX (mM_EachAddsALineModel_knowing hp3 l ad) kM_X12_knowing kV_X12_knowing km_12_348 (by decide) (fun _ => rfl) rfl rfl rfl (Nat.le_of_ble_eq_true rfl) (by decide) dX12_postman_39 ?_
      obtain ⟨p4, hp4, h⟩ := bsome h
      refine v_callSI hX (mM_Integer_bitCount hp4 l ad) kM_J6_bitCount_0f7a4 kS_J6_bitCount_0f7a4 km_12_351 rfl rfl (Nat.le_of_ble_eq_true rfl) (by decide) dX12_postman_42 ?_
      refine v_istore (lv' := [(6, .int p4.1), (0, .ref (ad 0)), (1, .int a1), (2, .int a2), (3, .int a3), (4, .int a4), (5, .int a5)]) hX dX12_postman_45 (by decide) rfl ?_
      refine v_iload hX dX12_postman_47 0 rfl ?_
      refine v_iload hX dX12_postman_49 5 rfl ?_
      refine v_icmp_gt (tgt := 57) hX dX12_postman_51 (by decide) h (fun h => ?_) (fun h => ?_)
      · refine v_iload hX dX12_postman_57 6 rfl ?_
        refine v_istore_n (lv' := [(3, .int a5), (6, .int p4.1), (0, .ref (ad 0)), (1, .int a1), (2, .int a2), (4, .int a4), (5, .int a5)]) hX dX12_postman_59 rfl (by decide) rfl ?_
        refine v_iload hX dX12_postman_60 1 rfl ?_
        refine v_istore (lv' := [(4, .int p4.1), (3, .int a5), (6, .int p4.1), (0, .ref (ad 0)), (1, .int a1), (2, .int a2), (5, .int a5)]) hX dX12_postman_62 (by decide) rfl ?_
        exact v_sub hX [3, 4, 5, 1, 0, 6] (by rfl) (wM_EachAddsALineModel_postman_64 hX hR ih h)
      · refine v_goto (tgt := 64) hX dX12_postman_54 (by decide) ?_
        exact v_sub hX [1, 2, 3, 4, 5, 6] (by rfl) (wM_EachAddsALineModel_postman_64 hX hR ih h)
noncomputable def gM_EachAddsALineModel_postman_0 (N : Nat)  (a1 : Int32) (a2 : Int32) (s : vSt) : Option (Int32 × vSt) :=
  (some (s1 s 0 11 0)).bind fun z1 =>
  (fM_EachAddsALineModel_areHours N a1 a2 z1).bind fun p2 =>
  if p2.1 = 0 then
    some ((-1), p2.2)
  else
    (some ((-2) : Int32)).bind fun v3 =>
    gM_EachAddsALineModel_postman_25 N N a1 a2 v3 0 0 p2.2
set_option maxRecDepth 4000 in
theorem wM_EachAddsALineModel_postman_0 {P : vP} {l : Launch} {ad : Nat → Nat} {N : Nat} {r : Int32} {t1 : vSt} (hX : vOK P l shM ad (vR 3 64) cX12_postman RX12 7) (hR : (∀ pc lv, narrow .int (.int r) = .int r → decode cX12_postman pc = .ok (.ireturn, 1) → P t1 pc lv [.int r]))  {a1 : Int32} {a2 : Int32} {s : vSt} (h : gM_EachAddsALineModel_postman_0 N a1 a2 s = some (r, t1)) : P s 0 [(0, .ref (ad 0)), (1, .int a1), (2, .int a2)] [] := by
  unfold gM_EachAddsALineModel_postman_0 at h
  refine v_aload_n hX dX12_postman_0 rfl 0 rfl ?_
  refine v_iconst (v := 0) hX dX12_postman_1 (by decide) ?_
  refine pfM_0_11 hX kf_12_96 dX12_postman_2 h (fun z1 h => ?_)
  refine v_aload_n hX dX12_postman_5 rfl 0 rfl ?_
  refine v_iload_n hX dX12_postman_6 rfl 1 rfl ?_
  refine v_iload_n hX dX12_postman_7 rfl 2 rfl ?_
  obtain ⟨p2, hp2, h⟩ := bsome h
  refine v_callVI (o := 0) hX (mM_EachAddsALineModel_areHours hp2 l ad) kM_X12_areHours kV_X12_areHours km_12_345 (by decide) (fun _ => rfl) rfl rfl rfl (Nat.le_of_ble_eq_true rfl) (by decide) dX12_postman_8 ?_
  refine v_if_ne (tgt := 16) hX dX12_postman_11 (by decide) h (fun h => ?_) (fun h => ?_)
  · refine v_iconst (v := (-1)) hX dX12_postman_14 (by decide) ?_
    exact v_retI hR h dX12_postman_15
  · refine v_bipush (v := (-2)) hX dX12_postman_16 (by decide) ?_
    refine v_nmI hX h (fun v3 h => ?_)
    refine v_istore_n (lv' := [(3, .int v3), (0, .ref (ad 0)), (1, .int a1), (2, .int a2)]) hX dX12_postman_18 rfl (by decide) rfl ?_
    refine v_iconst (v := 0) hX dX12_postman_19 (by decide) ?_
    refine v_istore (lv' := [(4, .int 0), (3, .int v3), (0, .ref (ad 0)), (1, .int a1), (2, .int a2)]) hX dX12_postman_20 (by decide) rfl ?_
    refine v_iconst (v := 0) hX dX12_postman_22 (by decide) ?_
    refine v_istore (lv' := [(5, .int 0), (4, .int 0), (3, .int v3), (0, .ref (ad 0)), (1, .int a1), (2, .int a2)]) hX dX12_postman_23 (by decide) rfl ?_
    exact v_sub hX [3, 4, 5, 2, 1, 0] (by rfl) (wM_EachAddsALineModel_postman_25 hX hR  N _ _ _ _ _ _ h)
noncomputable def fM_EachAddsALineModel_postman (N : Nat) (a1 : Int32) (a2 : Int32) (s : vSt) : Option (Int32 × vSt) := gM_EachAddsALineModel_postman_0 N a1 a2 s
theorem mM_EachAddsALineModel_postman {N : Nat} {a1 : Int32} {a2 : Int32} {s : vSt} {r : Int32} {t1 : vSt} (h : fM_EachAddsALineModel_postman N a1 a2 s = some (r, t1)) (l : Launch) (ad : Nat → Nat) : vMI l shM ad yX12_postman cX12_postman 7 .int 3 64 s [.ref (ad 0), .int a1, .int a2] r t1 :=
  vMI_of (by decide +kernel) (Nat.le_of_ble_eq_true rfl) (fun P hX hR => wM_EachAddsALineModel_postman_0 hX hR h)
-- M_EachAddsALineModel_heralds
noncomputable def gM_EachAddsALineModel_heralds_99 (N : Nat) (r67 : Int32 → Int32 → Int32 → Int32 → vSt → Option (Int32 × vSt)) (a3 : Int32) (a4 : Int32) (a6 : Int32) (k0 : Int32) (k1 : Int32) (s : vSt) : Option (Int32 × vSt) :=
  (some (k0 ||| k1 : Int32)).bind fun v1 =>
  (some (a6 + 1 : Int32)).bind fun v2 =>
  r67 a3 a4 v1 v2 s
set_option maxRecDepth 4000 in
theorem wM_EachAddsALineModel_heralds_99 {P : vP} {l : Launch} {ad : Nat → Nat} {N : Nat} {r67 : Int32 → Int32 → Int32 → Int32 → vSt → Option (Int32 × vSt)} {r : Int32} {t1 : vSt} (hX : vOK P l shM ad (vR 3 64) cX12_heralds RX12 7) (hR : (∀ pc lv, narrow .int (.int r) = .int r → decode cX12_heralds pc = .ok (.ireturn, 1) → P t1 pc lv [.int r])) (H67 : ∀ (a3 : Int32) (a4 : Int32) (a5 : Int32) (a6 : Int32) (s : vSt), r67 a3 a4 a5 a6 s = some (r, t1) → P s 67 [(0, .ref (ad 0)), (3, .int a3), (4, .int a4), (5, .int a5), (6, .int a6)] []) {a3 : Int32} {a4 : Int32} {a6 : Int32} {k0 : Int32} {k1 : Int32} {s : vSt} (h : gM_EachAddsALineModel_heralds_99 N r67 a3 a4 a6 k0 k1 s = some (r, t1)) : P s 99 [(0, .ref (ad 0)), (3, .int a3), (4, .int a4), (6, .int a6)] [.int k1, .int k0] := by
  unfold gM_EachAddsALineModel_heralds_99 at h
  refine v_ior hX dX12_heralds_99 ?_
  refine v_nmI hX h (fun v1 h => ?_)
  refine v_istore (lv' := [(5, .int v1), (0, .ref (ad 0)), (3, .int a3), (4, .int a4), (6, .int a6)]) hX dX12_heralds_100 (by decide) rfl ?_
  refine v_iincN hX dX12_heralds_102 (j := 4) rfl (c := 1) (by decide) (by decide) h (fun v2 h => ?_)
  refine v_show (lv' := [(6, .int v2), (5, .int v1), (0, .ref (ad 0)), (3, .int a3), (4, .int a4)]) hX rfl ?_
  refine v_goto (tgt := 67) hX dX12_heralds_105 (by decide) ?_
  exact v_sub hX [2, 3, 4, 1, 0] (by rfl) (H67 _ _ _ _ _ h)
noncomputable def gM_EachAddsALineModel_heralds_144 (N : Nat) (r50 : Int32 → Int32 → vSt → Option (Int32 × vSt)) (a3 : Int32) (a4 : Int32) (s : vSt) : Option (Int32 × vSt) :=
  (some (a4 + 1 : Int32)).bind fun v1 =>
  r50 a3 v1 s
set_option maxRecDepth 4000 in
theorem wM_EachAddsALineModel_heralds_144 {P : vP} {l : Launch} {ad : Nat → Nat} {N : Nat} {r50 : Int32 → Int32 → vSt → Option (Int32 × vSt)} {r : Int32} {t1 : vSt} (hX : vOK P l shM ad (vR 3 64) cX12_heralds RX12 7) (hR : (∀ pc lv, narrow .int (.int r) = .int r → decode cX12_heralds pc = .ok (.ireturn, 1) → P t1 pc lv [.int r])) (H50 : ∀ (a3 : Int32) (a4 : Int32) (s : vSt), r50 a3 a4 s = some (r, t1) → P s 50 [(0, .ref (ad 0)), (3, .int a3), (4, .int a4)] []) {a3 : Int32} {a4 : Int32} {s : vSt} (h : gM_EachAddsALineModel_heralds_144 N r50 a3 a4 s = some (r, t1)) : P s 144 [(0, .ref (ad 0)), (3, .int a3), (4, .int a4)] [] := by
  unfold gM_EachAddsALineModel_heralds_144 at h
  refine v_iincN hX dX12_heralds_144 (j := 2) rfl (c := 1) (by decide) (by decide) h (fun v1 h => ?_)
  refine v_show (lv' := [(4, .int v1), (0, .ref (ad 0)), (3, .int a3)]) hX rfl ?_
  refine v_goto (tgt := 50) hX dX12_heralds_147 (by decide) ?_
  exact v_sub hX [1, 2, 0] (by rfl) (H50 _ _ _ h)
noncomputable def gM_EachAddsALineModel_heralds_141 (N : Nat) (r50 : Int32 → Int32 → vSt → Option (Int32 × vSt)) (a4 : Int32) (s : vSt) : Option (Int32 × vSt) :=
  gM_EachAddsALineModel_heralds_144 N r50 a4 a4 s
set_option maxRecDepth 4000 in
theorem wM_EachAddsALineModel_heralds_141 {P : vP} {l : Launch} {ad : Nat → Nat} {N : Nat} {r50 : Int32 → Int32 → vSt → Option (Int32 × vSt)} {r : Int32} {t1 : vSt} (hX : vOK P l shM ad (vR 3 64) cX12_heralds RX12 7) (hR : (∀ pc lv, narrow .int (.int r) = .int r → decode cX12_heralds pc = .ok (.ireturn, 1) → P t1 pc lv [.int r])) (H50 : ∀ (a3 : Int32) (a4 : Int32) (s : vSt), r50 a3 a4 s = some (r, t1) → P s 50 [(0, .ref (ad 0)), (3, .int a3), (4, .int a4)] []) {a4 : Int32} {s : vSt} (h : gM_EachAddsALineModel_heralds_141 N r50 a4 s = some (r, t1)) : P s 141 [(0, .ref (ad 0)), (4, .int a4)] [] := by
  unfold gM_EachAddsALineModel_heralds_141 at h
  refine v_iload hX dX12_heralds_141 1 rfl ?_
  refine v_istore_n (lv' := [(3, .int a4), (0, .ref (ad 0)), (4, .int a4)]) hX dX12_heralds_143 rfl (by decide) rfl ?_
  exact v_sub hX [1, 0, 2] (by rfl) (wM_EachAddsALineModel_heralds_144 hX hR H50 h)
noncomputable def gM_EachAddsALineModel_heralds_67 (N : Nat) (r50 : Int32 → Int32 → vSt → Option (Int32 × vSt)) : Nat → Int32 → Int32 → Int32 → Int32 → vSt → Option (Int32 × vSt)
  | 0, _, _, _, _, _ => none
  | n + 1, a3, a4, a5, a6, s =>
    if (s.1 0 0) ≤ a6 then
      if a5 = (((1 : Int32) <<< ((s.1 0 0) &&& 31)) - 1) then
        if a3 = (-1) then
          gM_EachAddsALineModel_heralds_141 N r50 a4 s
        else
          (fM_Integer_bitCount N a4 s).bind fun p1 =>
          (fM_Integer_bitCount N a3 p1.2).bind fun p2 =>
          if p1.1 < p2.1 then
            gM_EachAddsALineModel_heralds_141 N r50 a4 p2.2
          else
            gM_EachAddsALineModel_heralds_144 N r50 a3 a4 p2.2
      else
        gM_EachAddsALineModel_heralds_144 N r50 a3 a4 s
    else
      (fM_EachAddsALineModel_has N a4 a6 s).bind fun p3 =>
      if p3.1 = 0 then
        gM_EachAddsALineModel_heralds_99 N (gM_EachAddsALineModel_heralds_67 N r50 n) a3 a4 a6 a5 0 p3.2
      else
        (ld p3.2 21 9 a6).bind fun v4 =>
        gM_EachAddsALineModel_heralds_99 N (gM_EachAddsALineModel_heralds_67 N r50 n) a3 a4 a6 a5 v4 p3.2
set_option maxRecDepth 4000 in
theorem wM_EachAddsALineModel_heralds_67 {P : vP} {l : Launch} {ad : Nat → Nat} {N : Nat} {r50 : Int32 → Int32 → vSt → Option (Int32 × vSt)} {r : Int32} {t1 : vSt} (hX : vOK P l shM ad (vR 3 64) cX12_heralds RX12 7) (hR : (∀ pc lv, narrow .int (.int r) = .int r → decode cX12_heralds pc = .ok (.ireturn, 1) → P t1 pc lv [.int r])) (H50 : ∀ (a3 : Int32) (a4 : Int32) (s : vSt), r50 a3 a4 s = some (r, t1) → P s 50 [(0, .ref (ad 0)), (3, .int a3), (4, .int a4)] []) : ∀ (n : Nat) (a3 : Int32) (a4 : Int32) (a5 : Int32) (a6 : Int32) (s : vSt), gM_EachAddsALineModel_heralds_67 N r50 n a3 a4 a5 a6 s = some (r, t1) → P s 67 [(0, .ref (ad 0)), (3, .int a3), (4, .int a4), (5, .int a5), (6, .int a6)] [] := by
  intro n
  induction n with
  | zero => intro a3 a4 a5 a6 s h; cases h
  | succ n ih =>
    intro a3 a4 a5 a6 s h
    unfold gM_EachAddsALineModel_heralds_67 at h
    refine v_iload hX dX12_heralds_67 4 rfl ?_
    refine v_aload_n hX dX12_heralds_69 rfl 0 rfl ?_
    refine gfM_0_0 hX kf_12_102 dX12_heralds_70 ?_
    refine v_icmp_ge (tgt := 108) hX dX12_heralds_73 (by decide) h (fun h => ?_) (fun h => ?_)
    · refine v_iload hX dX12_heralds_108 3 rfl ?_
      refine v_iconst (v := 1) hX dX12_heralds_110 (by decide) ?_
      refine v_aload_n hX dX12_heralds_111 rfl 0 rfl ?_
      refine gfM_0_0 hX kf_12_102 dX12_heralds_112 ?_
      refine v_ishl hX dX12_heralds_115 ?_
      refine v_iconst (v := 1) hX dX12_heralds_116 (by decide) ?_
      refine v_isub hX dX12_heralds_117 ?_
      refine v_icmp_ne (tgt := 144) hX dX12_heralds_118 (by decide) h (fun h => ?_) (fun h => ?_)
      · refine v_iload_n hX dX12_heralds_121 rfl 1 rfl ?_
        refine v_iconst (v := (-1)) hX dX12_heralds_122 (by decide) ?_
        refine v_icmp_eq (tgt := 141) hX dX12_heralds_123 (by decide) h (fun h => ?_) (fun h => ?_)
        · exact v_sub hX [0, 2] (by rfl) (wM_EachAddsALineModel_heralds_141 hX hR H50 h)
        · refine v_iload hX dX12_heralds_126 2 rfl ?_
          obtain ⟨p1, hp1, h⟩ := bsome h
          refine v_callSI hX (mM_Integer_bitCount hp1 l ad) kM_J6_bitCount_0f7a4 kS_J6_bitCount_0f7a4 km_12_351 rfl rfl (Nat.le_of_ble_eq_true rfl) (by decide) dX12_heralds_128 ?_
          refine v_iload_n hX dX12_heralds_131 rfl 1 rfl ?_
          obtain ⟨p2, hp2, h⟩ := bsome h
          refine v_callSI hX (mM_Integer_bitCount hp2 l ad) kM_J6_bitCount_0f7a4 kS_J6_bitCount_0f7a4 km_12_351 rfl rfl (Nat.le_of_ble_eq_true rfl) (by decide) dX12_heralds_132 ?_
          refine v_icmp_lt (tgt := 141) hX dX12_heralds_135 (by decide) h (fun h => ?_) (fun h => ?_)
          · exact v_sub hX [0, 2] (by rfl) (wM_EachAddsALineModel_heralds_141 hX hR H50 h)
          · refine v_goto (tgt := 144) hX dX12_heralds_138 (by decide) ?_
            exact v_sub hX [0, 1, 2] (by rfl) (wM_EachAddsALineModel_heralds_144 hX hR H50 h)
      · exact v_sub hX [0, 1, 2] (by rfl) (wM_EachAddsALineModel_heralds_144 hX hR H50 h)
    · refine v_iload hX dX12_heralds_76 3 rfl ?_
      refine v_iload hX dX12_heralds_78 2 rfl ?_
      refine v_iload hX dX12_heralds_80 4 rfl ?_
      obtain ⟨p3, hp3, h⟩ := bsome h
      refine v_callSI hX (mM_EachAddsALineModel_has hp3 l ad) kM_X12_has kS_X12_has km_12_259 rfl rfl (Nat.le_of_ble_eq_true rfl) (by decide) dX12_heralds_82 ?_
      refine v_if_eq (tgt := 98) hX dX12_heralds_85 (by decide) h (fun h => ?_) (fun h => ?_)
      · refine v_iconst (v := 0) hX dX12_heralds_98 (by decide) ?_
        exact v_sub hX [0, 1, 2, 4] (by rfl) (wM_EachAddsALineModel_heralds_99 hX hR ih h)
      · refine v_aload_n hX dX12_heralds_88 rfl 0 rfl ?_
        refine gfM_0_48 hX kf_12_86 dX12_heralds_89 ?_
        refine v_iload hX dX12_heralds_92 4 rfl ?_
        refine alM_21 hX dX12_heralds_94 h (fun v4 h => ?_)
        refine v_goto (tgt := 99) hX dX12_heralds_95 (by decide) ?_
        exact v_sub hX [0, 1, 2, 4] (by rfl) (wM_EachAddsALineModel_heralds_99 hX hR ih h)
noncomputable def gM_EachAddsALineModel_heralds_50 (N : Nat)  : Nat → Int32 → Int32 → vSt → Option (Int32 × vSt)
  | 0, _, _, _ => none
  | n + 1, a3, a4, s =>
    if ((1 : Int32) <<< ((s.1 0 0) &&& 31)) ≤ a4 then
      (some (s1 s 0 10 0)).bind fun z1 =>
      (fM_EachAddsALineModel_tell N a3 z1).bind fun z2 =>
      (fM_Integer_bitCount N a3 z2).bind fun p3 =>
      some (p3.1, p3.2)
    else
      gM_EachAddsALineModel_heralds_67 N (gM_EachAddsALineModel_heralds_50 N n) N a3 a4 0 0 s
set_option maxRecDepth 4000 in
theorem wM_EachAddsALineModel_heralds_50 {P : vP} {l : Launch} {ad : Nat → Nat} {N : Nat} {r : Int32} {t1 : vSt} (hX : vOK P l shM ad (vR 3 64) cX12_heralds RX12 7) (hR : (∀ pc lv, narrow .int (.int r) = .int r → decode cX12_heralds pc = .ok (.ireturn, 1) → P t1 pc lv [.int r]))  : ∀ (n : Nat) (a3 : Int32) (a4 : Int32) (s : vSt), gM_EachAddsALineModel_heralds_50 N n a3 a4 s = some (r, t1) → P s 50 [(0, .ref (ad 0)), (3, .int a3), (4, .int a4)] [] := by
  intro n
  induction n with
  | zero => intro a3 a4 s h; cases h
  | succ n ih =>
    intro a3 a4 s h
    unfold gM_EachAddsALineModel_heralds_50 at h
    refine v_iload hX dX12_heralds_50 2 rfl ?_
    refine v_iconst (v := 1) hX dX12_heralds_52 (by decide) ?_
    refine v_aload_n hX dX12_heralds_53 rfl 0 rfl ?_
    refine gfM_0_0 hX kf_12_102 dX12_heralds_54 ?_
    refine v_ishl hX dX12_heralds_57 ?_
    refine v_icmp_ge (tgt := 150) hX dX12_heralds_58 (by decide) h (fun h => ?_) (fun h => ?_)
    · refine v_aload_n hX dX12_heralds_150 rfl 0 rfl ?_
      refine v_iconst (v := 0) hX dX12_heralds_151 (by decide) ?_
      refine pfM_0_10 hX kf_12_99 dX12_heralds_152 h (fun z1 h => ?_)
      refine v_aload_n hX dX12_heralds_155 rfl 0 rfl ?_
      refine v_iload_n hX dX12_heralds_156 rfl 1 rfl ?_
      obtain ⟨z2, hz2, h⟩ := bsome h
      refine v_callVV (o := 0) hX (mM_EachAddsALineModel_tell hz2 l ad) kM_X12_tell kV_X12_tell km_12_250 (by decide) (fun _ => rfl) rfl rfl rfl (Nat.le_of_ble_eq_true rfl) (by decide) dX12_heralds_157 ?_
      refine v_iload_n hX dX12_heralds_160 rfl 1 rfl ?_
      obtain ⟨p3, hp3, h⟩ := bsome h
      refine v_callSI hX (mM_Integer_bitCount hp3 l ad) kM_J6_bitCount_0f7a4 kS_J6_bitCount_0f7a4 km_12_351 rfl rfl (Nat.le_of_ble_eq_true rfl) (by decide) dX12_heralds_161 ?_
      exact v_retI hR h dX12_heralds_164
    · refine v_iconst (v := 0) hX dX12_heralds_61 (by decide) ?_
      refine v_istore (lv' := [(5, .int 0), (0, .ref (ad 0)), (3, .int a3), (4, .int a4)]) hX dX12_heralds_62 (by decide) rfl ?_
      refine v_iconst (v := 0) hX dX12_heralds_64 (by decide) ?_
      refine v_istore (lv' := [(6, .int 0), (5, .int 0), (0, .ref (ad 0)), (3, .int a3), (4, .int a4)]) hX dX12_heralds_65 (by decide) rfl ?_
      exact v_sub hX [2, 3, 4, 1, 0] (by rfl) (wM_EachAddsALineModel_heralds_67 hX hR ih N _ _ _ _ _ h)
noncomputable def gM_EachAddsALineModel_heralds_18 (N : Nat)  : Nat → Int32 → Int32 → Int32 → vSt → Option (Int32 × vSt)
  | 0, _, _, _, _ => none
  | n + 1, a1, a2, a3, s =>
    if (s.1 0 0) ≤ a3 then
      (some ((-1) : Int32)).bind fun v1 =>
      gM_EachAddsALineModel_heralds_50 N N v1 0 s
    else
      (fM_EachAddsALineModel_knowing N a3 a1 a2 s).bind fun p2 =>
      (sto p2.2 21 9 a3 p2.1).bind fun z3 =>
      (some (a3 + 1 : Int32)).bind fun v4 =>
      gM_EachAddsALineModel_heralds_18 N n a1 a2 v4 z3
set_option maxRecDepth 4000 in
theorem wM_EachAddsALineModel_heralds_18 {P : vP} {l : Launch} {ad : Nat → Nat} {N : Nat} {r : Int32} {t1 : vSt} (hX : vOK P l shM ad (vR 3 64) cX12_heralds RX12 7) (hR : (∀ pc lv, narrow .int (.int r) = .int r → decode cX12_heralds pc = .ok (.ireturn, 1) → P t1 pc lv [.int r]))  : ∀ (n : Nat) (a1 : Int32) (a2 : Int32) (a3 : Int32) (s : vSt), gM_EachAddsALineModel_heralds_18 N n a1 a2 a3 s = some (r, t1) → P s 18 [(0, .ref (ad 0)), (1, .int a1), (2, .int a2), (3, .int a3)] [] := by
  intro n
  induction n with
  | zero => intro a1 a2 a3 s h; cases h
  | succ n ih =>
    intro a1 a2 a3 s h
    unfold gM_EachAddsALineModel_heralds_18 at h
    refine v_iload_n hX dX12_heralds_18 rfl 3 rfl ?_
    refine v_aload_n hX dX12_heralds_19 rfl 0 rfl ?_
    refine gfM_0_0 hX kf_12_102 dX12_heralds_20 ?_
    refine v_icmp_ge (tgt := 45) hX dX12_heralds_23 (by decide) h (fun h => ?_) (fun h => ?_)
    · refine v_iconst (v := (-1)) hX dX12_heralds_45 (by decide) ?_
      refine v_nmI hX h (fun v1 h => ?_)
      refine v_istore_n (lv' := [(3, .int v1), (0, .ref (ad 0)), (1, .int a1), (2, .int a2)]) hX dX12_heralds_46 rfl (by decide) rfl ?_
      refine v_iconst (v := 0) hX dX12_heralds_47 (by decide) ?_
      refine v_istore (lv' := [(4, .int 0), (3, .int v1), (0, .ref (ad 0)), (1, .int a1), (2, .int a2)]) hX dX12_heralds_48 (by decide) rfl ?_
      exact v_sub hX [2, 1, 0] (by rfl) (wM_EachAddsALineModel_heralds_50 hX hR  N _ _ _ h)
    · refine v_aload_n hX dX12_heralds_26 rfl 0 rfl ?_
      refine gfM_0_48 hX kf_12_86 dX12_heralds_27 ?_
      refine v_iload_n hX dX12_heralds_30 rfl 3 rfl ?_
      refine v_aload_n hX dX12_heralds_31 rfl 0 rfl ?_
      refine v_iload_n hX dX12_heralds_32 rfl 3 rfl ?_
      refine v_iload_n hX dX12_heralds_33 rfl 1 rfl ?_
      refine v_iload_n hX dX12_heralds_34 rfl 2 rfl ?_
      obtain ⟨p2, hp2, h⟩ := bsome h
      refine v_callVI (o := 0) hX (mM_EachAddsALineModel_knowing hp2 l ad) kM_X12_knowing kV_X12_knowing km_12_348 (by decide) (fun _ => rfl) rfl rfl rfl (Nat.le_of_ble_eq_true rfl) (by decide) dX12_heralds_35 ?_
      refine asM_21 hX dX12_heralds_38 h (fun z3 h => ?_)
      refine v_iincN hX dX12_heralds_39 (j := 3) rfl (c := 1) (by decide) (by decide) h (fun v4 h => ?_)
      refine v_show (lv' := [(3, .int v4), (0, .ref (ad 0)), (1, .int a1), (2, .int a2)]) hX rfl ?_
      refine v_goto (tgt := 18) hX dX12_heralds_42 (by decide) ?_
      exact v_sub hX [1, 2, 3, 0] (by rfl) (ih _ _ _ _ h)
noncomputable def gM_EachAddsALineModel_heralds_0 (N : Nat)  (a1 : Int32) (a2 : Int32) (s : vSt) : Option (Int32 × vSt) :=
  (some (s1 s 0 11 0)).bind fun z1 =>
  (fM_EachAddsALineModel_areHours N a1 a2 z1).bind fun p2 =>
  if p2.1 = 0 then
    some ((-1), p2.2)
  else
    gM_EachAddsALineModel_heralds_18 N N a1 a2 0 p2.2
set_option maxRecDepth 4000 in
theorem wM_EachAddsALineModel_heralds_0 {P : vP} {l : Launch} {ad : Nat → Nat} {N : Nat} {r : Int32} {t1 : vSt} (hX : vOK P l shM ad (vR 3 64) cX12_heralds RX12 7) (hR : (∀ pc lv, narrow .int (.int r) = .int r → decode cX12_heralds pc = .ok (.ireturn, 1) → P t1 pc lv [.int r]))  {a1 : Int32} {a2 : Int32} {s : vSt} (h : gM_EachAddsALineModel_heralds_0 N a1 a2 s = some (r, t1)) : P s 0 [(0, .ref (ad 0)), (1, .int a1), (2, .int a2)] [] := by
  unfold gM_EachAddsALineModel_heralds_0 at h
  refine v_aload_n hX dX12_heralds_0 rfl 0 rfl ?_
  refine v_iconst (v := 0) hX dX12_heralds_1 (by decide) ?_
  refine pfM_0_11 hX kf_12_96 dX12_heralds_2 h (fun z1 h => ?_)
  refine v_aload_n hX dX12_heralds_5 rfl 0 rfl ?_
  refine v_iload_n hX dX12_heralds_6 rfl 1 rfl ?_
  refine v_iload_n hX dX12_heralds_7 rfl 2 rfl ?_
  obtain ⟨p2, hp2, h⟩ := bsome h
  refine v_callVI (o := 0) hX (mM_EachAddsALineModel_areHours hp2 l ad) kM_X12_areHours kV_X12_areHours km_12_345 (by decide) (fun _ => rfl) rfl rfl rfl (Nat.le_of_ble_eq_true rfl) (by decide) dX12_heralds_8 ?_
  refine v_if_ne (tgt := 16) hX dX12_heralds_11 (by decide) h (fun h => ?_) (fun h => ?_)
  · refine v_iconst (v := (-1)) hX dX12_heralds_14 (by decide) ?_
    exact v_retI hR h dX12_heralds_15
  · refine v_iconst (v := 0) hX dX12_heralds_16 (by decide) ?_
    refine v_istore_n (lv' := [(3, .int 0), (0, .ref (ad 0)), (1, .int a1), (2, .int a2)]) hX dX12_heralds_17 rfl (by decide) rfl ?_
    exact v_sub hX [1, 2, 3, 0] (by rfl) (wM_EachAddsALineModel_heralds_18 hX hR  N _ _ _ _ h)
noncomputable def fM_EachAddsALineModel_heralds (N : Nat) (a1 : Int32) (a2 : Int32) (s : vSt) : Option (Int32 × vSt) := gM_EachAddsALineModel_heralds_0 N a1 a2 s
theorem mM_EachAddsALineModel_heralds {N : Nat} {a1 : Int32} {a2 : Int32} {s : vSt} {r : Int32} {t1 : vSt} (h : fM_EachAddsALineModel_heralds N a1 a2 s = some (r, t1)) (l : Launch) (ad : Nat → Nat) : vMI l shM ad yX12_heralds cX12_heralds 7 .int 3 64 s [.ref (ad 0), .int a1, .int a2] r t1 :=
  vMI_of (by decide +kernel) (Nat.le_of_ble_eq_true rfl) (fun P hX hR => wM_EachAddsALineModel_heralds_0 hX hR h)
-- M_EachAddsALineModel_keep
noncomputable def gM_EachAddsALineModel_keep_25 (N : Nat)  : Nat → Int32 → Int32 → vSt → Option (Int32 × vSt)
  | 0, _, _, _ => none
  | n + 1, a1, a2, s =>
    if 273 ≤ a2 then
      some (1, s)
    else
      (ld s 9 273 a2).bind fun v1 =>
      (sto s 22 546 (((273 : Int32) * a1) + a2) v1).bind fun z2 =>
      (some (a2 + 1 : Int32)).bind fun v3 =>
      gM_EachAddsALineModel_keep_25 N n a1 v3 z2
set_option maxRecDepth 4000 in
theorem wM_EachAddsALineModel_keep_25 {P : vP} {l : Launch} {ad : Nat → Nat} {N : Nat} {r : Int32} {t1 : vSt} (hX : vOK P l shM ad (vR 1 22) cX12_keep RX12 3) (hR : (∀ pc lv, narrow .boolean (.int r) = .int r → decode cX12_keep pc = .ok (.ireturn, 1) → P t1 pc lv [.int r]))  : ∀ (n : Nat) (a1 : Int32) (a2 : Int32) (s : vSt), gM_EachAddsALineModel_keep_25 N n a1 a2 s = some (r, t1) → P s 25 [(0, .ref (ad 0)), (1, .int a1), (2, .int a2)] [] := by
  intro n
  induction n with
  | zero => intro a1 a2 s h; cases h
  | succ n ih =>
    intro a1 a2 s h
    unfold gM_EachAddsALineModel_keep_25 at h
    refine v_iload_n hX dX12_keep_25 rfl 2 rfl ?_
    refine v_sipush (v := 273) hX dX12_keep_26 (by decide) ?_
    refine v_icmp_ge (tgt := 56) hX dX12_keep_29 (by decide) h (fun h => ?_) (fun h => ?_)
    · refine v_iconst (v := 1) hX dX12_keep_56 (by decide) ?_
      exact v_retZ1 hR h dX12_keep_57
    · refine v_aload_n hX dX12_keep_32 rfl 0 rfl ?_
      refine gfM_0_49 hX kf_12_89 dX12_keep_33 ?_
      refine v_sipush (v := 273) hX dX12_keep_36 (by decide) ?_
      refine v_iload_n hX dX12_keep_39 rfl 1 rfl ?_
      refine v_imul hX dX12_keep_40 ?_
      refine v_iload_n hX dX12_keep_41 rfl 2 rfl ?_
      refine v_iadd hX dX12_keep_42 ?_
      refine v_aload_n hX dX12_keep_43 rfl 0 rfl ?_
      refine gfM_0_27 hX kf_12_35 dX12_keep_44 ?_
      refine v_iload_n hX dX12_keep_47 rfl 2 rfl ?_
      refine alM_9 hX dX12_keep_48 h (fun v1 h => ?_)
      refine asM_22 hX dX12_keep_49 h (fun z2 h => ?_)
      refine v_iincN hX dX12_keep_50 (j := 2) rfl (c := 1) (by decide) (by decide) h (fun v3 h => ?_)
      refine v_show (lv' := [(2, .int v3), (0, .ref (ad 0)), (1, .int a1)]) hX rfl ?_
      refine v_goto (tgt := 25) hX dX12_keep_53 (by decide) ?_
      exact v_sub hX [1, 2, 0] (by rfl) (ih _ _ _ h)
noncomputable def gM_EachAddsALineModel_keep_0 (N : Nat)  (a1 : Int32) (s : vSt) : Option (Int32 × vSt) :=
  (some (s1 s 0 11 0)).bind fun z1 =>
  (fM_EachAddsALineModel_in N a1 0 1 z1).bind fun p2 =>
  if p2.1 = 0 then
    some (0, p2.2)
  else
    (sto p2.2 23 2 a1 (vp_nar .boolean 1)).bind fun z3 =>
    gM_EachAddsALineModel_keep_25 N N a1 0 z3
set_option maxRecDepth 4000 in
theorem wM_EachAddsALineModel_keep_0 {P : vP} {l : Launch} {ad : Nat → Nat} {N : Nat} {r : Int32} {t1 : vSt} (hX : vOK P l shM ad (vR 1 22) cX12_keep RX12 3) (hR : (∀ pc lv, narrow .boolean (.int r) = .int r → decode cX12_keep pc = .ok (.ireturn, 1) → P t1 pc lv [.int r]))  {a1 : Int32} {s : vSt} (h : gM_EachAddsALineModel_keep_0 N a1 s = some (r, t1)) : P s 0 [(0, .ref (ad 0)), (1, .int a1)] [] := by
  unfold gM_EachAddsALineModel_keep_0 at h
  refine v_aload_n hX dX12_keep_0 rfl 0 rfl ?_
  refine v_iconst (v := 0) hX dX12_keep_1 (by decide) ?_
  refine pfM_0_11 hX kf_12_96 dX12_keep_2 h (fun z1 h => ?_)
  refine v_iload_n hX dX12_keep_5 rfl 1 rfl ?_
  refine v_iconst (v := 0) hX dX12_keep_6 (by decide) ?_
  refine v_iconst (v := 1) hX dX12_keep_7 (by decide) ?_
  obtain ⟨p2, hp2, h⟩ := bsome h
  refine v_callSI hX (mM_EachAddsALineModel_in hp2 l ad) kM_X12_in kS_X12_in km_12_105 rfl rfl (Nat.le_of_ble_eq_true rfl) (by decide) dX12_keep_8 ?_
  refine v_if_ne (tgt := 16) hX dX12_keep_11 (by decide) h (fun h => ?_) (fun h => ?_)
  · refine v_iconst (v := 0) hX dX12_keep_14 (by decide) ?_
    exact v_retZ0 hR h dX12_keep_15
  · refine v_aload_n hX dX12_keep_16 rfl 0 rfl ?_
    refine gfM_0_50 hX kf_12_92 dX12_keep_17 ?_
    refine v_iload_n hX dX12_keep_20 rfl 1 rfl ?_
    refine v_iconst (v := 1) hX dX12_keep_21 (by decide) ?_
    refine asM_23 hX dX12_keep_22 h (fun z3 h => ?_)
    refine v_iconst (v := 0) hX dX12_keep_23 (by decide) ?_
    refine v_istore_n (lv' := [(2, .int 0), (0, .ref (ad 0)), (1, .int a1)]) hX dX12_keep_24 rfl (by decide) rfl ?_
    exact v_sub hX [1, 2, 0] (by rfl) (wM_EachAddsALineModel_keep_25 hX hR  N _ _ _ h)
noncomputable def fM_EachAddsALineModel_keep (N : Nat) (a1 : Int32) (s : vSt) : Option (Int32 × vSt) := gM_EachAddsALineModel_keep_0 N a1 s
theorem mM_EachAddsALineModel_keep {N : Nat} {a1 : Int32} {s : vSt} {r : Int32} {t1 : vSt} (h : fM_EachAddsALineModel_keep N a1 s = some (r, t1)) (l : Launch) (ad : Nat → Nat) : vMI l shM ad yX12_keep cX12_keep 3 .boolean 1 22 s [.ref (ad 0), .int a1] r t1 :=
  vMI_of (by decide +kernel) (Nat.le_of_ble_eq_true rfl) (fun P hX hR => wM_EachAddsALineModel_keep_0 hX hR h)
-- M_EachAddsALineModel_again
noncomputable def gM_EachAddsALineModel_again_27 (N : Nat)  : Nat → Int32 → Int32 → vSt → Option (Int32 × vSt)
  | 0, _, _, _ => none
  | n + 1, a1, a2, s =>
    if 273 ≤ a2 then
      some (1, s)
    else
      (ld s 22 546 (((273 : Int32) * a1) + a2)).bind fun v1 =>
      (sto s 9 273 a2 v1).bind fun z2 =>
      (some (a2 + 1 : Int32)).bind fun v3 =>
      gM_EachAddsALineModel_again_27 N n a1 v3 z2
set_option maxRecDepth 4000 in
theorem wM_EachAddsALineModel_again_27 {P : vP} {l : Launch} {ad : Nat → Nat} {N : Nat} {r : Int32} {t1 : vSt} (hX : vOK P l shM ad (vR 1 22) cX12_again RX12 3) (hR : (∀ pc lv, narrow .boolean (.int r) = .int r → decode cX12_again pc = .ok (.ireturn, 1) → P t1 pc lv [.int r]))  : ∀ (n : Nat) (a1 : Int32) (a2 : Int32) (s : vSt), gM_EachAddsALineModel_again_27 N n a1 a2 s = some (r, t1) → P s 27 [(0, .ref (ad 0)), (1, .int a1), (2, .int a2)] [] := by
  intro n
  induction n with
  | zero => intro a1 a2 s h; cases h
  | succ n ih =>
    intro a1 a2 s h
    unfold gM_EachAddsALineModel_again_27 at h
    refine v_iload_n hX dX12_again_27 rfl 2 rfl ?_
    refine v_sipush (v := 273) hX dX12_again_28 (by decide) ?_
    refine v_icmp_ge (tgt := 58) hX dX12_again_31 (by decide) h (fun h => ?_) (fun h => ?_)
    · refine v_iconst (v := 1) hX dX12_again_58 (by decide) ?_
      exact v_retZ1 hR h dX12_again_59
    · refine v_aload_n hX dX12_again_34 rfl 0 rfl ?_
      refine gfM_0_27 hX kf_12_35 dX12_again_35 ?_
      refine v_iload_n hX dX12_again_38 rfl 2 rfl ?_
      refine v_aload_n hX dX12_again_39 rfl 0 rfl ?_
      refine gfM_0_49 hX kf_12_89 dX12_again_40 ?_
      refine v_sipush (v := 273) hX dX12_again_43 (by decide) ?_
      refine v_iload_n hX dX12_again_46 rfl 1 rfl ?_
      refine v_imul hX dX12_again_47 ?_
      refine v_iload_n hX dX12_again_48 rfl 2 rfl ?_
      refine v_iadd hX dX12_again_49 ?_
      refine alM_22 hX dX12_again_50 h (fun v1 h => ?_)
      refine asM_9 hX dX12_again_51 h (fun z2 h => ?_)
      refine v_iincN hX dX12_again_52 (j := 2) rfl (c := 1) (by decide) (by decide) h (fun v3 h => ?_)
      refine v_show (lv' := [(2, .int v3), (0, .ref (ad 0)), (1, .int a1)]) hX rfl ?_
      refine v_goto (tgt := 27) hX dX12_again_55 (by decide) ?_
      exact v_sub hX [1, 2, 0] (by rfl) (ih _ _ _ h)
noncomputable def gM_EachAddsALineModel_again_0 (N : Nat)  (a1 : Int32) (s : vSt) : Option (Int32 × vSt) :=
  (some (s1 s 0 11 0)).bind fun z1 =>
  (fM_EachAddsALineModel_in N a1 0 1 z1).bind fun p2 =>
  if p2.1 = 0 then
    some (0, p2.2)
  else
    (ld p2.2 23 2 a1).bind fun v3 =>
    if v3 = 0 then
      some (0, p2.2)
    else
      gM_EachAddsALineModel_again_27 N N a1 0 p2.2
set_option maxRecDepth 4000 in
theorem wM_EachAddsALineModel_again_0 {P : vP} {l : Launch} {ad : Nat → Nat} {N : Nat} {r : Int32} {t1 : vSt} (hX : vOK P l shM ad (vR 1 22) cX12_again RX12 3) (hR : (∀ pc lv, narrow .boolean (.int r) = .int r → decode cX12_again pc = .ok (.ireturn, 1) → P t1 pc lv [.int r]))  {a1 : Int32} {s : vSt} (h : gM_EachAddsALineModel_again_0 N a1 s = some (r, t1)) : P s 0 [(0, .ref (ad 0)), (1, .int a1)] [] := by
  unfold gM_EachAddsALineModel_again_0 at h
  refine v_aload_n hX dX12_again_0 rfl 0 rfl ?_
  refine v_iconst (v := 0) hX dX12_again_1 (by decide) ?_
  refine pfM_0_11 hX kf_12_96 dX12_again_2 h (fun z1 h => ?_)
  refine v_iload_n hX dX12_again_5 rfl 1 rfl ?_
  refine v_iconst (v := 0) hX dX12_again_6 (by decide) ?_
  refine v_iconst (v := 1) hX dX12_again_7 (by decide) ?_
  obtain ⟨p2, hp2, h⟩ := bsome h
  refine v_callSI hX (mM_EachAddsALineModel_in hp2 l ad) kM_X12_in kS_X12_in km_12_105 rfl rfl (Nat.le_of_ble_eq_true rfl) (by decide) dX12_again_8 ?_
  refine v_if_eq (tgt := 23) hX dX12_again_11 (by decide) h (fun h => ?_) (fun h => ?_)
  · refine v_iconst (v := 0) hX dX12_again_23 (by decide) ?_
    exact v_retZ0 hR h dX12_again_24
  · refine v_aload_n hX dX12_again_14 rfl 0 rfl ?_
    refine gfM_0_50 hX kf_12_92 dX12_again_15 ?_
    refine v_iload_n hX dX12_again_18 rfl 1 rfl ?_
    refine alM_23 hX dX12_again_19 h (fun v3 h => ?_)
    refine v_if_ne (tgt := 25) hX dX12_again_20 (by decide) h (fun h => ?_) (fun h => ?_)
    · refine v_iconst (v := 0) hX dX12_again_23 (by decide) ?_
      exact v_retZ0 hR h dX12_again_24
    · refine v_iconst (v := 0) hX dX12_again_25 (by decide) ?_
      refine v_istore_n (lv' := [(2, .int 0), (0, .ref (ad 0)), (1, .int a1)]) hX dX12_again_26 rfl (by decide) rfl ?_
      exact v_sub hX [1, 2, 0] (by rfl) (wM_EachAddsALineModel_again_27 hX hR  N _ _ _ h)
noncomputable def fM_EachAddsALineModel_again (N : Nat) (a1 : Int32) (s : vSt) : Option (Int32 × vSt) := gM_EachAddsALineModel_again_0 N a1 s
theorem mM_EachAddsALineModel_again {N : Nat} {a1 : Int32} {s : vSt} {r : Int32} {t1 : vSt} (h : fM_EachAddsALineModel_again N a1 s = some (r, t1)) (l : Launch) (ad : Nat → Nat) : vMI l shM ad yX12_again cX12_again 3 .boolean 1 22 s [.ref (ad 0), .int a1] r t1 :=
  vMI_of (by decide +kernel) (Nat.le_of_ble_eq_true rfl) (fun P hX hR => wM_EachAddsALineModel_again_0 hX hR h)
-- M_EachAddsALineModel_count
noncomputable def gM_EachAddsALineModel_count_85 (N : Nat) (r64 : Int32 → Int32 → vSt → Option (Int32 × vSt)) (a3 : Int32) (k0 : Int32) (k1 : Int32) (s : vSt) : Option (Int32 × vSt) :=
  (some (k0 ||| k1 : Int32)).bind fun v1 =>
  (some (a3 + 1 : Int32)).bind fun v2 =>
  r64 v1 v2 s
set_option maxRecDepth 4000 in
theorem wM_EachAddsALineModel_count_85 {P : vP} {l : Launch} {ad : Nat → Nat} {N : Nat} {r64 : Int32 → Int32 → vSt → Option (Int32 × vSt)} {r : Int32} {t1 : vSt} (hX : vOK P l shM ad (vR 2 43) cX12_count RX12 4) (hR : (∀ pc lv, narrow .int (.int r) = .int r → decode cX12_count pc = .ok (.ireturn, 1) → P t1 pc lv [.int r])) (H64 : ∀ (a2 : Int32) (a3 : Int32) (s : vSt), r64 a2 a3 s = some (r, t1) → P s 64 [(0, .ref (ad 0)), (2, .int a2), (3, .int a3)] []) {a3 : Int32} {k0 : Int32} {k1 : Int32} {s : vSt} (h : gM_EachAddsALineModel_count_85 N r64 a3 k0 k1 s = some (r, t1)) : P s 85 [(0, .ref (ad 0)), (3, .int a3)] [.int k1, .int k0] := by
  unfold gM_EachAddsALineModel_count_85 at h
  refine v_ior hX dX12_count_85 ?_
  refine v_nmI hX h (fun v1 h => ?_)
  refine v_istore_n (lv' := [(2, .int v1), (0, .ref (ad 0)), (3, .int a3)]) hX dX12_count_86 rfl (by decide) rfl ?_
  refine v_iincN hX dX12_count_87 (j := 2) rfl (c := 1) (by decide) (by decide) h (fun v2 h => ?_)
  refine v_show (lv' := [(3, .int v2), (2, .int v1), (0, .ref (ad 0))]) hX rfl ?_
  refine v_goto (tgt := 64) hX dX12_count_90 (by decide) ?_
  exact v_sub hX [2, 1, 0] (by rfl) (H64 _ _ _ h)
noncomputable def gM_EachAddsALineModel_count_64 (N : Nat)  : Nat → Int32 → Int32 → vSt → Option (Int32 × vSt)
  | 0, _, _, _ => none
  | n + 1, a2, a3, s =>
    if 3 ≤ a3 then
      some (a2, s)
    else
      (fM_EachAddsALineModel_isLetter N a3 s).bind fun p1 =>
      if p1.1 = 0 then
        gM_EachAddsALineModel_count_85 N (gM_EachAddsALineModel_count_64 N n) a3 a2 0 p1.2
      else
        gM_EachAddsALineModel_count_85 N (gM_EachAddsALineModel_count_64 N n) a3 a2 ((1 : Int32) <<< (a3 &&& 31)) p1.2
set_option maxRecDepth 4000 in
theorem wM_EachAddsALineModel_count_64 {P : vP} {l : Launch} {ad : Nat → Nat} {N : Nat} {r : Int32} {t1 : vSt} (hX : vOK P l shM ad (vR 2 43) cX12_count RX12 4) (hR : (∀ pc lv, narrow .int (.int r) = .int r → decode cX12_count pc = .ok (.ireturn, 1) → P t1 pc lv [.int r]))  : ∀ (n : Nat) (a2 : Int32) (a3 : Int32) (s : vSt), gM_EachAddsALineModel_count_64 N n a2 a3 s = some (r, t1) → P s 64 [(0, .ref (ad 0)), (2, .int a2), (3, .int a3)] [] := by
  intro n
  induction n with
  | zero => intro a2 a3 s h; cases h
  | succ n ih =>
    intro a2 a3 s h
    unfold gM_EachAddsALineModel_count_64 at h
    refine v_iload_n hX dX12_count_64 rfl 2 rfl ?_
    refine v_iconst (v := 3) hX dX12_count_65 (by decide) ?_
    refine v_icmp_ge (tgt := 93) hX dX12_count_66 (by decide) h (fun h => ?_) (fun h => ?_)
    · refine v_iload_n hX dX12_count_93 rfl 1 rfl ?_
      exact v_retI hR h dX12_count_94
    · refine v_iload_n hX dX12_count_69 rfl 1 rfl ?_
      refine v_aload_n hX dX12_count_70 rfl 0 rfl ?_
      refine v_iload_n hX dX12_count_71 rfl 2 rfl ?_
      obtain ⟨p1, hp1, h⟩ := bsome h
      refine v_callVI (o := 0) hX (mM_EachAddsALineModel_isLetter hp1 l ad) kM_X12_isLetter kV_X12_isLetter km_12_241 (by decide) (fun _ => rfl) rfl rfl rfl (Nat.le_of_ble_eq_true rfl) (by decide) dX12_count_72 ?_
      refine v_if_eq (tgt := 84) hX dX12_count_75 (by decide) h (fun h => ?_) (fun h => ?_)
      · refine v_iconst (v := 0) hX dX12_count_84 (by decide) ?_
        exact v_sub hX [0, 2] (by rfl) (wM_EachAddsALineModel_count_85 hX hR ih h)
      · refine v_iconst (v := 1) hX dX12_count_78 (by decide) ?_
        refine v_iload_n hX dX12_count_79 rfl 2 rfl ?_
        refine v_ishl hX dX12_count_80 ?_
        refine v_goto (tgt := 85) hX dX12_count_81 (by decide) ?_
        exact v_sub hX [0, 2] (by rfl) (wM_EachAddsALineModel_count_85 hX hR ih h)
noncomputable def gM_EachAddsALineModel_count_0 (N : Nat)  (a1 : Int32) (s : vSt) : Option (Int32 × vSt) :=
  (some (s1 s 0 11 0)).bind fun z1 =>
  if a1 = 0 then
    some (z1.1 0 0, z1)
  else
  if a1 = 1 then
    some (z1.1 0 2, z1)
  else
  if a1 = 2 then
    gM_EachAddsALineModel_count_64 N N 0 0 z1
  else
  if a1 = 3 then
    some (z1.1 0 40, z1)
  else
  if a1 = 4 then
    some (z1.1 0 41, z1)
  else
  if a1 = 5 then
    some (z1.1 0 10, z1)
  else
  if a1 = 6 then
    some (z1.1 0 8, z1)
  else
  if a1 < 0 ∨ 6 < a1 then
    some ((-1), z1)
  else none
set_option maxRecDepth 4000 in
theorem wM_EachAddsALineModel_count_0 {P : vP} {l : Launch} {ad : Nat → Nat} {N : Nat} {r : Int32} {t1 : vSt} (hX : vOK P l shM ad (vR 2 43) cX12_count RX12 4) (hR : (∀ pc lv, narrow .int (.int r) = .int r → decode cX12_count pc = .ok (.ireturn, 1) → P t1 pc lv [.int r]))  {a1 : Int32} {s : vSt} (h : gM_EachAddsALineModel_count_0 N a1 s = some (r, t1)) : P s 0 [(0, .ref (ad 0)), (1, .int a1)] [] := by
  unfold gM_EachAddsALineModel_count_0 at h
  refine v_aload_n hX dX12_count_0 rfl 0 rfl ?_
  refine v_iconst (v := 0) hX dX12_count_1 (by decide) ?_
  refine pfM_0_11 hX kf_12_96 dX12_count_2 h (fun z1 h => ?_)
  refine v_iconst (v := 0) hX dX12_count_5 (by decide) ?_
  refine v_istore_n (lv' := [(2, .int 0), (0, .ref (ad 0)), (1, .int a1)]) hX dX12_count_6 rfl (by decide) rfl ?_
  refine v_iload_n hX dX12_count_7 rfl 2 rfl ?_
  rcases ifs h with ⟨hc, h⟩ | ⟨hn0, h⟩
  · refine v_tblIn (tgt := 52) (off := 44) hX dX12_count_8 (by rw [hc]; decide) (by rw [hc]; decide) (by rw [hc]; rfl) (by decide) ?_
    refine v_aload_n hX dX12_count_52 rfl 1 rfl ?_
    refine gfM_0_0 hX kf_12_102 dX12_count_53 ?_
    exact v_retI hR h dX12_count_56
  rcases ifs h with ⟨hc, h⟩ | ⟨hn1, h⟩
  · refine v_tblIn (tgt := 57) (off := 49) hX dX12_count_8 (by rw [hc]; decide) (by rw [hc]; decide) (by rw [hc]; rfl) (by decide) ?_
    refine v_aload_n hX dX12_count_57 rfl 1 rfl ?_
    refine gfM_0_2 hX kf_12_109 dX12_count_58 ?_
    exact v_retI hR h dX12_count_61
  rcases ifs h with ⟨hc, h⟩ | ⟨hn2, h⟩
  · refine v_tblIn (tgt := 62) (off := 54) hX dX12_count_8 (by rw [hc]; decide) (by rw [hc]; decide) (by rw [hc]; rfl) (by decide) ?_
    refine v_iconst (v := 0) hX dX12_count_62 (by decide) ?_
    refine v_istore_n (lv' := [(3, .int 0), (2, .int 0), (0, .ref (ad 0)), (1, .int a1)]) hX dX12_count_63 rfl (by decide) rfl ?_
    exact v_sub hX [2, 1, 0] (by rfl) (wM_EachAddsALineModel_count_64 hX hR  N _ _ _ h)
  rcases ifs h with ⟨hc, h⟩ | ⟨hn3, h⟩
  · refine v_tblIn (tgt := 95) (off := 87) hX dX12_count_8 (by rw [hc]; decide) (by rw [hc]; decide) (by rw [hc]; rfl) (by decide) ?_
    refine v_aload_n hX dX12_count_95 rfl 1 rfl ?_
    refine gfM_0_40 hX kf_12_314 dX12_count_96 ?_
    exact v_retI hR h dX12_count_99
  rcases ifs h with ⟨hc, h⟩ | ⟨hn4, h⟩
  · refine v_tblIn (tgt := 100) (off := 92) hX dX12_count_8 (by rw [hc]; decide) (by rw [hc]; decide) (by rw [hc]; rfl) (by decide) ?_
    refine v_aload_n hX dX12_count_100 rfl 1 rfl ?_
    refine gfM_0_41 hX kf_12_336 dX12_count_101 ?_
    exact v_retI hR h dX12_count_104
  rcases ifs h with ⟨hc, h⟩ | ⟨hn5, h⟩
  · refine v_tblIn (tgt := 105) (off := 97) hX dX12_count_8 (by rw [hc]; decide) (by rw [hc]; decide) (by rw [hc]; rfl) (by decide) ?_
    refine v_aload_n hX dX12_count_105 rfl 1 rfl ?_
    refine gfM_0_10 hX kf_12_99 dX12_count_106 ?_
    exact v_retI hR h dX12_count_109
  rcases ifs h with ⟨hc, h⟩ | ⟨hn6, h⟩
  · refine v_tblIn (tgt := 110) (off := 102) hX dX12_count_8 (by rw [hc]; decide) (by rw [hc]; decide) (by rw [hc]; rfl) (by decide) ?_
    refine v_aload_n hX dX12_count_110 rfl 1 rfl ?_
    refine gfM_0_8 hX kf_12_112 dX12_count_111 ?_
    exact v_retI hR h dX12_count_114
  obtain ⟨hc, h⟩ := gsome h
  refine v_tblOut (tgt := 115) hX dX12_count_8 (tblo (lo := 0) (hi := 6) (by decide) (by decide) hc) (by decide) ?_
  refine v_iconst (v := (-1)) hX dX12_count_115 (by decide) ?_
  exact v_retI hR h dX12_count_116
noncomputable def fM_EachAddsALineModel_count (N : Nat) (a1 : Int32) (s : vSt) : Option (Int32 × vSt) := gM_EachAddsALineModel_count_0 N a1 s
theorem mM_EachAddsALineModel_count {N : Nat} {a1 : Int32} {s : vSt} {r : Int32} {t1 : vSt} (h : fM_EachAddsALineModel_count N a1 s = some (r, t1)) (l : Launch) (ad : Nat → Nat) : vMI l shM ad yX12_count cX12_count 4 .int 2 43 s [.ref (ad 0), .int a1] r t1 :=
  vMI_of (by decide +kernel) (Nat.le_of_ble_eq_true rfl) (fun P hX hR => wM_EachAddsALineModel_count_0 hX hR h)
-- M_EachAddsALineModel_row
noncomputable def gM_EachAddsALineModel_row_0 (N : Nat)  (a1 : Int32) (s : vSt) : Option (Int32 × vSt) :=
  (some (s1 s 0 11 0)).bind fun z1 =>
  (fM_EachAddsALineModel_in N a1 0 ((z1.1 0 10) - 1) z1).bind fun p2 =>
  if p2.1 = 0 then
    (fM_EachAddsALineModel_lost N p2.2).bind fun p3 =>
    some (p3.1, p3.2)
  else
    (ld p2.2 7 16 a1).bind fun v4 =>
    some (v4, p2.2)
set_option maxRecDepth 4000 in
theorem wM_EachAddsALineModel_row_0 {P : vP} {l : Launch} {ad : Nat → Nat} {N : Nat} {r : Int32} {t1 : vSt} (hX : vOK P l shM ad (vR 1 22) cX12_row RX12 2) (hR : (∀ pc lv, narrow .int (.int r) = .int r → decode cX12_row pc = .ok (.ireturn, 1) → P t1 pc lv [.int r]))  {a1 : Int32} {s : vSt} (h : gM_EachAddsALineModel_row_0 N a1 s = some (r, t1)) : P s 0 [(0, .ref (ad 0)), (1, .int a1)] [] := by
  unfold gM_EachAddsALineModel_row_0 at h
  refine v_aload_n hX dX12_row_0 rfl 0 rfl ?_
  refine v_iconst (v := 0) hX dX12_row_1 (by decide) ?_
  refine pfM_0_11 hX kf_12_96 dX12_row_2 h (fun z1 h => ?_)
  refine v_iload_n hX dX12_row_5 rfl 1 rfl ?_
  refine v_iconst (v := 0) hX dX12_row_6 (by decide) ?_
  refine v_aload_n hX dX12_row_7 rfl 0 rfl ?_
  refine gfM_0_10 hX kf_12_99 dX12_row_8 ?_
  refine v_iconst (v := 1) hX dX12_row_11 (by decide) ?_
  refine v_isub hX dX12_row_12 ?_
  obtain ⟨p2, hp2, h⟩ := bsome h
  refine v_callSI hX (mM_EachAddsALineModel_in hp2 l ad) kM_X12_in kS_X12_in km_12_105 rfl rfl (Nat.le_of_ble_eq_true rfl) (by decide) dX12_row_13 ?_
  refine v_if_eq (tgt := 28) hX dX12_row_16 (by decide) h (fun h => ?_) (fun h => ?_)
  · refine v_aload_n hX dX12_row_28 rfl 0 rfl ?_
    obtain ⟨p3, hp3, h⟩ := bsome h
    refine v_callVI (o := 0) hX (mM_EachAddsALineModel_lost hp3 l ad) kM_X12_lost kV_X12_lost km_12_204 (by decide) (fun _ => rfl) rfl rfl rfl (Nat.le_of_ble_eq_true rfl) (by decide) dX12_row_29 ?_
    exact v_retI hR h dX12_row_32
  · refine v_aload_n hX dX12_row_19 rfl 0 rfl ?_
    refine gfM_0_9 hX kf_12_29 dX12_row_20 ?_
    refine v_iload_n hX dX12_row_23 rfl 1 rfl ?_
    refine alM_7 hX dX12_row_24 h (fun v4 h => ?_)
    refine v_goto (tgt := 32) hX dX12_row_25 (by decide) ?_
    exact v_retI hR h dX12_row_32
noncomputable def fM_EachAddsALineModel_row (N : Nat) (a1 : Int32) (s : vSt) : Option (Int32 × vSt) := gM_EachAddsALineModel_row_0 N a1 s
theorem mM_EachAddsALineModel_row {N : Nat} {a1 : Int32} {s : vSt} {r : Int32} {t1 : vSt} (h : fM_EachAddsALineModel_row N a1 s = some (r, t1)) (l : Launch) (ad : Nat → Nat) : vMI l shM ad yX12_row cX12_row 2 .int 1 22 s [.ref (ad 0), .int a1] r t1 :=
  vMI_of (by decide +kernel) (Nat.le_of_ble_eq_true rfl) (fun P hX hR => wM_EachAddsALineModel_row_0 hX hR h)
