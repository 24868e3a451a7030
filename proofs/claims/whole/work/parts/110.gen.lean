-- M_EachAddsALineModel_countFits
noncomputable def gM_EachAddsALineModel_countFits_24 (N : Nat)   (s : vSt) : Option (Int64 × vSt) :=
  some (0, s)
set_option maxRecDepth 4000 in
theorem wM_EachAddsALineModel_countFits_24 {P : vP} {l : Launch} {ad : Nat → Nat} {N : Nat} {r : Int64} {t1 : vSt} (hX : vOK P l shM ad (vR 199 4636) cX12_countFits RX12 9) (hR : (∀ pc lv, decode cX12_countFits pc = .ok (.lreturn, 1) → P t1 pc lv [.long r]))   {s : vSt} (h : gM_EachAddsALineModel_countFits_24 N s = some (r, t1)) : P s 24 [] [] := by
  unfold gM_EachAddsALineModel_countFits_24 at h
  refine v_lconst (v := 0) hX dX12_countFits_24 (by decide) ?_
  exact v_retL hR h dX12_countFits_25
noncomputable def gM_EachAddsALineModel_countFits_76 (N : Nat) (r40 : Int32 → Int32 → Int64 → Int32 → vSt → Option (Int64 × vSt)) (a3 : Int32) (a5 : Int32) (a6 : Int64) (a8 : Int32) (s : vSt) : Option (Int64 × vSt) :=
  (some (a8 + 1 : Int32)).bind fun v1 =>
  r40 a3 a5 a6 v1 s
set_option maxRecDepth 4000 in
theorem wM_EachAddsALineModel_countFits_76 {P : vP} {l : Launch} {ad : Nat → Nat} {N : Nat} {r40 : Int32 → Int32 → Int64 → Int32 → vSt → Option (Int64 × vSt)} {r : Int64} {t1 : vSt} (hX : vOK P l shM ad (vR 199 4636) cX12_countFits RX12 9) (hR : (∀ pc lv, decode cX12_countFits pc = .ok (.lreturn, 1) → P t1 pc lv [.long r])) (H40 : ∀ (a3 : Int32) (a5 : Int32) (a6 : Int64) (a8 : Int32) (s : vSt), r40 a3 a5 a6 a8 s = some (r, t1) → P s 40 [(0, .ref (ad 0)), (3, .int a3), (5, .int a5), (6, .long a6), (8, .int a8)] []) {a3 : Int32} {a5 : Int32} {a6 : Int64} {a8 : Int32} {s : vSt} (h : gM_EachAddsALineModel_countFits_76 N r40 a3 a5 a6 a8 s = some (r, t1)) : P s 76 [(0, .ref (ad 0)), (3, .int a3), (5, .int a5), (6, .long a6), (8, .int a8)] [] := by
  unfold gM_EachAddsALineModel_countFits_76 at h
  refine v_iincN hX dX12_countFits_76 (j := 4) rfl (c := 1) (by decide) (by decide) h (fun v1 h => ?_)
  refine v_show (lv' := [(8, .int v1), (0, .ref (ad 0)), (3, .int a3), (5, .int a5), (6, .long a6)]) hX rfl ?_
  refine v_goto (tgt := 40) hX dX12_countFits_79 (by decide) ?_
  exact v_sub hX [1, 2, 3, 4, 0] (by rfl) (H40 _ _ _ _ _ h)
noncomputable def gM_EachAddsALineModel_countFits_40 (N : Nat)  : Nat → Int32 → Int32 → Int64 → Int32 → vSt → Option (Int64 × vSt)
  | 0, _, _, _, _, _ => none
  | n + 1, a3, a5, a6, a8, s =>
    if (s.1 0 30) ≤ a8 then
      some (a6, s)
    else
      (fM_EachAddsALineModel_begins N a8 a3 a5 s).bind fun p1 =>
      if p1.1 = 0 then
        gM_EachAddsALineModel_countFits_76 N (gM_EachAddsALineModel_countFits_40 N n) a3 a5 a6 a8 p1.2
      else
        (ldL p1.2 17 520 ((40 : Int32) + a8)).bind fun v2 =>
        (some (a6 + v2 : Int64)).bind fun v3 =>
        gM_EachAddsALineModel_countFits_76 N (gM_EachAddsALineModel_countFits_40 N n) a3 a5 v3 a8 p1.2
set_option maxRecDepth 4000 in
theorem wM_EachAddsALineModel_countFits_40 {P : vP} {l : Launch} {ad : Nat → Nat} {N : Nat} {r : Int64} {t1 : vSt} (hX : vOK P l shM ad (vR 199 4636) cX12_countFits RX12 9) (hR : (∀ pc lv, decode cX12_countFits pc = .ok (.lreturn, 1) → P t1 pc lv [.long r]))  : ∀ (n : Nat) (a3 : Int32) (a5 : Int32) (a6 : Int64) (a8 : Int32) (s : vSt), gM_EachAddsALineModel_countFits_40 N n a3 a5 a6 a8 s = some (r, t1) → P s 40 [(0, .ref (ad 0)), (3, .int a3), (5, .int a5), (6, .long a6), (8, .int a8)] [] := by
  intro n
  induction n with
  | zero => intro a3 a5 a6 a8 s h; cases h
  | succ n ih =>
    intro a3 a5 a6 a8 s h
    unfold gM_EachAddsALineModel_countFits_40 at h
    refine v_iload hX dX12_countFits_40 4 rfl ?_
    refine v_aload_n hX dX12_countFits_42 rfl 0 rfl ?_
    refine gfM_0_30 hX kf_12_262 dX12_countFits_43 ?_
    refine v_icmp_ge (tgt := 82) hX dX12_countFits_46 (by decide) h (fun h => ?_) (fun h => ?_)
    · refine v_lload hX dX12_countFits_82 3 rfl ?_
      exact v_retL hR h dX12_countFits_84
    · refine v_aload_n hX dX12_countFits_49 rfl 0 rfl ?_
      refine v_iload hX dX12_countFits_50 4 rfl ?_
      refine v_iload_n hX dX12_countFits_52 rfl 1 rfl ?_
      refine v_iload hX dX12_countFits_53 2 rfl ?_
      obtain ⟨p1, hp1, h⟩ := bsome h
      refine v_callVI (o := 0) hX (mM_EachAddsALineModel_begins hp1 l ad) kM_X12_begins kV_X12_begins km_12_291 (by decide) (fun _ => rfl) rfl rfl rfl (Nat.le_of_ble_eq_true rfl) (by decide) dX12_countFits_55 ?_
      refine v_if_eq (tgt := 76) hX dX12_countFits_58 (by decide) h (fun h => ?_) (fun h => ?_)
      · exact v_sub hX [0, 1, 2, 3, 4] (by rfl) (wM_EachAddsALineModel_countFits_76 hX hR ih h)
      · refine v_lload hX dX12_countFits_61 3 rfl ?_
        refine v_aload_n hX dX12_countFits_63 rfl 0 rfl ?_
        refine gfM_0_42 hX kf_12_71 dX12_countFits_64 ?_
        refine v_bipush (v := 40) hX dX12_countFits_67 (by decide) ?_
        refine v_iload hX dX12_countFits_69 4 rfl ?_
        refine v_iadd hX dX12_countFits_71 ?_
        refine alM_17 hX dX12_countFits_72 h (fun v2 h => ?_)
        refine v_ladd hX dX12_countFits_73 ?_
        refine v_nmL hX h (fun v3 h => ?_)
        refine v_lstore (lv' := [(6, .long v3), (0, .ref (ad 0)), (3, .int a3), (5, .int a5), (8, .int a8)]) hX dX12_countFits_74 (by decide) rfl ?_
        exact v_sub hX [1, 2, 3, 0, 4] (by rfl) (wM_EachAddsALineModel_countFits_76 hX hR ih h)
noncomputable def gM_EachAddsALineModel_countFits_0 (N : Nat)  (a1 : Int32) (a2 : Int32) (a3 : Int32) (a4 : Int32) (a5 : Int32) (s : vSt) : Option (Int64 × vSt) :=
  if a2 = 1 then
    if a3 = a4 then
      if (s.1 0 37) = a4 then
        gM_EachAddsALineModel_countFits_24 N s
      else
        some (1, s)
    else
      gM_EachAddsALineModel_countFits_24 N s
  else
    (fM_EachAddsALineModel_findFits N a1 a2 a4 s).bind fun z1 =>
    gM_EachAddsALineModel_countFits_40 N N a3 a5 0 0 z1
set_option maxRecDepth 4000 in
theorem wM_EachAddsALineModel_countFits_0 {P : vP} {l : Launch} {ad : Nat → Nat} {N : Nat} {r : Int64} {t1 : vSt} (hX : vOK P l shM ad (vR 199 4636) cX12_countFits RX12 9) (hR : (∀ pc lv, decode cX12_countFits pc = .ok (.lreturn, 1) → P t1 pc lv [.long r]))  {a1 : Int32} {a2 : Int32} {a3 : Int32} {a4 : Int32} {a5 : Int32} {s : vSt} (h : gM_EachAddsALineModel_countFits_0 N a1 a2 a3 a4 a5 s = some (r, t1)) : P s 0 [(0, .ref (ad 0)), (1, .int a1), (2, .int a2), (3, .int a3), (4, .int a4), (5, .int a5)] [] := by
  unfold gM_EachAddsALineModel_countFits_0 at h
  refine v_iload_n hX dX12_countFits_0 rfl 2 rfl ?_
  refine v_iconst (v := 1) hX dX12_countFits_1 (by decide) ?_
  refine v_icmp_ne (tgt := 26) hX dX12_countFits_2 (by decide) h (fun h => ?_) (fun h => ?_)
  · refine v_iload_n hX dX12_countFits_5 rfl 3 rfl ?_
    refine v_iload hX dX12_countFits_6 4 rfl ?_
    refine v_icmp_ne (tgt := 24) hX dX12_countFits_8 (by decide) h (fun h => ?_) (fun h => ?_)
    · refine v_aload_n hX dX12_countFits_11 rfl 0 rfl ?_
      refine gfM_0_37 hX kf_12_62 dX12_countFits_12 ?_
      refine v_iload hX dX12_countFits_15 4 rfl ?_
      refine v_icmp_eq (tgt := 24) hX dX12_countFits_17 (by decide) h (fun h => ?_) (fun h => ?_)
      · exact v_sub hX [] (by rfl) (wM_EachAddsALineModel_countFits_24 hX hR  h)
      · refine v_lconst (v := 1) hX dX12_countFits_20 (by decide) ?_
        refine v_goto (tgt := 25) hX dX12_countFits_21 (by decide) ?_
        exact v_retL hR h dX12_countFits_25
    · exact v_sub hX [] (by rfl) (wM_EachAddsALineModel_countFits_24 hX hR  h)
  · refine v_aload_n hX dX12_countFits_26 rfl 0 rfl ?_
    refine v_iload_n hX dX12_countFits_27 rfl 1 rfl ?_
    refine v_iload_n hX dX12_countFits_28 rfl 2 rfl ?_
    refine v_iload hX dX12_countFits_29 4 rfl ?_
    obtain ⟨z1, hz1, h⟩ := bsome h
    refine v_callVV (o := 0) hX (mM_EachAddsALineModel_findFits hz1 l ad) kM_X12_findFits kV_X12_findFits km_12_320 (by decide) (fun _ => rfl) rfl rfl rfl (Nat.le_of_ble_eq_true rfl) (by decide) dX12_countFits_31 ?_
    refine v_lconst (v := 0) hX dX12_countFits_34 (by decide) ?_
    refine v_lstore (lv' := [(6, .long 0), (0, .ref (ad 0)), (1, .int a1), (2, .int a2), (3, .int a3), (4, .int a4), (5, .int a5)]) hX dX12_countFits_35 (by decide) rfl ?_
    refine v_iconst (v := 0) hX dX12_countFits_37 (by decide) ?_
    refine v_istore (lv' := [(8, .int 0), (6, .long 0), (0, .ref (ad 0)), (1, .int a1), (2, .int a2), (3, .int a3), (4, .int a4), (5, .int a5)]) hX dX12_countFits_38 (by decide) rfl ?_
    exact v_sub hX [2, 5, 7, 1, 0] (by rfl) (wM_EachAddsALineModel_countFits_40 hX hR  N _ _ _ _ _ h)
noncomputable def fM_EachAddsALineModel_countFits (N : Nat) (a1 : Int32) (a2 : Int32) (a3 : Int32) (a4 : Int32) (a5 : Int32) (s : vSt) : Option (Int64 × vSt) := gM_EachAddsALineModel_countFits_0 N a1 a2 a3 a4 a5 s
theorem mM_EachAddsALineModel_countFits {N : Nat} {a1 : Int32} {a2 : Int32} {a3 : Int32} {a4 : Int32} {a5 : Int32} {s : vSt} {r : Int64} {t1 : vSt} (h : fM_EachAddsALineModel_countFits N a1 a2 a3 a4 a5 s = some (r, t1)) (l : Launch) (ad : Nat → Nat) : vML l shM ad yX12_countFits cX12_countFits 9 199 4636 s [.ref (ad 0), .int a1, .int a2, .int a3, .int a4, .int a5] r t1 :=
  vML_of (by decide +kernel) (Nat.le_of_ble_eq_true rfl) (fun P hX hR => wM_EachAddsALineModel_countFits_0 hX hR h)
-- M_EachAddsALineModel_fits
noncomputable def gM_EachAddsALineModel_fits_156 (N : Nat) (r77 : Int32 → Int32 → Int64 → Int32 → Int32 → Int32 → Int32 → vSt → Option (Int64 × vSt)) (a1 : Int32) (a3 : Int32) (a4 : Int64) (a6 : Int32) (a7 : Int32) (a8 : Int32) (a9 : Int32) (s : vSt) : Option (Int64 × vSt) :=
  (some (a9 + 1 : Int32)).bind fun v1 =>
  r77 a1 a3 a4 a6 a7 a8 v1 s
set_option maxRecDepth 4000 in
theorem wM_EachAddsALineModel_fits_156 {P : vP} {l : Launch} {ad : Nat → Nat} {N : Nat} {r77 : Int32 → Int32 → Int64 → Int32 → Int32 → Int32 → Int32 → vSt → Option (Int64 × vSt)} {r : Int64} {t1 : vSt} (hX : vOK P l shM ad (vR 200 4664) cX12_fits RX12 10) (hR : (∀ pc lv, decode cX12_fits pc = .ok (.lreturn, 1) → P t1 pc lv [.long r])) (H77 : ∀ (a1 : Int32) (a3 : Int32) (a4 : Int64) (a6 : Int32) (a7 : Int32) (a8 : Int32) (a9 : Int32) (s : vSt), r77 a1 a3 a4 a6 a7 a8 a9 s = some (r, t1) → P s 77 [(0, .ref (ad 0)), (1, .int a1), (3, .int a3), (4, .long a4), (6, .int a6), (7, .int a7), (8, .int a8), (9, .int a9)] []) {a1 : Int32} {a3 : Int32} {a4 : Int64} {a6 : Int32} {a7 : Int32} {a8 : Int32} {a9 : Int32} {s : vSt} (h : gM_EachAddsALineModel_fits_156 N r77 a1 a3 a4 a6 a7 a8 a9 s = some (r, t1)) : P s 156 [(0, .ref (ad 0)), (1, .int a1), (3, .int a3), (4, .long a4), (6, .int a6), (7, .int a7), (8, .int a8), (9, .int a9)] [] := by
  unfold gM_EachAddsALineModel_fits_156 at h
  refine v_iincN hX dX12_fits_156 (j := 7) rfl (c := 1) (by decide) (by decide) h (fun v1 h => ?_)
  refine v_show (lv' := [(9, .int v1), (0, .ref (ad 0)), (1, .int a1), (3, .int a3), (4, .long a4), (6, .int a6), (7, .int a7), (8, .int a8)]) hX rfl ?_
  refine v_goto (tgt := 77) hX dX12_fits_159 (by decide) ?_
  exact v_sub hX [1, 2, 3, 4, 5, 6, 7, 0] (by rfl) (H77 _ _ _ _ _ _ _ _ h)
noncomputable def gM_EachAddsALineModel_fits_152 (N : Nat) (r77 : Int32 → Int32 → Int64 → Int32 → Int32 → Int32 → Int32 → vSt → Option (Int64 × vSt)) (a1 : Int32) (a3 : Int32) (a4 : Int64) (a6 : Int32) (a7 : Int32) (a9 : Int32) (s : vSt) : Option (Int64 × vSt) :=
  gM_EachAddsALineModel_fits_156 N r77 a1 a3 a4 a6 a7 a9 a9 s
set_option maxRecDepth 4000 in
theorem wM_EachAddsALineModel_fits_152 {P : vP} {l : Launch} {ad : Nat → Nat} {N : Nat} {r77 : Int32 → Int32 → Int64 → Int32 → Int32 → Int32 → Int32 → vSt → Option (Int64 × vSt)} {r : Int64} {t1 : vSt} (hX : vOK P l shM ad (vR 200 4664) cX12_fits RX12 10) (hR : (∀ pc lv, decode cX12_fits pc = .ok (.lreturn, 1) → P t1 pc lv [.long r])) (H77 : ∀ (a1 : Int32) (a3 : Int32) (a4 : Int64) (a6 : Int32) (a7 : Int32) (a8 : Int32) (a9 : Int32) (s : vSt), r77 a1 a3 a4 a6 a7 a8 a9 s = some (r, t1) → P s 77 [(0, .ref (ad 0)), (1, .int a1), (3, .int a3), (4, .long a4), (6, .int a6), (7, .int a7), (8, .int a8), (9, .int a9)] []) {a1 : Int32} {a3 : Int32} {a4 : Int64} {a6 : Int32} {a7 : Int32} {a9 : Int32} {s : vSt} (h : gM_EachAddsALineModel_fits_152 N r77 a1 a3 a4 a6 a7 a9 s = some (r, t1)) : P s 152 [(0, .ref (ad 0)), (1, .int a1), (3, .int a3), (4, .long a4), (6, .int a6), (7, .int a7), (9, .int a9)] [] := by
  unfold gM_EachAddsALineModel_fits_152 at h
  refine v_iload hX dX12_fits_152 6 rfl ?_
  refine v_istore (lv' := [(8, .int a9), (0, .ref (ad 0)), (1, .int a1), (3, .int a3), (4, .long a4), (6, .int a6), (7, .int a7), (9, .int a9)]) hX dX12_fits_154 (by decide) rfl ?_
  exact v_sub hX [1, 2, 3, 4, 5, 6, 0, 7] (by rfl) (wM_EachAddsALineModel_fits_156 hX hR H77 h)
noncomputable def gM_EachAddsALineModel_fits_117 (N : Nat) (r77 : Int32 → Int32 → Int64 → Int32 → Int32 → Int32 → Int32 → vSt → Option (Int64 × vSt)) (a1 : Int32) (a3 : Int32) (a4 : Int64) (a6 : Int32) (a7 : Int32) (a8 : Int32) (a9 : Int32) (s : vSt) : Option (Int64 × vSt) :=
  (ldL s 17 520 (((40 : Int32) * a7) + a9)).bind fun v1 =>
  if (lg_cmp v1 0) ≤ 0 then
    gM_EachAddsALineModel_fits_156 N r77 a1 a3 a4 a6 a7 a8 a9 s
  else
    if a8 = (-1) then
      gM_EachAddsALineModel_fits_152 N r77 a1 a3 a4 a6 a7 a9 s
    else
      if (a8 / 2) ≤ (a9 / 2) then
        gM_EachAddsALineModel_fits_156 N r77 a1 a3 a4 a6 a7 a8 a9 s
      else
        gM_EachAddsALineModel_fits_152 N r77 a1 a3 a4 a6 a7 a9 s
set_option maxRecDepth 4000 in
theorem wM_EachAddsALineModel_fits_117 {P : vP} {l : Launch} {ad : Nat → Nat} {N : Nat} {r77 : Int32 → Int32 → Int64 → Int32 → Int32 → Int32 → Int32 → vSt → Option (Int64 × vSt)} {r : Int64} {t1 : vSt} (hX : vOK P l shM ad (vR 200 4664) cX12_fits RX12 10) (hR : (∀ pc lv, decode cX12_fits pc = .ok (.lreturn, 1) → P t1 pc lv [.long r])) (H77 : ∀ (a1 : Int32) (a3 : Int32) (a4 : Int64) (a6 : Int32) (a7 : Int32) (a8 : Int32) (a9 : Int32) (s : vSt), r77 a1 a3 a4 a6 a7 a8 a9 s = some (r, t1) → P s 77 [(0, .ref (ad 0)), (1, .int a1), (3, .int a3), (4, .long a4), (6, .int a6), (7, .int a7), (8, .int a8), (9, .int a9)] []) {a1 : Int32} {a3 : Int32} {a4 : Int64} {a6 : Int32} {a7 : Int32} {a8 : Int32} {a9 : Int32} {s : vSt} (h : gM_EachAddsALineModel_fits_117 N r77 a1 a3 a4 a6 a7 a8 a9 s = some (r, t1)) : P s 117 [(0, .ref (ad 0)), (1, .int a1), (3, .int a3), (4, .long a4), (6, .int a6), (7, .int a7), (8, .int a8), (9, .int a9)] [] := by
  unfold gM_EachAddsALineModel_fits_117 at h
  refine v_aload_n hX dX12_fits_117 rfl 0 rfl ?_
  refine gfM_0_42 hX kf_12_71 dX12_fits_118 ?_
  refine v_bipush (v := 40) hX dX12_fits_121 (by decide) ?_
  refine v_iload hX dX12_fits_123 5 rfl ?_
  refine v_imul hX dX12_fits_125 ?_
  refine v_iload hX dX12_fits_126 7 rfl ?_
  refine v_iadd hX dX12_fits_128 ?_
  refine alM_17 hX dX12_fits_129 h (fun v1 h => ?_)
  refine v_lconst (v := 0) hX dX12_fits_130 (by decide) ?_
  refine v_lcmp hX dX12_fits_131 ?_
  refine v_if_le (tgt := 156) hX dX12_fits_132 (by decide) h (fun h => ?_) (fun h => ?_)
  · exact v_sub hX [0, 1, 2, 3, 4, 5, 6, 7] (by rfl) (wM_EachAddsALineModel_fits_156 hX hR H77 h)
  · refine v_iload hX dX12_fits_135 6 rfl ?_
    refine v_iconst (v := (-1)) hX dX12_fits_137 (by decide) ?_
    refine v_icmp_eq (tgt := 152) hX dX12_fits_138 (by decide) h (fun h => ?_) (fun h => ?_)
    · exact v_sub hX [0, 1, 2, 3, 4, 5, 7] (by rfl) (wM_EachAddsALineModel_fits_152 hX hR H77 h)
    · refine v_iload hX dX12_fits_141 7 rfl ?_
      refine v_iconst (v := 2) hX dX12_fits_143 (by decide) ?_
      refine v_idiv hX dX12_fits_144 (by decide) ?_
      refine v_iload hX dX12_fits_145 6 rfl ?_
      refine v_iconst (v := 2) hX dX12_fits_147 (by decide) ?_
      refine v_idiv hX dX12_fits_148 (by decide) ?_
      refine v_icmp_ge (tgt := 156) hX dX12_fits_149 (by decide) h (fun h => ?_) (fun h => ?_)
      · exact v_sub hX [0, 1, 2, 3, 4, 5, 6, 7] (by rfl) (wM_EachAddsALineModel_fits_156 hX hR H77 h)
      · exact v_sub hX [0, 1, 2, 3, 4, 5, 7] (by rfl) (wM_EachAddsALineModel_fits_152 hX hR H77 h)
noncomputable def gM_EachAddsALineModel_fits_77 (N : Nat) (r55 : Int32 → Int32 → Int64 → Int32 → Int32 → vSt → Option (Int64 × vSt)) : Nat → Int32 → Int32 → Int64 → Int32 → Int32 → Int32 → Int32 → vSt → Option (Int64 × vSt)
  | 0, _, _, _, _, _, _, _, _ => none
  | n + 1, a1, a3, a4, a6, a7, a8, a9, s =>
    if (s.1 0 30) ≤ a9 then
      (fM_EachAddsALineModel_tell N (a8 / 2) s).bind fun z1 =>
      (some (a7 + 1 : Int32)).bind fun v2 =>
      r55 a1 a3 a4 a8 v2 z1
    else
      if a6 = (-1) then
        (fM_EachAddsALineModel_begins N a9 a1 a3 s).bind fun p3 =>
        if p3.1 = 0 then
          gM_EachAddsALineModel_fits_156 N (gM_EachAddsALineModel_fits_77 N r55 n) a1 a3 a4 a6 a7 a8 a9 p3.2
        else
          gM_EachAddsALineModel_fits_117 N (gM_EachAddsALineModel_fits_77 N r55 n) a1 a3 a4 a6 a7 a8 a9 p3.2
      else
        (fM_EachAddsALineModel_follows N a9 a6 s).bind fun p4 =>
        if p4.1 = 0 then
          gM_EachAddsALineModel_fits_156 N (gM_EachAddsALineModel_fits_77 N r55 n) a1 a3 a4 a6 a7 a8 a9 p4.2
        else
          gM_EachAddsALineModel_fits_117 N (gM_EachAddsALineModel_fits_77 N r55 n) a1 a3 a4 a6 a7 a8 a9 p4.2
set_option maxRecDepth 4000 in
theorem wM_EachAddsALineModel_fits_77 {P : vP} {l : Launch} {ad : Nat → Nat} {N : Nat} {r55 : Int32 → Int32 → Int64 → Int32 → Int32 → vSt → Option (Int64 × vSt)} {r : Int64} {t1 : vSt} (hX : vOK P l shM ad (vR 200 4664) cX12_fits RX12 10) (hR : (∀ pc lv, decode cX12_fits pc = .ok (.lreturn, 1) → P t1 pc lv [.long r])) (H55 : ∀ (a1 : Int32) (a3 : Int32) (a4 : Int64) (a6 : Int32) (a7 : Int32) (s : vSt), r55 a1 a3 a4 a6 a7 s = some (r, t1) → P s 55 [(0, .ref (ad 0)), (1, .int a1), (3, .int a3), (4, .long a4), (6, .int a6), (7, .int a7)] []) : ∀ (n : Nat) (a1 : Int32) (a3 : Int32) (a4 : Int64) (a6 : Int32) (a7 : Int32) (a8 : Int32) (a9 : Int32) (s : vSt), gM_EachAddsALineModel_fits_77 N r55 n a1 a3 a4 a6 a7 a8 a9 s = some (r, t1) → P s 77 [(0, .ref (ad 0)), (1, .int a1), (3, .int a3), (4, .long a4), (6, .int a6), (7, .int a7), (8, .int a8), (9, .int a9)] [] := by
  intro n
  induction n with
  | zero => intro a1 a3 a4 a6 a7 a8 a9 s h; cases h
  | succ n ih =>
    intro a1 a3 a4 a6 a7 a8 a9 s h
    unfold gM_EachAddsALineModel_fits_77 at h
    refine v_iload hX dX12_fits_77 7 rfl ?_
    refine v_aload_n hX dX12_fits_79 rfl 0 rfl ?_
    refine gfM_0_30 hX kf_12_262 dX12_fits_80 ?_
    refine v_icmp_ge (tgt := 162) hX dX12_fits_83 (by decide) h (fun h => ?_) (fun h => ?_)
    · refine v_aload_n hX dX12_fits_162 rfl 0 rfl ?_
      refine v_iload hX dX12_fits_163 6 rfl ?_
      refine v_iconst (v := 2) hX dX12_fits_165 (by decide) ?_
      refine v_idiv hX dX12_fits_166 (by decide) ?_
      obtain ⟨z1, hz1, h⟩ := bsome h
      refine v_callVV (o := 0) hX (mM_EachAddsALineModel_tell hz1 l ad) kM_X12_tell kV_X12_tell km_12_250 (by decide) (fun _ => rfl) rfl rfl rfl (Nat.le_of_ble_eq_true rfl) (by decide) dX12_fits_167 ?_
      refine v_iload hX dX12_fits_170 6 rfl ?_
      refine v_istore (lv' := [(6, .int a8), (0, .ref (ad 0)), (1, .int a1), (3, .int a3), (4, .long a4), (7, .int a7), (8, .int a8), (9, .int a9)]) hX dX12_fits_172 (by decide) rfl ?_
      refine v_iincN hX dX12_fits_174 (j := 5) rfl (c := 1) (by decide) (by decide) h (fun v2 h => ?_)
      refine v_show (lv' := [(7, .int v2), (6, .int a8), (0, .ref (ad 0)), (1, .int a1), (3, .int a3), (4, .long a4), (8, .int a8), (9, .int a9)]) hX rfl ?_
      refine v_goto (tgt := 55) hX dX12_fits_177 (by decide) ?_
      exact v_sub hX [2, 3, 4, 5, 1, 0] (by rfl) (H55 _ _ _ _ _ _ h)
    · refine v_iload hX dX12_fits_86 4 rfl ?_
      refine v_iconst (v := (-1)) hX dX12_fits_88 (by decide) ?_
      refine v_icmp_ne (tgt := 106) hX dX12_fits_89 (by decide) h (fun h => ?_) (fun h => ?_)
      · refine v_aload_n hX dX12_fits_92 rfl 0 rfl ?_
        refine v_iload hX dX12_fits_93 7 rfl ?_
        refine v_iload_n hX dX12_fits_95 rfl 1 rfl ?_
        refine v_iload_n hX dX12_fits_96 rfl 2 rfl ?_
        obtain ⟨p3, hp3, h⟩ := bsome h
        refine v_callVI (o := 0) hX (mM_EachAddsALineModel_begins hp3 l ad) kM_X12_begins kV_X12_begins km_12_291 (by decide) (fun _ => rfl) rfl rfl rfl (Nat.le_of_ble_eq_true rfl) (by decide) dX12_fits_97 ?_
        refine v_if_eq (tgt := 156) hX dX12_fits_100 (by decide) h (fun h => ?_) (fun h => ?_)
        · exact v_sub hX [0, 1, 2, 3, 4, 5, 6, 7] (by rfl) (wM_EachAddsALineModel_fits_156 hX hR ih h)
        · refine v_goto (tgt := 117) hX dX12_fits_103 (by decide) ?_
          exact v_sub hX [0, 1, 2, 3, 4, 5, 6, 7] (by rfl) (wM_EachAddsALineModel_fits_117 hX hR ih h)
      · refine v_aload_n hX dX12_fits_106 rfl 0 rfl ?_
        refine v_iload hX dX12_fits_107 7 rfl ?_
        refine v_iload hX dX12_fits_109 4 rfl ?_
        obtain ⟨p4, hp4, h⟩ := bsome h
        refine v_callVI (o := 0) hX (mM_EachAddsALineModel_follows hp4 l ad) kM_X12_follows kV_X12_follows km_12_280 (by decide) (fun _ => rfl) rfl rfl rfl (Nat.le_of_ble_eq_true rfl) (by decide) dX12_fits_111 ?_
        refine v_if_eq (tgt := 156) hX dX12_fits_114 (by decide) h (fun h => ?_) (fun h => ?_)
        · exact v_sub hX [0, 1, 2, 3, 4, 5, 6, 7] (by rfl) (wM_EachAddsALineModel_fits_156 hX hR ih h)
        · exact v_sub hX [0, 1, 2, 3, 4, 5, 6, 7] (by rfl) (wM_EachAddsALineModel_fits_117 hX hR ih h)
noncomputable def gM_EachAddsALineModel_fits_55 (N : Nat)  : Nat → Int32 → Int32 → Int64 → Int32 → Int32 → vSt → Option (Int64 × vSt)
  | 0, _, _, _, _, _, _ => none
  | n + 1, a1, a3, a4, a6, a7, s =>
    if (s.1 0 40) ≤ a7 then
      some (a4, s)
    else
      if (lg_cmp a4 0) ≤ 0 then
        some (a4, s)
      else
        (some ((-1) : Int32)).bind fun v1 =>
        gM_EachAddsALineModel_fits_77 N (gM_EachAddsALineModel_fits_55 N n) N a1 a3 a4 a6 a7 v1 0 s
set_option maxRecDepth 4000 in
theorem wM_EachAddsALineModel_fits_55 {P : vP} {l : Launch} {ad : Nat → Nat} {N : Nat} {r : Int64} {t1 : vSt} (hX : vOK P l shM ad (vR 200 4664) cX12_fits RX12 10) (hR : (∀ pc lv, decode cX12_fits pc = .ok (.lreturn, 1) → P t1 pc lv [.long r]))  : ∀ (n : Nat) (a1 : Int32) (a3 : Int32) (a4 : Int64) (a6 : Int32) (a7 : Int32) (s : vSt), gM_EachAddsALineModel_fits_55 N n a1 a3 a4 a6 a7 s = some (r, t1) → P s 55 [(0, .ref (ad 0)), (1, .int a1), (3, .int a3), (4, .long a4), (6, .int a6), (7, .int a7)] [] := by
  intro n
  induction n with
  | zero => intro a1 a3 a4 a6 a7 s h; cases h
  | succ n ih =>
    intro a1 a3 a4 a6 a7 s h
    unfold gM_EachAddsALineModel_fits_55 at h
    refine v_iload hX dX12_fits_55 5 rfl ?_
    refine v_aload_n hX dX12_fits_57 rfl 0 rfl ?_
    refine gfM_0_40 hX kf_12_314 dX12_fits_58 ?_
    refine v_icmp_ge (tgt := 180) hX dX12_fits_61 (by decide) h (fun h => ?_) (fun h => ?_)
    · refine v_lload hX dX12_fits_180 3 rfl ?_
      exact v_retL hR h dX12_fits_182
    · refine v_lload hX dX12_fits_64 3 rfl ?_
      refine v_lconst (v := 0) hX dX12_fits_66 (by decide) ?_
      refine v_lcmp hX dX12_fits_67 ?_
      refine v_if_le (tgt := 180) hX dX12_fits_68 (by decide) h (fun h => ?_) (fun h => ?_)
      · refine v_lload hX dX12_fits_180 3 rfl ?_
        exact v_retL hR h dX12_fits_182
      · refine v_iconst (v := (-1)) hX dX12_fits_71 (by decide) ?_
        refine v_nmI hX h (fun v1 h => ?_)
        refine v_istore (lv' := [(8, .int v1), (0, .ref (ad 0)), (1, .int a1), (3, .int a3), (4, .long a4), (6, .int a6), (7, .int a7)]) hX dX12_fits_72 (by decide) rfl ?_
        refine v_iconst (v := 0) hX dX12_fits_74 (by decide) ?_
        refine v_istore (lv' := [(9, .int 0), (8, .int v1), (0, .ref (ad 0)), (1, .int a1), (3, .int a3), (4, .long a4), (6, .int a6), (7, .int a7)]) hX dX12_fits_75 (by decide) rfl ?_
        exact v_sub hX [2, 3, 4, 5, 6, 7, 1, 0] (by rfl) (wM_EachAddsALineModel_fits_77 hX hR ih N _ _ _ _ _ _ _ _ h)
noncomputable def gM_EachAddsALineModel_fits_0 (N : Nat)  (a1 : Int32) (a2 : Int32) (a3 : Int32) (s : vSt) : Option (Int64 × vSt) :=
  (some (s1 s 0 11 0)).bind fun z1 =>
  (fM_EachAddsALineModel_isTrip N a1 a2 a3 z1).bind fun p2 =>
  if p2.1 = 0 then
    some ((-1), p2.2)
  else
    if (p2.2.1 0 40) = 0 then
      some ((-2), p2.2)
    else
      (fM_EachAddsALineModel_countFits N 0 (p2.2.1 0 40) a1 a2 a3 p2.2).bind fun p3 =>
      (some (s1 p3.2 0 10 0)).bind fun z4 =>
      (some ((-1) : Int32)).bind fun v5 =>
      gM_EachAddsALineModel_fits_55 N N a1 a3 p3.1 v5 1 z4
set_option maxRecDepth 4000 in
theorem wM_EachAddsALineModel_fits_0 {P : vP} {l : Launch} {ad : Nat → Nat} {N : Nat} {r : Int64} {t1 : vSt} (hX : vOK P l shM ad (vR 200 4664) cX12_fits RX12 10) (hR : (∀ pc lv, decode cX12_fits pc = .ok (.lreturn, 1) → P t1 pc lv [.long r]))  {a1 : Int32} {a2 : Int32} {a3 : Int32} {s : vSt} (h : gM_EachAddsALineModel_fits_0 N a1 a2 a3 s = some (r, t1)) : P s 0 [(0, .ref (ad 0)), (1, .int a1), (2, .int a2), (3, .int a3)] [] := by
  unfold gM_EachAddsALineModel_fits_0 at h
  refine v_aload_n hX dX12_fits_0 rfl 0 rfl ?_
  refine v_iconst (v := 0) hX dX12_fits_1 (by decide) ?_
  refine pfM_0_11 hX kf_12_96 dX12_fits_2 h (fun z1 h => ?_)
  refine v_aload_n hX dX12_fits_5 rfl 0 rfl ?_
  refine v_iload_n hX dX12_fits_6 rfl 1 rfl ?_
  refine v_iload_n hX dX12_fits_7 rfl 2 rfl ?_
  refine v_iload_n hX dX12_fits_8 rfl 3 rfl ?_
  obtain ⟨p2, hp2, h⟩ := bsome h
  refine v_callVI (o := 0) hX (mM_EachAddsALineModel_isTrip hp2 l ad) kM_X12_isTrip kV_X12_isTrip km_12_294 (by decide) (fun _ => rfl) rfl rfl rfl (Nat.le_of_ble_eq_true rfl) (by decide) dX12_fits_9 ?_
  refine v_if_ne (tgt := 19) hX dX12_fits_12 (by decide) h (fun h => ?_) (fun h => ?_)
  · refine v_ldc2 hX kc_12_312 dX12_fits_15 ?_
    exact v_retL hR h dX12_fits_18
  · refine v_aload_n hX dX12_fits_19 rfl 0 rfl ?_
    refine gfM_0_40 hX kf_12_314 dX12_fits_20 ?_
    refine v_if_ne (tgt := 30) hX dX12_fits_23 (by decide) h (fun h => ?_) (fun h => ?_)
    · refine v_ldc2 hX kc_12_324 dX12_fits_26 ?_
      exact v_retL hR h dX12_fits_29
    · refine v_aload_n hX dX12_fits_30 rfl 0 rfl ?_
      refine v_iconst (v := 0) hX dX12_fits_31 (by decide) ?_
      refine v_aload_n hX dX12_fits_32 rfl 0 rfl ?_
      refine gfM_0_40 hX kf_12_314 dX12_fits_33 ?_
      refine v_iload_n hX dX12_fits_36 rfl 1 rfl ?_
      refine v_iload_n hX dX12_fits_37 rfl 2 rfl ?_
      refine v_iload_n hX dX12_fits_38 rfl 3 rfl ?_
      obtain ⟨p3, hp3, h⟩ := bsome h
      refine v_callVL (o := 0) hX (mM_EachAddsALineModel_countFits hp3 l ad) kM_X12_countFits kV_X12_countFits km_12_326 (by decide) (fun _ => rfl) rfl rfl rfl (Nat.le_of_ble_eq_true rfl) (by decide) dX12_fits_39 ?_
      refine v_lstore (lv' := [(4, .long p3.1), (0, .ref (ad 0)), (1, .int a1), (2, .int a2), (3, .int a3)]) hX dX12_fits_42 (by decide) rfl ?_
      refine v_aload_n hX dX12_fits_44 rfl 1 rfl ?_
      refine v_iconst (v := 0) hX dX12_fits_45 (by decide) ?_
      refine pfM_0_10 hX kf_12_99 dX12_fits_46 h (fun z4 h => ?_)
      refine v_iconst (v := (-1)) hX dX12_fits_49 (by decide) ?_
      refine v_nmI hX h (fun v5 h => ?_)
      refine v_istore (lv' := [(6, .int v5), (4, .long p3.1), (0, .ref (ad 0)), (1, .int a1), (2, .int a2), (3, .int a3)]) hX dX12_fits_50 (by decide) rfl ?_
      refine v_iconst (v := 1) hX dX12_fits_52 (by decide) ?_
      refine v_istore (lv' := [(7, .int 1), (6, .int v5), (4, .long p3.1), (0, .ref (ad 0)), (1, .int a1), (2, .int a2), (3, .int a3)]) hX dX12_fits_53 (by decide) rfl ?_
      exact v_sub hX [3, 4, 6, 2, 1, 0] (by rfl) (wM_EachAddsALineModel_fits_55 hX hR  N _ _ _ _ _ _ h)
noncomputable def fM_EachAddsALineModel_fits (N : Nat) (a1 : Int32) (a2 : Int32) (a3 : Int32) (s : vSt) : Option (Int64 × vSt) := gM_EachAddsALineModel_fits_0 N a1 a2 a3 s
theorem mM_EachAddsALineModel_fits {N : Nat} {a1 : Int32} {a2 : Int32} {a3 : Int32} {s : vSt} {r : Int64} {t1 : vSt} (h : fM_EachAddsALineModel_fits N a1 a2 a3 s = some (r, t1)) (l : Launch) (ad : Nat → Nat) : vML l shM ad yX12_fits cX12_fits 10 200 4664 s [.ref (ad 0), .int a1, .int a2, .int a3] r t1 :=
  vML_of (by decide +kernel) (Nat.le_of_ble_eq_true rfl) (fun P hX hR => wM_EachAddsALineModel_fits_0 hX hR h)
-- M_EachAddsALineModel_sure
noncomputable def gM_EachAddsALineModel_sure_138 (N : Nat) (r50 : Int32 → Int32 → Int32 → Int64 → Int32 → Int32 → Int32 → vSt → Option (Int32 × vSt)) (a1 : Int32) (a2 : Int32) (a3 : Int32) (a4 : Int64) (a6 : Int32) (a8 : Int32) (k0 : Int32) (k1 : Int32) (s : vSt) : Option (Int32 × vSt) :=
  (some (k0 ||| k1 : Int32)).bind fun v1 =>
  (some (a8 + 1 : Int32)).bind fun v2 =>
  r50 a1 a2 a3 a4 a6 v1 v2 s
set_option maxRecDepth 4000 in
theorem wM_EachAddsALineModel_sure_138 {P : vP} {l : Launch} {ad : Nat → Nat} {N : Nat} {r50 : Int32 → Int32 → Int32 → Int64 → Int32 → Int32 → Int32 → vSt → Option (Int32 × vSt)} {r : Int32} {t1 : vSt} (hX : vOK P l shM ad (vR 200 4664) cX12_sure RX12 11) (hR : (∀ pc lv, narrow .int (.int r) = .int r → decode cX12_sure pc = .ok (.ireturn, 1) → P t1 pc lv [.int r])) (H50 : ∀ (a1 : Int32) (a2 : Int32) (a3 : Int32) (a4 : Int64) (a6 : Int32) (a7 : Int32) (a8 : Int32) (s : vSt), r50 a1 a2 a3 a4 a6 a7 a8 s = some (r, t1) → P s 50 [(0, .ref (ad 0)), (1, .int a1), (2, .int a2), (3, .int a3), (4, .long a4), (6, .int a6), (7, .int a7), (8, .int a8)] []) {a1 : Int32} {a2 : Int32} {a3 : Int32} {a4 : Int64} {a6 : Int32} {a8 : Int32} {k0 : Int32} {k1 : Int32} {s : vSt} (h : gM_EachAddsALineModel_sure_138 N r50 a1 a2 a3 a4 a6 a8 k0 k1 s = some (r, t1)) : P s 138 [(0, .ref (ad 0)), (1, .int a1), (2, .int a2), (3, .int a3), (4, .long a4), (6, .int a6), (8, .int a8)] [.int k1, .int k0] := by
  unfold gM_EachAddsALineModel_sure_138 at h
  refine v_ior hX dX12_sure_138 ?_
  refine v_nmI hX h (fun v1 h => ?_)
  refine v_istore (lv' := [(7, .int v1), (0, .ref (ad 0)), (1, .int a1), (2, .int a2), (3, .int a3), (4, .long a4), (6, .int a6), (8, .int a8)]) hX dX12_sure_139 (by decide) rfl ?_
  refine v_iincN hX dX12_sure_141 (j := 7) rfl (c := 1) (by decide) (by decide) h (fun v2 h => ?_)
  refine v_show (lv' := [(8, .int v2), (7, .int v1), (0, .ref (ad 0)), (1, .int a1), (2, .int a2), (3, .int a3), (4, .long a4), (6, .int a6)]) hX rfl ?_
  refine v_goto (tgt := 50) hX dX12_sure_144 (by decide) ?_
  exact v_sub hX [2, 3, 4, 5, 6, 7, 1, 0] (by rfl) (H50 _ _ _ _ _ _ _ _ h)
noncomputable def gM_EachAddsALineModel_sure_117 (N : Nat) (r50 : Int32 → Int32 → Int32 → Int64 → Int32 → Int32 → Int32 → vSt → Option (Int32 × vSt)) (a1 : Int32) (a2 : Int32) (a3 : Int32) (a4 : Int64) (a7 : Int32) (a8 : Int32) (a9 : Int64) (k0 : Int32) (k1 : Int32) (s : vSt) : Option (Int32 × vSt) :=
  (some (k0 ||| k1 : Int32)).bind fun v1 =>
  if 0 ≤ (lg_cmp a9 a4) then
    gM_EachAddsALineModel_sure_138 N r50 a1 a2 a3 a4 v1 a8 a7 0 s
  else
    gM_EachAddsALineModel_sure_138 N r50 a1 a2 a3 a4 v1 a8 a7 ((1 : Int32) <<< (a8 &&& 31)) s
set_option maxRecDepth 4000 in
theorem wM_EachAddsALineModel_sure_117 {P : vP} {l : Launch} {ad : Nat → Nat} {N : Nat} {r50 : Int32 → Int32 → Int32 → Int64 → Int32 → Int32 → Int32 → vSt → Option (Int32 × vSt)} {r : Int32} {t1 : vSt} (hX : vOK P l shM ad (vR 200 4664) cX12_sure RX12 11) (hR : (∀ pc lv, narrow .int (.int r) = .int r → decode cX12_sure pc = .ok (.ireturn, 1) → P t1 pc lv [.int r])) (H50 : ∀ (a1 : Int32) (a2 : Int32) (a3 : Int32) (a4 : Int64) (a6 : Int32) (a7 : Int32) (a8 : Int32) (s : vSt), r50 a1 a2 a3 a4 a6 a7 a8 s = some (r, t1) → P s 50 [(0, .ref (ad 0)), (1, .int a1), (2, .int a2), (3, .int a3), (4, .long a4), (6, .int a6), (7, .int a7), (8, .int a8)] []) {a1 : Int32} {a2 : Int32} {a3 : Int32} {a4 : Int64} {a7 : Int32} {a8 : Int32} {a9 : Int64} {k0 : Int32} {k1 : Int32} {s : vSt} (h : gM_EachAddsALineModel_sure_117 N r50 a1 a2 a3 a4 a7 a8 a9 k0 k1 s = some (r, t1)) : P s 117 [(0, .ref (ad 0)), (1, .int a1), (2, .int a2), (3, .int a3), (4, .long a4), (7, .int a7), (8, .int a8), (9, .long a9)] [.int k1, .int k0] := by
  unfold gM_EachAddsALineModel_sure_117 at h
  refine v_ior hX dX12_sure_117 ?_
  refine v_nmI hX h (fun v1 h => ?_)
  refine v_istore (lv' := [(6, .int v1), (0, .ref (ad 0)), (1, .int a1), (2, .int a2), (3, .int a3), (4, .long a4), (7, .int a7), (8, .int a8), (9, .long a9)]) hX dX12_sure_118 (by decide) rfl ?_
  refine v_iload hX dX12_sure_120 6 rfl ?_
  refine v_lload hX dX12_sure_122 8 rfl ?_
  refine v_lload hX dX12_sure_124 5 rfl ?_
  refine v_lcmp hX dX12_sure_126 ?_
  refine v_if_ge (tgt := 137) hX dX12_sure_127 (by decide) h (fun h => ?_) (fun h => ?_)
  · refine v_iconst (v := 0) hX dX12_sure_137 (by decide) ?_
    exact v_sub hX [1, 2, 3, 4, 5, 0, 7] (by rfl) (wM_EachAddsALineModel_sure_138 hX hR H50 h)
  · refine v_iconst (v := 1) hX dX12_sure_130 (by decide) ?_
    refine v_iload hX dX12_sure_131 7 rfl ?_
    refine v_ishl hX dX12_sure_133 ?_
    refine v_goto (tgt := 138) hX dX12_sure_134 (by decide) ?_
    exact v_sub hX [1, 2, 3, 4, 5, 0, 7] (by rfl) (wM_EachAddsALineModel_sure_138 hX hR H50 h)
noncomputable def gM_EachAddsALineModel_sure_100 (N : Nat) (r50 : Int32 → Int32 → Int32 → Int64 → Int32 → Int32 → Int32 → vSt → Option (Int32 × vSt)) (a1 : Int32) (a2 : Int32) (a3 : Int32) (a4 : Int64) (a6 : Int32) (a7 : Int32) (a8 : Int32) (a9 : Int64) (s : vSt) : Option (Int32 × vSt) :=
  if (lg_cmp a9 0) = 0 then
    gM_EachAddsALineModel_sure_117 N r50 a1 a2 a3 a4 a7 a8 a9 a6 ((1 : Int32) <<< (a8 &&& 31)) s
  else
    gM_EachAddsALineModel_sure_117 N r50 a1 a2 a3 a4 a7 a8 a9 a6 0 s
set_option maxRecDepth 4000 in
theorem wM_EachAddsALineModel_sure_100 {P : vP} {l : Launch} {ad : Nat → Nat} {N : Nat} {r50 : Int32 → Int32 → Int32 → Int64 → Int32 → Int32 → Int32 → vSt → Option (Int32 × vSt)} {r : Int32} {t1 : vSt} (hX : vOK P l shM ad (vR 200 4664) cX12_sure RX12 11) (hR : (∀ pc lv, narrow .int (.int r) = .int r → decode cX12_sure pc = .ok (.ireturn, 1) → P t1 pc lv [.int r])) (H50 : ∀ (a1 : Int32) (a2 : Int32) (a3 : Int32) (a4 : Int64) (a6 : Int32) (a7 : Int32) (a8 : Int32) (s : vSt), r50 a1 a2 a3 a4 a6 a7 a8 s = some (r, t1) → P s 50 [(0, .ref (ad 0)), (1, .int a1), (2, .int a2), (3, .int a3), (4, .long a4), (6, .int a6), (7, .int a7), (8, .int a8)] []) {a1 : Int32} {a2 : Int32} {a3 : Int32} {a4 : Int64} {a6 : Int32} {a7 : Int32} {a8 : Int32} {a9 : Int64} {s : vSt} (h : gM_EachAddsALineModel_sure_100 N r50 a1 a2 a3 a4 a6 a7 a8 a9 s = some (r, t1)) : P s 100 [(0, .ref (ad 0)), (1, .int a1), (2, .int a2), (3, .int a3), (4, .long a4), (6, .int a6), (7, .int a7), (8, .int a8), (9, .long a9)] [] := by
  unfold gM_EachAddsALineModel_sure_100 at h
  refine v_iload hX dX12_sure_100 5 rfl ?_
  refine v_lload hX dX12_sure_102 8 rfl ?_
  refine v_lconst (v := 0) hX dX12_sure_104 (by decide) ?_
  refine v_lcmp hX dX12_sure_105 ?_
  refine v_if_ne (tgt := 116) hX dX12_sure_106 (by decide) h (fun h => ?_) (fun h => ?_)
  · refine v_iconst (v := 1) hX dX12_sure_109 (by decide) ?_
    refine v_iload hX dX12_sure_110 7 rfl ?_
    refine v_ishl hX dX12_sure_112 ?_
    refine v_goto (tgt := 117) hX dX12_sure_113 (by decide) ?_
    exact v_sub hX [0, 1, 2, 3, 4, 6, 7, 8] (by rfl) (wM_EachAddsALineModel_sure_117 hX hR H50 h)
  · refine v_iconst (v := 0) hX dX12_sure_116 (by decide) ?_
    exact v_sub hX [0, 1, 2, 3, 4, 6, 7, 8] (by rfl) (wM_EachAddsALineModel_sure_117 hX hR H50 h)
noncomputable def gM_EachAddsALineModel_sure_147 (N : Nat)  (a6 : Int32) (a7 : Int32) (s : vSt) : Option (Int32 × vSt) :=
  (some (s1 s 0 10 0)).bind fun z1 =>
  (fM_EachAddsALineModel_tell N a7 z1).bind fun z2 =>
  some (a6, z2)
set_option maxRecDepth 4000 in
theorem wM_EachAddsALineModel_sure_147 {P : vP} {l : Launch} {ad : Nat → Nat} {N : Nat} {r : Int32} {t1 : vSt} (hX : vOK P l shM ad (vR 200 4664) cX12_sure RX12 11) (hR : (∀ pc lv, narrow .int (.int r) = .int r → decode cX12_sure pc = .ok (.ireturn, 1) → P t1 pc lv [.int r]))  {a6 : Int32} {a7 : Int32} {s : vSt} (h : gM_EachAddsALineModel_sure_147 N a6 a7 s = some (r, t1)) : P s 147 [(0, .ref (ad 0)), (6, .int a6), (7, .int a7)] [] := by
  unfold gM_EachAddsALineModel_sure_147 at h
  refine v_aload_n hX dX12_sure_147 rfl 0 rfl ?_
  refine v_iconst (v := 0) hX dX12_sure_148 (by decide) ?_
  refine pfM_0_10 hX kf_12_99 dX12_sure_149 h (fun z1 h => ?_)
  refine v_aload_n hX dX12_sure_152 rfl 0 rfl ?_
  refine v_iload hX dX12_sure_153 2 rfl ?_
  obtain ⟨z2, hz2, h⟩ := bsome h
  refine v_callVV (o := 0) hX (mM_EachAddsALineModel_tell hz2 l ad) kM_X12_tell kV_X12_tell km_12_250 (by decide) (fun _ => rfl) rfl rfl rfl (Nat.le_of_ble_eq_true rfl) (by decide) dX12_sure_155 ?_
  refine v_iload hX dX12_sure_158 1 rfl ?_
  exact v_retI hR h dX12_sure_160
noncomputable def gM_EachAddsALineModel_sure_50 (N : Nat)  : Nat → Int32 → Int32 → Int32 → Int64 → Int32 → Int32 → Int32 → vSt → Option (Int32 × vSt)
  | 0, _, _, _, _, _, _, _, _ => none
  | n + 1, a1, a2, a3, a4, a6, a7, a8, s =>
    if (s.1 0 0) ≤ a8 then
      gM_EachAddsALineModel_sure_147 N a6 a7 s
    else
      if (lg_cmp a4 0) ≤ 0 then
        gM_EachAddsALineModel_sure_147 N a6 a7 s
      else
        if a8 = a1 then
          gM_EachAddsALineModel_sure_100 N (gM_EachAddsALineModel_sure_50 N n) a1 a2 a3 a4 a6 a7 a8 0 s
        else
          (some (s1 s 0 37 a8)).bind fun z1 =>
          (fM_EachAddsALineModel_countFits N 0 (z1.1 0 40) a1 a2 a3 z1).bind fun p2 =>
          (some (s1 p2.2 0 37 (-1))).bind fun z3 =>
          gM_EachAddsALineModel_sure_100 N (gM_EachAddsALineModel_sure_50 N n) a1 a2 a3 a4 a6 a7 a8 p2.1 z3
set_option maxRecDepth 4000 in
theorem wM_EachAddsALineModel_sure_50 {P : vP} {l : Launch} {ad : Nat → Nat} {N : Nat} {r : Int32} {t1 : vSt} (hX : vOK P l shM ad (vR 200 4664) cX12_sure RX12 11) (hR : (∀ pc lv, narrow .int (.int r) = .int r → decode cX12_sure pc = .ok (.ireturn, 1) → P t1 pc lv [.int r]))  : ∀ (n : Nat) (a1 : Int32) (a2 : Int32) (a3 : Int32) (a4 : Int64) (a6 : Int32) (a7 : Int32) (a8 : Int32) (s : vSt), gM_EachAddsALineModel_sure_50 N n a1 a2 a3 a4 a6 a7 a8 s = some (r, t1) → P s 50 [(0, .ref (ad 0)), (1, .int a1), (2, .int a2), (3, .int a3), (4, .long a4), (6, .int a6), (7, .int a7), (8, .int a8)] [] := by
  intro n
  induction n with
  | zero => intro a1 a2 a3 a4 a6 a7 a8 s h; cases h
  | succ n ih =>
    intro a1 a2 a3 a4 a6 a7 a8 s h
    unfold gM_EachAddsALineModel_sure_50 at h
    refine v_iload hX dX12_sure_50 7 rfl ?_
    refine v_aload_n hX dX12_sure_52 rfl 0 rfl ?_
    refine gfM_0_0 hX kf_12_102 dX12_sure_53 ?_
    refine v_icmp_ge (tgt := 147) hX dX12_sure_56 (by decide) h (fun h => ?_) (fun h => ?_)
    · exact v_sub hX [0, 5, 6] (by rfl) (wM_EachAddsALineModel_sure_147 hX hR  h)
    · refine v_lload hX dX12_sure_59 4 rfl ?_
      refine v_lconst (v := 0) hX dX12_sure_61 (by decide) ?_
      refine v_lcmp hX dX12_sure_62 ?_
      refine v_if_le (tgt := 147) hX dX12_sure_63 (by decide) h (fun h => ?_) (fun h => ?_)
      · exact v_sub hX [0, 5, 6] (by rfl) (wM_EachAddsALineModel_sure_147 hX hR  h)
      · refine v_lconst (v := 0) hX dX12_sure_66 (by decide) ?_
        refine v_lstore (lv' := [(9, .long 0), (0, .ref (ad 0)), (1, .int a1), (2, .int a2), (3, .int a3), (4, .long a4), (6, .int a6), (7, .int a7), (8, .int a8)]) hX dX12_sure_67 (by decide) rfl ?_
        refine v_iload hX dX12_sure_69 8 rfl ?_
        refine v_iload_n hX dX12_sure_71 rfl 2 rfl ?_
        refine v_icmp_eq (tgt := 100) hX dX12_sure_72 (by decide) h (fun h => ?_) (fun h => ?_)
        · exact v_sub hX [1, 2, 3, 4, 5, 6, 7, 8, 0] (by rfl) (wM_EachAddsALineModel_sure_100 hX hR ih h)
        · refine v_aload_n hX dX12_sure_75 rfl 1 rfl ?_
          refine v_iload hX dX12_sure_76 8 rfl ?_
          refine pfM_0_37 hX kf_12_62 dX12_sure_78 h (fun z1 h => ?_)
          refine v_aload_n hX dX12_sure_81 rfl 1 rfl ?_
          refine v_iconst (v := 0) hX dX12_sure_82 (by decide) ?_
          refine v_aload_n hX dX12_sure_83 rfl 1 rfl ?_
          refine gfM_0_40 hX kf_12_314 dX12_sure_84 ?_
          refine v_iload_n hX dX12_sure_87 rfl 2 rfl ?_
          refine v_iload_n hX dX12_sure_88 rfl 3 rfl ?_
          refine v_iload_n hX dX12_sure_89 rfl 4 rfl ?_
          obtain ⟨p2, hp2, h⟩ := bsome h
          refine v_callVL (o := 0) hX (mM_EachAddsALineModel_countFits hp2 l ad) kM_X12_countFits kV_X12_countFits km_12_326 (by decide) (fun _ => rfl) rfl rfl rfl (Nat.le_of_ble_eq_true rfl) (by decide) dX12_sure_90 ?_
          refine v_lstore (lv' := [(9, .long p2.1), (0, .ref (ad 0)), (1, .int a1), (2, .int a2), (3, .int a3), (4, .long a4), (6, .int a6), (7, .int a7), (8, .int a8)]) hX dX12_sure_93 (by decide) rfl ?_
          refine v_aload_n hX dX12_sure_95 rfl 1 rfl ?_
          refine v_iconst (v := (-1)) hX dX12_sure_96 (by decide) ?_
          refine pfM_0_37 hX kf_12_62 dX12_sure_97 h (fun z3 h => ?_)
          exact v_sub hX [1, 2, 3, 4, 5, 6, 7, 8, 0] (by rfl) (wM_EachAddsALineModel_sure_100 hX hR ih h)
noncomputable def gM_EachAddsALineModel_sure_0 (N : Nat)  (a1 : Int32) (a2 : Int32) (a3 : Int32) (s : vSt) : Option (Int32 × vSt) :=
  (some (s1 s 0 11 0)).bind fun z1 =>
  (fM_EachAddsALineModel_isTrip N a1 a2 a3 z1).bind fun p2 =>
  if p2.1 = 0 then
    some ((-1), p2.2)
  else
    if (p2.2.1 0 40) = 0 then
      some ((-2), p2.2)
    else
      (fM_EachAddsALineModel_countFits N 0 (p2.2.1 0 40) a1 a2 a3 p2.2).bind fun p3 =>
      gM_EachAddsALineModel_sure_50 N N a1 a2 a3 p3.1 0 0 0 p3.2
set_option maxRecDepth 4000 in
theorem wM_EachAddsALineModel_sure_0 {P : vP} {l : Launch} {ad : Nat → Nat} {N : Nat} {r : Int32} {t1 : vSt} (hX : vOK P l shM ad (vR 200 4664) cX12_sure RX12 11) (hR : (∀ pc lv, narrow .int (.int r) = .int r → decode cX12_sure pc = .ok (.ireturn, 1) → P t1 pc lv [.int r]))  {a1 : Int32} {a2 : Int32} {a3 : Int32} {s : vSt} (h : gM_EachAddsALineModel_sure_0 N a1 a2 a3 s = some (r, t1)) : P s 0 [(0, .ref (ad 0)), (1, .int a1), (2, .int a2), (3, .int a3)] [] := by
  unfold gM_EachAddsALineModel_sure_0 at h
  refine v_aload_n hX dX12_sure_0 rfl 0 rfl ?_
  refine v_iconst (v := 0) hX dX12_sure_1 (by decide) ?_
  refine pfM_0_11 hX kf_12_96 dX12_sure_2 h (fun z1 h => ?_)
  refine v_aload_n hX dX12_sure_5 rfl 0 rfl ?_
  refine v_iload_n hX dX12_sure_6 rfl 1 rfl ?_
  refine v_iload_n hX dX12_sure_7 rfl 2 rfl ?_
  refine v_iload_n hX dX12_sure_8 rfl 3 rfl ?_
  obtain ⟨p2, hp2, h⟩ := bsome h
  refine v_callVI (o := 0) hX (mM_EachAddsALineModel_isTrip hp2 l ad) kM_X12_isTrip kV_X12_isTrip km_12_294 (by decide) (fun _ => rfl) rfl rfl rfl (Nat.le_of_ble_eq_true rfl) (by decide) dX12_sure_9 ?_
  refine v_if_ne (tgt := 17) hX dX12_sure_12 (by decide) h (fun h => ?_) (fun h => ?_)
  · refine v_iconst (v := (-1)) hX dX12_sure_15 (by decide) ?_
    exact v_retI hR h dX12_sure_16
  · refine v_aload_n hX dX12_sure_17 rfl 0 rfl ?_
    refine gfM_0_40 hX kf_12_314 dX12_sure_18 ?_
    refine v_if_ne (tgt := 27) hX dX12_sure_21 (by decide) h (fun h => ?_) (fun h => ?_)
    · refine v_bipush (v := (-2)) hX dX12_sure_24 (by decide) ?_
      exact v_retI hR h dX12_sure_26
    · refine v_aload_n hX dX12_sure_27 rfl 0 rfl ?_
      refine v_iconst (v := 0) hX dX12_sure_28 (by decide) ?_
      refine v_aload_n hX dX12_sure_29 rfl 0 rfl ?_
      refine gfM_0_40 hX kf_12_314 dX12_sure_30 ?_
      refine v_iload_n hX dX12_sure_33 rfl 1 rfl ?_
      refine v_iload_n hX dX12_sure_34 rfl 2 rfl ?_
      refine v_iload_n hX dX12_sure_35 rfl 3 rfl ?_
      obtain ⟨p3, hp3, h⟩ := bsome h
      refine v_callVL (o := 0) hX (mM_EachAddsALineModel_countFits hp3 l ad) kM_X12_countFits kV_X12_countFits km_12_326 (by decide) (fun _ => rfl) rfl rfl rfl (Nat.le_of_ble_eq_true rfl) (by decide) dX12_sure_36 ?_
      refine v_lstore (lv' := [(4, .long p3.1), (0, .ref (ad 0)), (1, .int a1), (2, .int a2), (3, .int a3)]) hX dX12_sure_39 (by decide) rfl ?_
      refine v_iconst (v := 0) hX dX12_sure_41 (by decide) ?_
      refine v_istore (lv' := [(6, .int 0), (4, .long p3.1), (0, .ref (ad 0)), (1, .int a1), (2, .int a2), (3, .int a3)]) hX dX12_sure_42 (by decide) rfl ?_
      refine v_iconst (v := 0) hX dX12_sure_44 (by decide) ?_
      refine v_istore (lv' := [(7, .int 0), (6, .int 0), (4, .long p3.1), (0, .ref (ad 0)), (1, .int a1), (2, .int a2), (3, .int a3)]) hX dX12_sure_45 (by decide) rfl ?_
      refine v_iconst (v := 0) hX dX12_sure_47 (by decide) ?_
      refine v_istore (lv' := [(8, .int 0), (7, .int 0), (6, .int 0), (4, .long p3.1), (0, .ref (ad 0)), (1, .int a1), (2, .int a2), (3, .int a3)]) hX dX12_sure_48 (by decide) rfl ?_
      exact v_sub hX [4, 5, 6, 7, 3, 2, 1, 0] (by rfl) (wM_EachAddsALineModel_sure_50 hX hR  N _ _ _ _ _ _ _ _ h)
noncomputable def fM_EachAddsALineModel_sure (N : Nat) (a1 : Int32) (a2 : Int32) (a3 : Int32) (s : vSt) : Option (Int32 × vSt) := gM_EachAddsALineModel_sure_0 N a1 a2 a3 s
theorem mM_EachAddsALineModel_sure {N : Nat} {a1 : Int32} {a2 : Int32} {a3 : Int32} {s : vSt} {r : Int32} {t1 : vSt} (h : fM_EachAddsALineModel_sure N a1 a2 a3 s = some (r, t1)) (l : Launch) (ad : Nat → Nat) : vMI l shM ad yX12_sure cX12_sure 11 .int 200 4664 s [.ref (ad 0), .int a1, .int a2, .int a3] r t1 :=
  vMI_of (by decide +kernel) (Nat.le_of_ble_eq_true rfl) (fun P hX hR => wM_EachAddsALineModel_sure_0 hX hR h)
-- M_EachAddsALineModel_writers
noncomputable def gM_EachAddsALineModel_writers_68 (N : Nat) (r32 : Int32 → Int32 → Int32 → Int32 → vSt → Option (Int32 × vSt)) (a1 : Int32) (a2 : Int32) (a4 : Int32) (k0 : Int32) (k1 : Int32) (s : vSt) : Option (Int32 × vSt) :=
  (some (k0 ||| k1 : Int32)).bind fun v1 =>
  (some (a4 + 1 : Int32)).bind fun v2 =>
  r32 a1 a2 v1 v2 s
set_option maxRecDepth 4000 in
theorem wM_EachAddsALineModel_writers_68 {P : vP} {l : Launch} {ad : Nat → Nat} {N : Nat} {r32 : Int32 → Int32 → Int32 → Int32 → vSt → Option (Int32 × vSt)} {r : Int32} {t1 : vSt} (hX : vOK P l shM ad (vR 200 4664) cX12_writers RX12 5) (hR : (∀ pc lv, narrow .int (.int r) = .int r → decode cX12_writers pc = .ok (.ireturn, 1) → P t1 pc lv [.int r])) (H32 : ∀ (a1 : Int32) (a2 : Int32) (a3 : Int32) (a4 : Int32) (s : vSt), r32 a1 a2 a3 a4 s = some (r, t1) → P s 32 [(0, .ref (ad 0)), (1, .int a1), (2, .int a2), (3, .int a3), (4, .int a4)] []) {a1 : Int32} {a2 : Int32} {a4 : Int32} {k0 : Int32} {k1 : Int32} {s : vSt} (h : gM_EachAddsALineModel_writers_68 N r32 a1 a2 a4 k0 k1 s = some (r, t1)) : P s 68 [(0, .ref (ad 0)), (1, .int a1), (2, .int a2), (4, .int a4)] [.int k1, .int k0] := by
  unfold gM_EachAddsALineModel_writers_68 at h
  refine v_ior hX dX12_writers_68 ?_
  refine v_nmI hX h (fun v1 h => ?_)
  refine v_istore_n (lv' := [(3, .int v1), (0, .ref (ad 0)), (1, .int a1), (2, .int a2), (4, .int a4)]) hX dX12_writers_69 rfl (by decide) rfl ?_
  refine v_iincN hX dX12_writers_70 (j := 4) rfl (c := 1) (by decide) (by decide) h (fun v2 h => ?_)
  refine v_show (lv' := [(4, .int v2), (3, .int v1), (0, .ref (ad 0)), (1, .int a1), (2, .int a2)]) hX rfl ?_
  refine v_goto (tgt := 32) hX dX12_writers_73 (by decide) ?_
  exact v_sub hX [2, 3, 4, 1, 0] (by rfl) (H32 _ _ _ _ _ h)
noncomputable def gM_EachAddsALineModel_writers_32 (N : Nat)  : Nat → Int32 → Int32 → Int32 → Int32 → vSt → Option (Int32 × vSt)
  | 0, _, _, _, _, _ => none
  | n + 1, a1, a2, a3, a4, s =>
    if (s.1 0 0) ≤ a4 then
      some (a3, s)
    else
      (fM_EachAddsALineModel_countFits N 0 (s.1 0 40) a4 a1 a2 s).bind fun p1 =>
      if (lg_cmp p1.1 0) ≤ 0 then
        gM_EachAddsALineModel_writers_68 N (gM_EachAddsALineModel_writers_32 N n) a1 a2 a4 a3 0 p1.2
      else
        gM_EachAddsALineModel_writers_68 N (gM_EachAddsALineModel_writers_32 N n) a1 a2 a4 a3 ((1 : Int32) <<< (a4 &&& 31)) p1.2
set_option maxRecDepth 4000 in
theorem wM_EachAddsALineModel_writers_32 {P : vP} {l : Launch} {ad : Nat → Nat} {N : Nat} {r : Int32} {t1 : vSt} (hX : vOK P l shM ad (vR 200 4664) cX12_writers RX12 5) (hR : (∀ pc lv, narrow .int (.int r) = .int r → decode cX12_writers pc = .ok (.ireturn, 1) → P t1 pc lv [.int r]))  : ∀ (n : Nat) (a1 : Int32) (a2 : Int32) (a3 : Int32) (a4 : Int32) (s : vSt), gM_EachAddsALineModel_writers_32 N n a1 a2 a3 a4 s = some (r, t1) → P s 32 [(0, .ref (ad 0)), (1, .int a1), (2, .int a2), (3, .int a3), (4, .int a4)] [] := by
  intro n
  induction n with
  | zero => intro a1 a2 a3 a4 s h; cases h
  | succ n ih =>
    intro a1 a2 a3 a4 s h
    unfold gM_EachAddsALineModel_writers_32 at h
    refine v_iload hX dX12_writers_32 4 rfl ?_
    refine v_aload_n hX dX12_writers_34 rfl 0 rfl ?_
    refine gfM_0_0 hX kf_12_102 dX12_writers_35 ?_
    refine v_icmp_ge (tgt := 76) hX dX12_writers_38 (by decide) h (fun h => ?_) (fun h => ?_)
    · refine v_iload_n hX dX12_writers_76 rfl 3 rfl ?_
      exact v_retI hR h dX12_writers_77
    · refine v_iload_n hX dX12_writers_41 rfl 3 rfl ?_
      refine v_aload_n hX dX12_writers_42 rfl 0 rfl ?_
      refine v_iconst (v := 0) hX dX12_writers_43 (by decide) ?_
      refine v_aload_n hX dX12_writers_44 rfl 0 rfl ?_
      refine gfM_0_40 hX kf_12_314 dX12_writers_45 ?_
      refine v_iload hX dX12_writers_48 4 rfl ?_
      refine v_iload_n hX dX12_writers_50 rfl 1 rfl ?_
      refine v_iload_n hX dX12_writers_51 rfl 2 rfl ?_
      obtain ⟨p1, hp1, h⟩ := bsome h
      refine v_callVL (o := 0) hX (mM_EachAddsALineModel_countFits hp1 l ad) kM_X12_countFits kV_X12_countFits km_12_326 (by decide) (fun _ => rfl) rfl rfl rfl (Nat.le_of_ble_eq_true rfl) (by decide) dX12_writers_52 ?_
      refine v_lconst (v := 0) hX dX12_writers_55 (by decide) ?_
      refine v_lcmp hX dX12_writers_56 ?_
      refine v_if_le (tgt := 67) hX dX12_writers_57 (by decide) h (fun h => ?_) (fun h => ?_)
      · refine v_iconst (v := 0) hX dX12_writers_67 (by decide) ?_
        exact v_sub hX [0, 1, 2, 4] (by rfl) (wM_EachAddsALineModel_writers_68 hX hR ih h)
      · refine v_iconst (v := 1) hX dX12_writers_60 (by decide) ?_
        refine v_iload hX dX12_writers_61 4 rfl ?_
        refine v_ishl hX dX12_writers_63 ?_
        refine v_goto (tgt := 68) hX dX12_writers_64 (by decide) ?_
        exact v_sub hX [0, 1, 2, 4] (by rfl) (wM_EachAddsALineModel_writers_68 hX hR ih h)
noncomputable def gM_EachAddsALineModel_writers_0 (N : Nat)  (a1 : Int32) (a2 : Int32) (s : vSt) : Option (Int32 × vSt) :=
  (some (s1 s 0 11 0)).bind fun z1 =>
  (fM_EachAddsALineModel_isTrip N a1 a1 a2 z1).bind fun p2 =>
  if p2.1 = 0 then
    some ((-1), p2.2)
  else
    if (p2.2.1 0 40) = 0 then
      some ((-2), p2.2)
    else
      gM_EachAddsALineModel_writers_32 N N a1 a2 0 0 p2.2
set_option maxRecDepth 4000 in
theorem wM_EachAddsALineModel_writers_0 {P : vP} {l : Launch} {ad : Nat → Nat} {N : Nat} {r : Int32} {t1 : vSt} (hX : vOK P l shM ad (vR 200 4664) cX12_writers RX12 5) (hR : (∀ pc lv, narrow .int (.int r) = .int r → decode cX12_writers pc = .ok (.ireturn, 1) → P t1 pc lv [.int r]))  {a1 : Int32} {a2 : Int32} {s : vSt} (h : gM_EachAddsALineModel_writers_0 N a1 a2 s = some (r, t1)) : P s 0 [(0, .ref (ad 0)), (1, .int a1), (2, .int a2)] [] := by
  unfold gM_EachAddsALineModel_writers_0 at h
  refine v_aload_n hX dX12_writers_0 rfl 0 rfl ?_
  refine v_iconst (v := 0) hX dX12_writers_1 (by decide) ?_
  refine pfM_0_11 hX kf_12_96 dX12_writers_2 h (fun z1 h => ?_)
  refine v_aload_n hX dX12_writers_5 rfl 0 rfl ?_
  refine v_iload_n hX dX12_writers_6 rfl 1 rfl ?_
  refine v_iload_n hX dX12_writers_7 rfl 1 rfl ?_
  refine v_iload_n hX dX12_writers_8 rfl 2 rfl ?_
  obtain ⟨p2, hp2, h⟩ := bsome h
  refine v_callVI (o := 0) hX (mM_EachAddsALineModel_isTrip hp2 l ad) kM_X12_isTrip kV_X12_isTrip km_12_294 (by decide) (fun _ => rfl) rfl rfl rfl (Nat.le_of_ble_eq_true rfl) (by decide) dX12_writers_9 ?_
  refine v_if_ne (tgt := 17) hX dX12_writers_12 (by decide) h (fun h => ?_) (fun h => ?_)
  · refine v_iconst (v := (-1)) hX dX12_writers_15 (by decide) ?_
    exact v_retI hR h dX12_writers_16
  · refine v_aload_n hX dX12_writers_17 rfl 0 rfl ?_
    refine gfM_0_40 hX kf_12_314 dX12_writers_18 ?_
    refine v_if_ne (tgt := 27) hX dX12_writers_21 (by decide) h (fun h => ?_) (fun h => ?_)
    · refine v_bipush (v := (-2)) hX dX12_writers_24 (by decide) ?_
      exact v_retI hR h dX12_writers_26
    · refine v_iconst (v := 0) hX dX12_writers_27 (by decide) ?_
      refine v_istore_n (lv' := [(3, .int 0), (0, .ref (ad 0)), (1, .int a1), (2, .int a2)]) hX dX12_writers_28 rfl (by decide) rfl ?_
      refine v_iconst (v := 0) hX dX12_writers_29 (by decide) ?_
      refine v_istore (lv' := [(4, .int 0), (3, .int 0), (0, .ref (ad 0)), (1, .int a1), (2, .int a2)]) hX dX12_writers_30 (by decide) rfl ?_
      exact v_sub hX [2, 3, 4, 1, 0] (by rfl) (wM_EachAddsALineModel_writers_32 hX hR  N _ _ _ _ _ h)
noncomputable def fM_EachAddsALineModel_writers (N : Nat) (a1 : Int32) (a2 : Int32) (s : vSt) : Option (Int32 × vSt) := gM_EachAddsALineModel_writers_0 N a1 a2 s
theorem mM_EachAddsALineModel_writers {N : Nat} {a1 : Int32} {a2 : Int32} {s : vSt} {r : Int32} {t1 : vSt} (h : fM_EachAddsALineModel_writers N a1 a2 s = some (r, t1)) (l : Launch) (ad : Nat → Nat) : vMI l shM ad yX12_writers cX12_writers 5 .int 200 4664 s [.ref (ad 0), .int a1, .int a2] r t1 :=
  vMI_of (by decide +kernel) (Nat.le_of_ble_eq_true rfl) (fun P hX hR => wM_EachAddsALineModel_writers_0 hX hR h)
-- M_EachAddsALineModel_canLeave
noncomputable def gM_EachAddsALineModel_canLeave_20 (N : Nat)   (s : vSt) : Option (Int32 × vSt) :=
  some (1, s)
set_option maxRecDepth 4000 in
theorem wM_EachAddsALineModel_canLeave_20 {P : vP} {l : Launch} {ad : Nat → Nat} {N : Nat} {r : Int32} {t1 : vSt} (hX : vOK P l shM ad (vR 1 21) cX12_canLeave RX12 2) (hR : (∀ pc lv, narrow .boolean (.int r) = .int r → decode cX12_canLeave pc = .ok (.ireturn, 1) → P t1 pc lv [.int r]))   {s : vSt} (h : gM_EachAddsALineModel_canLeave_20 N s = some (r, t1)) : P s 20 [] [] := by
  unfold gM_EachAddsALineModel_canLeave_20 at h
  refine v_iconst (v := 1) hX dX12_canLeave_20 (by decide) ?_
  refine v_goto (tgt := 25) hX dX12_canLeave_21 (by decide) ?_
  exact v_retZ1 hR h dX12_canLeave_25
noncomputable def gM_EachAddsALineModel_canLeave_0 (N : Nat)  (a1 : Int32) (s : vSt) : Option (Int32 × vSt) :=
  if (s.1 0 44) = (-1) then
    gM_EachAddsALineModel_canLeave_20 N s
  else
    (fM_EachAddsALineModel_getter N a1 s).bind fun p1 =>
    if p1.1 = (p1.2.1 0 44) then
      gM_EachAddsALineModel_canLeave_20 N p1.2
    else
      some (0, p1.2)
set_option maxRecDepth 4000 in
theorem wM_EachAddsALineModel_canLeave_0 {P : vP} {l : Launch} {ad : Nat → Nat} {N : Nat} {r : Int32} {t1 : vSt} (hX : vOK P l shM ad (vR 1 21) cX12_canLeave RX12 2) (hR : (∀ pc lv, narrow .boolean (.int r) = .int r → decode cX12_canLeave pc = .ok (.ireturn, 1) → P t1 pc lv [.int r]))  {a1 : Int32} {s : vSt} (h : gM_EachAddsALineModel_canLeave_0 N a1 s = some (r, t1)) : P s 0 [(0, .ref (ad 0)), (1, .int a1)] [] := by
  unfold gM_EachAddsALineModel_canLeave_0 at h
  refine v_aload_n hX dX12_canLeave_0 rfl 0 rfl ?_
  refine gfM_0_44 hX kf_12_77 dX12_canLeave_1 ?_
  refine v_iconst (v := (-1)) hX dX12_canLeave_4 (by decide) ?_
  refine v_icmp_eq (tgt := 20) hX dX12_canLeave_5 (by decide) h (fun h => ?_) (fun h => ?_)
  · exact v_sub hX [] (by rfl) (wM_EachAddsALineModel_canLeave_20 hX hR  h)
  · refine v_aload_n hX dX12_canLeave_8 rfl 0 rfl ?_
    refine v_iload_n hX dX12_canLeave_9 rfl 1 rfl ?_
    obtain ⟨p1, hp1, h⟩ := bsome h
    refine v_callVI (o := 0) hX (mM_EachAddsALineModel_getter hp1 l ad) kM_X12_getter kV_X12_getter km_12_268 (by decide) (fun _ => rfl) rfl rfl rfl (Nat.le_of_ble_eq_true rfl) (by decide) dX12_canLeave_10 ?_
    refine v_aload_n hX dX12_canLeave_13 rfl 0 rfl ?_
    refine gfM_0_44 hX kf_12_77 dX12_canLeave_14 ?_
    refine v_icmp_ne (tgt := 24) hX dX12_canLeave_17 (by decide) h (fun h => ?_) (fun h => ?_)
    · exact v_sub hX [] (by rfl) (wM_EachAddsALineModel_canLeave_20 hX hR  h)
    · refine v_iconst (v := 0) hX dX12_canLeave_24 (by decide) ?_
      exact v_retZ0 hR h dX12_canLeave_25
noncomputable def fM_EachAddsALineModel_canLeave (N : Nat) (a1 : Int32) (s : vSt) : Option (Int32 × vSt) := gM_EachAddsALineModel_canLeave_0 N a1 s
theorem mM_EachAddsALineModel_canLeave {N : Nat} {a1 : Int32} {s : vSt} {r : Int32} {t1 : vSt} (h : fM_EachAddsALineModel_canLeave N a1 s = some (r, t1)) (l : Launch) (ad : Nat → Nat) : vMI l shM ad yX12_canLeave cX12_canLeave 2 .boolean 1 21 s [.ref (ad 0), .int a1] r t1 :=
  vMI_of (by decide +kernel) (Nat.le_of_ble_eq_true rfl) (fun P hX hR => wM_EachAddsALineModel_canLeave_0 hX hR h)
-- M_EachAddsALineModel_countMissing
noncomputable def gM_EachAddsALineModel_countMissing_209 (N : Nat) (r69 : Int32 → Int32 → Int32 → Int32 → Int32 → Int32 → Int64 → Int64 → Int32 → vSt → Option (Int64 × vSt)) (a1 : Int32) (a2 : Int32) (a3 : Int32) (a4 : Int32) (a5 : Int32) (a6 : Int32) (a7 : Int64) (a9 : Int64) (a11 : Int32) (s : vSt) : Option (Int64 × vSt) :=
  (some (a11 + 1 : Int32)).bind fun v1 =>
  r69 a1 a2 a3 a4 a5 a6 a7 a9 v1 s
set_option maxRecDepth 4000 in
theorem wM_EachAddsALineModel_countMissing_209 {P : vP} {l : Launch} {ad : Nat → Nat} {N : Nat} {r69 : Int32 → Int32 → Int32 → Int32 → Int32 → Int32 → Int64 → Int64 → Int32 → vSt → Option (Int64 × vSt)} {r : Int64} {t1 : vSt} (hX : vOK P l shM ad (vR 198 4608) cX12_countMissing RX12 13) (hR : (∀ pc lv, decode cX12_countMissing pc = .ok (.lreturn, 1) → P t1 pc lv [.long r])) (H69 : ∀ (a1 : Int32) (a2 : Int32) (a3 : Int32) (a4 : Int32) (a5 : Int32) (a6 : Int32) (a7 : Int64) (a9 : Int64) (a11 : Int32) (s : vSt), r69 a1 a2 a3 a4 a5 a6 a7 a9 a11 s = some (r, t1) → P s 69 [(0, .ref (ad 0)), (1, .int a1), (2, .int a2), (3, .int a3), (4, .int a4), (5, .int a5), (6, .int a6), (7, .long a7), (9, .long a9), (11, .int a11)] []) {a1 : Int32} {a2 : Int32} {a3 : Int32} {a4 : Int32} {a5 : Int32} {a6 : Int32} {a7 : Int64} {a9 : Int64} {a11 : Int32} {s : vSt} (h : gM_EachAddsALineModel_countMissing_209 N r69 a1 a2 a3 a4 a5 a6 a7 a9 a11 s = some (r, t1)) : P s 209 [(0, .ref (ad 0)), (1, .int a1), (2, .int a2), (3, .int a3), (4, .int a4), (5, .int a5), (6, .int a6), (7, .long a7), (9, .long a9), (11, .int a11)] [] := by
  unfold gM_EachAddsALineModel_countMissing_209 at h
  refine v_iincN hX dX12_countMissing_209 (j := 9) rfl (c := 1) (by decide) (by decide) h (fun v1 h => ?_)
  refine v_show (lv' := [(11, .int v1), (0, .ref (ad 0)), (1, .int a1), (2, .int a2), (3, .int a3), (4, .int a4), (5, .int a5), (6, .int a6), (7, .long a7), (9, .long a9)]) hX rfl ?_
  refine v_goto (tgt := 69) hX dX12_countMissing_212 (by decide) ?_
  exact v_sub hX [1, 2, 3, 4, 5, 6, 7, 8, 9, 0] (by rfl) (H69 _ _ _ _ _ _ _ _ _ _ h)
noncomputable def gM_EachAddsALineModel_countMissing_206 (N : Nat) (r69 : Int32 → Int32 → Int32 → Int32 → Int32 → Int32 → Int64 → Int64 → Int32 → vSt → Option (Int64 × vSt)) (a1 : Int32) (a2 : Int32) (a3 : Int32) (a4 : Int32) (a5 : Int32) (a6 : Int32) (a7 : Int64) (a11 : Int32) (k0 : Int64) (k1 : Int64) (s : vSt) : Option (Int64 × vSt) :=
  (some (k0 + k1 : Int64)).bind fun v1 =>
  gM_EachAddsALineModel_countMissing_209 N r69 a1 a2 a3 a4 a5 a6 a7 v1 a11 s
set_option maxRecDepth 4000 in
theorem wM_EachAddsALineModel_countMissing_206 {P : vP} {l : Launch} {ad : Nat → Nat} {N : Nat} {r69 : Int32 → Int32 → Int32 → Int32 → Int32 → Int32 → Int64 → Int64 → Int32 → vSt → Option (Int64 × vSt)} {r : Int64} {t1 : vSt} (hX : vOK P l shM ad (vR 198 4608) cX12_countMissing RX12 13) (hR : (∀ pc lv, decode cX12_countMissing pc = .ok (.lreturn, 1) → P t1 pc lv [.long r])) (H69 : ∀ (a1 : Int32) (a2 : Int32) (a3 : Int32) (a4 : Int32) (a5 : Int32) (a6 : Int32) (a7 : Int64) (a9 : Int64) (a11 : Int32) (s : vSt), r69 a1 a2 a3 a4 a5 a6 a7 a9 a11 s = some (r, t1) → P s 69 [(0, .ref (ad 0)), (1, .int a1), (2, .int a2), (3, .int a3), (4, .int a4), (5, .int a5), (6, .int a6), (7, .long a7), (9, .long a9), (11, .int a11)] []) {a1 : Int32} {a2 : Int32} {a3 : Int32} {a4 : Int32} {a5 : Int32} {a6 : Int32} {a7 : Int64} {a11 : Int32} {k0 : Int64} {k1 : Int64} {s : vSt} (h : gM_EachAddsALineModel_countMissing_206 N r69 a1 a2 a3 a4 a5 a6 a7 a11 k0 k1 s = some (r, t1)) : P s 206 [(0, .ref (ad 0)), (1, .int a1), (2, .int a2), (3, .int a3), (4, .int a4), (5, .int a5), (6, .int a6), (7, .long a7), (11, .int a11)] [.long k1, .long k0] := by
  unfold gM_EachAddsALineModel_countMissing_206 at h
  refine v_ladd hX dX12_countMissing_206 ?_
  refine v_nmL hX h (fun v1 h => ?_)
  refine v_lstore (lv' := [(9, .long v1), (0, .ref (ad 0)), (1, .int a1), (2, .int a2), (3, .int a3), (4, .int a4), (5, .int a5), (6, .int a6), (7, .long a7), (11, .int a11)]) hX dX12_countMissing_207 (by decide) rfl ?_
  exact v_sub hX [1, 2, 3, 4, 5, 6, 7, 8, 0, 9] (by rfl) (wM_EachAddsALineModel_countMissing_209 hX hR H69 h)
noncomputable def gM_EachAddsALineModel_countMissing_175 (N : Nat) (r69 : Int32 → Int32 → Int32 → Int32 → Int32 → Int32 → Int64 → Int64 → Int32 → vSt → Option (Int64 × vSt)) (a1 : Int32) (a2 : Int32) (a3 : Int32) (a4 : Int32) (a5 : Int32) (a6 : Int32) (a7 : Int64) (a11 : Int32) (k0 : Int64) (k1 : Int64) (s : vSt) : Option (Int64 × vSt) :=
  (some (k0 + k1 : Int64)).bind fun v1 =>
  (fM_EachAddsALineModel_canLeave N a11 s).bind fun p2 =>
  if p2.1 = 0 then
    gM_EachAddsALineModel_countMissing_206 N r69 a1 a2 a3 a4 a5 a6 a7 a11 v1 0 p2.2
  else
    (ldL p2.2 17 520 (((40 : Int32) * a6) + a11)).bind fun v3 =>
    gM_EachAddsALineModel_countMissing_206 N r69 a1 a2 a3 a4 a5 a6 a7 a11 v1 v3 p2.2
set_option maxRecDepth 4000 in
theorem wM_EachAddsALineModel_countMissing_175 {P : vP} {l : Launch} {ad : Nat → Nat} {N : Nat} {r69 : Int32 → Int32 → Int32 → Int32 → Int32 → Int32 → Int64 → Int64 → Int32 → vSt → Option (Int64 × vSt)} {r : Int64} {t1 : vSt} (hX : vOK P l shM ad (vR 198 4608) cX12_countMissing RX12 13) (hR : (∀ pc lv, decode cX12_countMissing pc = .ok (.lreturn, 1) → P t1 pc lv [.long r])) (H69 : ∀ (a1 : Int32) (a2 : Int32) (a3 : Int32) (a4 : Int32) (a5 : Int32) (a6 : Int32) (a7 : Int64) (a9 : Int64) (a11 : Int32) (s : vSt), r69 a1 a2 a3 a4 a5 a6 a7 a9 a11 s = some (r, t1) → P s 69 [(0, .ref (ad 0)), (1, .int a1), (2, .int a2), (3, .int a3), (4, .int a4), (5, .int a5), (6, .int a6), (7, .long a7), (9, .long a9), (11, .int a11)] []) {a1 : Int32} {a2 : Int32} {a3 : Int32} {a4 : Int32} {a5 : Int32} {a6 : Int32} {a7 : Int64} {a11 : Int32} {k0 : Int64} {k1 : Int64} {s : vSt} (h : gM_EachAddsALineModel_countMissing_175 N r69 a1 a2 a3 a4 a5 a6 a7 a11 k0 k1 s = some (r, t1)) : P s 175 [(0, .ref (ad 0)), (1, .int a1), (2, .int a2), (3, .int a3), (4, .int a4), (5, .int a5), (6, .int a6), (7, .long a7), (11, .int a11)] [.long k1, .long k0] := by
  unfold gM_EachAddsALineModel_countMissing_175 at h
  refine v_ladd hX dX12_countMissing_175 ?_
  refine v_nmL hX h (fun v1 h => ?_)
  refine v_lstore (lv' := [(9, .long v1), (0, .ref (ad 0)), (1, .int a1), (2, .int a2), (3, .int a3), (4, .int a4), (5, .int a5), (6, .int a6), (7, .long a7), (11, .int a11)]) hX dX12_countMissing_176 (by decide) rfl ?_
  refine v_lload hX dX12_countMissing_178 0 rfl ?_
  refine v_aload_n hX dX12_countMissing_180 rfl 1 rfl ?_
  refine v_iload hX dX12_countMissing_181 9 rfl ?_
  obtain ⟨p2, hp2, h⟩ := bsome h
  refine v_callVI (o := 0) hX (mM_EachAddsALineModel_canLeave hp2 l ad) kM_X12_canLeave kV_X12_canLeave km_12_330 (by decide) (fun _ => rfl) rfl rfl rfl (Nat.le_of_ble_eq_true rfl) (by decide) dX12_countMissing_183 ?_
  refine v_if_eq (tgt := 205) hX dX12_countMissing_186 (by decide) h (fun h => ?_) (fun h => ?_)
  · refine v_lconst (v := 0) hX dX12_countMissing_205 (by decide) ?_
    exact v_sub hX [1, 2, 3, 4, 5, 6, 7, 8, 9] (by rfl) (wM_EachAddsALineModel_countMissing_206 hX hR H69 h)
  · refine v_aload_n hX dX12_countMissing_189 rfl 1 rfl ?_
    refine gfM_0_42 hX kf_12_71 dX12_countMissing_190 ?_
    refine v_bipush (v := 40) hX dX12_countMissing_193 (by decide) ?_
    refine v_iload hX dX12_countMissing_195 7 rfl ?_
    refine v_imul hX dX12_countMissing_197 ?_
    refine v_iload hX dX12_countMissing_198 9 rfl ?_
    refine v_iadd hX dX12_countMissing_200 ?_
    refine alM_17 hX dX12_countMissing_201 h (fun v3 h => ?_)
    refine v_goto (tgt := 206) hX dX12_countMissing_202 (by decide) ?_
    exact v_sub hX [1, 2, 3, 4, 5, 6, 7, 8, 9] (by rfl) (wM_EachAddsALineModel_countMissing_206 hX hR H69 h)
noncomputable def gM_EachAddsALineModel_countMissing_146 (N : Nat) (r69 : Int32 → Int32 → Int32 → Int32 → Int32 → Int32 → Int64 → Int64 → Int32 → vSt → Option (Int64 × vSt)) (a1 : Int32) (a2 : Int32) (a3 : Int32) (a4 : Int32) (a5 : Int32) (a6 : Int32) (a9 : Int64) (a11 : Int32) (a12 : Int32) (k0 : Int64) (k1 : Int64) (s : vSt) : Option (Int64 × vSt) :=
  (some (k0 + k1 : Int64)).bind fun v1 =>
  if a12 = 0 then
    gM_EachAddsALineModel_countMissing_175 N r69 a1 a2 a3 a4 a5 a6 v1 a11 a9 0 s
  else
    (ldL s 18 520 (((40 : Int32) * (a6 + 1)) + a11)).bind fun v2 =>
    gM_EachAddsALineModel_countMissing_175 N r69 a1 a2 a3 a4 a5 a6 v1 a11 a9 v2 s
set_option maxRecDepth 4000 in
theorem wM_EachAddsALineModel_countMissing_146 {P : vP} {l : Launch} {ad : Nat → Nat} {N : Nat} {r69 : Int32 → Int32 → Int32 → Int32 → Int32 → Int32 → Int64 → Int64 → Int32 → vSt → Option (Int64 × vSt)} {r : Int64} {t1 : vSt} (hX : vOK P l shM ad (vR 198 4608) cX12_countMissing RX12 13) (hR : (∀ pc lv, decode cX12_countMissing pc = .ok (.lreturn, 1) → P t1 pc lv [.long r])) (H69 : ∀ (a1 : Int32) (a2 : Int32) (a3 : Int32) (a4 : Int32) (a5 : Int32) (a6 : Int32) (a7 : Int64) (a9 : Int64) (a11 : Int32) (s : vSt), r69 a1 a2 a3 a4 a5 a6 a7 a9 a11 s = some (r, t1) → P s 69 [(0, .ref (ad 0)), (1, .int a1), (2, .int a2), (3, .int a3), (4, .int a4), (5, .int a5), (6, .int a6), (7, .long a7), (9, .long a9), (11, .int a11)] []) {a1 : Int32} {a2 : Int32} {a3 : Int32} {a4 : Int32} {a5 : Int32} {a6 : Int32} {a9 : Int64} {a11 : Int32} {a12 : Int32} {k0 : Int64} {k1 : Int64} {s : vSt} (h : gM_EachAddsALineModel_countMissing_146 N r69 a1 a2 a3 a4 a5 a6 a9 a11 a12 k0 k1 s = some (r, t1)) : P s 146 [(0, .ref (ad 0)), (1, .int a1), (2, .int a2), (3, .int a3), (4, .int a4), (5, .int a5), (6, .int a6), (9, .long a9), (11, .int a11), (12, .int a12)] [.long k1, .long k0] := by
  unfold gM_EachAddsALineModel_countMissing_146 at h
  refine v_ladd hX dX12_countMissing_146 ?_
  refine v_nmL hX h (fun v1 h => ?_)
  refine v_lstore (lv' := [(7, .long v1), (0, .ref (ad 0)), (1, .int a1), (2, .int a2), (3, .int a3), (4, .int a4), (5, .int a5), (6, .int a6), (9, .long a9), (11, .int a11), (12, .int a12)]) hX dX12_countMissing_147 (by decide) rfl ?_
  refine v_lload hX dX12_countMissing_149 8 rfl ?_
  refine v_iload hX dX12_countMissing_151 10 rfl ?_
  refine v_if_eq (tgt := 174) hX dX12_countMissing_153 (by decide) h (fun h => ?_) (fun h => ?_)
  · refine v_lconst (v := 0) hX dX12_countMissing_174 (by decide) ?_
    exact v_sub hX [1, 2, 3, 4, 5, 6, 7, 0, 9] (by rfl) (wM_EachAddsALineModel_countMissing_175 hX hR H69 h)
  · refine v_aload_n hX dX12_countMissing_156 rfl 1 rfl ?_
    refine gfM_0_43 hX kf_12_74 dX12_countMissing_157 ?_
    refine v_bipush (v := 40) hX dX12_countMissing_160 (by decide) ?_
    refine v_iload hX dX12_countMissing_162 7 rfl ?_
    refine v_iconst (v := 1) hX dX12_countMissing_164 (by decide) ?_
    refine v_iadd hX dX12_countMissing_165 ?_
    refine v_imul hX dX12_countMissing_166 ?_
    refine v_iload hX dX12_countMissing_167 9 rfl ?_
    refine v_iadd hX dX12_countMissing_169 ?_
    refine alM_18 hX dX12_countMissing_170 h (fun v2 h => ?_)
    refine v_goto (tgt := 175) hX dX12_countMissing_171 (by decide) ?_
    exact v_sub hX [1, 2, 3, 4, 5, 6, 7, 0, 9] (by rfl) (wM_EachAddsALineModel_countMissing_175 hX hR H69 h)
noncomputable def gM_EachAddsALineModel_countMissing_118 (N : Nat) (r69 : Int32 → Int32 → Int32 → Int32 → Int32 → Int32 → Int64 → Int64 → Int32 → vSt → Option (Int64 × vSt)) (a1 : Int32) (a2 : Int32) (a3 : Int32) (a4 : Int32) (a5 : Int32) (a6 : Int32) (a7 : Int64) (a9 : Int64) (a11 : Int32) (k0 : Int32) (s : vSt) : Option (Int64 × vSt) :=
  if k0 = 0 then
    gM_EachAddsALineModel_countMissing_146 N r69 a1 a2 a3 a4 a5 a6 a9 a11 k0 a7 0 s
  else
    (ldL s 17 520 (((40 : Int32) * (a6 + 1)) + a11)).bind fun v1 =>
    gM_EachAddsALineModel_countMissing_146 N r69 a1 a2 a3 a4 a5 a6 a9 a11 k0 a7 v1 s
set_option maxRecDepth 4000 in
theorem wM_EachAddsALineModel_countMissing_118 {P : vP} {l : Launch} {ad : Nat → Nat} {N : Nat} {r69 : Int32 → Int32 → Int32 → Int32 → Int32 → Int32 → Int64 → Int64 → Int32 → vSt → Option (Int64 × vSt)} {r : Int64} {t1 : vSt} (hX : vOK P l shM ad (vR 198 4608) cX12_countMissing RX12 13) (hR : (∀ pc lv, decode cX12_countMissing pc = .ok (.lreturn, 1) → P t1 pc lv [.long r])) (H69 : ∀ (a1 : Int32) (a2 : Int32) (a3 : Int32) (a4 : Int32) (a5 : Int32) (a6 : Int32) (a7 : Int64) (a9 : Int64) (a11 : Int32) (s : vSt), r69 a1 a2 a3 a4 a5 a6 a7 a9 a11 s = some (r, t1) → P s 69 [(0, .ref (ad 0)), (1, .int a1), (2, .int a2), (3, .int a3), (4, .int a4), (5, .int a5), (6, .int a6), (7, .long a7), (9, .long a9), (11, .int a11)] []) {a1 : Int32} {a2 : Int32} {a3 : Int32} {a4 : Int32} {a5 : Int32} {a6 : Int32} {a7 : Int64} {a9 : Int64} {a11 : Int32} {k0 : Int32} {s : vSt} (h : gM_EachAddsALineModel_countMissing_118 N r69 a1 a2 a3 a4 a5 a6 a7 a9 a11 k0 s = some (r, t1)) : P s 118 [(0, .ref (ad 0)), (1, .int a1), (2, .int a2), (3, .int a3), (4, .int a4), (5, .int a5), (6, .int a6), (7, .long a7), (9, .long a9), (11, .int a11)] [.int k0] := by
  unfold gM_EachAddsALineModel_countMissing_118 at h
  refine v_istore (lv' := [(12, .int k0), (0, .ref (ad 0)), (1, .int a1), (2, .int a2), (3, .int a3), (4, .int a4), (5, .int a5), (6, .int a6), (7, .long a7), (9, .long a9), (11, .int a11)]) hX dX12_countMissing_118 (by decide) rfl ?_
  refine v_lload hX dX12_countMissing_120 8 rfl ?_
  refine v_iload hX dX12_countMissing_122 0 rfl ?_
  refine v_if_eq (tgt := 145) hX dX12_countMissing_124 (by decide) h (fun h => ?_) (fun h => ?_)
  · refine v_lconst (v := 0) hX dX12_countMissing_145 (by decide) ?_
    exact v_sub hX [1, 2, 3, 4, 5, 6, 7, 9, 10, 0] (by rfl) (wM_EachAddsALineModel_countMissing_146 hX hR H69 h)
  · refine v_aload_n hX dX12_countMissing_127 rfl 1 rfl ?_
    refine gfM_0_42 hX kf_12_71 dX12_countMissing_128 ?_
    refine v_bipush (v := 40) hX dX12_countMissing_131 (by decide) ?_
    refine v_iload hX dX12_countMissing_133 7 rfl ?_
    refine v_iconst (v := 1) hX dX12_countMissing_135 (by decide) ?_
    refine v_iadd hX dX12_countMissing_136 ?_
    refine v_imul hX dX12_countMissing_137 ?_
    refine v_iload hX dX12_countMissing_138 10 rfl ?_
    refine v_iadd hX dX12_countMissing_140 ?_
    refine alM_17 hX dX12_countMissing_141 h (fun v1 h => ?_)
    refine v_goto (tgt := 146) hX dX12_countMissing_142 (by decide) ?_
    exact v_sub hX [1, 2, 3, 4, 5, 6, 7, 9, 10, 0] (by rfl) (wM_EachAddsALineModel_countMissing_146 hX hR H69 h)
noncomputable def gM_EachAddsALineModel_countMissing_117 (N : Nat) (r69 : Int32 → Int32 → Int32 → Int32 → Int32 → Int32 → Int64 → Int64 → Int32 → vSt → Option (Int64 × vSt)) (a1 : Int32) (a2 : Int32) (a3 : Int32) (a4 : Int32) (a5 : Int32) (a6 : Int32) (a7 : Int64) (a9 : Int64) (a11 : Int32) (s : vSt) : Option (Int64 × vSt) :=
  gM_EachAddsALineModel_countMissing_118 N r69 a1 a2 a3 a4 a5 a6 a7 a9 a11 0 s
set_option maxRecDepth 4000 in
theorem wM_EachAddsALineModel_countMissing_117 {P : vP} {l : Launch} {ad : Nat → Nat} {N : Nat} {r69 : Int32 → Int32 → Int32 → Int32 → Int32 → Int32 → Int64 → Int64 → Int32 → vSt → Option (Int64 × vSt)} {r : Int64} {t1 : vSt} (hX : vOK P l shM ad (vR 198 4608) cX12_countMissing RX12 13) (hR : (∀ pc lv, decode cX12_countMissing pc = .ok (.lreturn, 1) → P t1 pc lv [.long r])) (H69 : ∀ (a1 : Int32) (a2 : Int32) (a3 : Int32) (a4 : Int32) (a5 : Int32) (a6 : Int32) (a7 : Int64) (a9 : Int64) (a11 : Int32) (s : vSt), r69 a1 a2 a3 a4 a5 a6 a7 a9 a11 s = some (r, t1) → P s 69 [(0, .ref (ad 0)), (1, .int a1), (2, .int a2), (3, .int a3), (4, .int a4), (5, .int a5), (6, .int a6), (7, .long a7), (9, .long a9), (11, .int a11)] []) {a1 : Int32} {a2 : Int32} {a3 : Int32} {a4 : Int32} {a5 : Int32} {a6 : Int32} {a7 : Int64} {a9 : Int64} {a11 : Int32} {s : vSt} (h : gM_EachAddsALineModel_countMissing_117 N r69 a1 a2 a3 a4 a5 a6 a7 a9 a11 s = some (r, t1)) : P s 117 [(0, .ref (ad 0)), (1, .int a1), (2, .int a2), (3, .int a3), (4, .int a4), (5, .int a5), (6, .int a6), (7, .long a7), (9, .long a9), (11, .int a11)] [] := by
  unfold gM_EachAddsALineModel_countMissing_117 at h
  refine v_iconst (v := 0) hX dX12_countMissing_117 (by decide) ?_
  exact v_sub hX [0, 1, 2, 3, 4, 5, 6, 7, 8, 9] (by rfl) (wM_EachAddsALineModel_countMissing_118 hX hR H69 h)
noncomputable def gM_EachAddsALineModel_countMissing_69 (N : Nat) (r32 : Int32 → Int32 → Int32 → Int32 → Int32 → Int32 → vSt → Option (Int64 × vSt)) : Nat → Int32 → Int32 → Int32 → Int32 → Int32 → Int32 → Int64 → Int64 → Int32 → vSt → Option (Int64 × vSt)
  | 0, _, _, _, _, _, _, _, _, _, _ => none
  | n + 1, a1, a2, a3, a4, a5, a6, a7, a9, a11, s =>
    if (s.1 0 30) ≤ a11 then
      (stoL s 17 520 (((40 : Int32) * a6) + a5) a7).bind fun z1 =>
      (stoL z1 18 520 (((40 : Int32) * a6) + a5) a9).bind fun z2 =>
      (some (a6 + (-1) : Int32)).bind fun v3 =>
      r32 a1 a2 a3 a4 a5 v3 z2
    else
      (fM_EachAddsALineModel_follows N a11 a5 s).bind fun p4 =>
      if p4.1 = 0 then
        gM_EachAddsALineModel_countMissing_209 N (gM_EachAddsALineModel_countMissing_69 N r32 n) a1 a2 a3 a4 a5 a6 a7 a9 a11 p4.2
      else
        if (p4.2.1 0 40) ≤ a6 then
          gM_EachAddsALineModel_countMissing_117 N (gM_EachAddsALineModel_countMissing_69 N r32 n) a1 a2 a3 a4 a5 a6 a7 a9 a11 p4.2
        else
          (fM_EachAddsALineModel_isSo N a11 0 a6 p4.2).bind fun p5 =>
          if p5.1 = 0 then
            gM_EachAddsALineModel_countMissing_117 N (gM_EachAddsALineModel_countMissing_69 N r32 n) a1 a2 a3 a4 a5 a6 a7 a9 a11 p5.2
          else
            gM_EachAddsALineModel_countMissing_118 N (gM_EachAddsALineModel_countMissing_69 N r32 n) a1 a2 a3 a4 a5 a6 a7 a9 a11 1 p5.2
set_option maxRecDepth 4000 in
theorem wM_EachAddsALineModel_countMissing_69 {P : vP} {l : Launch} {ad : Nat → Nat} {N : Nat} {r32 : Int32 → Int32 → Int32 → Int32 → Int32 → Int32 → vSt → Option (Int64 × vSt)} {r : Int64} {t1 : vSt} (hX : vOK P l shM ad (vR 198 4608) cX12_countMissing RX12 13) (hR : (∀ pc lv, decode cX12_countMissing pc = .ok (.lreturn, 1) → P t1 pc lv [.long r])) (H32 : ∀ (a1 : Int32) (a2 : Int32) (a3 : Int32) (a4 : Int32) (a5 : Int32) (a6 : Int32) (s : vSt), r32 a1 a2 a3 a4 a5 a6 s = some (r, t1) → P s 32 [(0, .ref (ad 0)), (1, .int a1), (2, .int a2), (3, .int a3), (4, .int a4), (5, .int a5), (6, .int a6)] []) : ∀ (n : Nat) (a1 : Int32) (a2 : Int32) (a3 : Int32) (a4 : Int32) (a5 : Int32) (a6 : Int32) (a7 : Int64) (a9 : Int64) (a11 : Int32) (s : vSt), gM_EachAddsALineModel_countMissing_69 N r32 n a1 a2 a3 a4 a5 a6 a7 a9 a11 s = some (r, t1) → P s 69 [(0, .ref (ad 0)), (1, .int a1), (2, .int a2), (3, .int a3), (4, .int a4), (5, .int a5), (6, .int a6), (7, .long a7), (9, .long a9), (11, .int a11)] [] := by
  intro n
  induction n with
  | zero => intro a1 a2 a3 a4 a5 a6 a7 a9 a11 s h; cases h
  | succ n ih =>
    intro a1 a2 a3 a4 a5 a6 a7 a9 a11 s h
    unfold gM_EachAddsALineModel_countMissing_69 at h
    refine v_iload hX dX12_countMissing_69 9 rfl ?_
    refine v_aload_n hX dX12_countMissing_71 rfl 0 rfl ?_
    refine gfM_0_30 hX kf_12_262 dX12_countMissing_72 ?_
    refine v_icmp_ge (tgt := 215) hX dX12_countMissing_75 (by decide) h (fun h => ?_) (fun h => ?_)
    · refine v_aload_n hX dX12_countMissing_215 rfl 0 rfl ?_
      refine gfM_0_42 hX kf_12_71 dX12_countMissing_216 ?_
      refine v_bipush (v := 40) hX dX12_countMissing_219 (by decide) ?_
      refine v_iload hX dX12_countMissing_221 6 rfl ?_
      refine v_imul hX dX12_countMissing_223 ?_
      refine v_iload hX dX12_countMissing_224 5 rfl ?_
      refine v_iadd hX dX12_countMissing_226 ?_
      refine v_lload hX dX12_countMissing_227 7 rfl ?_
      refine asM_17 hX dX12_countMissing_229 h (fun z1 h => ?_)
      refine v_aload_n hX dX12_countMissing_230 rfl 0 rfl ?_
      refine gfM_0_43 hX kf_12_74 dX12_countMissing_231 ?_
      refine v_bipush (v := 40) hX dX12_countMissing_234 (by decide) ?_
      refine v_iload hX dX12_countMissing_236 6 rfl ?_
      refine v_imul hX dX12_countMissing_238 ?_
      refine v_iload hX dX12_countMissing_239 5 rfl ?_
      refine v_iadd hX dX12_countMissing_241 ?_
      refine v_lload hX dX12_countMissing_242 8 rfl ?_
      refine asM_18 hX dX12_countMissing_244 h (fun z2 h => ?_)
      refine v_iincN hX dX12_countMissing_245 (j := 6) rfl (c := (-1)) (by decide) (by decide) h (fun v3 h => ?_)
      refine v_show (lv' := [(6, .int v3), (0, .ref (ad 0)), (1, .int a1), (2, .int a2), (3, .int a3), (4, .int a4), (5, .int a5), (7, .long a7), (9, .long a9), (11, .int a11)]) hX rfl ?_
      refine v_goto (tgt := 32) hX dX12_countMissing_248 (by decide) ?_
      exact v_sub hX [1, 2, 3, 4, 5, 6, 0] (by rfl) (H32 _ _ _ _ _ _ _ h)
    · refine v_aload_n hX dX12_countMissing_78 rfl 0 rfl ?_
      refine v_iload hX dX12_countMissing_79 9 rfl ?_
      refine v_iload hX dX12_countMissing_81 5 rfl ?_
      obtain ⟨p4, hp4, h⟩ := bsome h
      refine v_callVI (o := 0) hX (mM_EachAddsALineModel_follows hp4 l ad) kM_X12_follows kV_X12_follows km_12_280 (by decide) (fun _ => rfl) rfl rfl rfl (Nat.le_of_ble_eq_true rfl) (by decide) dX12_countMissing_83 ?_
      refine v_if_ne (tgt := 92) hX dX12_countMissing_86 (by decide) h (fun h => ?_) (fun h => ?_)
      · refine v_goto (tgt := 209) hX dX12_countMissing_89 (by decide) ?_
        exact v_sub hX [0, 1, 2, 3, 4, 5, 6, 7, 8, 9] (by rfl) (wM_EachAddsALineModel_countMissing_209 hX hR ih h)
      · refine v_iload hX dX12_countMissing_92 6 rfl ?_
        refine v_aload_n hX dX12_countMissing_94 rfl 0 rfl ?_
        refine gfM_0_40 hX kf_12_314 dX12_countMissing_95 ?_
        refine v_icmp_ge (tgt := 117) hX dX12_countMissing_98 (by decide) h (fun h => ?_) (fun h => ?_)
        · exact v_sub hX [0, 1, 2, 3, 4, 5, 6, 7, 8, 9] (by rfl) (wM_EachAddsALineModel_countMissing_117 hX hR ih h)
        · refine v_aload_n hX dX12_countMissing_101 rfl 0 rfl ?_
          refine v_iload hX dX12_countMissing_102 9 rfl ?_
          refine v_iconst (v := 0) hX dX12_countMissing_104 (by decide) ?_
          refine v_iload hX dX12_countMissing_105 6 rfl ?_
          obtain ⟨p5, hp5, h⟩ := bsome h
          refine v_callVI (o := 0) hX (mM_EachAddsALineModel_isSo hp5 l ad) kM_X12_isSo kV_X12_isSo km_12_317 (by decide) (fun _ => rfl) rfl rfl rfl (Nat.le_of_ble_eq_true rfl) (by decide) dX12_countMissing_107 ?_
          refine v_if_eq (tgt := 117) hX dX12_countMissing_110 (by decide) h (fun h => ?_) (fun h => ?_)
          · exact v_sub hX [0, 1, 2, 3, 4, 5, 6, 7, 8, 9] (by rfl) (wM_EachAddsALineModel_countMissing_117 hX hR ih h)
          · refine v_iconst (v := 1) hX dX12_countMissing_113 (by decide) ?_
            refine v_goto (tgt := 118) hX dX12_countMissing_114 (by decide) ?_
            exact v_sub hX [0, 1, 2, 3, 4, 5, 6, 7, 8, 9] (by rfl) (wM_EachAddsALineModel_countMissing_118 hX hR ih h)
noncomputable def gM_EachAddsALineModel_countMissing_61 (N : Nat) (r32 : Int32 → Int32 → Int32 → Int32 → Int32 → Int32 → vSt → Option (Int64 × vSt)) (a1 : Int32) (a2 : Int32) (a3 : Int32) (a4 : Int32) (a5 : Int32) (a6 : Int32) (k0 : Int64) (s : vSt) : Option (Int64 × vSt) :=
  gM_EachAddsALineModel_countMissing_69 N r32 N a1 a2 a3 a4 a5 a6 k0 0 0 s
set_option maxRecDepth 4000 in
theorem wM_EachAddsALineModel_countMissing_61 {P : vP} {l : Launch} {ad : Nat → Nat} {N : Nat} {r32 : Int32 → Int32 → Int32 → Int32 → Int32 → Int32 → vSt → Option (Int64 × vSt)} {r : Int64} {t1 : vSt} (hX : vOK P l shM ad (vR 198 4608) cX12_countMissing RX12 13) (hR : (∀ pc lv, decode cX12_countMissing pc = .ok (.lreturn, 1) → P t1 pc lv [.long r])) (H32 : ∀ (a1 : Int32) (a2 : Int32) (a3 : Int32) (a4 : Int32) (a5 : Int32) (a6 : Int32) (s : vSt), r32 a1 a2 a3 a4 a5 a6 s = some (r, t1) → P s 32 [(0, .ref (ad 0)), (1, .int a1), (2, .int a2), (3, .int a3), (4, .int a4), (5, .int a5), (6, .int a6)] []) {a1 : Int32} {a2 : Int32} {a3 : Int32} {a4 : Int32} {a5 : Int32} {a6 : Int32} {k0 : Int64} {s : vSt} (h : gM_EachAddsALineModel_countMissing_61 N r32 a1 a2 a3 a4 a5 a6 k0 s = some (r, t1)) : P s 61 [(0, .ref (ad 0)), (1, .int a1), (2, .int a2), (3, .int a3), (4, .int a4), (5, .int a5), (6, .int a6)] [.long k0] := by
  unfold gM_EachAddsALineModel_countMissing_61 at h
  refine v_lstore (lv' := [(7, .long k0), (0, .ref (ad 0)), (1, .int a1), (2, .int a2), (3, .int a3), (4, .int a4), (5, .int a5), (6, .int a6)]) hX dX12_countMissing_61 (by decide) rfl ?_
  refine v_lconst (v := 0) hX dX12_countMissing_63 (by decide) ?_
  refine v_lstore (lv' := [(9, .long 0), (7, .long k0), (0, .ref (ad 0)), (1, .int a1), (2, .int a2), (3, .int a3), (4, .int a4), (5, .int a5), (6, .int a6)]) hX dX12_countMissing_64 (by decide) rfl ?_
  refine v_iconst (v := 0) hX dX12_countMissing_66 (by decide) ?_
  refine v_istore (lv' := [(11, .int 0), (9, .long 0), (7, .long k0), (0, .ref (ad 0)), (1, .int a1), (2, .int a2), (3, .int a3), (4, .int a4), (5, .int a5), (6, .int a6)]) hX dX12_countMissing_67 (by decide) rfl ?_
  exact v_sub hX [3, 4, 5, 6, 7, 8, 9, 2, 1, 0] (by rfl) (wM_EachAddsALineModel_countMissing_69 hX hR H32 N _ _ _ _ _ _ _ _ _ _ h)
noncomputable def gM_EachAddsALineModel_countMissing_60 (N : Nat) (r32 : Int32 → Int32 → Int32 → Int32 → Int32 → Int32 → vSt → Option (Int64 × vSt)) (a1 : Int32) (a2 : Int32) (a3 : Int32) (a4 : Int32) (a5 : Int32) (a6 : Int32) (s : vSt) : Option (Int64 × vSt) :=
  gM_EachAddsALineModel_countMissing_61 N r32 a1 a2 a3 a4 a5 a6 0 s
set_option maxRecDepth 4000 in
theorem wM_EachAddsALineModel_countMissing_60 {P : vP} {l : Launch} {ad : Nat → Nat} {N : Nat} {r32 : Int32 → Int32 → Int32 → Int32 → Int32 → Int32 → vSt → Option (Int64 × vSt)} {r : Int64} {t1 : vSt} (hX : vOK P l shM ad (vR 198 4608) cX12_countMissing RX12 13) (hR : (∀ pc lv, decode cX12_countMissing pc = .ok (.lreturn, 1) → P t1 pc lv [.long r])) (H32 : ∀ (a1 : Int32) (a2 : Int32) (a3 : Int32) (a4 : Int32) (a5 : Int32) (a6 : Int32) (s : vSt), r32 a1 a2 a3 a4 a5 a6 s = some (r, t1) → P s 32 [(0, .ref (ad 0)), (1, .int a1), (2, .int a2), (3, .int a3), (4, .int a4), (5, .int a5), (6, .int a6)] []) {a1 : Int32} {a2 : Int32} {a3 : Int32} {a4 : Int32} {a5 : Int32} {a6 : Int32} {s : vSt} (h : gM_EachAddsALineModel_countMissing_60 N r32 a1 a2 a3 a4 a5 a6 s = some (r, t1)) : P s 60 [(0, .ref (ad 0)), (1, .int a1), (2, .int a2), (3, .int a3), (4, .int a4), (5, .int a5), (6, .int a6)] [] := by
  unfold gM_EachAddsALineModel_countMissing_60 at h
  refine v_lconst (v := 0) hX dX12_countMissing_60 (by decide) ?_
  exact v_sub hX [0, 1, 2, 3, 4, 5, 6] (by rfl) (wM_EachAddsALineModel_countMissing_61 hX hR H32 h)
noncomputable def gM_EachAddsALineModel_countMissing_32 (N : Nat) (r12 : Int32 → Int32 → Int32 → Int32 → vSt → Option (Int64 × vSt)) : Nat → Int32 → Int32 → Int32 → Int32 → Int32 → Int32 → vSt → Option (Int64 × vSt)
  | 0, _, _, _, _, _, _, _ => none
  | n + 1, a1, a2, a3, a4, a5, a6, s =>
    if a6 ≤ 0 then
      (some (a4 + (-1) : Int32)).bind fun v1 =>
      r12 a1 a2 a3 v1 s
    else
      if a6 = (s.1 0 40) then
        (fM_EachAddsALineModel_getter N a5 s).bind fun p2 =>
        if p2.1 = a2 then
          gM_EachAddsALineModel_countMissing_61 N (gM_EachAddsALineModel_countMissing_32 N r12 n) a1 a2 a3 a4 a5 a6 1 p2.2
        else
          gM_EachAddsALineModel_countMissing_60 N (gM_EachAddsALineModel_countMissing_32 N r12 n) a1 a2 a3 a4 a5 a6 p2.2
      else
        gM_EachAddsALineModel_countMissing_60 N (gM_EachAddsALineModel_countMissing_32 N r12 n) a1 a2 a3 a4 a5 a6 s
set_option maxRecDepth 4000 in
theorem wM_EachAddsALineModel_countMissing_32 {P : vP} {l : Launch} {ad : Nat → Nat} {N : Nat} {r12 : Int32 → Int32 → Int32 → Int32 → vSt → Option (Int64 × vSt)} {r : Int64} {t1 : vSt} (hX : vOK P l shM ad (vR 198 4608) cX12_countMissing RX12 13) (hR : (∀ pc lv, decode cX12_countMissing pc = .ok (.lreturn, 1) → P t1 pc lv [.long r])) (H12 : ∀ (a1 : Int32) (a2 : Int32) (a3 : Int32) (a4 : Int32) (s : vSt), r12 a1 a2 a3 a4 s = some (r, t1) → P s 12 [(0, .ref (ad 0)), (1, .int a1), (2, .int a2), (3, .int a3), (4, .int a4)] []) : ∀ (n : Nat) (a1 : Int32) (a2 : Int32) (a3 : Int32) (a4 : Int32) (a5 : Int32) (a6 : Int32) (s : vSt), gM_EachAddsALineModel_countMissing_32 N r12 n a1 a2 a3 a4 a5 a6 s = some (r, t1) → P s 32 [(0, .ref (ad 0)), (1, .int a1), (2, .int a2), (3, .int a3), (4, .int a4), (5, .int a5), (6, .int a6)] [] := by
  intro n
  induction n with
  | zero => intro a1 a2 a3 a4 a5 a6 s h; cases h
  | succ n ih =>
    intro a1 a2 a3 a4 a5 a6 s h
    unfold gM_EachAddsALineModel_countMissing_32 at h
    refine v_iload hX dX12_countMissing_32 6 rfl ?_
    refine v_if_le (tgt := 251) hX dX12_countMissing_34 (by decide) h (fun h => ?_) (fun h => ?_)
    · refine v_iincN hX dX12_countMissing_251 (j := 4) rfl (c := (-1)) (by decide) (by decide) h (fun v1 h => ?_)
      refine v_show (lv' := [(4, .int v1), (0, .ref (ad 0)), (1, .int a1), (2, .int a2), (3, .int a3), (5, .int a5), (6, .int a6)]) hX rfl ?_
      refine v_goto (tgt := 12) hX dX12_countMissing_254 (by decide) ?_
      exact v_sub hX [1, 2, 3, 4, 0] (by rfl) (H12 _ _ _ _ _ h)
    · refine v_iload hX dX12_countMissing_37 6 rfl ?_
      refine v_aload_n hX dX12_countMissing_39 rfl 0 rfl ?_
      refine gfM_0_40 hX kf_12_314 dX12_countMissing_40 ?_
      refine v_icmp_ne (tgt := 60) hX dX12_countMissing_43 (by decide) h (fun h => ?_) (fun h => ?_)
      · refine v_aload_n hX dX12_countMissing_46 rfl 0 rfl ?_
        refine v_iload hX dX12_countMissing_47 5 rfl ?_
        obtain ⟨p2, hp2, h⟩ := bsome h
        refine v_callVI (o := 0) hX (mM_EachAddsALineModel_getter hp2 l ad) kM_X12_getter kV_X12_getter km_12_268 (by decide) (fun _ => rfl) rfl rfl rfl (Nat.le_of_ble_eq_true rfl) (by decide) dX12_countMissing_49 ?_
        refine v_iload_n hX dX12_countMissing_52 rfl 2 rfl ?_
        refine v_icmp_ne (tgt := 60) hX dX12_countMissing_53 (by decide) h (fun h => ?_) (fun h => ?_)
        · refine v_lconst (v := 1) hX dX12_countMissing_56 (by decide) ?_
          refine v_goto (tgt := 61) hX dX12_countMissing_57 (by decide) ?_
          exact v_sub hX [0, 1, 2, 3, 4, 5, 6] (by rfl) (wM_EachAddsALineModel_countMissing_61 hX hR ih h)
        · exact v_sub hX [0, 1, 2, 3, 4, 5, 6] (by rfl) (wM_EachAddsALineModel_countMissing_60 hX hR ih h)
      · exact v_sub hX [0, 1, 2, 3, 4, 5, 6] (by rfl) (wM_EachAddsALineModel_countMissing_60 hX hR ih h)
noncomputable def gM_EachAddsALineModel_countMissing_344 (N : Nat) (r263 : Int32 → Int32 → Int64 → Int32 → vSt → Option (Int64 × vSt)) (a1 : Int32) (a3 : Int32) (a4 : Int64) (a6 : Int32) (s : vSt) : Option (Int64 × vSt) :=
  (some (a6 + 1 : Int32)).bind fun v1 =>
  r263 a1 a3 a4 v1 s
set_option maxRecDepth 4000 in
theorem wM_EachAddsALineModel_countMissing_344 {P : vP} {l : Launch} {ad : Nat → Nat} {N : Nat} {r263 : Int32 → Int32 → Int64 → Int32 → vSt → Option (Int64 × vSt)} {r : Int64} {t1 : vSt} (hX : vOK P l shM ad (vR 198 4608) cX12_countMissing RX12 13) (hR : (∀ pc lv, decode cX12_countMissing pc = .ok (.lreturn, 1) → P t1 pc lv [.long r])) (H263 : ∀ (a1 : Int32) (a3 : Int32) (a4 : Int64) (a6 : Int32) (s : vSt), r263 a1 a3 a4 a6 s = some (r, t1) → P s 263 [(0, .ref (ad 0)), (1, .int a1), (3, .int a3), (4, .long a4), (6, .int a6)] []) {a1 : Int32} {a3 : Int32} {a4 : Int64} {a6 : Int32} {s : vSt} (h : gM_EachAddsALineModel_countMissing_344 N r263 a1 a3 a4 a6 s = some (r, t1)) : P s 344 [(0, .ref (ad 0)), (1, .int a1), (3, .int a3), (4, .long a4), (6, .int a6)] [] := by
  unfold gM_EachAddsALineModel_countMissing_344 at h
  refine v_iincN hX dX12_countMissing_344 (j := 4) rfl (c := 1) (by decide) (by decide) h (fun v1 h => ?_)
  refine v_show (lv' := [(6, .int v1), (0, .ref (ad 0)), (1, .int a1), (3, .int a3), (4, .long a4)]) hX rfl ?_
  refine v_goto (tgt := 263) hX dX12_countMissing_347 (by decide) ?_
  exact v_sub hX [1, 2, 3, 4, 0] (by rfl) (H263 _ _ _ _ _ h)
noncomputable def gM_EachAddsALineModel_countMissing_320 (N : Nat) (r263 : Int32 → Int32 → Int64 → Int32 → vSt → Option (Int64 × vSt)) (a1 : Int32) (a3 : Int32) (a4 : Int64) (a6 : Int32) (s : vSt) : Option (Int64 × vSt) :=
  (fM_EachAddsALineModel_canLeave N a6 s).bind fun p1 =>
  if p1.1 = 0 then
    gM_EachAddsALineModel_countMissing_344 N r263 a1 a3 a4 a6 p1.2
  else
    (ldL p1.2 17 520 ((40 : Int32) + a6)).bind fun v2 =>
    (some (a4 + v2 : Int64)).bind fun v3 =>
    gM_EachAddsALineModel_countMissing_344 N r263 a1 a3 v3 a6 p1.2
set_option maxRecDepth 4000 in
theorem wM_EachAddsALineModel_countMissing_320 {P : vP} {l : Launch} {ad : Nat → Nat} {N : Nat} {r263 : Int32 → Int32 → Int64 → Int32 → vSt → Option (Int64 × vSt)} {r : Int64} {t1 : vSt} (hX : vOK P l shM ad (vR 198 4608) cX12_countMissing RX12 13) (hR : (∀ pc lv, decode cX12_countMissing pc = .ok (.lreturn, 1) → P t1 pc lv [.long r])) (H263 : ∀ (a1 : Int32) (a3 : Int32) (a4 : Int64) (a6 : Int32) (s : vSt), r263 a1 a3 a4 a6 s = some (r, t1) → P s 263 [(0, .ref (ad 0)), (1, .int a1), (3, .int a3), (4, .long a4), (6, .int a6)] []) {a1 : Int32} {a3 : Int32} {a4 : Int64} {a6 : Int32} {s : vSt} (h : gM_EachAddsALineModel_countMissing_320 N r263 a1 a3 a4 a6 s = some (r, t1)) : P s 320 [(0, .ref (ad 0)), (1, .int a1), (3, .int a3), (4, .long a4), (6, .int a6)] [] := by
  unfold gM_EachAddsALineModel_countMissing_320 at h
  refine v_aload_n hX dX12_countMissing_320 rfl 0 rfl ?_
  refine v_iload hX dX12_countMissing_321 4 rfl ?_
  obtain ⟨p1, hp1, h⟩ := bsome h
  refine v_callVI (o := 0) hX (mM_EachAddsALineModel_canLeave hp1 l ad) kM_X12_canLeave kV_X12_canLeave km_12_330 (by decide) (fun _ => rfl) rfl rfl rfl (Nat.le_of_ble_eq_true rfl) (by decide) dX12_countMissing_323 ?_
  refine v_if_eq (tgt := 344) hX dX12_countMissing_326 (by decide) h (fun h => ?_) (fun h => ?_)
  · exact v_sub hX [0, 1, 2, 3, 4] (by rfl) (wM_EachAddsALineModel_countMissing_344 hX hR H263 h)
  · refine v_lload hX dX12_countMissing_329 3 rfl ?_
    refine v_aload_n hX dX12_countMissing_331 rfl 0 rfl ?_
    refine gfM_0_42 hX kf_12_71 dX12_countMissing_332 ?_
    refine v_bipush (v := 40) hX dX12_countMissing_335 (by decide) ?_
    refine v_iload hX dX12_countMissing_337 4 rfl ?_
    refine v_iadd hX dX12_countMissing_339 ?_
    refine alM_17 hX dX12_countMissing_340 h (fun v2 h => ?_)
    refine v_ladd hX dX12_countMissing_341 ?_
    refine v_nmL hX h (fun v3 h => ?_)
    refine v_lstore (lv' := [(4, .long v3), (0, .ref (ad 0)), (1, .int a1), (3, .int a3), (6, .int a6)]) hX dX12_countMissing_342 (by decide) rfl ?_
    exact v_sub hX [1, 2, 3, 0, 4] (by rfl) (wM_EachAddsALineModel_countMissing_344 hX hR H263 h)
noncomputable def gM_EachAddsALineModel_countMissing_263 (N : Nat)  : Nat → Int32 → Int32 → Int64 → Int32 → vSt → Option (Int64 × vSt)
  | 0, _, _, _, _, _ => none
  | n + 1, a1, a3, a4, a6, s =>
    if (s.1 0 30) ≤ a6 then
      some (a4, s)
    else
      (fM_EachAddsALineModel_begins N a6 a1 a3 s).bind fun p1 =>
      if p1.1 = 0 then
        gM_EachAddsALineModel_countMissing_344 N (gM_EachAddsALineModel_countMissing_263 N n) a1 a3 a4 a6 p1.2
      else
        if (p1.2.1 0 40) ≤ 1 then
          gM_EachAddsALineModel_countMissing_320 N (gM_EachAddsALineModel_countMissing_263 N n) a1 a3 a4 a6 p1.2
        else
          (fM_EachAddsALineModel_isSo N a6 0 1 p1.2).bind fun p2 =>
          if p2.1 = 0 then
            gM_EachAddsALineModel_countMissing_320 N (gM_EachAddsALineModel_countMissing_263 N n) a1 a3 a4 a6 p2.2
          else
            (ldL p2.2 18 520 ((80 : Int32) + a6)).bind fun v3 =>
            (some (a4 + v3 : Int64)).bind fun v4 =>
            gM_EachAddsALineModel_countMissing_320 N (gM_EachAddsALineModel_countMissing_263 N n) a1 a3 v4 a6 p2.2
set_option maxRecDepth 4000 in
theorem wM_EachAddsALineModel_countMissing_263 {P : vP} {l : Launch} {ad : Nat → Nat} {N : Nat} {r : Int64} {t1 : vSt} (hX : vOK P l shM ad (vR 198 4608) cX12_countMissing RX12 13) (hR : (∀ pc lv, decode cX12_countMissing pc = .ok (.lreturn, 1) → P t1 pc lv [.long r]))  : ∀ (n : Nat) (a1 : Int32) (a3 : Int32) (a4 : Int64) (a6 : Int32) (s : vSt), gM_EachAddsALineModel_countMissing_263 N n a1 a3 a4 a6 s = some (r, t1) → P s 263 [(0, .ref (ad 0)), (1, .int a1), (3, .int a3), (4, .long a4), (6, .int a6)] [] := by
  intro n
  induction n with
  | zero => intro a1 a3 a4 a6 s h; cases h
  | succ n ih =>
    intro a1 a3 a4 a6 s h
    unfold gM_EachAddsALineModel_countMissing_263 at h
    refine v_iload hX dX12_countMissing_263 4 rfl ?_
    refine v_aload_n hX dX12_countMissing_265 rfl 0 rfl ?_
    refine gfM_0_30 hX kf_12_262 dX12_countMissing_266 ?_
    refine v_icmp_ge (tgt := 350) hX dX12_countMissing_269 (by decide) h (fun h => ?_) (fun h => ?_)
    · refine v_lload hX dX12_countMissing_350 3 rfl ?_
      exact v_retL hR h dX12_countMissing_352
    · refine v_aload_n hX dX12_countMissing_272 rfl 0 rfl ?_
      refine v_iload hX dX12_countMissing_273 4 rfl ?_
      refine v_iload_n hX dX12_countMissing_275 rfl 1 rfl ?_
      refine v_iload_n hX dX12_countMissing_276 rfl 2 rfl ?_
      obtain ⟨p1, hp1, h⟩ := bsome h
      refine v_callVI (o := 0) hX (mM_EachAddsALineModel_begins hp1 l ad) kM_X12_begins kV_X12_begins km_12_291 (by decide) (fun _ => rfl) rfl rfl rfl (Nat.le_of_ble_eq_true rfl) (by decide) dX12_countMissing_277 ?_
      refine v_if_ne (tgt := 286) hX dX12_countMissing_280 (by decide) h (fun h => ?_) (fun h => ?_)
      · refine v_goto (tgt := 344) hX dX12_countMissing_283 (by decide) ?_
        exact v_sub hX [0, 1, 2, 3, 4] (by rfl) (wM_EachAddsALineModel_countMissing_344 hX hR ih h)
      · refine v_aload_n hX dX12_countMissing_286 rfl 0 rfl ?_
        refine gfM_0_40 hX kf_12_314 dX12_countMissing_287 ?_
        refine v_iconst (v := 1) hX dX12_countMissing_290 (by decide) ?_
        refine v_icmp_le (tgt := 320) hX dX12_countMissing_291 (by decide) h (fun h => ?_) (fun h => ?_)
        · exact v_sub hX [0, 1, 2, 3, 4] (by rfl) (wM_EachAddsALineModel_countMissing_320 hX hR ih h)
        · refine v_aload_n hX dX12_countMissing_294 rfl 0 rfl ?_
          refine v_iload hX dX12_countMissing_295 4 rfl ?_
          refine v_iconst (v := 0) hX dX12_countMissing_297 (by decide) ?_
          refine v_iconst (v := 1) hX dX12_countMissing_298 (by decide) ?_
          obtain ⟨p2, hp2, h⟩ := bsome h
          refine v_callVI (o := 0) hX (mM_EachAddsALineModel_isSo hp2 l ad) kM_X12_isSo kV_X12_isSo km_12_317 (by decide) (fun _ => rfl) rfl rfl rfl (Nat.le_of_ble_eq_true rfl) (by decide) dX12_countMissing_299 ?_
          refine v_if_eq (tgt := 320) hX dX12_countMissing_302 (by decide) h (fun h => ?_) (fun h => ?_)
          · exact v_sub hX [0, 1, 2, 3, 4] (by rfl) (wM_EachAddsALineModel_countMissing_320 hX hR ih h)
          · refine v_lload hX dX12_countMissing_305 3 rfl ?_
            refine v_aload_n hX dX12_countMissing_307 rfl 0 rfl ?_
            refine gfM_0_43 hX kf_12_74 dX12_countMissing_308 ?_
            refine v_bipush (v := 80) hX dX12_countMissing_311 (by decide) ?_
            refine v_iload hX dX12_countMissing_313 4 rfl ?_
            refine v_iadd hX dX12_countMissing_315 ?_
            refine alM_18 hX dX12_countMissing_316 h (fun v3 h => ?_)
            refine v_ladd hX dX12_countMissing_317 ?_
            refine v_nmL hX h (fun v4 h => ?_)
            refine v_lstore (lv' := [(4, .long v4), (0, .ref (ad 0)), (1, .int a1), (3, .int a3), (6, .int a6)]) hX dX12_countMissing_318 (by decide) rfl ?_
            exact v_sub hX [1, 2, 3, 0, 4] (by rfl) (wM_EachAddsALineModel_countMissing_320 hX hR ih h)
noncomputable def gM_EachAddsALineModel_countMissing_12 (N : Nat)  : Nat → Int32 → Int32 → Int32 → Int32 → vSt → Option (Int64 × vSt)
  | 0, _, _, _, _, _ => none
  | n + 1, a1, a2, a3, a4, s =>
    if a4 < 0 then
      gM_EachAddsALineModel_countMissing_263 N N a1 a3 0 0 s
    else
      (ld s 11 40 a4).bind fun v1 =>
      (some (s.1 0 40 : Int32)).bind fun v2 =>
      gM_EachAddsALineModel_countMissing_32 N (gM_EachAddsALineModel_countMissing_12 N n) N a1 a2 a3 a4 v1 v2 s
set_option maxRecDepth 4000 in
theorem wM_EachAddsALineModel_countMissing_12 {P : vP} {l : Launch} {ad : Nat → Nat} {N : Nat} {r : Int64} {t1 : vSt} (hX : vOK P l shM ad (vR 198 4608) cX12_countMissing RX12 13) (hR : (∀ pc lv, decode cX12_countMissing pc = .ok (.lreturn, 1) → P t1 pc lv [.long r]))  : ∀ (n : Nat) (a1 : Int32) (a2 : Int32) (a3 : Int32) (a4 : Int32) (s : vSt), gM_EachAddsALineModel_countMissing_12 N n a1 a2 a3 a4 s = some (r, t1) → P s 12 [(0, .ref (ad 0)), (1, .int a1), (2, .int a2), (3, .int a3), (4, .int a4)] [] := by
  intro n
  induction n with
  | zero => intro a1 a2 a3 a4 s h; cases h
  | succ n ih =>
    intro a1 a2 a3 a4 s h
    unfold gM_EachAddsALineModel_countMissing_12 at h
    refine v_iload hX dX12_countMissing_12 4 rfl ?_
    refine v_if_lt (tgt := 257) hX dX12_countMissing_14 (by decide) h (fun h => ?_) (fun h => ?_)
    · refine v_lconst (v := 0) hX dX12_countMissing_257 (by decide) ?_
      refine v_lstore (lv' := [(4, .long 0), (0, .ref (ad 0)), (1, .int a1), (2, .int a2), (3, .int a3)]) hX dX12_countMissing_258 (by decide) rfl ?_
      refine v_iconst (v := 0) hX dX12_countMissing_260 (by decide) ?_
      refine v_istore (lv' := [(6, .int 0), (4, .long 0), (0, .ref (ad 0)), (1, .int a1), (2, .int a2), (3, .int a3)]) hX dX12_countMissing_261 (by decide) rfl ?_
      exact v_sub hX [2, 3, 5, 1, 0] (by rfl) (wM_EachAddsALineModel_countMissing_263 hX hR  N _ _ _ _ _ h)
    · refine v_aload_n hX dX12_countMissing_17 rfl 0 rfl ?_
      refine gfM_0_29 hX kf_12_41 dX12_countMissing_18 ?_
      refine v_iload hX dX12_countMissing_21 4 rfl ?_
      refine alM_11 hX dX12_countMissing_23 h (fun v1 h => ?_)
      refine v_istore (lv' := [(5, .int v1), (0, .ref (ad 0)), (1, .int a1), (2, .int a2), (3, .int a3), (4, .int a4)]) hX dX12_countMissing_24 (by decide) rfl ?_
      refine v_aload_n hX dX12_countMissing_26 rfl 1 rfl ?_
      refine gfM_0_40 hX kf_12_314 dX12_countMissing_27 ?_
      refine v_nmI hX h (fun v2 h => ?_)
      refine v_istore (lv' := [(6, .int v2), (5, .int v1), (0, .ref (ad 0)), (1, .int a1), (2, .int a2), (3, .int a3), (4, .int a4)]) hX dX12_countMissing_30 (by decide) rfl ?_
      exact v_sub hX [2, 3, 4, 5, 6, 1, 0] (by rfl) (wM_EachAddsALineModel_countMissing_32 hX hR ih N _ _ _ _ _ _ _ h)
noncomputable def gM_EachAddsALineModel_countMissing_0 (N : Nat)  (a1 : Int32) (a2 : Int32) (a3 : Int32) (s : vSt) : Option (Int64 × vSt) :=
  (fM_EachAddsALineModel_findOrder N s).bind fun z1 =>
  (some ((z1.1 0 30) - 1 : Int32)).bind fun v2 =>
  gM_EachAddsALineModel_countMissing_12 N N a1 a2 a3 v2 z1
set_option maxRecDepth 4000 in
theorem wM_EachAddsALineModel_countMissing_0 {P : vP} {l : Launch} {ad : Nat → Nat} {N : Nat} {r : Int64} {t1 : vSt} (hX : vOK P l shM ad (vR 198 4608) cX12_countMissing RX12 13) (hR : (∀ pc lv, decode cX12_countMissing pc = .ok (.lreturn, 1) → P t1 pc lv [.long r]))  {a1 : Int32} {a2 : Int32} {a3 : Int32} {s : vSt} (h : gM_EachAddsALineModel_countMissing_0 N a1 a2 a3 s = some (r, t1)) : P s 0 [(0, .ref (ad 0)), (1, .int a1), (2, .int a2), (3, .int a3)] [] := by
  unfold gM_EachAddsALineModel_countMissing_0 at h
  refine v_aload_n hX dX12_countMissing_0 rfl 0 rfl ?_
  obtain ⟨z1, hz1, h⟩ := bsome h
  refine v_callVV (o := 0) hX (mM_EachAddsALineModel_findOrder hz1 l ad) kM_X12_findOrder kV_X12_findOrder km_12_271 (by decide) (fun _ => rfl) rfl rfl rfl (Nat.le_of_ble_eq_true rfl) (by decide) dX12_countMissing_1 ?_
  refine v_aload_n hX dX12_countMissing_4 rfl 0 rfl ?_
  refine gfM_0_30 hX kf_12_262 dX12_countMissing_5 ?_
  refine v_iconst (v := 1) hX dX12_countMissing_8 (by decide) ?_
  refine v_isub hX dX12_countMissing_9 ?_
  refine v_nmI hX h (fun v2 h => ?_)
  refine v_istore (lv' := [(4, .int v2), (0, .ref (ad 0)), (1, .int a1), (2, .int a2), (3, .int a3)]) hX dX12_countMissing_10 (by decide) rfl ?_
  exact v_sub hX [1, 2, 3, 4, 0] (by rfl) (wM_EachAddsALineModel_countMissing_12 hX hR  N _ _ _ _ _ h)
noncomputable def fM_EachAddsALineModel_countMissing (N : Nat) (a1 : Int32) (a2 : Int32) (a3 : Int32) (s : vSt) : Option (Int64 × vSt) := gM_EachAddsALineModel_countMissing_0 N a1 a2 a3 s
theorem mM_EachAddsALineModel_countMissing {N : Nat} {a1 : Int32} {a2 : Int32} {a3 : Int32} {s : vSt} {r : Int64} {t1 : vSt} (h : fM_EachAddsALineModel_countMissing N a1 a2 a3 s = some (r, t1)) (l : Launch) (ad : Nat → Nat) : vML l shM ad yX12_countMissing cX12_countMissing 13 198 4608 s [.ref (ad 0), .int a1, .int a2, .int a3] r t1 :=
  vML_of (by decide +kernel) (Nat.le_of_ble_eq_true rfl) (fun P hX hR => wM_EachAddsALineModel_countMissing_0 hX hR h)
-- M_EachAddsALineModel_missing
noncomputable def gM_EachAddsALineModel_missing_82 (N : Nat) (r45 : Int32 → Int32 → Int32 → Int64 → Int32 → Int32 → vSt → Option (Int64 × vSt)) (a1 : Int32) (a2 : Int32) (a3 : Int32) (a4 : Int64) (a7 : Int32) (k0 : Int32) (k1 : Int32) (s : vSt) : Option (Int64 × vSt) :=
  (some (k0 ||| k1 : Int32)).bind fun v1 =>
  (some (a7 + 1 : Int32)).bind fun v2 =>
  r45 a1 a2 a3 a4 v1 v2 s
set_option maxRecDepth 4000 in
theorem wM_EachAddsALineModel_missing_82 {P : vP} {l : Launch} {ad : Nat → Nat} {N : Nat} {r45 : Int32 → Int32 → Int32 → Int64 → Int32 → Int32 → vSt → Option (Int64 × vSt)} {r : Int64} {t1 : vSt} (hX : vOK P l shM ad (vR 199 4640) cX12_missing RX12 8) (hR : (∀ pc lv, decode cX12_missing pc = .ok (.lreturn, 1) → P t1 pc lv [.long r])) (H45 : ∀ (a1 : Int32) (a2 : Int32) (a3 : Int32) (a4 : Int64) (a6 : Int32) (a7 : Int32) (s : vSt), r45 a1 a2 a3 a4 a6 a7 s = some (r, t1) → P s 45 [(0, .ref (ad 0)), (1, .int a1), (2, .int a2), (3, .int a3), (4, .long a4), (6, .int a6), (7, .int a7)] []) {a1 : Int32} {a2 : Int32} {a3 : Int32} {a4 : Int64} {a7 : Int32} {k0 : Int32} {k1 : Int32} {s : vSt} (h : gM_EachAddsALineModel_missing_82 N r45 a1 a2 a3 a4 a7 k0 k1 s = some (r, t1)) : P s 82 [(0, .ref (ad 0)), (1, .int a1), (2, .int a2), (3, .int a3), (4, .long a4), (7, .int a7)] [.int k1, .int k0] := by
  unfold gM_EachAddsALineModel_missing_82 at h
  refine v_ior hX dX12_missing_82 ?_
  refine v_nmI hX h (fun v1 h => ?_)
  refine v_istore (lv' := [(6, .int v1), (0, .ref (ad 0)), (1, .int a1), (2, .int a2), (3, .int a3), (4, .long a4), (7, .int a7)]) hX dX12_missing_83 (by decide) rfl ?_
  refine v_iincN hX dX12_missing_85 (j := 6) rfl (c := 1) (by decide) (by decide) h (fun v2 h => ?_)
  refine v_show (lv' := [(7, .int v2), (6, .int v1), (0, .ref (ad 0)), (1, .int a1), (2, .int a2), (3, .int a3), (4, .long a4)]) hX rfl ?_
  refine v_goto (tgt := 45) hX dX12_missing_88 (by decide) ?_
  exact v_sub hX [2, 3, 4, 5, 6, 1, 0] (by rfl) (H45 _ _ _ _ _ _ _ h)
noncomputable def gM_EachAddsALineModel_missing_45 (N : Nat)  : Nat → Int32 → Int32 → Int32 → Int64 → Int32 → Int32 → vSt → Option (Int64 × vSt)
  | 0, _, _, _, _, _, _, _ => none
  | n + 1, a1, a2, a3, a4, a6, a7, s =>
    if (s.1 0 0) ≤ a7 then
      (some (s1 s 0 44 (-1))).bind fun z1 =>
      (some (s1 z1 0 10 0)).bind fun z2 =>
      (fM_EachAddsALineModel_tell N a6 z2).bind fun z3 =>
      some (a4, z3)
    else
      (some (s1 s 0 44 a7)).bind fun z4 =>
      (fM_EachAddsALineModel_countMissing N a1 a2 a3 z4).bind fun p5 =>
      if (lg_cmp p5.1 0) ≤ 0 then
        gM_EachAddsALineModel_missing_82 N (gM_EachAddsALineModel_missing_45 N n) a1 a2 a3 a4 a7 a6 0 p5.2
      else
        gM_EachAddsALineModel_missing_82 N (gM_EachAddsALineModel_missing_45 N n) a1 a2 a3 a4 a7 a6 ((1 : Int32) <<< (a7 &&& 31)) p5.2
set_option maxRecDepth 4000 in
theorem wM_EachAddsALineModel_missing_45 {P : vP} {l : Launch} {ad : Nat → Nat} {N : Nat} {r : Int64} {t1 : vSt} (hX : vOK P l shM ad (vR 199 4640) cX12_missing RX12 8) (hR : (∀ pc lv, decode cX12_missing pc = .ok (.lreturn, 1) → P t1 pc lv [.long r]))  : ∀ (n : Nat) (a1 : Int32) (a2 : Int32) (a3 : Int32) (a4 : Int64) (a6 : Int32) (a7 : Int32) (s : vSt), gM_EachAddsALineModel_missing_45 N n a1 a2 a3 a4 a6 a7 s = some (r, t1) → P s 45 [(0, .ref (ad 0)), (1, .int a1), (2, .int a2), (3, .int a3), (4, .long a4), (6, .int a6), (7, .int a7)] [] := by
  intro n
  induction n with
  | zero => intro a1 a2 a3 a4 a6 a7 s h; cases h
  | succ n ih =>
    intro a1 a2 a3 a4 a6 a7 s h
    unfold gM_EachAddsALineModel_missing_45 at h
    refine v_iload hX dX12_missing_45 6 rfl ?_
    refine v_aload_n hX dX12_missing_47 rfl 0 rfl ?_
    refine gfM_0_0 hX kf_12_102 dX12_missing_48 ?_
    refine v_icmp_ge (tgt := 91) hX dX12_missing_51 (by decide) h (fun h => ?_) (fun h => ?_)
    · refine v_aload_n hX dX12_missing_91 rfl 0 rfl ?_
      refine v_iconst (v := (-1)) hX dX12_missing_92 (by decide) ?_
      refine pfM_0_44 hX kf_12_77 dX12_missing_93 h (fun z1 h => ?_)
      refine v_aload_n hX dX12_missing_96 rfl 0 rfl ?_
      refine v_iconst (v := 0) hX dX12_missing_97 (by decide) ?_
      refine pfM_0_10 hX kf_12_99 dX12_missing_98 h (fun z2 h => ?_)
      refine v_aload_n hX dX12_missing_101 rfl 0 rfl ?_
      refine v_iload hX dX12_missing_102 5 rfl ?_
      obtain ⟨z3, hz3, h⟩ := bsome h
      refine v_callVV (o := 0) hX (mM_EachAddsALineModel_tell hz3 l ad) kM_X12_tell kV_X12_tell km_12_250 (by decide) (fun _ => rfl) rfl rfl rfl (Nat.le_of_ble_eq_true rfl) (by decide) dX12_missing_104 ?_
      refine v_lload hX dX12_missing_107 4 rfl ?_
      exact v_retL hR h dX12_missing_109
    · refine v_aload_n hX dX12_missing_54 rfl 0 rfl ?_
      refine v_iload hX dX12_missing_55 6 rfl ?_
      refine pfM_0_44 hX kf_12_77 dX12_missing_57 h (fun z4 h => ?_)
      refine v_iload hX dX12_missing_60 5 rfl ?_
      refine v_aload_n hX dX12_missing_62 rfl 0 rfl ?_
      refine v_iload_n hX dX12_missing_63 rfl 1 rfl ?_
      refine v_iload_n hX dX12_missing_64 rfl 2 rfl ?_
      refine v_iload_n hX dX12_missing_65 rfl 3 rfl ?_
      obtain ⟨p5, hp5, h⟩ := bsome h
      refine v_callVL (o := 0) hX (mM_EachAddsALineModel_countMissing hp5 l ad) kM_X12_countMissing kV_X12_countMissing km_12_333 (by decide) (fun _ => rfl) rfl rfl rfl (Nat.le_of_ble_eq_true rfl) (by decide) dX12_missing_66 ?_
      refine v_lconst (v := 0) hX dX12_missing_69 (by decide) ?_
      refine v_lcmp hX dX12_missing_70 ?_
      refine v_if_le (tgt := 81) hX dX12_missing_71 (by decide) h (fun h => ?_) (fun h => ?_)
      · refine v_iconst (v := 0) hX dX12_missing_81 (by decide) ?_
        exact v_sub hX [0, 1, 2, 3, 4, 6] (by rfl) (wM_EachAddsALineModel_missing_82 hX hR ih h)
      · refine v_iconst (v := 1) hX dX12_missing_74 (by decide) ?_
        refine v_iload hX dX12_missing_75 6 rfl ?_
        refine v_ishl hX dX12_missing_77 ?_
        refine v_goto (tgt := 82) hX dX12_missing_78 (by decide) ?_
        exact v_sub hX [0, 1, 2, 3, 4, 6] (by rfl) (wM_EachAddsALineModel_missing_82 hX hR ih h)
noncomputable def gM_EachAddsALineModel_missing_0 (N : Nat)  (a1 : Int32) (a2 : Int32) (a3 : Int32) (s : vSt) : Option (Int64 × vSt) :=
  (some (s1 s 0 11 0)).bind fun z1 =>
  (fM_EachAddsALineModel_isTrip N a1 a2 a3 z1).bind fun p2 =>
  if p2.1 = 0 then
    some ((-1), p2.2)
  else
    if (p2.2.1 0 40) = 0 then
      some ((-2), p2.2)
    else
      (fM_EachAddsALineModel_countMissing N a1 a2 a3 p2.2).bind fun p3 =>
      gM_EachAddsALineModel_missing_45 N N a1 a2 a3 p3.1 0 0 p3.2
set_option maxRecDepth 4000 in
theorem wM_EachAddsALineModel_missing_0 {P : vP} {l : Launch} {ad : Nat → Nat} {N : Nat} {r : Int64} {t1 : vSt} (hX : vOK P l shM ad (vR 199 4640) cX12_missing RX12 8) (hR : (∀ pc lv, decode cX12_missing pc = .ok (.lreturn, 1) → P t1 pc lv [.long r]))  {a1 : Int32} {a2 : Int32} {a3 : Int32} {s : vSt} (h : gM_EachAddsALineModel_missing_0 N a1 a2 a3 s = some (r, t1)) : P s 0 [(0, .ref (ad 0)), (1, .int a1), (2, .int a2), (3, .int a3)] [] := by
  unfold gM_EachAddsALineModel_missing_0 at h
  refine v_aload_n hX dX12_missing_0 rfl 0 rfl ?_
  refine v_iconst (v := 0) hX dX12_missing_1 (by decide) ?_
  refine pfM_0_11 hX kf_12_96 dX12_missing_2 h (fun z1 h => ?_)
  refine v_aload_n hX dX12_missing_5 rfl 0 rfl ?_
  refine v_iload_n hX dX12_missing_6 rfl 1 rfl ?_
  refine v_iload_n hX dX12_missing_7 rfl 2 rfl ?_
  refine v_iload_n hX dX12_missing_8 rfl 3 rfl ?_
  obtain ⟨p2, hp2, h⟩ := bsome h
  refine v_callVI (o := 0) hX (mM_EachAddsALineModel_isTrip hp2 l ad) kM_X12_isTrip kV_X12_isTrip km_12_294 (by decide) (fun _ => rfl) rfl rfl rfl (Nat.le_of_ble_eq_true rfl) (by decide) dX12_missing_9 ?_
  refine v_if_ne (tgt := 19) hX dX12_missing_12 (by decide) h (fun h => ?_) (fun h => ?_)
  · refine v_ldc2 hX kc_12_312 dX12_missing_15 ?_
    exact v_retL hR h dX12_missing_18
  · refine v_aload_n hX dX12_missing_19 rfl 0 rfl ?_
    refine gfM_0_40 hX kf_12_314 dX12_missing_20 ?_
    refine v_if_ne (tgt := 30) hX dX12_missing_23 (by decide) h (fun h => ?_) (fun h => ?_)
    · refine v_ldc2 hX kc_12_324 dX12_missing_26 ?_
      exact v_retL hR h dX12_missing_29
    · refine v_aload_n hX dX12_missing_30 rfl 0 rfl ?_
      refine v_iload_n hX dX12_missing_31 rfl 1 rfl ?_
      refine v_iload_n hX dX12_missing_32 rfl 2 rfl ?_
      refine v_iload_n hX dX12_missing_33 rfl 3 rfl ?_
      obtain ⟨p3, hp3, h⟩ := bsome h
      refine v_callVL (o := 0) hX (mM_EachAddsALineModel_countMissing hp3 l ad) kM_X12_countMissing kV_X12_countMissing km_12_333 (by decide) (fun _ => rfl) rfl rfl rfl (Nat.le_of_ble_eq_true rfl) (by decide) dX12_missing_34 ?_
      refine v_lstore (lv' := [(4, .long p3.1), (0, .ref (ad 0)), (1, .int a1), (2, .int a2), (3, .int a3)]) hX dX12_missing_37 (by decide) rfl ?_
      refine v_iconst (v := 0) hX dX12_missing_39 (by decide) ?_
      refine v_istore (lv' := [(6, .int 0), (4, .long p3.1), (0, .ref (ad 0)), (1, .int a1), (2, .int a2), (3, .int a3)]) hX dX12_missing_40 (by decide) rfl ?_
      refine v_iconst (v := 0) hX dX12_missing_42 (by decide) ?_
      refine v_istore (lv' := [(7, .int 0), (6, .int 0), (4, .long p3.1), (0, .ref (ad 0)), (1, .int a1), (2, .int a2), (3, .int a3)]) hX dX12_missing_43 (by decide) rfl ?_
      exact v_sub hX [3, 4, 5, 6, 2, 1, 0] (by rfl) (wM_EachAddsALineModel_missing_45 hX hR  N _ _ _ _ _ _ _ h)
noncomputable def fM_EachAddsALineModel_missing (N : Nat) (a1 : Int32) (a2 : Int32) (a3 : Int32) (s : vSt) : Option (Int64 × vSt) := gM_EachAddsALineModel_missing_0 N a1 a2 a3 s
theorem mM_EachAddsALineModel_missing {N : Nat} {a1 : Int32} {a2 : Int32} {a3 : Int32} {s : vSt} {r : Int64} {t1 : vSt} (h : fM_EachAddsALineModel_missing N a1 a2 a3 s = some (r, t1)) (l : Launch) (ad : Nat → Nat) : vML l shM ad yX12_missing cX12_missing 8 199 4640 s [.ref (ad 0), .int a1, .int a2, .int a3] r t1 :=
  vML_of (by decide +kernel) (Nat.le_of_ble_eq_true rfl) (fun P hX hR => wM_EachAddsALineModel_missing_0 hX hR h)
-- M_EachAddsALineModel_lies
noncomputable def gM_EachAddsALineModel_lies_164 (N : Nat) (r111 : Int32 → Int32 → Int32 → Int32 → Int32 → Int32 → Int32 → vSt → Option (Int32 × vSt)) (a1 : Int32) (a2 : Int32) (a3 : Int32) (a4 : Int32) (a5 : Int32) (a6 : Int32) (a7 : Int32) (s : vSt) : Option (Int32 × vSt) :=
  (some (a7 + 1 : Int32)).bind fun v1 =>
  r111 a1 a2 a3 a4 a5 a6 v1 s
set_option maxRecDepth 4000 in
theorem wM_EachAddsALineModel_lies_164 {P : vP} {l : Launch} {ad : Nat → Nat} {N : Nat} {r111 : Int32 → Int32 → Int32 → Int32 → Int32 → Int32 → Int32 → vSt → Option (Int32 × vSt)} {r : Int32} {t1 : vSt} (hX : vOK P l shM ad (vR 198 4608) cX12_lies RX12 10) (hR : (∀ pc lv, narrow .int (.int r) = .int r → decode cX12_lies pc = .ok (.ireturn, 1) → P t1 pc lv [.int r])) (H111 : ∀ (a1 : Int32) (a2 : Int32) (a3 : Int32) (a4 : Int32) (a5 : Int32) (a6 : Int32) (a7 : Int32) (s : vSt), r111 a1 a2 a3 a4 a5 a6 a7 s = some (r, t1) → P s 111 [(0, .ref (ad 0)), (1, .int a1), (2, .int a2), (3, .int a3), (4, .int a4), (5, .int a5), (6, .int a6), (7, .int a7)] []) {a1 : Int32} {a2 : Int32} {a3 : Int32} {a4 : Int32} {a5 : Int32} {a6 : Int32} {a7 : Int32} {s : vSt} (h : gM_EachAddsALineModel_lies_164 N r111 a1 a2 a3 a4 a5 a6 a7 s = some (r, t1)) : P s 164 [(0, .ref (ad 0)), (1, .int a1), (2, .int a2), (3, .int a3), (4, .int a4), (5, .int a5), (6, .int a6), (7, .int a7)] [] := by
  unfold gM_EachAddsALineModel_lies_164 at h
  refine v_iincN hX dX12_lies_164 (j := 7) rfl (c := 1) (by decide) (by decide) h (fun v1 h => ?_)
  refine v_show (lv' := [(7, .int v1), (0, .ref (ad 0)), (1, .int a1), (2, .int a2), (3, .int a3), (4, .int a4), (5, .int a5), (6, .int a6)]) hX rfl ?_
  refine v_goto (tgt := 111) hX dX12_lies_167 (by decide) ?_
  exact v_sub hX [1, 2, 3, 4, 5, 6, 7, 0] (by rfl) (H111 _ _ _ _ _ _ _ _ h)
noncomputable def gM_EachAddsALineModel_lies_203 (N : Nat) (r70 : Int32 → Int32 → Int32 → Int32 → Int32 → vSt → Option (Int32 × vSt)) (a1 : Int32) (a2 : Int32) (a3 : Int32) (a4 : Int32) (a5 : Int32) (k1 : Int32) (k2 : Int32) (k3 : Int32) (k4 : Int32) (s : vSt) : Option (Int32 × vSt) :=
  (sto s 19 480 k1 (if k2 > (k3 + k4) then (k3 + k4) else k2)).bind fun z1 =>
  (some (a5 + 1 : Int32)).bind fun v2 =>
  r70 a1 a2 a3 a4 v2 z1
set_option maxRecDepth 4000 in
theorem wM_EachAddsALineModel_lies_203 {P : vP} {l : Launch} {ad : Nat → Nat} {N : Nat} {r70 : Int32 → Int32 → Int32 → Int32 → Int32 → vSt → Option (Int32 × vSt)} {r : Int32} {t1 : vSt} (hX : vOK P l shM ad (vR 198 4608) cX12_lies RX12 10) (hR : (∀ pc lv, narrow .int (.int r) = .int r → decode cX12_lies pc = .ok (.ireturn, 1) → P t1 pc lv [.int r])) (H70 : ∀ (a1 : Int32) (a2 : Int32) (a3 : Int32) (a4 : Int32) (a5 : Int32) (s : vSt), r70 a1 a2 a3 a4 a5 s = some (r, t1) → P s 70 [(0, .ref (ad 0)), (1, .int a1), (2, .int a2), (3, .int a3), (4, .int a4), (5, .int a5)] []) {a1 : Int32} {a2 : Int32} {a3 : Int32} {a4 : Int32} {a5 : Int32} {k1 : Int32} {k2 : Int32} {k3 : Int32} {k4 : Int32} {s : vSt} (h : gM_EachAddsALineModel_lies_203 N r70 a1 a2 a3 a4 a5 k1 k2 k3 k4 s = some (r, t1)) : P s 203 [(0, .ref (ad 0)), (1, .int a1), (2, .int a2), (3, .int a3), (4, .int a4), (5, .int a5)] [.int k4, .int k3, .int k2, .int k1, .ref (ad 19)] := by
  unfold gM_EachAddsALineModel_lies_203 at h
  refine v_iadd hX dX12_lies_203 ?_
  refine v_min hX km_12_207 kS_J9_min_7cf53 kI_Math kC_min (Nat.le_of_ble_eq_true rfl) (Nat.le_of_ble_eq_true rfl) dX12_lies_204 ?_
  refine asM_19 hX dX12_lies_207 h (fun z1 h => ?_)
  refine v_iincN hX dX12_lies_208 (j := 5) rfl (c := 1) (by decide) (by decide) h (fun v2 h => ?_)
  refine v_show (lv' := [(5, .int v2), (0, .ref (ad 0)), (1, .int a1), (2, .int a2), (3, .int a3), (4, .int a4)]) hX rfl ?_
  refine v_goto (tgt := 70) hX dX12_lies_211 (by decide) ?_
  exact v_sub hX [1, 2, 3, 4, 5, 0] (by rfl) (H70 _ _ _ _ _ _ h)
noncomputable def gM_EachAddsALineModel_lies_170 (N : Nat) (r70 : Int32 → Int32 → Int32 → Int32 → Int32 → vSt → Option (Int32 × vSt)) (a1 : Int32) (a2 : Int32) (a3 : Int32) (a4 : Int32) (a5 : Int32) (a6 : Int32) (s : vSt) : Option (Int32 × vSt) :=
  (fM_EachAddsALineModel_isSo N a5 0 a4 s).bind fun p1 =>
  if p1.1 = 0 then
    gM_EachAddsALineModel_lies_203 N r70 a1 a2 a3 a4 a5 (((40 : Int32) * a4) + a5) 1000000 a6 1 p1.2
  else
    gM_EachAddsALineModel_lies_203 N r70 a1 a2 a3 a4 a5 (((40 : Int32) * a4) + a5) 1000000 a6 0 p1.2
set_option maxRecDepth 4000 in
theorem wM_EachAddsALineModel_lies_170 {P : vP} {l : Launch} {ad : Nat → Nat} {N : Nat} {r70 : Int32 → Int32 → Int32 → Int32 → Int32 → vSt → Option (Int32 × vSt)} {r : Int32} {t1 : vSt} (hX : vOK P l shM ad (vR 198 4608) cX12_lies RX12 10) (hR : (∀ pc lv, narrow .int (.int r) = .int r → decode cX12_lies pc = .ok (.ireturn, 1) → P t1 pc lv [.int r])) (H70 : ∀ (a1 : Int32) (a2 : Int32) (a3 : Int32) (a4 : Int32) (a5 : Int32) (s : vSt), r70 a1 a2 a3 a4 a5 s = some (r, t1) → P s 70 [(0, .ref (ad 0)), (1, .int a1), (2, .int a2), (3, .int a3), (4, .int a4), (5, .int a5)] []) {a1 : Int32} {a2 : Int32} {a3 : Int32} {a4 : Int32} {a5 : Int32} {a6 : Int32} {s : vSt} (h : gM_EachAddsALineModel_lies_170 N r70 a1 a2 a3 a4 a5 a6 s = some (r, t1)) : P s 170 [(0, .ref (ad 0)), (1, .int a1), (2, .int a2), (3, .int a3), (4, .int a4), (5, .int a5), (6, .int a6)] [] := by
  unfold gM_EachAddsALineModel_lies_170 at h
  refine v_aload_n hX dX12_lies_170 rfl 0 rfl ?_
  refine gfM_0_45 hX kf_12_80 dX12_lies_171 ?_
  refine v_bipush (v := 40) hX dX12_lies_174 (by decide) ?_
  refine v_iload hX dX12_lies_176 4 rfl ?_
  refine v_imul hX dX12_lies_178 ?_
  refine v_iload hX dX12_lies_179 5 rfl ?_
  refine v_iadd hX dX12_lies_181 ?_
  refine v_ldc hX kc_12_50 dX12_lies_182 ?_
  refine v_iload hX dX12_lies_184 6 rfl ?_
  refine v_aload_n hX dX12_lies_186 rfl 0 rfl ?_
  refine v_iload hX dX12_lies_187 5 rfl ?_
  refine v_iconst (v := 0) hX dX12_lies_189 (by decide) ?_
  refine v_iload hX dX12_lies_190 4 rfl ?_
  obtain ⟨p1, hp1, h⟩ := bsome h
  refine v_callVI (o := 0) hX (mM_EachAddsALineModel_isSo hp1 l ad) kM_X12_isSo kV_X12_isSo km_12_317 (by decide) (fun _ => rfl) rfl rfl rfl (Nat.le_of_ble_eq_true rfl) (by decide) dX12_lies_192 ?_
  refine v_if_eq (tgt := 202) hX dX12_lies_195 (by decide) h (fun h => ?_) (fun h => ?_)
  · refine v_iconst (v := 1) hX dX12_lies_202 (by decide) ?_
    exact v_sub hX [0, 1, 2, 3, 4, 5] (by rfl) (wM_EachAddsALineModel_lies_203 hX hR H70 h)
  · refine v_iconst (v := 0) hX dX12_lies_198 (by decide) ?_
    refine v_goto (tgt := 203) hX dX12_lies_199 (by decide) ?_
    exact v_sub hX [0, 1, 2, 3, 4, 5] (by rfl) (wM_EachAddsALineModel_lies_203 hX hR H70 h)
noncomputable def gM_EachAddsALineModel_lies_111 (N : Nat) (r70 : Int32 → Int32 → Int32 → Int32 → Int32 → vSt → Option (Int32 × vSt)) : Nat → Int32 → Int32 → Int32 → Int32 → Int32 → Int32 → Int32 → vSt → Option (Int32 × vSt)
  | 0, _, _, _, _, _, _, _, _ => none
  | n + 1, a1, a2, a3, a4, a5, a6, a7, s =>
    if (s.1 0 30) ≤ a7 then
      gM_EachAddsALineModel_lies_170 N r70 a1 a2 a3 a4 a5 a6 s
    else
      if ((s.1 0 40) - 1) ≤ a4 then
        gM_EachAddsALineModel_lies_170 N r70 a1 a2 a3 a4 a5 a6 s
      else
        (fM_EachAddsALineModel_follows N a7 a5 s).bind fun p1 =>
        if p1.1 = 0 then
          gM_EachAddsALineModel_lies_164 N (gM_EachAddsALineModel_lies_111 N r70 n) a1 a2 a3 a4 a5 a6 a7 p1.2
        else
          (ld p1.2 19 480 (((40 : Int32) * (a4 + 1)) + a7)).bind fun v2 =>
          (some (if a6 > v2 then v2 else a6 : Int32)).bind fun v3 =>
          gM_EachAddsALineModel_lies_164 N (gM_EachAddsALineModel_lies_111 N r70 n) a1 a2 a3 a4 a5 v3 a7 p1.2
set_option maxRecDepth 4000 in
theorem wM_EachAddsALineModel_lies_111 {P : vP} {l : Launch} {ad : Nat → Nat} {N : Nat} {r70 : Int32 → Int32 → Int32 → Int32 → Int32 → vSt → Option (Int32 × vSt)} {r : Int32} {t1 : vSt} (hX : vOK P l shM ad (vR 198 4608) cX12_lies RX12 10) (hR : (∀ pc lv, narrow .int (.int r) = .int r → decode cX12_lies pc = .ok (.ireturn, 1) → P t1 pc lv [.int r])) (H70 : ∀ (a1 : Int32) (a2 : Int32) (a3 : Int32) (a4 : Int32) (a5 : Int32) (s : vSt), r70 a1 a2 a3 a4 a5 s = some (r, t1) → P s 70 [(0, .ref (ad 0)), (1, .int a1), (2, .int a2), (3, .int a3), (4, .int a4), (5, .int a5)] []) : ∀ (n : Nat) (a1 : Int32) (a2 : Int32) (a3 : Int32) (a4 : Int32) (a5 : Int32) (a6 : Int32) (a7 : Int32) (s : vSt), gM_EachAddsALineModel_lies_111 N r70 n a1 a2 a3 a4 a5 a6 a7 s = some (r, t1) → P s 111 [(0, .ref (ad 0)), (1, .int a1), (2, .int a2), (3, .int a3), (4, .int a4), (5, .int a5), (6, .int a6), (7, .int a7)] [] := by
  intro n
  induction n with
  | zero => intro a1 a2 a3 a4 a5 a6 a7 s h; cases h
  | succ n ih =>
    intro a1 a2 a3 a4 a5 a6 a7 s h
    unfold gM_EachAddsALineModel_lies_111 at h
    refine v_iload hX dX12_lies_111 7 rfl ?_
    refine v_aload_n hX dX12_lies_113 rfl 0 rfl ?_
    refine gfM_0_30 hX kf_12_262 dX12_lies_114 ?_
    refine v_icmp_ge (tgt := 170) hX dX12_lies_117 (by decide) h (fun h => ?_) (fun h => ?_)
    · exact v_sub hX [0, 1, 2, 3, 4, 5, 6] (by rfl) (wM_EachAddsALineModel_lies_170 hX hR H70 h)
    · refine v_iload hX dX12_lies_120 4 rfl ?_
      refine v_aload_n hX dX12_lies_122 rfl 0 rfl ?_
      refine gfM_0_40 hX kf_12_314 dX12_lies_123 ?_
      refine v_iconst (v := 1) hX dX12_lies_126 (by decide) ?_
      refine v_isub hX dX12_lies_127 ?_
      refine v_icmp_ge (tgt := 170) hX dX12_lies_128 (by decide) h (fun h => ?_) (fun h => ?_)
      · exact v_sub hX [0, 1, 2, 3, 4, 5, 6] (by rfl) (wM_EachAddsALineModel_lies_170 hX hR H70 h)
      · refine v_aload_n hX dX12_lies_131 rfl 0 rfl ?_
        refine v_iload hX dX12_lies_132 7 rfl ?_
        refine v_iload hX dX12_lies_134 5 rfl ?_
        obtain ⟨p1, hp1, h⟩ := bsome h
        refine v_callVI (o := 0) hX (mM_EachAddsALineModel_follows hp1 l ad) kM_X12_follows kV_X12_follows km_12_280 (by decide) (fun _ => rfl) rfl rfl rfl (Nat.le_of_ble_eq_true rfl) (by decide) dX12_lies_136 ?_
        refine v_if_eq (tgt := 164) hX dX12_lies_139 (by decide) h (fun h => ?_) (fun h => ?_)
        · exact v_sub hX [0, 1, 2, 3, 4, 5, 6, 7] (by rfl) (wM_EachAddsALineModel_lies_164 hX hR ih h)
        · refine v_iload hX dX12_lies_142 6 rfl ?_
          refine v_aload_n hX dX12_lies_144 rfl 0 rfl ?_
          refine gfM_0_45 hX kf_12_80 dX12_lies_145 ?_
          refine v_bipush (v := 40) hX dX12_lies_148 (by decide) ?_
          refine v_iload hX dX12_lies_150 4 rfl ?_
          refine v_iconst (v := 1) hX dX12_lies_152 (by decide) ?_
          refine v_iadd hX dX12_lies_153 ?_
          refine v_imul hX dX12_lies_154 ?_
          refine v_iload hX dX12_lies_155 7 rfl ?_
          refine v_iadd hX dX12_lies_157 ?_
          refine alM_19 hX dX12_lies_158 h (fun v2 h => ?_)
          refine v_min hX km_12_207 kS_J9_min_7cf53 kI_Math kC_min (Nat.le_of_ble_eq_true rfl) (Nat.le_of_ble_eq_true rfl) dX12_lies_159 ?_
          refine v_nmI hX h (fun v3 h => ?_)
          refine v_istore (lv' := [(6, .int v3), (0, .ref (ad 0)), (1, .int a1), (2, .int a2), (3, .int a3), (4, .int a4), (5, .int a5), (7, .int a7)]) hX dX12_lies_162 (by decide) rfl ?_
          exact v_sub hX [1, 2, 3, 4, 5, 6, 0, 7] (by rfl) (wM_EachAddsALineModel_lies_164 hX hR ih h)
noncomputable def gM_EachAddsALineModel_lies_106 (N : Nat) (r70 : Int32 → Int32 → Int32 → Int32 → Int32 → vSt → Option (Int32 × vSt)) (a1 : Int32) (a2 : Int32) (a3 : Int32) (a4 : Int32) (a5 : Int32) (k0 : Int32) (s : vSt) : Option (Int32 × vSt) :=
  gM_EachAddsALineModel_lies_111 N r70 N a1 a2 a3 a4 a5 k0 0 s
set_option maxRecDepth 4000 in
theorem wM_EachAddsALineModel_lies_106 {P : vP} {l : Launch} {ad : Nat → Nat} {N : Nat} {r70 : Int32 → Int32 → Int32 → Int32 → Int32 → vSt → Option (Int32 × vSt)} {r : Int32} {t1 : vSt} (hX : vOK P l shM ad (vR 198 4608) cX12_lies RX12 10) (hR : (∀ pc lv, narrow .int (.int r) = .int r → decode cX12_lies pc = .ok (.ireturn, 1) → P t1 pc lv [.int r])) (H70 : ∀ (a1 : Int32) (a2 : Int32) (a3 : Int32) (a4 : Int32) (a5 : Int32) (s : vSt), r70 a1 a2 a3 a4 a5 s = some (r, t1) → P s 70 [(0, .ref (ad 0)), (1, .int a1), (2, .int a2), (3, .int a3), (4, .int a4), (5, .int a5)] []) {a1 : Int32} {a2 : Int32} {a3 : Int32} {a4 : Int32} {a5 : Int32} {k0 : Int32} {s : vSt} (h : gM_EachAddsALineModel_lies_106 N r70 a1 a2 a3 a4 a5 k0 s = some (r, t1)) : P s 106 [(0, .ref (ad 0)), (1, .int a1), (2, .int a2), (3, .int a3), (4, .int a4), (5, .int a5)] [.int k0] := by
  unfold gM_EachAddsALineModel_lies_106 at h
  refine v_istore (lv' := [(6, .int k0), (0, .ref (ad 0)), (1, .int a1), (2, .int a2), (3, .int a3), (4, .int a4), (5, .int a5)]) hX dX12_lies_106 (by decide) rfl ?_
  refine v_iconst (v := 0) hX dX12_lies_108 (by decide) ?_
  refine v_istore (lv' := [(7, .int 0), (6, .int k0), (0, .ref (ad 0)), (1, .int a1), (2, .int a2), (3, .int a3), (4, .int a4), (5, .int a5)]) hX dX12_lies_109 (by decide) rfl ?_
  exact v_sub hX [2, 3, 4, 5, 6, 7, 1, 0] (by rfl) (wM_EachAddsALineModel_lies_111 hX hR H70 N _ _ _ _ _ _ _ _ h)
noncomputable def gM_EachAddsALineModel_lies_104 (N : Nat) (r70 : Int32 → Int32 → Int32 → Int32 → Int32 → vSt → Option (Int32 × vSt)) (a1 : Int32) (a2 : Int32) (a3 : Int32) (a4 : Int32) (a5 : Int32) (s : vSt) : Option (Int32 × vSt) :=
  gM_EachAddsALineModel_lies_106 N r70 a1 a2 a3 a4 a5 1000000 s
set_option maxRecDepth 4000 in
theorem wM_EachAddsALineModel_lies_104 {P : vP} {l : Launch} {ad : Nat → Nat} {N : Nat} {r70 : Int32 → Int32 → Int32 → Int32 → Int32 → vSt → Option (Int32 × vSt)} {r : Int32} {t1 : vSt} (hX : vOK P l shM ad (vR 198 4608) cX12_lies RX12 10) (hR : (∀ pc lv, narrow .int (.int r) = .int r → decode cX12_lies pc = .ok (.ireturn, 1) → P t1 pc lv [.int r])) (H70 : ∀ (a1 : Int32) (a2 : Int32) (a3 : Int32) (a4 : Int32) (a5 : Int32) (s : vSt), r70 a1 a2 a3 a4 a5 s = some (r, t1) → P s 70 [(0, .ref (ad 0)), (1, .int a1), (2, .int a2), (3, .int a3), (4, .int a4), (5, .int a5)] []) {a1 : Int32} {a2 : Int32} {a3 : Int32} {a4 : Int32} {a5 : Int32} {s : vSt} (h : gM_EachAddsALineModel_lies_104 N r70 a1 a2 a3 a4 a5 s = some (r, t1)) : P s 104 [(0, .ref (ad 0)), (1, .int a1), (2, .int a2), (3, .int a3), (4, .int a4), (5, .int a5)] [] := by
  unfold gM_EachAddsALineModel_lies_104 at h
  refine v_ldc hX kc_12_50 dX12_lies_104 ?_
  exact v_sub hX [0, 1, 2, 3, 4, 5] (by rfl) (wM_EachAddsALineModel_lies_106 hX hR H70 h)
noncomputable def gM_EachAddsALineModel_lies_70 (N : Nat) (r62 : Int32 → Int32 → Int32 → Int32 → vSt → Option (Int32 × vSt)) : Nat → Int32 → Int32 → Int32 → Int32 → Int32 → vSt → Option (Int32 × vSt)
  | 0, _, _, _, _, _, _ => none
  | n + 1, a1, a2, a3, a4, a5, s =>
    if (s.1 0 30) ≤ a5 then
      (some (a4 + (-1) : Int32)).bind fun v1 =>
      r62 a1 a2 a3 v1 s
    else
      if a4 = ((s.1 0 40) - 1) then
        (fM_EachAddsALineModel_getter N a5 s).bind fun p2 =>
        if p2.1 = a2 then
          gM_EachAddsALineModel_lies_106 N (gM_EachAddsALineModel_lies_70 N r62 n) a1 a2 a3 a4 a5 0 p2.2
        else
          gM_EachAddsALineModel_lies_104 N (gM_EachAddsALineModel_lies_70 N r62 n) a1 a2 a3 a4 a5 p2.2
      else
        gM_EachAddsALineModel_lies_104 N (gM_EachAddsALineModel_lies_70 N r62 n) a1 a2 a3 a4 a5 s
set_option maxRecDepth 4000 in
theorem wM_EachAddsALineModel_lies_70 {P : vP} {l : Launch} {ad : Nat → Nat} {N : Nat} {r62 : Int32 → Int32 → Int32 → Int32 → vSt → Option (Int32 × vSt)} {r : Int32} {t1 : vSt} (hX : vOK P l shM ad (vR 198 4608) cX12_lies RX12 10) (hR : (∀ pc lv, narrow .int (.int r) = .int r → decode cX12_lies pc = .ok (.ireturn, 1) → P t1 pc lv [.int r])) (H62 : ∀ (a1 : Int32) (a2 : Int32) (a3 : Int32) (a4 : Int32) (s : vSt), r62 a1 a2 a3 a4 s = some (r, t1) → P s 62 [(0, .ref (ad 0)), (1, .int a1), (2, .int a2), (3, .int a3), (4, .int a4)] []) : ∀ (n : Nat) (a1 : Int32) (a2 : Int32) (a3 : Int32) (a4 : Int32) (a5 : Int32) (s : vSt), gM_EachAddsALineModel_lies_70 N r62 n a1 a2 a3 a4 a5 s = some (r, t1) → P s 70 [(0, .ref (ad 0)), (1, .int a1), (2, .int a2), (3, .int a3), (4, .int a4), (5, .int a5)] [] := by
  intro n
  induction n with
  | zero => intro a1 a2 a3 a4 a5 s h; cases h
  | succ n ih =>
    intro a1 a2 a3 a4 a5 s h
    unfold gM_EachAddsALineModel_lies_70 at h
    refine v_iload hX dX12_lies_70 5 rfl ?_
    refine v_aload_n hX dX12_lies_72 rfl 0 rfl ?_
    refine gfM_0_30 hX kf_12_262 dX12_lies_73 ?_
    refine v_icmp_ge (tgt := 214) hX dX12_lies_76 (by decide) h (fun h => ?_) (fun h => ?_)
    · refine v_iincN hX dX12_lies_214 (j := 4) rfl (c := (-1)) (by decide) (by decide) h (fun v1 h => ?_)
      refine v_show (lv' := [(4, .int v1), (0, .ref (ad 0)), (1, .int a1), (2, .int a2), (3, .int a3), (5, .int a5)]) hX rfl ?_
      refine v_goto (tgt := 62) hX dX12_lies_217 (by decide) ?_
      exact v_sub hX [1, 2, 3, 4, 0] (by rfl) (H62 _ _ _ _ _ h)
    · refine v_iload hX dX12_lies_79 4 rfl ?_
      refine v_aload_n hX dX12_lies_81 rfl 0 rfl ?_
      refine gfM_0_40 hX kf_12_314 dX12_lies_82 ?_
      refine v_iconst (v := 1) hX dX12_lies_85 (by decide) ?_
      refine v_isub hX dX12_lies_86 ?_
      refine v_icmp_ne (tgt := 104) hX dX12_lies_87 (by decide) h (fun h => ?_) (fun h => ?_)
      · refine v_aload_n hX dX12_lies_90 rfl 0 rfl ?_
        refine v_iload hX dX12_lies_91 5 rfl ?_
        obtain ⟨p2, hp2, h⟩ := bsome h
        refine v_callVI (o := 0) hX (mM_EachAddsALineModel_getter hp2 l ad) kM_X12_getter kV_X12_getter km_12_268 (by decide) (fun _ => rfl) rfl rfl rfl (Nat.le_of_ble_eq_true rfl) (by decide) dX12_lies_93 ?_
        refine v_iload_n hX dX12_lies_96 rfl 2 rfl ?_
        refine v_icmp_ne (tgt := 104) hX dX12_lies_97 (by decide) h (fun h => ?_) (fun h => ?_)
        · refine v_iconst (v := 0) hX dX12_lies_100 (by decide) ?_
          refine v_goto (tgt := 106) hX dX12_lies_101 (by decide) ?_
          exact v_sub hX [0, 1, 2, 3, 4, 5] (by rfl) (wM_EachAddsALineModel_lies_106 hX hR ih h)
        · exact v_sub hX [0, 1, 2, 3, 4, 5] (by rfl) (wM_EachAddsALineModel_lies_104 hX hR ih h)
      · exact v_sub hX [0, 1, 2, 3, 4, 5] (by rfl) (wM_EachAddsALineModel_lies_104 hX hR ih h)
noncomputable def gM_EachAddsALineModel_lies_264 (N : Nat) (r227 : Int32 → Int32 → Int32 → Int32 → vSt → Option (Int32 × vSt)) (a1 : Int32) (a3 : Int32) (a4 : Int32) (a5 : Int32) (s : vSt) : Option (Int32 × vSt) :=
  (some (a5 + 1 : Int32)).bind fun v1 =>
  r227 a1 a3 a4 v1 s
set_option maxRecDepth 4000 in
theorem wM_EachAddsALineModel_lies_264 {P : vP} {l : Launch} {ad : Nat → Nat} {N : Nat} {r227 : Int32 → Int32 → Int32 → Int32 → vSt → Option (Int32 × vSt)} {r : Int32} {t1 : vSt} (hX : vOK P l shM ad (vR 198 4608) cX12_lies RX12 10) (hR : (∀ pc lv, narrow .int (.int r) = .int r → decode cX12_lies pc = .ok (.ireturn, 1) → P t1 pc lv [.int r])) (H227 : ∀ (a1 : Int32) (a3 : Int32) (a4 : Int32) (a5 : Int32) (s : vSt), r227 a1 a3 a4 a5 s = some (r, t1) → P s 227 [(0, .ref (ad 0)), (1, .int a1), (3, .int a3), (4, .int a4), (5, .int a5)] []) {a1 : Int32} {a3 : Int32} {a4 : Int32} {a5 : Int32} {s : vSt} (h : gM_EachAddsALineModel_lies_264 N r227 a1 a3 a4 a5 s = some (r, t1)) : P s 264 [(0, .ref (ad 0)), (1, .int a1), (3, .int a3), (4, .int a4), (5, .int a5)] [] := by
  unfold gM_EachAddsALineModel_lies_264 at h
  refine v_iincN hX dX12_lies_264 (j := 4) rfl (c := 1) (by decide) (by decide) h (fun v1 h => ?_)
  refine v_show (lv' := [(5, .int v1), (0, .ref (ad 0)), (1, .int a1), (3, .int a3), (4, .int a4)]) hX rfl ?_
  refine v_goto (tgt := 227) hX dX12_lies_267 (by decide) ?_
  exact v_sub hX [1, 2, 3, 4, 0] (by rfl) (H227 _ _ _ _ _ h)
noncomputable def gM_EachAddsALineModel_lies_389 (N : Nat) (r310 : Int32 → Int32 → Int32 → Int32 → Int32 → Int32 → Int32 → Int32 → vSt → Option (Int32 × vSt)) (a1 : Int32) (a3 : Int32) (a4 : Int32) (a5 : Int32) (a6 : Int32) (a7 : Int32) (a8 : Int32) (a9 : Int32) (s : vSt) : Option (Int32 × vSt) :=
  (some (a9 + 1 : Int32)).bind fun v1 =>
  r310 a1 a3 a4 a5 a6 a7 a8 v1 s
set_option maxRecDepth 4000 in
theorem wM_EachAddsALineModel_lies_389 {P : vP} {l : Launch} {ad : Nat → Nat} {N : Nat} {r310 : Int32 → Int32 → Int32 → Int32 → Int32 → Int32 → Int32 → Int32 → vSt → Option (Int32 × vSt)} {r : Int32} {t1 : vSt} (hX : vOK P l shM ad (vR 198 4608) cX12_lies RX12 10) (hR : (∀ pc lv, narrow .int (.int r) = .int r → decode cX12_lies pc = .ok (.ireturn, 1) → P t1 pc lv [.int r])) (H310 : ∀ (a1 : Int32) (a3 : Int32) (a4 : Int32) (a5 : Int32) (a6 : Int32) (a7 : Int32) (a8 : Int32) (a9 : Int32) (s : vSt), r310 a1 a3 a4 a5 a6 a7 a8 a9 s = some (r, t1) → P s 310 [(0, .ref (ad 0)), (1, .int a1), (3, .int a3), (4, .int a4), (5, .int a5), (6, .int a6), (7, .int a7), (8, .int a8), (9, .int a9)] []) {a1 : Int32} {a3 : Int32} {a4 : Int32} {a5 : Int32} {a6 : Int32} {a7 : Int32} {a8 : Int32} {a9 : Int32} {s : vSt} (h : gM_EachAddsALineModel_lies_389 N r310 a1 a3 a4 a5 a6 a7 a8 a9 s = some (r, t1)) : P s 389 [(0, .ref (ad 0)), (1, .int a1), (3, .int a3), (4, .int a4), (5, .int a5), (6, .int a6), (7, .int a7), (8, .int a8), (9, .int a9)] [] := by
  unfold gM_EachAddsALineModel_lies_389 at h
  refine v_iincN hX dX12_lies_389 (j := 8) rfl (c := 1) (by decide) (by decide) h (fun v1 h => ?_)
  refine v_show (lv' := [(9, .int v1), (0, .ref (ad 0)), (1, .int a1), (3, .int a3), (4, .int a4), (5, .int a5), (6, .int a6), (7, .int a7), (8, .int a8)]) hX rfl ?_
  refine v_goto (tgt := 310) hX dX12_lies_392 (by decide) ?_
  exact v_sub hX [1, 2, 3, 4, 5, 6, 7, 8, 0] (by rfl) (H310 _ _ _ _ _ _ _ _ _ h)
noncomputable def gM_EachAddsALineModel_lies_385 (N : Nat) (r310 : Int32 → Int32 → Int32 → Int32 → Int32 → Int32 → Int32 → Int32 → vSt → Option (Int32 × vSt)) (a1 : Int32) (a3 : Int32) (a4 : Int32) (a5 : Int32) (a6 : Int32) (a7 : Int32) (a9 : Int32) (s : vSt) : Option (Int32 × vSt) :=
  gM_EachAddsALineModel_lies_389 N r310 a1 a3 a4 a5 a6 a7 a9 a9 s
set_option maxRecDepth 4000 in
theorem wM_EachAddsALineModel_lies_385 {P : vP} {l : Launch} {ad : Nat → Nat} {N : Nat} {r310 : Int32 → Int32 → Int32 → Int32 → Int32 → Int32 → Int32 → Int32 → vSt → Option (Int32 × vSt)} {r : Int32} {t1 : vSt} (hX : vOK P l shM ad (vR 198 4608) cX12_lies RX12 10) (hR : (∀ pc lv, narrow .int (.int r) = .int r → decode cX12_lies pc = .ok (.ireturn, 1) → P t1 pc lv [.int r])) (H310 : ∀ (a1 : Int32) (a3 : Int32) (a4 : Int32) (a5 : Int32) (a6 : Int32) (a7 : Int32) (a8 : Int32) (a9 : Int32) (s : vSt), r310 a1 a3 a4 a5 a6 a7 a8 a9 s = some (r, t1) → P s 310 [(0, .ref (ad 0)), (1, .int a1), (3, .int a3), (4, .int a4), (5, .int a5), (6, .int a6), (7, .int a7), (8, .int a8), (9, .int a9)] []) {a1 : Int32} {a3 : Int32} {a4 : Int32} {a5 : Int32} {a6 : Int32} {a7 : Int32} {a9 : Int32} {s : vSt} (h : gM_EachAddsALineModel_lies_385 N r310 a1 a3 a4 a5 a6 a7 a9 s = some (r, t1)) : P s 385 [(0, .ref (ad 0)), (1, .int a1), (3, .int a3), (4, .int a4), (5, .int a5), (6, .int a6), (7, .int a7), (9, .int a9)] [] := by
  unfold gM_EachAddsALineModel_lies_385 at h
  refine v_iload hX dX12_lies_385 7 rfl ?_
  refine v_istore (lv' := [(8, .int a9), (0, .ref (ad 0)), (1, .int a1), (3, .int a3), (4, .int a4), (5, .int a5), (6, .int a6), (7, .int a7), (9, .int a9)]) hX dX12_lies_387 (by decide) rfl ?_
  exact v_sub hX [1, 2, 3, 4, 5, 6, 7, 0, 8] (by rfl) (wM_EachAddsALineModel_lies_389 hX hR H310 h)
noncomputable def gM_EachAddsALineModel_lies_350 (N : Nat) (r310 : Int32 → Int32 → Int32 → Int32 → Int32 → Int32 → Int32 → Int32 → vSt → Option (Int32 × vSt)) (a1 : Int32) (a3 : Int32) (a4 : Int32) (a5 : Int32) (a6 : Int32) (a7 : Int32) (a8 : Int32) (a9 : Int32) (s : vSt) : Option (Int32 × vSt) :=
  (ld s 19 480 (((40 : Int32) * a7) + a9)).bind fun v1 =>
  if v1 = a6 then
    if a8 = (-1) then
      gM_EachAddsALineModel_lies_385 N r310 a1 a3 a4 a5 a6 a7 a9 s
    else
      if (a8 / 2) ≤ (a9 / 2) then
        gM_EachAddsALineModel_lies_389 N r310 a1 a3 a4 a5 a6 a7 a8 a9 s
      else
        gM_EachAddsALineModel_lies_385 N r310 a1 a3 a4 a5 a6 a7 a9 s
  else
    gM_EachAddsALineModel_lies_389 N r310 a1 a3 a4 a5 a6 a7 a8 a9 s
set_option maxRecDepth 4000 in
theorem wM_EachAddsALineModel_lies_350 {P : vP} {l : Launch} {ad : Nat → Nat} {N : Nat} {r310 : Int32 → Int32 → Int32 → Int32 → Int32 → Int32 → Int32 → Int32 → vSt → Option (Int32 × vSt)} {r : Int32} {t1 : vSt} (hX : vOK P l shM ad (vR 198 4608) cX12_lies RX12 10) (hR : (∀ pc lv, narrow .int (.int r) = .int r → decode cX12_lies pc = .ok (.ireturn, 1) → P t1 pc lv [.int r])) (H310 : ∀ (a1 : Int32) (a3 : Int32) (a4 : Int32) (a5 : Int32) (a6 : Int32) (a7 : Int32) (a8 : Int32) (a9 : Int32) (s : vSt), r310 a1 a3 a4 a5 a6 a7 a8 a9 s = some (r, t1) → P s 310 [(0, .ref (ad 0)), (1, .int a1), (3, .int a3), (4, .int a4), (5, .int a5), (6, .int a6), (7, .int a7), (8, .int a8), (9, .int a9)] []) {a1 : Int32} {a3 : Int32} {a4 : Int32} {a5 : Int32} {a6 : Int32} {a7 : Int32} {a8 : Int32} {a9 : Int32} {s : vSt} (h : gM_EachAddsALineModel_lies_350 N r310 a1 a3 a4 a5 a6 a7 a8 a9 s = some (r, t1)) : P s 350 [(0, .ref (ad 0)), (1, .int a1), (3, .int a3), (4, .int a4), (5, .int a5), (6, .int a6), (7, .int a7), (8, .int a8), (9, .int a9)] [] := by
  unfold gM_EachAddsALineModel_lies_350 at h
  refine v_aload_n hX dX12_lies_350 rfl 0 rfl ?_
  refine gfM_0_45 hX kf_12_80 dX12_lies_351 ?_
  refine v_bipush (v := 40) hX dX12_lies_354 (by decide) ?_
  refine v_iload hX dX12_lies_356 6 rfl ?_
  refine v_imul hX dX12_lies_358 ?_
  refine v_iload hX dX12_lies_359 8 rfl ?_
  refine v_iadd hX dX12_lies_361 ?_
  refine alM_19 hX dX12_lies_362 h (fun v1 h => ?_)
  refine v_iload hX dX12_lies_363 5 rfl ?_
  refine v_icmp_ne (tgt := 389) hX dX12_lies_365 (by decide) h (fun h => ?_) (fun h => ?_)
  · refine v_iload hX dX12_lies_368 7 rfl ?_
    refine v_iconst (v := (-1)) hX dX12_lies_370 (by decide) ?_
    refine v_icmp_eq (tgt := 385) hX dX12_lies_371 (by decide) h (fun h => ?_) (fun h => ?_)
    · exact v_sub hX [0, 1, 2, 3, 4, 5, 6, 8] (by rfl) (wM_EachAddsALineModel_lies_385 hX hR H310 h)
    · refine v_iload hX dX12_lies_374 8 rfl ?_
      refine v_iconst (v := 2) hX dX12_lies_376 (by decide) ?_
      refine v_idiv hX dX12_lies_377 (by decide) ?_
      refine v_iload hX dX12_lies_378 7 rfl ?_
      refine v_iconst (v := 2) hX dX12_lies_380 (by decide) ?_
      refine v_idiv hX dX12_lies_381 (by decide) ?_
      refine v_icmp_ge (tgt := 389) hX dX12_lies_382 (by decide) h (fun h => ?_) (fun h => ?_)
      · exact v_sub hX [0, 1, 2, 3, 4, 5, 6, 7, 8] (by rfl) (wM_EachAddsALineModel_lies_389 hX hR H310 h)
      · exact v_sub hX [0, 1, 2, 3, 4, 5, 6, 8] (by rfl) (wM_EachAddsALineModel_lies_385 hX hR H310 h)
  · exact v_sub hX [0, 1, 2, 3, 4, 5, 6, 7, 8] (by rfl) (wM_EachAddsALineModel_lies_389 hX hR H310 h)
noncomputable def gM_EachAddsALineModel_lies_422 (N : Nat) (r295 : Int32 → Int32 → Int32 → Int32 → Int32 → Int32 → vSt → Option (Int32 × vSt)) (a1 : Int32) (a3 : Int32) (a4 : Int32) (a7 : Int32) (a8 : Int32) (k0 : Int32) (k1 : Int32) (s : vSt) : Option (Int32 × vSt) :=
  (some (k0 - k1 : Int32)).bind fun v1 =>
  (some (a7 + 1 : Int32)).bind fun v2 =>
  r295 a1 a3 a4 a8 v1 v2 s
set_option maxRecDepth 4000 in
theorem wM_EachAddsALineModel_lies_422 {P : vP} {l : Launch} {ad : Nat → Nat} {N : Nat} {r295 : Int32 → Int32 → Int32 → Int32 → Int32 → Int32 → vSt → Option (Int32 × vSt)} {r : Int32} {t1 : vSt} (hX : vOK P l shM ad (vR 198 4608) cX12_lies RX12 10) (hR : (∀ pc lv, narrow .int (.int r) = .int r → decode cX12_lies pc = .ok (.ireturn, 1) → P t1 pc lv [.int r])) (H295 : ∀ (a1 : Int32) (a3 : Int32) (a4 : Int32) (a5 : Int32) (a6 : Int32) (a7 : Int32) (s : vSt), r295 a1 a3 a4 a5 a6 a7 s = some (r, t1) → P s 295 [(0, .ref (ad 0)), (1, .int a1), (3, .int a3), (4, .int a4), (5, .int a5), (6, .int a6), (7, .int a7)] []) {a1 : Int32} {a3 : Int32} {a4 : Int32} {a7 : Int32} {a8 : Int32} {k0 : Int32} {k1 : Int32} {s : vSt} (h : gM_EachAddsALineModel_lies_422 N r295 a1 a3 a4 a7 a8 k0 k1 s = some (r, t1)) : P s 422 [(0, .ref (ad 0)), (1, .int a1), (3, .int a3), (4, .int a4), (7, .int a7), (8, .int a8)] [.int k1, .int k0] := by
  unfold gM_EachAddsALineModel_lies_422 at h
  refine v_isub hX dX12_lies_422 ?_
  refine v_nmI hX h (fun v1 h => ?_)
  refine v_istore (lv' := [(6, .int v1), (0, .ref (ad 0)), (1, .int a1), (3, .int a3), (4, .int a4), (7, .int a7), (8, .int a8)]) hX dX12_lies_423 (by decide) rfl ?_
  refine v_iload hX dX12_lies_425 6 rfl ?_
  refine v_istore (lv' := [(5, .int a8), (6, .int v1), (0, .ref (ad 0)), (1, .int a1), (3, .int a3), (4, .int a4), (7, .int a7), (8, .int a8)]) hX dX12_lies_427 (by decide) rfl ?_
  refine v_iincN hX dX12_lies_429 (j := 6) rfl (c := 1) (by decide) (by decide) h (fun v2 h => ?_)
  refine v_show (lv' := [(7, .int v2), (5, .int a8), (6, .int v1), (0, .ref (ad 0)), (1, .int a1), (3, .int a3), (4, .int a4), (8, .int a8)]) hX rfl ?_
  refine v_goto (tgt := 295) hX dX12_lies_432 (by decide) ?_
  exact v_sub hX [3, 4, 5, 6, 1, 2, 0] (by rfl) (H295 _ _ _ _ _ _ _ h)
noncomputable def gM_EachAddsALineModel_lies_310 (N : Nat) (r295 : Int32 → Int32 → Int32 → Int32 → Int32 → Int32 → vSt → Option (Int32 × vSt)) : Nat → Int32 → Int32 → Int32 → Int32 → Int32 → Int32 → Int32 → Int32 → vSt → Option (Int32 × vSt)
  | 0, _, _, _, _, _, _, _, _, _ => none
  | n + 1, a1, a3, a4, a5, a6, a7, a8, a9, s =>
    if (s.1 0 30) ≤ a9 then
      (fM_EachAddsALineModel_tell N (a8 / 2) s).bind fun z1 =>
      (fM_EachAddsALineModel_isSo N a8 0 a7 z1).bind fun p2 =>
      if p2.1 = 0 then
        gM_EachAddsALineModel_lies_422 N r295 a1 a3 a4 a7 a8 a6 1 p2.2
      else
        gM_EachAddsALineModel_lies_422 N r295 a1 a3 a4 a7 a8 a6 0 p2.2
    else
      if a5 = (-1) then
        (fM_EachAddsALineModel_begins N a9 a1 a3 s).bind fun p3 =>
        if p3.1 = 0 then
          gM_EachAddsALineModel_lies_389 N (gM_EachAddsALineModel_lies_310 N r295 n) a1 a3 a4 a5 a6 a7 a8 a9 p3.2
        else
          gM_EachAddsALineModel_lies_350 N (gM_EachAddsALineModel_lies_310 N r295 n) a1 a3 a4 a5 a6 a7 a8 a9 p3.2
      else
        (fM_EachAddsALineModel_follows N a9 a5 s).bind fun p4 =>
        if p4.1 = 0 then
          gM_EachAddsALineModel_lies_389 N (gM_EachAddsALineModel_lies_310 N r295 n) a1 a3 a4 a5 a6 a7 a8 a9 p4.2
        else
          gM_EachAddsALineModel_lies_350 N (gM_EachAddsALineModel_lies_310 N r295 n) a1 a3 a4 a5 a6 a7 a8 a9 p4.2
set_option maxRecDepth 4000 in
theorem wM_EachAddsALineModel_lies_310 {P : vP} {l : Launch} {ad : Nat → Nat} {N : Nat} {r295 : Int32 → Int32 → Int32 → Int32 → Int32 → Int32 → vSt → Option (Int32 × vSt)} {r : Int32} {t1 : vSt} (hX : vOK P l shM ad (vR 198 4608) cX12_lies RX12 10) (hR : (∀ pc lv, narrow .int (.int r) = .int r → decode cX12_lies pc = .ok (.ireturn, 1) → P t1 pc lv [.int r])) (H295 : ∀ (a1 : Int32) (a3 : Int32) (a4 : Int32) (a5 : Int32) (a6 : Int32) (a7 : Int32) (s : vSt), r295 a1 a3 a4 a5 a6 a7 s = some (r, t1) → P s 295 [(0, .ref (ad 0)), (1, .int a1), (3, .int a3), (4, .int a4), (5, .int a5), (6, .int a6), (7, .int a7)] []) : ∀ (n : Nat) (a1 : Int32) (a3 : Int32) (a4 : Int32) (a5 : Int32) (a6 : Int32) (a7 : Int32) (a8 : Int32) (a9 : Int32) (s : vSt), gM_EachAddsALineModel_lies_310 N r295 n a1 a3 a4 a5 a6 a7 a8 a9 s = some (r, t1) → P s 310 [(0, .ref (ad 0)), (1, .int a1), (3, .int a3), (4, .int a4), (5, .int a5), (6, .int a6), (7, .int a7), (8, .int a8), (9, .int a9)] [] := by
  intro n
  induction n with
  | zero => intro a1 a3 a4 a5 a6 a7 a8 a9 s h; cases h
  | succ n ih =>
    intro a1 a3 a4 a5 a6 a7 a8 a9 s h
    unfold gM_EachAddsALineModel_lies_310 at h
    refine v_iload hX dX12_lies_310 8 rfl ?_
    refine v_aload_n hX dX12_lies_312 rfl 0 rfl ?_
    refine gfM_0_30 hX kf_12_262 dX12_lies_313 ?_
    refine v_icmp_ge (tgt := 395) hX dX12_lies_316 (by decide) h (fun h => ?_) (fun h => ?_)
    · refine v_aload_n hX dX12_lies_395 rfl 0 rfl ?_
      refine v_iload hX dX12_lies_396 7 rfl ?_
      refine v_iconst (v := 2) hX dX12_lies_398 (by decide) ?_
      refine v_idiv hX dX12_lies_399 (by decide) ?_
      obtain ⟨z1, hz1, h⟩ := bsome h
      refine v_callVV (o := 0) hX (mM_EachAddsALineModel_tell hz1 l ad) kM_X12_tell kV_X12_tell km_12_250 (by decide) (fun _ => rfl) rfl rfl rfl (Nat.le_of_ble_eq_true rfl) (by decide) dX12_lies_400 ?_
      refine v_iload hX dX12_lies_403 5 rfl ?_
      refine v_aload_n hX dX12_lies_405 rfl 0 rfl ?_
      refine v_iload hX dX12_lies_406 7 rfl ?_
      refine v_iconst (v := 0) hX dX12_lies_408 (by decide) ?_
      refine v_iload hX dX12_lies_409 6 rfl ?_
      obtain ⟨p2, hp2, h⟩ := bsome h
      refine v_callVI (o := 0) hX (mM_EachAddsALineModel_isSo hp2 l ad) kM_X12_isSo kV_X12_isSo km_12_317 (by decide) (fun _ => rfl) rfl rfl rfl (Nat.le_of_ble_eq_true rfl) (by decide) dX12_lies_411 ?_
      refine v_if_eq (tgt := 421) hX dX12_lies_414 (by decide) h (fun h => ?_) (fun h => ?_)
      · refine v_iconst (v := 1) hX dX12_lies_421 (by decide) ?_
        exact v_sub hX [0, 1, 2, 3, 6, 7] (by rfl) (wM_EachAddsALineModel_lies_422 hX hR H295 h)
      · refine v_iconst (v := 0) hX dX12_lies_417 (by decide) ?_
        refine v_goto (tgt := 422) hX dX12_lies_418 (by decide) ?_
        exact v_sub hX [0, 1, 2, 3, 6, 7] (by rfl) (wM_EachAddsALineModel_lies_422 hX hR H295 h)
    · refine v_iload hX dX12_lies_319 4 rfl ?_
      refine v_iconst (v := (-1)) hX dX12_lies_321 (by decide) ?_
      refine v_icmp_ne (tgt := 339) hX dX12_lies_322 (by decide) h (fun h => ?_) (fun h => ?_)
      · refine v_aload_n hX dX12_lies_325 rfl 0 rfl ?_
        refine v_iload hX dX12_lies_326 8 rfl ?_
        refine v_iload_n hX dX12_lies_328 rfl 1 rfl ?_
        refine v_iload_n hX dX12_lies_329 rfl 2 rfl ?_
        obtain ⟨p3, hp3, h⟩ := bsome h
        refine v_callVI (o := 0) hX (mM_EachAddsALineModel_begins hp3 l ad) kM_X12_begins kV_X12_begins km_12_291 (by decide) (fun _ => rfl) rfl rfl rfl (Nat.le_of_ble_eq_true rfl) (by decide) dX12_lies_330 ?_
        refine v_if_eq (tgt := 389) hX dX12_lies_333 (by decide) h (fun h => ?_) (fun h => ?_)
        · exact v_sub hX [0, 1, 2, 3, 4, 5, 6, 7, 8] (by rfl) (wM_EachAddsALineModel_lies_389 hX hR ih h)
        · refine v_goto (tgt := 350) hX dX12_lies_336 (by decide) ?_
          exact v_sub hX [0, 1, 2, 3, 4, 5, 6, 7, 8] (by rfl) (wM_EachAddsALineModel_lies_350 hX hR ih h)
      · refine v_aload_n hX dX12_lies_339 rfl 0 rfl ?_
        refine v_iload hX dX12_lies_340 8 rfl ?_
        refine v_iload hX dX12_lies_342 4 rfl ?_
        obtain ⟨p4, hp4, h⟩ := bsome h
        refine v_callVI (o := 0) hX (mM_EachAddsALineModel_follows hp4 l ad) kM_X12_follows kV_X12_follows km_12_280 (by decide) (fun _ => rfl) rfl rfl rfl (Nat.le_of_ble_eq_true rfl) (by decide) dX12_lies_344 ?_
        refine v_if_eq (tgt := 389) hX dX12_lies_347 (by decide) h (fun h => ?_) (fun h => ?_)
        · exact v_sub hX [0, 1, 2, 3, 4, 5, 6, 7, 8] (by rfl) (wM_EachAddsALineModel_lies_389 hX hR ih h)
        · exact v_sub hX [0, 1, 2, 3, 4, 5, 6, 7, 8] (by rfl) (wM_EachAddsALineModel_lies_350 hX hR ih h)
noncomputable def gM_EachAddsALineModel_lies_295 (N : Nat)  : Nat → Int32 → Int32 → Int32 → Int32 → Int32 → Int32 → vSt → Option (Int32 × vSt)
  | 0, _, _, _, _, _, _, _ => none
  | n + 1, a1, a3, a4, a5, a6, a7, s =>
    if (s.1 0 40) ≤ a7 then
      some (a4, s)
    else
      (some ((-1) : Int32)).bind fun v1 =>
      gM_EachAddsALineModel_lies_310 N (gM_EachAddsALineModel_lies_295 N n) N a1 a3 a4 a5 a6 a7 v1 0 s
set_option maxRecDepth 4000 in
theorem wM_EachAddsALineModel_lies_295 {P : vP} {l : Launch} {ad : Nat → Nat} {N : Nat} {r : Int32} {t1 : vSt} (hX : vOK P l shM ad (vR 198 4608) cX12_lies RX12 10) (hR : (∀ pc lv, narrow .int (.int r) = .int r → decode cX12_lies pc = .ok (.ireturn, 1) → P t1 pc lv [.int r]))  : ∀ (n : Nat) (a1 : Int32) (a3 : Int32) (a4 : Int32) (a5 : Int32) (a6 : Int32) (a7 : Int32) (s : vSt), gM_EachAddsALineModel_lies_295 N n a1 a3 a4 a5 a6 a7 s = some (r, t1) → P s 295 [(0, .ref (ad 0)), (1, .int a1), (3, .int a3), (4, .int a4), (5, .int a5), (6, .int a6), (7, .int a7)] [] := by
  intro n
  induction n with
  | zero => intro a1 a3 a4 a5 a6 a7 s h; cases h
  | succ n ih =>
    intro a1 a3 a4 a5 a6 a7 s h
    unfold gM_EachAddsALineModel_lies_295 at h
    refine v_iload hX dX12_lies_295 6 rfl ?_
    refine v_aload_n hX dX12_lies_297 rfl 0 rfl ?_
    refine gfM_0_40 hX kf_12_314 dX12_lies_298 ?_
    refine v_icmp_ge (tgt := 435) hX dX12_lies_301 (by decide) h (fun h => ?_) (fun h => ?_)
    · refine v_iload hX dX12_lies_435 3 rfl ?_
      exact v_retI hR h dX12_lies_437
    · refine v_iconst (v := (-1)) hX dX12_lies_304 (by decide) ?_
      refine v_nmI hX h (fun v1 h => ?_)
      refine v_istore (lv' := [(8, .int v1), (0, .ref (ad 0)), (1, .int a1), (3, .int a3), (4, .int a4), (5, .int a5), (6, .int a6), (7, .int a7)]) hX dX12_lies_305 (by decide) rfl ?_
      refine v_iconst (v := 0) hX dX12_lies_307 (by decide) ?_
      refine v_istore (lv' := [(9, .int 0), (8, .int v1), (0, .ref (ad 0)), (1, .int a1), (3, .int a3), (4, .int a4), (5, .int a5), (6, .int a6), (7, .int a7)]) hX dX12_lies_308 (by decide) rfl ?_
      exact v_sub hX [2, 3, 4, 5, 6, 7, 8, 1, 0] (by rfl) (wM_EachAddsALineModel_lies_310 hX hR ih N _ _ _ _ _ _ _ _ _ h)
noncomputable def gM_EachAddsALineModel_lies_227 (N : Nat)  : Nat → Int32 → Int32 → Int32 → Int32 → vSt → Option (Int32 × vSt)
  | 0, _, _, _, _, _ => none
  | n + 1, a1, a3, a4, a5, s =>
    if (s.1 0 30) ≤ a5 then
      if a4 < 1000000 then
        (some (s1 s 0 10 0)).bind fun z1 =>
        (some ((-1) : Int32)).bind fun v2 =>
        gM_EachAddsALineModel_lies_295 N N a1 a3 a4 v2 a4 1 z1
      else
        some ((-3), s)
    else
      (fM_EachAddsALineModel_begins N a5 a1 a3 s).bind fun p3 =>
      if p3.1 = 0 then
        gM_EachAddsALineModel_lies_264 N (gM_EachAddsALineModel_lies_227 N n) a1 a3 a4 a5 p3.2
      else
        (ld p3.2 19 480 ((40 : Int32) + a5)).bind fun v4 =>
        (some (if a4 > v4 then v4 else a4 : Int32)).bind fun v5 =>
        gM_EachAddsALineModel_lies_264 N (gM_EachAddsALineModel_lies_227 N n) a1 a3 v5 a5 p3.2
set_option maxRecDepth 4000 in
theorem wM_EachAddsALineModel_lies_227 {P : vP} {l : Launch} {ad : Nat → Nat} {N : Nat} {r : Int32} {t1 : vSt} (hX : vOK P l shM ad (vR 198 4608) cX12_lies RX12 10) (hR : (∀ pc lv, narrow .int (.int r) = .int r → decode cX12_lies pc = .ok (.ireturn, 1) → P t1 pc lv [.int r]))  : ∀ (n : Nat) (a1 : Int32) (a3 : Int32) (a4 : Int32) (a5 : Int32) (s : vSt), gM_EachAddsALineModel_lies_227 N n a1 a3 a4 a5 s = some (r, t1) → P s 227 [(0, .ref (ad 0)), (1, .int a1), (3, .int a3), (4, .int a4), (5, .int a5)] [] := by
  intro n
  induction n with
  | zero => intro a1 a3 a4 a5 s h; cases h
  | succ n ih =>
    intro a1 a3 a4 a5 s h
    unfold gM_EachAddsALineModel_lies_227 at h
    refine v_iload hX dX12_lies_227 4 rfl ?_
    refine v_aload_n hX dX12_lies_229 rfl 0 rfl ?_
    refine gfM_0_30 hX kf_12_262 dX12_lies_230 ?_
    refine v_icmp_ge (tgt := 270) hX dX12_lies_233 (by decide) h (fun h => ?_) (fun h => ?_)
    · refine v_iload hX dX12_lies_270 3 rfl ?_
      refine v_ldc hX kc_12_50 dX12_lies_272 ?_
      refine v_icmp_lt (tgt := 280) hX dX12_lies_274 (by decide) h (fun h => ?_) (fun h => ?_)
      · refine v_aload_n hX dX12_lies_280 rfl 0 rfl ?_
        refine v_iconst (v := 0) hX dX12_lies_281 (by decide) ?_
        refine pfM_0_10 hX kf_12_99 dX12_lies_282 h (fun z1 h => ?_)
        refine v_iconst (v := (-1)) hX dX12_lies_285 (by decide) ?_
        refine v_nmI hX h (fun v2 h => ?_)
        refine v_istore (lv' := [(5, .int v2), (0, .ref (ad 0)), (1, .int a1), (3, .int a3), (4, .int a4)]) hX dX12_lies_286 (by decide) rfl ?_
        refine v_iload hX dX12_lies_288 4 rfl ?_
        refine v_istore (lv' := [(6, .int a4), (5, .int v2), (0, .ref (ad 0)), (1, .int a1), (3, .int a3), (4, .int a4)]) hX dX12_lies_290 (by decide) rfl ?_
        refine v_iconst (v := 1) hX dX12_lies_292 (by decide) ?_
        refine v_istore (lv' := [(7, .int 1), (6, .int a4), (5, .int v2), (0, .ref (ad 0)), (1, .int a1), (3, .int a3), (4, .int a4)]) hX dX12_lies_293 (by decide) rfl ?_
        exact v_sub hX [3, 4, 5, 6, 2, 1, 0] (by rfl) (wM_EachAddsALineModel_lies_295 hX hR  N _ _ _ _ _ _ _ h)
      · refine v_bipush (v := (-3)) hX dX12_lies_277 (by decide) ?_
        exact v_retI hR h dX12_lies_279
    · refine v_aload_n hX dX12_lies_236 rfl 0 rfl ?_
      refine v_iload hX dX12_lies_237 4 rfl ?_
      refine v_iload_n hX dX12_lies_239 rfl 1 rfl ?_
      refine v_iload_n hX dX12_lies_240 rfl 2 rfl ?_
      obtain ⟨p3, hp3, h⟩ := bsome h
      refine v_callVI (o := 0) hX (mM_EachAddsALineModel_begins hp3 l ad) kM_X12_begins kV_X12_begins km_12_291 (by decide) (fun _ => rfl) rfl rfl rfl (Nat.le_of_ble_eq_true rfl) (by decide) dX12_lies_241 ?_
      refine v_if_eq (tgt := 264) hX dX12_lies_244 (by decide) h (fun h => ?_) (fun h => ?_)
      · exact v_sub hX [0, 1, 2, 3, 4] (by rfl) (wM_EachAddsALineModel_lies_264 hX hR ih h)
      · refine v_iload hX dX12_lies_247 3 rfl ?_
        refine v_aload_n hX dX12_lies_249 rfl 0 rfl ?_
        refine gfM_0_45 hX kf_12_80 dX12_lies_250 ?_
        refine v_bipush (v := 40) hX dX12_lies_253 (by decide) ?_
        refine v_iload hX dX12_lies_255 4 rfl ?_
        refine v_iadd hX dX12_lies_257 ?_
        refine alM_19 hX dX12_lies_258 h (fun v4 h => ?_)
        refine v_min hX km_12_207 kS_J9_min_7cf53 kI_Math kC_min (Nat.le_of_ble_eq_true rfl) (Nat.le_of_ble_eq_true rfl) dX12_lies_259 ?_
        refine v_nmI hX h (fun v5 h => ?_)
        refine v_istore (lv' := [(4, .int v5), (0, .ref (ad 0)), (1, .int a1), (3, .int a3), (5, .int a5)]) hX dX12_lies_262 (by decide) rfl ?_
        exact v_sub hX [1, 2, 3, 0, 4] (by rfl) (wM_EachAddsALineModel_lies_264 hX hR ih h)
noncomputable def gM_EachAddsALineModel_lies_62 (N : Nat)  : Nat → Int32 → Int32 → Int32 → Int32 → vSt → Option (Int32 × vSt)
  | 0, _, _, _, _, _ => none
  | n + 1, a1, a2, a3, a4, s =>
    if a4 ≤ 0 then
      gM_EachAddsALineModel_lies_227 N N a1 a3 1000000 0 s
    else
      gM_EachAddsALineModel_lies_70 N (gM_EachAddsALineModel_lies_62 N n) N a1 a2 a3 a4 0 s
set_option maxRecDepth 4000 in
theorem wM_EachAddsALineModel_lies_62 {P : vP} {l : Launch} {ad : Nat → Nat} {N : Nat} {r : Int32} {t1 : vSt} (hX : vOK P l shM ad (vR 198 4608) cX12_lies RX12 10) (hR : (∀ pc lv, narrow .int (.int r) = .int r → decode cX12_lies pc = .ok (.ireturn, 1) → P t1 pc lv [.int r]))  : ∀ (n : Nat) (a1 : Int32) (a2 : Int32) (a3 : Int32) (a4 : Int32) (s : vSt), gM_EachAddsALineModel_lies_62 N n a1 a2 a3 a4 s = some (r, t1) → P s 62 [(0, .ref (ad 0)), (1, .int a1), (2, .int a2), (3, .int a3), (4, .int a4)] [] := by
  intro n
  induction n with
  | zero => intro a1 a2 a3 a4 s h; cases h
  | succ n ih =>
    intro a1 a2 a3 a4 s h
    unfold gM_EachAddsALineModel_lies_62 at h
    refine v_iload hX dX12_lies_62 4 rfl ?_
    refine v_if_le (tgt := 220) hX dX12_lies_64 (by decide) h (fun h => ?_) (fun h => ?_)
    · refine v_ldc hX kc_12_50 dX12_lies_220 ?_
      refine v_istore (lv' := [(4, .int 1000000), (0, .ref (ad 0)), (1, .int a1), (2, .int a2), (3, .int a3)]) hX dX12_lies_222 (by decide) rfl ?_
      refine v_iconst (v := 0) hX dX12_lies_224 (by decide) ?_
      refine v_istore (lv' := [(5, .int 0), (4, .int 1000000), (0, .ref (ad 0)), (1, .int a1), (2, .int a2), (3, .int a3)]) hX dX12_lies_225 (by decide) rfl ?_
      exact v_sub hX [2, 3, 5, 1, 0] (by rfl) (wM_EachAddsALineModel_lies_227 hX hR  N _ _ _ _ _ h)
    · refine v_iconst (v := 0) hX dX12_lies_67 (by decide) ?_
      refine v_istore (lv' := [(5, .int 0), (0, .ref (ad 0)), (1, .int a1), (2, .int a2), (3, .int a3), (4, .int a4)]) hX dX12_lies_68 (by decide) rfl ?_
      exact v_sub hX [1, 2, 3, 4, 5, 0] (by rfl) (wM_EachAddsALineModel_lies_70 hX hR ih N _ _ _ _ _ _ h)
noncomputable def gM_EachAddsALineModel_lies_0 (N : Nat)  (a1 : Int32) (a2 : Int32) (a3 : Int32) (s : vSt) : Option (Int32 × vSt) :=
  (some (s1 s 0 11 0)).bind fun z1 =>
  (fM_EachAddsALineModel_isTrip N a1 a2 a3 z1).bind fun p2 =>
  if p2.1 = 0 then
    some ((-1), p2.2)
  else
    if (p2.2.1 0 40) = 0 then
      some ((-2), p2.2)
    else
      if (p2.2.1 0 40) = 1 then
        if a1 = a2 then
          (some (s1 p2.2 0 10 0)).bind fun z3 =>
          some (0, z3)
        else
          some ((-3), p2.2)
      else
        (fM_EachAddsALineModel_findOrder N p2.2).bind fun z4 =>
        (some ((z4.1 0 40) - 1 : Int32)).bind fun v5 =>
        gM_EachAddsALineModel_lies_62 N N a1 a2 a3 v5 z4
set_option maxRecDepth 4000 in
theorem wM_EachAddsALineModel_lies_0 {P : vP} {l : Launch} {ad : Nat → Nat} {N : Nat} {r : Int32} {t1 : vSt} (hX : vOK P l shM ad (vR 198 4608) cX12_lies RX12 10) (hR : (∀ pc lv, narrow .int (.int r) = .int r → decode cX12_lies pc = .ok (.ireturn, 1) → P t1 pc lv [.int r]))  {a1 : Int32} {a2 : Int32} {a3 : Int32} {s : vSt} (h : gM_EachAddsALineModel_lies_0 N a1 a2 a3 s = some (r, t1)) : P s 0 [(0, .ref (ad 0)), (1, .int a1), (2, .int a2), (3, .int a3)] [] := by
  unfold gM_EachAddsALineModel_lies_0 at h
  refine v_aload_n hX dX12_lies_0 rfl 0 rfl ?_
  refine v_iconst (v := 0) hX dX12_lies_1 (by decide) ?_
  refine pfM_0_11 hX kf_12_96 dX12_lies_2 h (fun z1 h => ?_)
  refine v_aload_n hX dX12_lies_5 rfl 0 rfl ?_
  refine v_iload_n hX dX12_lies_6 rfl 1 rfl ?_
  refine v_iload_n hX dX12_lies_7 rfl 2 rfl ?_
  refine v_iload_n hX dX12_lies_8 rfl 3 rfl ?_
  obtain ⟨p2, hp2, h⟩ := bsome h
  refine v_callVI (o := 0) hX (mM_EachAddsALineModel_isTrip hp2 l ad) kM_X12_isTrip kV_X12_isTrip km_12_294 (by decide) (fun _ => rfl) rfl rfl rfl (Nat.le_of_ble_eq_true rfl) (by decide) dX12_lies_9 ?_
  refine v_if_ne (tgt := 17) hX dX12_lies_12 (by decide) h (fun h => ?_) (fun h => ?_)
  · refine v_iconst (v := (-1)) hX dX12_lies_15 (by decide) ?_
    exact v_retI hR h dX12_lies_16
  · refine v_aload_n hX dX12_lies_17 rfl 0 rfl ?_
    refine gfM_0_40 hX kf_12_314 dX12_lies_18 ?_
    refine v_if_ne (tgt := 27) hX dX12_lies_21 (by decide) h (fun h => ?_) (fun h => ?_)
    · refine v_bipush (v := (-2)) hX dX12_lies_24 (by decide) ?_
      exact v_retI hR h dX12_lies_26
    · refine v_aload_n hX dX12_lies_27 rfl 0 rfl ?_
      refine gfM_0_40 hX kf_12_314 dX12_lies_28 ?_
      refine v_iconst (v := 1) hX dX12_lies_31 (by decide) ?_
      refine v_icmp_ne (tgt := 50) hX dX12_lies_32 (by decide) h (fun h => ?_) (fun h => ?_)
      · refine v_iload_n hX dX12_lies_35 rfl 1 rfl ?_
        refine v_iload_n hX dX12_lies_36 rfl 2 rfl ?_
        refine v_icmp_eq (tgt := 43) hX dX12_lies_37 (by decide) h (fun h => ?_) (fun h => ?_)
        · refine v_aload_n hX dX12_lies_43 rfl 0 rfl ?_
          refine v_iconst (v := 0) hX dX12_lies_44 (by decide) ?_
          refine pfM_0_10 hX kf_12_99 dX12_lies_45 h (fun z3 h => ?_)
          refine v_iconst (v := 0) hX dX12_lies_48 (by decide) ?_
          exact v_retI hR h dX12_lies_49
        · refine v_bipush (v := (-3)) hX dX12_lies_40 (by decide) ?_
          exact v_retI hR h dX12_lies_42
      · refine v_aload_n hX dX12_lies_50 rfl 0 rfl ?_
        obtain ⟨z4, hz4, h⟩ := bsome h
        refine v_callVV (o := 0) hX (mM_EachAddsALineModel_findOrder hz4 l ad) kM_X12_findOrder kV_X12_findOrder km_12_271 (by decide) (fun _ => rfl) rfl rfl rfl (Nat.le_of_ble_eq_true rfl) (by decide) dX12_lies_51 ?_
        refine v_aload_n hX dX12_lies_54 rfl 0 rfl ?_
        refine gfM_0_40 hX kf_12_314 dX12_lies_55 ?_
        refine v_iconst (v := 1) hX dX12_lies_58 (by decide) ?_
        refine v_isub hX dX12_lies_59 ?_
        refine v_nmI hX h (fun v5 h => ?_)
        refine v_istore (lv' := [(4, .int v5), (0, .ref (ad 0)), (1, .int a1), (2, .int a2), (3, .int a3)]) hX dX12_lies_60 (by decide) rfl ?_
        exact v_sub hX [1, 2, 3, 4, 0] (by rfl) (wM_EachAddsALineModel_lies_62 hX hR  N _ _ _ _ _ h)
noncomputable def fM_EachAddsALineModel_lies (N : Nat) (a1 : Int32) (a2 : Int32) (a3 : Int32) (s : vSt) : Option (Int32 × vSt) := gM_EachAddsALineModel_lies_0 N a1 a2 a3 s
theorem mM_EachAddsALineModel_lies {N : Nat} {a1 : Int32} {a2 : Int32} {a3 : Int32} {s : vSt} {r : Int32} {t1 : vSt} (h : fM_EachAddsALineModel_lies N a1 a2 a3 s = some (r, t1)) (l : Launch) (ad : Nat → Nat) : vMI l shM ad yX12_lies cX12_lies 10 .int 198 4608 s [.ref (ad 0), .int a1, .int a2, .int a3] r t1 :=
  vMI_of (by decide +kernel) (Nat.le_of_ble_eq_true rfl) (fun P hX hR => wM_EachAddsALineModel_lies_0 hX hR h)
