theorem km_L_100 : Cond.methodLink R_law 100 yX12_read ∈ vT := vm7 139 (by decide +kernel) (by decide +kernel)
theorem km_L_101 : Cond.methodLink R_law 101 yX11_soonest ∈ vT := vm3 218 (by decide +kernel) (by decide +kernel)
theorem km_L_104 : Cond.methodLink R_law 104 yX12_soonest ∈ vT := vm7 143 (by decide +kernel) (by decide +kernel)
theorem km_L_105 : Cond.methodLink R_law 105 yX11_latest ∈ vT := vm4 53 (by decide +kernel) (by decide +kernel)
theorem km_L_108 : Cond.methodLink R_law 108 yX12_latest ∈ vT := vm7 187 (by decide +kernel) (by decide +kernel)
theorem km_L_109 : Cond.methodLink R_law 109 yX11_hands ∈ vT := vm4 63 (by decide +kernel) (by decide +kernel)
theorem km_L_112 : Cond.methodLink R_law 112 yX12_hands ∈ vT := vm7 195 (by decide +kernel) (by decide +kernel)
theorem km_L_113 : Cond.methodLink R_law 113 yX11_cheapest ∈ vT := vm4 67 (by decide +kernel) (by decide +kernel)
theorem km_L_116 : Cond.methodLink R_law 116 yX12_cheapest ∈ vT := vm7 199 (by decide +kernel) (by decide +kernel)
theorem km_L_117 : Cond.methodLink R_law 117 yX11_without ∈ vT := vm4 75 (by decide +kernel) (by decide +kernel)
theorem km_L_120 : Cond.methodLink R_law 120 yX12_without ∈ vT := vm7 203 (by decide +kernel) (by decide +kernel)
theorem km_L_121 : Cond.methodLink R_law 121 yX11_ways ∈ vT := vm4 83 (by decide +kernel) (by decide +kernel)
theorem km_L_125 : Cond.methodLink R_law 125 yX12_ways ∈ vT := vm7 207 (by decide +kernel) (by decide +kernel)
theorem km_L_126 : Cond.methodLink R_law 126 yX11_needs ∈ vT := vm4 100 (by decide +kernel) (by decide +kernel)
theorem km_L_129 : Cond.methodLink R_law 129 yX12_needs ∈ vT := vm7 220 (by decide +kernel) (by decide +kernel)
theorem km_L_130 : Cond.methodLink R_law 130 yX11_idle ∈ vT := vm4 109 (by decide +kernel) (by decide +kernel)
theorem km_L_133 : Cond.methodLink R_law 133 yX12_idle ∈ vT := vm7 224 (by decide +kernel) (by decide +kernel)
theorem km_L_134 : Cond.methodLink R_law 134 yX11_longest ∈ vT := vm4 118 (by decide +kernel) (by decide +kernel)
theorem km_L_137 : Cond.methodLink R_law 137 yX12_longest ∈ vT := vm7 228 (by decide +kernel) (by decide +kernel)
theorem km_L_138 : Cond.methodLink R_law 138 yX11_pairs ∈ vT := vm4 122 (by decide +kernel) (by decide +kernel)
theorem km_L_141 : Cond.methodLink R_law 141 yX12_pairs ∈ vT := vm7 232 (by decide +kernel) (by decide +kernel)
theorem km_L_142 : Cond.methodLink R_law 142 yX11_bargain ∈ vT := vm4 130 (by decide +kernel) (by decide +kernel)
theorem km_L_145 : Cond.methodLink R_law 145 yX12_bargain ∈ vT := vm7 236 (by decide +kernel) (by decide +kernel)
theorem km_L_146 : Cond.methodLink R_law 146 yX11_apart ∈ vT := vm4 131 (by decide +kernel) (by decide +kernel)
theorem km_L_149 : Cond.methodLink R_law 149 yX12_apart ∈ vT := vm8 0 (by decide +kernel) (by decide +kernel)
theorem km_L_15 : Cond.methodLink R_law 15 yX11_row ∈ vT := vm6 27 (by decide +kernel) (by decide +kernel)
theorem km_L_150 : Cond.methodLink R_law 150 yX11_far ∈ vT := vm4 143 (by decide +kernel) (by decide +kernel)
theorem km_L_153 : Cond.methodLink R_law 153 yX12_far ∈ vT := vm8 4 (by decide +kernel) (by decide +kernel)
theorem km_L_154 : Cond.methodLink R_law 154 yX11_worst ∈ vT := vm4 147 (by decide +kernel) (by decide +kernel)
theorem km_L_157 : Cond.methodLink R_law 157 yX12_worst ∈ vT := vm8 8 (by decide +kernel) (by decide +kernel)
theorem km_L_158 : Cond.methodLink R_law 158 yX11_way ∈ vT := vm4 155 (by decide +kernel) (by decide +kernel)
theorem km_L_161 : Cond.methodLink R_law 161 yX12_way ∈ vT := vm8 12 (by decide +kernel) (by decide +kernel)
theorem km_L_162 : Cond.methodLink R_law 162 yX11_tale ∈ vT := vm4 177 (by decide +kernel) (by decide +kernel)
theorem km_L_165 : Cond.methodLink R_law 165 yX12_tale ∈ vT := vm8 16 (by decide +kernel) (by decide +kernel)
theorem km_L_166 : Cond.methodLink R_law 166 yX11_check ∈ vT := vm4 186 (by decide +kernel) (by decide +kernel)
theorem km_L_169 : Cond.methodLink R_law 169 yX12_check ∈ vT := vm8 20 (by decide +kernel) (by decide +kernel)
theorem km_L_170 : Cond.methodLink R_law 170 yX11_copy ∈ vT := vm4 194 (by decide +kernel) (by decide +kernel)
theorem km_L_173 : Cond.methodLink R_law 173 yX12_copy ∈ vT := vm8 24 (by decide +kernel) (by decide +kernel)
theorem km_L_174 : Cond.methodLink R_law 174 yX11_fits ∈ vT := vm4 198 (by decide +kernel) (by decide +kernel)
theorem km_L_177 : Cond.methodLink R_law 177 yX12_fits ∈ vT := vm8 28 (by decide +kernel) (by decide +kernel)
theorem km_L_178 : Cond.methodLink R_law 178 yX11_sure ∈ vT := vm5 8 (by decide +kernel) (by decide +kernel)
theorem km_L_181 : Cond.methodLink R_law 181 yX12_sure ∈ vT := vm8 45 (by decide +kernel) (by decide +kernel)
theorem km_L_182 : Cond.methodLink R_law 182 yX11_writers ∈ vT := vm5 22 (by decide +kernel) (by decide +kernel)
theorem km_L_185 : Cond.methodLink R_law 185 yX12_writers ∈ vT := vm8 49 (by decide +kernel) (by decide +kernel)
theorem km_L_186 : Cond.methodLink R_law 186 yX11_missing ∈ vT := vm5 26 (by decide +kernel) (by decide +kernel)
theorem km_L_189 : Cond.methodLink R_law 189 yX12_missing ∈ vT := vm8 53 (by decide +kernel) (by decide +kernel)
theorem km_L_190 : Cond.methodLink R_law 190 yX11_lies ∈ vT := vm5 55 (by decide +kernel) (by decide +kernel)
theorem km_L_193 : Cond.methodLink R_law 193 yX12_lies ∈ vT := vm8 65 (by decide +kernel) (by decide +kernel)
theorem km_L_194 : Cond.methodLink R_law 194 yX11_lay ∈ vT := vm5 85 (by decide +kernel) (by decide +kernel)
theorem km_L_198 : Cond.methodLink R_law 198 yX12_lay ∈ vT := vm8 69 (by decide +kernel) (by decide +kernel)
theorem km_L_199 : Cond.methodLink R_law 199 yX11_copies ∈ vT := vm5 94 (by decide +kernel) (by decide +kernel)
theorem km_L_202 : Cond.methodLink R_law 202 yX12_copies ∈ vT := vm8 73 (by decide +kernel) (by decide +kernel)
theorem km_L_203 : Cond.methodLink R_law 203 yX11_when ∈ vT := vm5 108 (by decide +kernel) (by decide +kernel)
theorem km_L_206 : Cond.methodLink R_law 206 yX12_when ∈ vT := vm8 77 (by decide +kernel) (by decide +kernel)
theorem km_L_207 : Cond.methodLink R_law 207 yX11_answer ∈ vT := vm5 112 (by decide +kernel) (by decide +kernel)
theorem km_L_210 : Cond.methodLink R_law 210 yX12_answer ∈ vT := vm8 81 (by decide +kernel) (by decide +kernel)
theorem km_L_211 : Cond.methodLink R_law 211 yX11_ask ∈ vT := vm5 120 (by decide +kernel) (by decide +kernel)
theorem km_L_214 : Cond.methodLink R_law 214 yX12_ask ∈ vT := vm8 89 (by decide +kernel) (by decide +kernel)
theorem km_L_215 : Cond.methodLink R_law 215 yX11_gossip ∈ vT := vm5 125 (by decide +kernel) (by decide +kernel)
theorem km_L_218 : Cond.methodLink R_law 218 yX12_gossip ∈ vT := vm8 93 (by decide +kernel) (by decide +kernel)
theorem km_L_219 : Cond.methodLink R_law 219 yX11_postman ∈ vT := vm5 136 (by decide +kernel) (by decide +kernel)
theorem km_L_222 : Cond.methodLink R_law 222 yX12_postman ∈ vT := vm8 105 (by decide +kernel) (by decide +kernel)
theorem km_L_223 : Cond.methodLink R_law 223 yX11_heralds ∈ vT := vm5 146 (by decide +kernel) (by decide +kernel)
theorem km_L_226 : Cond.methodLink R_law 226 yX12_heralds ∈ vT := vm8 110 (by decide +kernel) (by decide +kernel)
theorem km_L_227 : Cond.methodLink R_law 227 yX11_keep ∈ vT := vm5 160 (by decide +kernel) (by decide +kernel)
theorem km_L_23 : Cond.methodLink R_law 23 yX11_sign ∈ vT := vm2 142 (by decide +kernel) (by decide +kernel)
theorem km_L_230 : Cond.methodLink R_law 230 yX12_keep ∈ vT := vm8 114 (by decide +kernel) (by decide +kernel)
theorem km_L_231 : Cond.methodLink R_law 231 yX11_again ∈ vT := vm5 173 (by decide +kernel) (by decide +kernel)
theorem km_L_234 : Cond.methodLink R_law 234 yX12_again ∈ vT := vm8 118 (by decide +kernel) (by decide +kernel)
theorem km_L_235 : Cond.methodLink R_law 235 yX11_count ∈ vT := vm5 181 (by decide +kernel) (by decide +kernel)
theorem km_L_238 : Cond.methodLink R_law 238 yX12_count ∈ vT := vm8 122 (by decide +kernel) (by decide +kernel)
theorem km_L_239 : Cond.methodLink R_law 239 yL_row ∈ vT := vm6 24 (by decide +kernel) (by decide +kernel)
theorem km_L_242 : Cond.methodLink R_law 242 yX12_row ∈ vT := vm8 126 (by decide +kernel) (by decide +kernel)
theorem km_L_26 : Cond.methodLink R_law 26 yX12_sign ∈ vT := vm6 197 (by decide +kernel) (by decide +kernel)
theorem km_L_27 : Cond.methodLink R_law 27 yX11_end ∈ vT := vm2 150 (by decide +kernel) (by decide +kernel)
theorem km_L_31 : Cond.methodLink R_law 31 yX12_end ∈ vT := vm6 201 (by decide +kernel) (by decide +kernel)
theorem km_L_32 : Cond.methodLink R_law 32 yX11_roads ∈ vT := vm2 158 (by decide +kernel) (by decide +kernel)
theorem km_L_36 : Cond.methodLink R_law 36 yX12_roads ∈ vT := vm6 208 (by decide +kernel) (by decide +kernel)
theorem km_L_37 : Cond.methodLink R_law 37 yX11_rule ∈ vT := vm2 217 (by decide +kernel) (by decide +kernel)
theorem km_L_40 : Cond.methodLink R_law 40 yX12_rule ∈ vT := vm7 0 (by decide +kernel) (by decide +kernel)
theorem km_L_41 : Cond.methodLink R_law 41 yX11_reads ∈ vT := vm3 29 (by decide +kernel) (by decide +kernel)
theorem km_L_44 : Cond.methodLink R_law 44 yX12_reads ∈ vT := vm7 20 (by decide +kernel) (by decide +kernel)
theorem km_L_45 : Cond.methodLink R_law 45 yL_meeting ∈ vT := vm5 189 (by decide +kernel) (by decide +kernel)
theorem km_L_50 : Cond.methodLink R_law 50 yX12_meeting ∈ vT := vm7 28 (by decide +kernel) (by decide +kernel)
theorem km_L_51 : Cond.methodLink R_law 51 yX12_thrown ∈ vT := vm6 193 (by decide +kernel) (by decide +kernel)
theorem km_L_54 : Cond.methodLink R_law 54 yX11_slow ∈ vT := vm3 37 (by decide +kernel) (by decide +kernel)
theorem km_L_57 : Cond.methodLink R_law 57 yX12_slow ∈ vT := vm7 40 (by decide +kernel) (by decide +kernel)
theorem km_L_58 : Cond.methodLink R_law 58 yX11_move ∈ vT := vm3 41 (by decide +kernel) (by decide +kernel)
theorem km_L_62 : Cond.methodLink R_law 62 yX12_move ∈ vT := vm7 44 (by decide +kernel) (by decide +kernel)
theorem km_L_63 : Cond.methodLink R_law 63 yX11_sheet ∈ vT := vm3 56 (by decide +kernel) (by decide +kernel)
theorem km_L_67 : Cond.methodLink R_law 67 yX12_sheet ∈ vT := vm7 48 (by decide +kernel) (by decide +kernel)
theorem km_L_68 : Cond.methodLink R_law 68 yX11_write ∈ vT := vm3 73 (by decide +kernel) (by decide +kernel)
theorem km_L_7 : Cond.methodLink R_law 7 yX11_meeting ∈ vT := vm5 193 (by decide +kernel) (by decide +kernel)
theorem km_L_72 : Cond.methodLink R_law 72 yX12_write ∈ vT := vm7 54 (by decide +kernel) (by decide +kernel)
theorem km_L_73 : Cond.methodLink R_law 73 yX11_hand ∈ vT := vm3 85 (by decide +kernel) (by decide +kernel)
theorem km_L_76 : Cond.methodLink R_law 76 yX12_hand ∈ vT := vm7 64 (by decide +kernel) (by decide +kernel)
theorem km_L_77 : Cond.methodLink R_law 77 yX11_undo ∈ vT := vm3 156 (by decide +kernel) (by decide +kernel)
theorem km_L_80 : Cond.methodLink R_law 80 yX12_undo ∈ vT := vm7 104 (by decide +kernel) (by decide +kernel)
theorem km_L_81 : Cond.methodLink R_law 81 yX11_lines ∈ vT := vm3 164 (by decide +kernel) (by decide +kernel)
theorem km_L_84 : Cond.methodLink R_law 84 yX12_lines ∈ vT := vm7 108 (by decide +kernel) (by decide +kernel)
theorem km_L_85 : Cond.methodLink R_law 85 yX11_of ∈ vT := vm3 177 (by decide +kernel) (by decide +kernel)
theorem km_L_88 : Cond.methodLink R_law 88 yX12_of ∈ vT := vm7 116 (by decide +kernel) (by decide +kernel)
theorem km_L_89 : Cond.methodLink R_law 89 yX11_can ∈ vT := vm3 188 (by decide +kernel) (by decide +kernel)
theorem km_L_92 : Cond.methodLink R_law 92 yX12_can ∈ vT := vm7 124 (by decide +kernel) (by decide +kernel)
theorem km_L_93 : Cond.methodLink R_law 93 yX11_goes ∈ vT := vm3 200 (by decide +kernel) (by decide +kernel)
theorem km_L_96 : Cond.methodLink R_law 96 yX12_goes ∈ vT := vm7 128 (by decide +kernel) (by decide +kernel)
theorem km_L_97 : Cond.methodLink R_law 97 yX11_read ∈ vT := vm3 214 (by decide +kernel) (by decide +kernel)
theorem lg_cmp_refl (x : Int64) : lg_cmp x x = 0 := by
  unfold lg_cmp
  rw [if_neg Int64.lt_irrefl, if_pos rfl]
theorem cs_0 {P : lP} {l : Launch} {adC adM : Nat → Nat} {ao b L : Nat} {xs : Nat → Int32} {σ τ σ' τ' : vSt} {g : Nat → Int64} {cells slots N : Nat} {i : Int32} {r : Int32} (hX : lOK P l adC adM ao b L xs) (h1 : vp_in (i + 1) L) (h2 : vp_in (i + 2) L) (h3 : vp_in (i + 3) L) (h4 : vp_in (i + 4) L) (hc1 : cells ≤ 601024) (hs1 : slots ≤ 7293034) (hC : fC_EachAddsALine_sign N (xs (i + 1).toNatClampNeg) σ = some (r, σ')) (hM : fM_EachAddsALineModel_sign N (xs (i + 1).toNatClampNeg) τ = some (r, τ')) (kk : P σ' τ' g cells slots 2297 [(0, .ref b), (1, .ref (adC 0)), (2, .ref (adM 0)), (3, .ref ao), (4, .int i)] []) : P σ τ g cells slots 260 [(0, .ref b), (1, .ref (adC 0)), (2, .ref (adM 0)), (3, .ref ao), (4, .int i)] [] := by
  refine l_aload_n hX dL_law_260 rfl 1 rfl ?_
  refine l_aload_n hX dL_law_261 rfl 0 rfl ?_
  refine l_iload hX dL_law_262 4 rfl ?_
  refine l_iconst (v := 1) hX dL_law_264 (by decide) ?_
  refine l_iadd hX dL_law_265 ?_
  refine l_sld hX h1 dL_law_266 ?_
  refine l_callIC hX (mC_EachAddsALine_sign hC l adC) kM_X11_sign kV_X11_sign rfl km_L_23 rfl rfl (Nat.le_of_ble_eq_true rfl) ⟨Nat.le_of_ble_eq_true rfl, Nat.le_of_ble_eq_true rfl⟩ hc1 hs1 dL_law_267 ?_
  refine l_aload_n hX dL_law_270 rfl 2 rfl ?_
  refine l_aload_n hX dL_law_271 rfl 0 rfl ?_
  refine l_iload hX dL_law_272 4 rfl ?_
  refine l_iconst (v := 1) hX dL_law_274 (by decide) ?_
  refine l_iadd hX dL_law_275 ?_
  refine l_sld hX h1 dL_law_276 ?_
  refine l_callIM hX (mM_EachAddsALineModel_sign hM l adM) kM_X12_sign kV_X12_sign rfl km_L_26 rfl rfl (Nat.le_of_ble_eq_true rfl) ⟨Nat.le_of_ble_eq_true rfl, Nat.le_of_ble_eq_true rfl⟩ hc1 hs1 dL_law_277 ?_
  exact l_eqT (tgt := 2297) hX dL_law_280 (by decide) rfl kk
theorem cs_1 {P : lP} {l : Launch} {adC adM : Nat → Nat} {ao b L : Nat} {xs : Nat → Int32} {σ τ σ' τ' : vSt} {g : Nat → Int64} {cells slots N : Nat} {i : Int32} {r : Int32} (hX : lOK P l adC adM ao b L xs) (h1 : vp_in (i + 1) L) (h2 : vp_in (i + 2) L) (h3 : vp_in (i + 3) L) (h4 : vp_in (i + 4) L) (hc1 : cells ≤ 601024) (hs1 : slots ≤ 7293034) (hC : fC_EachAddsALine_end N (xs (i + 1).toNatClampNeg) σ = some (r, σ')) (hM : fM_EachAddsALineModel_end N (xs (i + 1).toNatClampNeg) τ = some (r, τ')) (kk : P σ' τ' g cells slots 2297 [(0, .ref b), (1, .ref (adC 0)), (2, .ref (adM 0)), (3, .ref ao), (4, .int i)] []) : P σ τ g cells slots 285 [(0, .ref b), (1, .ref (adC 0)), (2, .ref (adM 0)), (3, .ref ao), (4, .int i)] [] := by
  refine l_aload_n hX dL_law_285 rfl 1 rfl ?_
  refine l_aload_n hX dL_law_286 rfl 0 rfl ?_
  refine l_iload hX dL_law_287 4 rfl ?_
  refine l_iconst (v := 1) hX dL_law_289 (by decide) ?_
  refine l_iadd hX dL_law_290 ?_
  refine l_sld hX h1 dL_law_291 ?_
  refine l_callIC hX (mC_EachAddsALine_end hC l adC) kM_X11_end kV_X11_end rfl km_L_27 rfl rfl (Nat.le_of_ble_eq_true rfl) ⟨Nat.le_of_ble_eq_true rfl, Nat.le_of_ble_eq_true rfl⟩ hc1 hs1 dL_law_292 ?_
  refine l_aload_n hX dL_law_295 rfl 2 rfl ?_
  refine l_aload_n hX dL_law_296 rfl 0 rfl ?_
  refine l_iload hX dL_law_297 4 rfl ?_
  refine l_iconst (v := 1) hX dL_law_299 (by decide) ?_
  refine l_iadd hX dL_law_300 ?_
  refine l_sld hX h1 dL_law_301 ?_
  refine l_callIM hX (mM_EachAddsALineModel_end hM l adM) kM_X12_end kV_X12_end rfl km_L_31 rfl rfl (Nat.le_of_ble_eq_true rfl) ⟨Nat.le_of_ble_eq_true rfl, Nat.le_of_ble_eq_true rfl⟩ hc1 hs1 dL_law_302 ?_
  exact l_eqT (tgt := 2297) hX dL_law_305 (by decide) rfl kk
theorem cs_2 {P : lP} {l : Launch} {adC adM : Nat → Nat} {ao b L : Nat} {xs : Nat → Int32} {σ τ σ' τ' : vSt} {g : Nat → Int64} {cells slots N : Nat} {i : Int32} {r : Int32} (hX : lOK P l adC adM ao b L xs) (h1 : vp_in (i + 1) L) (h2 : vp_in (i + 2) L) (h3 : vp_in (i + 3) L) (h4 : vp_in (i + 4) L) (hc1 : cells ≤ 601024) (hs1 : slots ≤ 7293034) (hC : fC_EachAddsALine_roads N  σ = some (r, σ')) (hM : fM_EachAddsALineModel_roads N  τ = some (r, τ')) (kk : P σ' τ' g cells slots 2297 [(0, .ref b), (1, .ref (adC 0)), (2, .ref (adM 0)), (3, .ref ao), (4, .int i)] []) : P σ τ g cells slots 310 [(0, .ref b), (1, .ref (adC 0)), (2, .ref (adM 0)), (3, .ref ao), (4, .int i)] [] := by
  refine l_aload_n hX dL_law_310 rfl 1 rfl ?_
  refine l_callIC hX (mC_EachAddsALine_roads hC l adC) kM_X11_roads kV_X11_roads rfl km_L_32 rfl rfl (Nat.le_of_ble_eq_true rfl) ⟨Nat.le_of_ble_eq_true rfl, Nat.le_of_ble_eq_true rfl⟩ hc1 hs1 dL_law_311 ?_
  refine l_aload_n hX dL_law_314 rfl 2 rfl ?_
  refine l_callIM hX (mM_EachAddsALineModel_roads hM l adM) kM_X12_roads kV_X12_roads rfl km_L_36 rfl rfl (Nat.le_of_ble_eq_true rfl) ⟨Nat.le_of_ble_eq_true rfl, Nat.le_of_ble_eq_true rfl⟩ hc1 hs1 dL_law_315 ?_
  exact l_eqT (tgt := 2297) hX dL_law_318 (by decide) rfl kk
theorem cs_3 {P : lP} {l : Launch} {adC adM : Nat → Nat} {ao b L : Nat} {xs : Nat → Int32} {σ τ σ' τ' : vSt} {g : Nat → Int64} {cells slots N : Nat} {i : Int32} {r : Int32} (hX : lOK P l adC adM ao b L xs) (h1 : vp_in (i + 1) L) (h2 : vp_in (i + 2) L) (h3 : vp_in (i + 3) L) (h4 : vp_in (i + 4) L) (hc1 : cells ≤ 601024) (hs1 : slots ≤ 7293034) (hC : fC_EachAddsALine_rule N  σ = some (r, σ')) (hM : fM_EachAddsALineModel_rule N  τ = some (r, τ')) (kk : P σ' τ' g cells slots 2297 [(0, .ref b), (1, .ref (adC 0)), (2, .ref (adM 0)), (3, .ref ao), (4, .int i)] []) : P σ τ g cells slots 323 [(0, .ref b), (1, .ref (adC 0)), (2, .ref (adM 0)), (3, .ref ao), (4, .int i)] [] := by
  refine l_aload_n hX dL_law_323 rfl 1 rfl ?_
  refine l_callIC hX (mC_EachAddsALine_rule hC l adC) kM_X11_rule kV_X11_rule rfl km_L_37 rfl rfl (Nat.le_of_ble_eq_true rfl) ⟨Nat.le_of_ble_eq_true rfl, Nat.le_of_ble_eq_true rfl⟩ hc1 hs1 dL_law_324 ?_
  refine l_aload_n hX dL_law_327 rfl 2 rfl ?_
  refine l_callIM hX (mM_EachAddsALineModel_rule hM l adM) kM_X12_rule kV_X12_rule rfl km_L_40 rfl rfl (Nat.le_of_ble_eq_true rfl) ⟨Nat.le_of_ble_eq_true rfl, Nat.le_of_ble_eq_true rfl⟩ hc1 hs1 dL_law_328 ?_
  exact l_eqT (tgt := 2297) hX dL_law_331 (by decide) rfl kk
theorem cs_4 {P : lP} {l : Launch} {adC adM : Nat → Nat} {ao b L : Nat} {xs : Nat → Int32} {σ τ σ' τ' : vSt} {g : Nat → Int64} {cells slots N : Nat} {i : Int32} {r : Int32} (hX : lOK P l adC adM ao b L xs) (h1 : vp_in (i + 1) L) (h2 : vp_in (i + 2) L) (h3 : vp_in (i + 3) L) (h4 : vp_in (i + 4) L) (hc1 : cells ≤ 601024) (hs1 : slots ≤ 7293034) (hC : fC_EachAddsALine_reads N (xs (i + 1).toNatClampNeg) σ = some (r, σ')) (hM : fM_EachAddsALineModel_reads N (xs (i + 1).toNatClampNeg) τ = some (r, τ')) (kk : P σ' τ' g cells slots 2297 [(0, .ref b), (1, .ref (adC 0)), (2, .ref (adM 0)), (3, .ref ao), (4, .int i)] []) : P σ τ g cells slots 336 [(0, .ref b), (1, .ref (adC 0)), (2, .ref (adM 0)), (3, .ref ao), (4, .int i)] [] := by
  refine l_aload_n hX dL_law_336 rfl 1 rfl ?_
  refine l_aload_n hX dL_law_337 rfl 0 rfl ?_
  refine l_iload hX dL_law_338 4 rfl ?_
  refine l_iconst (v := 1) hX dL_law_340 (by decide) ?_
  refine l_iadd hX dL_law_341 ?_
  refine l_sld hX h1 dL_law_342 ?_
  refine l_callIC hX (mC_EachAddsALine_reads hC l adC) kM_X11_reads kV_X11_reads rfl km_L_41 rfl rfl (Nat.le_of_ble_eq_true rfl) ⟨Nat.le_of_ble_eq_true rfl, Nat.le_of_ble_eq_true rfl⟩ hc1 hs1 dL_law_343 ?_
  refine l_aload_n hX dL_law_346 rfl 2 rfl ?_
  refine l_aload_n hX dL_law_347 rfl 0 rfl ?_
  refine l_iload hX dL_law_348 4 rfl ?_
  refine l_iconst (v := 1) hX dL_law_350 (by decide) ?_
  refine l_iadd hX dL_law_351 ?_
  refine l_sld hX h1 dL_law_352 ?_
  refine l_callIM hX (mM_EachAddsALineModel_reads hM l adM) kM_X12_reads kV_X12_reads rfl km_L_44 rfl rfl (Nat.le_of_ble_eq_true rfl) ⟨Nat.le_of_ble_eq_true rfl, Nat.le_of_ble_eq_true rfl⟩ hc1 hs1 dL_law_353 ?_
  exact l_eqT (tgt := 2297) hX dL_law_356 (by decide) rfl kk
theorem cs_6 {P : lP} {l : Launch} {adC adM : Nat → Nat} {ao b L : Nat} {xs : Nat → Int32} {σ τ σ' τ' : vSt} {g : Nat → Int64} {cells slots N : Nat} {i : Int32} {r : Int32} (hX : lOK P l adC adM ao b L xs) (h1 : vp_in (i + 1) L) (h2 : vp_in (i + 2) L) (h3 : vp_in (i + 3) L) (h4 : vp_in (i + 4) L) (hc1 : cells ≤ 601024) (hs1 : slots ≤ 7293034) (hC : fC_EachAddsALine_slow N (xs (i + 1).toNatClampNeg) (xs (i + 2).toNatClampNeg) σ = some (r, σ')) (hM : fM_EachAddsALineModel_slow N (xs (i + 1).toNatClampNeg) (xs (i + 2).toNatClampNeg) τ = some (r, τ')) (kk : P σ' τ' g cells slots 2297 [(0, .ref b), (1, .ref (adC 0)), (2, .ref (adM 0)), (3, .ref ao), (4, .int i)] []) : P σ τ g cells slots 429 [(0, .ref b), (1, .ref (adC 0)), (2, .ref (adM 0)), (3, .ref ao), (4, .int i)] [] := by
  refine l_aload_n hX dL_law_429 rfl 1 rfl ?_
  refine l_aload_n hX dL_law_430 rfl 0 rfl ?_
  refine l_iload hX dL_law_431 4 rfl ?_
  refine l_iconst (v := 1) hX dL_law_433 (by decide) ?_
  refine l_iadd hX dL_law_434 ?_
  refine l_sld hX h1 dL_law_435 ?_
  refine l_aload_n hX dL_law_436 rfl 0 rfl ?_
  refine l_iload hX dL_law_437 4 rfl ?_
  refine l_iconst (v := 2) hX dL_law_439 (by decide) ?_
  refine l_iadd hX dL_law_440 ?_
  refine l_sld hX h2 dL_law_441 ?_
  refine l_callIC hX (mC_EachAddsALine_slow hC l adC) kM_X11_slow kV_X11_slow rfl km_L_54 rfl rfl (Nat.le_of_ble_eq_true rfl) ⟨Nat.le_of_ble_eq_true rfl, Nat.le_of_ble_eq_true rfl⟩ hc1 hs1 dL_law_442 ?_
  refine l_aload_n hX dL_law_445 rfl 2 rfl ?_
  refine l_aload_n hX dL_law_446 rfl 0 rfl ?_
  refine l_iload hX dL_law_447 4 rfl ?_
  refine l_iconst (v := 1) hX dL_law_449 (by decide) ?_
  refine l_iadd hX dL_law_450 ?_
  refine l_sld hX h1 dL_law_451 ?_
  refine l_aload_n hX dL_law_452 rfl 0 rfl ?_
  refine l_iload hX dL_law_453 4 rfl ?_
  refine l_iconst (v := 2) hX dL_law_455 (by decide) ?_
  refine l_iadd hX dL_law_456 ?_
  refine l_sld hX h2 dL_law_457 ?_
  refine l_callIM hX (mM_EachAddsALineModel_slow hM l adM) kM_X12_slow kV_X12_slow rfl km_L_57 rfl rfl (Nat.le_of_ble_eq_true rfl) ⟨Nat.le_of_ble_eq_true rfl, Nat.le_of_ble_eq_true rfl⟩ hc1 hs1 dL_law_458 ?_
  exact l_eqT (tgt := 2297) hX dL_law_461 (by decide) rfl kk
theorem cs_7 {P : lP} {l : Launch} {adC adM : Nat → Nat} {ao b L : Nat} {xs : Nat → Int32} {σ τ σ' τ' : vSt} {g : Nat → Int64} {cells slots N : Nat} {i : Int32} {r : Int32} (hX : lOK P l adC adM ao b L xs) (h1 : vp_in (i + 1) L) (h2 : vp_in (i + 2) L) (h3 : vp_in (i + 3) L) (h4 : vp_in (i + 4) L) (hc1 : cells ≤ 601024) (hs1 : slots ≤ 7293034) (hC : fC_EachAddsALine_move N (xs (i + 1).toNatClampNeg) (xs (i + 2).toNatClampNeg) (xs (i + 3).toNatClampNeg) σ = some (r, σ')) (hM : fM_EachAddsALineModel_move N (xs (i + 1).toNatClampNeg) (xs (i + 2).toNatClampNeg) (xs (i + 3).toNatClampNeg) τ = some (r, τ')) (kk : P σ' τ' g cells slots 2297 [(0, .ref b), (1, .ref (adC 0)), (2, .ref (adM 0)), (3, .ref ao), (4, .int i)] []) : P σ τ g cells slots 466 [(0, .ref b), (1, .ref (adC 0)), (2, .ref (adM 0)), (3, .ref ao), (4, .int i)] [] := by
  refine l_aload_n hX dL_law_466 rfl 1 rfl ?_
  refine l_aload_n hX dL_law_467 rfl 0 rfl ?_
  refine l_iload hX dL_law_468 4 rfl ?_
  refine l_iconst (v := 1) hX dL_law_470 (by decide) ?_
  refine l_iadd hX dL_law_471 ?_
  refine l_sld hX h1 dL_law_472 ?_
  refine l_aload_n hX dL_law_473 rfl 0 rfl ?_
  refine l_iload hX dL_law_474 4 rfl ?_
  refine l_iconst (v := 2) hX dL_law_476 (by decide) ?_
  refine l_iadd hX dL_law_477 ?_
  refine l_sld hX h2 dL_law_478 ?_
  refine l_aload_n hX dL_law_479 rfl 0 rfl ?_
  refine l_iload hX dL_law_480 4 rfl ?_
  refine l_iconst (v := 3) hX dL_law_482 (by decide) ?_
  refine l_iadd hX dL_law_483 ?_
  refine l_sld hX h3 dL_law_484 ?_
  refine l_callIC hX (mC_EachAddsALine_move hC l adC) kM_X11_move kV_X11_move rfl km_L_58 rfl rfl (Nat.le_of_ble_eq_true rfl) ⟨Nat.le_of_ble_eq_true rfl, Nat.le_of_ble_eq_true rfl⟩ hc1 hs1 dL_law_485 ?_
  refine l_aload_n hX dL_law_488 rfl 2 rfl ?_
  refine l_aload_n hX dL_law_489 rfl 0 rfl ?_
  refine l_iload hX dL_law_490 4 rfl ?_
  refine l_iconst (v := 1) hX dL_law_492 (by decide) ?_
  refine l_iadd hX dL_law_493 ?_
  refine l_sld hX h1 dL_law_494 ?_
  refine l_aload_n hX dL_law_495 rfl 0 rfl ?_
  refine l_iload hX dL_law_496 4 rfl ?_
  refine l_iconst (v := 2) hX dL_law_498 (by decide) ?_
  refine l_iadd hX dL_law_499 ?_
  refine l_sld hX h2 dL_law_500 ?_
  refine l_aload_n hX dL_law_501 rfl 0 rfl ?_
  refine l_iload hX dL_law_502 4 rfl ?_
  refine l_iconst (v := 3) hX dL_law_504 (by decide) ?_
  refine l_iadd hX dL_law_505 ?_
  refine l_sld hX h3 dL_law_506 ?_
  refine l_callIM hX (mM_EachAddsALineModel_move hM l adM) kM_X12_move kV_X12_move rfl km_L_62 rfl rfl (Nat.le_of_ble_eq_true rfl) ⟨Nat.le_of_ble_eq_true rfl, Nat.le_of_ble_eq_true rfl⟩ hc1 hs1 dL_law_507 ?_
  exact l_eqT (tgt := 2297) hX dL_law_510 (by decide) rfl kk
theorem cs_8 {P : lP} {l : Launch} {adC adM : Nat → Nat} {ao b L : Nat} {xs : Nat → Int32} {σ τ σ' τ' : vSt} {g : Nat → Int64} {cells slots N : Nat} {i : Int32} {r : Int32} (hX : lOK P l adC adM ao b L xs) (h1 : vp_in (i + 1) L) (h2 : vp_in (i + 2) L) (h3 : vp_in (i + 3) L) (h4 : vp_in (i + 4) L) (hc1 : cells ≤ 601024) (hs1 : slots ≤ 7293034) (hC : fC_EachAddsALine_sheet N (xs (i + 1).toNatClampNeg) (xs (i + 2).toNatClampNeg) (xs (i + 3).toNatClampNeg) (xs (i + 4).toNatClampNeg) σ = some (r, σ')) (hM : fM_EachAddsALineModel_sheet N (xs (i + 1).toNatClampNeg) (xs (i + 2).toNatClampNeg) (xs (i + 3).toNatClampNeg) (xs (i + 4).toNatClampNeg) τ = some (r, τ')) (kk : P σ' τ' g cells slots 2297 [(0, .ref b), (1, .ref (adC 0)), (2, .ref (adM 0)), (3, .ref ao), (4, .int i)] []) : P σ τ g cells slots 515 [(0, .ref b), (1, .ref (adC 0)), (2, .ref (adM 0)), (3, .ref ao), (4, .int i)] [] := by
  refine l_aload_n hX dL_law_515 rfl 1 rfl ?_
  refine l_aload_n hX dL_law_516 rfl 0 rfl ?_
  refine l_iload hX dL_law_517 4 rfl ?_
  refine l_iconst (v := 1) hX dL_law_519 (by decide) ?_
  refine l_iadd hX dL_law_520 ?_
  refine l_sld hX h1 dL_law_521 ?_
  refine l_aload_n hX dL_law_522 rfl 0 rfl ?_
  refine l_iload hX dL_law_523 4 rfl ?_
  refine l_iconst (v := 2) hX dL_law_525 (by decide) ?_
  refine l_iadd hX dL_law_526 ?_
  refine l_sld hX h2 dL_law_527 ?_
  refine l_aload_n hX dL_law_528 rfl 0 rfl ?_
  refine l_iload hX dL_law_529 4 rfl ?_
  refine l_iconst (v := 3) hX dL_law_531 (by decide) ?_
  refine l_iadd hX dL_law_532 ?_
  refine l_sld hX h3 dL_law_533 ?_
  refine l_aload_n hX dL_law_534 rfl 0 rfl ?_
  refine l_iload hX dL_law_535 4 rfl ?_
  refine l_iconst (v := 4) hX dL_law_537 (by decide) ?_
  refine l_iadd hX dL_law_538 ?_
  refine l_sld hX h4 dL_law_539 ?_
  refine l_callIC hX (mC_EachAddsALine_sheet hC l adC) kM_X11_sheet kV_X11_sheet rfl km_L_63 rfl rfl (Nat.le_of_ble_eq_true rfl) ⟨Nat.le_of_ble_eq_true rfl, Nat.le_of_ble_eq_true rfl⟩ hc1 hs1 dL_law_540 ?_
  refine l_aload_n hX dL_law_543 rfl 2 rfl ?_
  refine l_aload_n hX dL_law_544 rfl 0 rfl ?_
  refine l_iload hX dL_law_545 4 rfl ?_
  refine l_iconst (v := 1) hX dL_law_547 (by decide) ?_
  refine l_iadd hX dL_law_548 ?_
  refine l_sld hX h1 dL_law_549 ?_
  refine l_aload_n hX dL_law_550 rfl 0 rfl ?_
  refine l_iload hX dL_law_551 4 rfl ?_
  refine l_iconst (v := 2) hX dL_law_553 (by decide) ?_
  refine l_iadd hX dL_law_554 ?_
  refine l_sld hX h2 dL_law_555 ?_
  refine l_aload_n hX dL_law_556 rfl 0 rfl ?_
  refine l_iload hX dL_law_557 4 rfl ?_
  refine l_iconst (v := 3) hX dL_law_559 (by decide) ?_
  refine l_iadd hX dL_law_560 ?_
  refine l_sld hX h3 dL_law_561 ?_
  refine l_aload_n hX dL_law_562 rfl 0 rfl ?_
  refine l_iload hX dL_law_563 4 rfl ?_
  refine l_iconst (v := 4) hX dL_law_565 (by decide) ?_
  refine l_iadd hX dL_law_566 ?_
  refine l_sld hX h4 dL_law_567 ?_
  refine l_callIM hX (mM_EachAddsALineModel_sheet hM l adM) kM_X12_sheet kV_X12_sheet rfl km_L_67 rfl rfl (Nat.le_of_ble_eq_true rfl) ⟨Nat.le_of_ble_eq_true rfl, Nat.le_of_ble_eq_true rfl⟩ hc1 hs1 dL_law_568 ?_
  exact l_eqT (tgt := 2297) hX dL_law_571 (by decide) rfl kk
theorem cs_9 {P : lP} {l : Launch} {adC adM : Nat → Nat} {ao b L : Nat} {xs : Nat → Int32} {σ τ σ' τ' : vSt} {g : Nat → Int64} {cells slots N : Nat} {i : Int32} {r : Int32} (hX : lOK P l adC adM ao b L xs) (h1 : vp_in (i + 1) L) (h2 : vp_in (i + 2) L) (h3 : vp_in (i + 3) L) (h4 : vp_in (i + 4) L) (hc1 : cells ≤ 601024) (hs1 : slots ≤ 7293034) (hC : fC_EachAddsALine_write N (xs (i + 1).toNatClampNeg) (xs (i + 2).toNatClampNeg) (xs (i + 3).toNatClampNeg) (xs (i + 4).toNatClampNeg) σ = some (r, σ')) (hM : fM_EachAddsALineModel_write N (xs (i + 1).toNatClampNeg) (xs (i + 2).toNatClampNeg) (xs (i + 3).toNatClampNeg) (xs (i + 4).toNatClampNeg) τ = some (r, τ')) (kk : P σ' τ' g cells slots 2297 [(0, .ref b), (1, .ref (adC 0)), (2, .ref (adM 0)), (3, .ref ao), (4, .int i)] []) : P σ τ g cells slots 576 [(0, .ref b), (1, .ref (adC 0)), (2, .ref (adM 0)), (3, .ref ao), (4, .int i)] [] := by
  refine l_aload_n hX dL_law_576 rfl 1 rfl ?_
  refine l_aload_n hX dL_law_577 rfl 0 rfl ?_
  refine l_iload hX dL_law_578 4 rfl ?_
  refine l_iconst (v := 1) hX dL_law_580 (by decide) ?_
  refine l_iadd hX dL_law_581 ?_
  refine l_sld hX h1 dL_law_582 ?_
  refine l_aload_n hX dL_law_583 rfl 0 rfl ?_
  refine l_iload hX dL_law_584 4 rfl ?_
  refine l_iconst (v := 2) hX dL_law_586 (by decide) ?_
  refine l_iadd hX dL_law_587 ?_
  refine l_sld hX h2 dL_law_588 ?_
  refine l_aload_n hX dL_law_589 rfl 0 rfl ?_
  refine l_iload hX dL_law_590 4 rfl ?_
  refine l_iconst (v := 3) hX dL_law_592 (by decide) ?_
  refine l_iadd hX dL_law_593 ?_
  refine l_sld hX h3 dL_law_594 ?_
  refine l_aload_n hX dL_law_595 rfl 0 rfl ?_
  refine l_iload hX dL_law_596 4 rfl ?_
  refine l_iconst (v := 4) hX dL_law_598 (by decide) ?_
  refine l_iadd hX dL_law_599 ?_
  refine l_sld hX h4 dL_law_600 ?_
  refine l_callIC hX (mC_EachAddsALine_write hC l adC) kM_X11_write kV_X11_write rfl km_L_68 rfl rfl (Nat.le_of_ble_eq_true rfl) ⟨Nat.le_of_ble_eq_true rfl, Nat.le_of_ble_eq_true rfl⟩ hc1 hs1 dL_law_601 ?_
  refine l_aload_n hX dL_law_604 rfl 2 rfl ?_
  refine l_aload_n hX dL_law_605 rfl 0 rfl ?_
  refine l_iload hX dL_law_606 4 rfl ?_
  refine l_iconst (v := 1) hX dL_law_608 (by decide) ?_
  refine l_iadd hX dL_law_609 ?_
  refine l_sld hX h1 dL_law_610 ?_
  refine l_aload_n hX dL_law_611 rfl 0 rfl ?_
  refine l_iload hX dL_law_612 4 rfl ?_
  refine l_iconst (v := 2) hX dL_law_614 (by decide) ?_
  refine l_iadd hX dL_law_615 ?_
  refine l_sld hX h2 dL_law_616 ?_
  refine l_aload_n hX dL_law_617 rfl 0 rfl ?_
  refine l_iload hX dL_law_618 4 rfl ?_
  refine l_iconst (v := 3) hX dL_law_620 (by decide) ?_
  refine l_iadd hX dL_law_621 ?_
  refine l_sld hX h3 dL_law_622 ?_
  refine l_aload_n hX dL_law_623 rfl 0 rfl ?_
  refine l_iload hX dL_law_624 4 rfl ?_
  refine l_iconst (v := 4) hX dL_law_626 (by decide) ?_
  refine l_iadd hX dL_law_627 ?_
  refine l_sld hX h4 dL_law_628 ?_
  refine l_callIM hX (mM_EachAddsALineModel_write hM l adM) kM_X12_write kV_X12_write rfl km_L_72 rfl rfl (Nat.le_of_ble_eq_true rfl) ⟨Nat.le_of_ble_eq_true rfl, Nat.le_of_ble_eq_true rfl⟩ hc1 hs1 dL_law_629 ?_
  exact l_eqT (tgt := 2297) hX dL_law_632 (by decide) rfl kk
theorem cs_10 {P : lP} {l : Launch} {adC adM : Nat → Nat} {ao b L : Nat} {xs : Nat → Int32} {σ τ σ' τ' : vSt} {g : Nat → Int64} {cells slots N : Nat} {i : Int32} {r : Int32} (hX : lOK P l adC adM ao b L xs) (h1 : vp_in (i + 1) L) (h2 : vp_in (i + 2) L) (h3 : vp_in (i + 3) L) (h4 : vp_in (i + 4) L) (hc1 : cells ≤ 601024) (hs1 : slots ≤ 7293034) (hC : fC_EachAddsALine_hand N (xs (i + 1).toNatClampNeg) (xs (i + 2).toNatClampNeg) σ = some (r, σ')) (hM : fM_EachAddsALineModel_hand N (xs (i + 1).toNatClampNeg) (xs (i + 2).toNatClampNeg) τ = some (r, τ')) (kk : P σ' τ' g cells slots 2297 [(0, .ref b), (1, .ref (adC 0)), (2, .ref (adM 0)), (3, .ref ao), (4, .int i)] []) : P σ τ g cells slots 637 [(0, .ref b), (1, .ref (adC 0)), (2, .ref (adM 0)), (3, .ref ao), (4, .int i)] [] := by
  refine l_aload_n hX dL_law_637 rfl 1 rfl ?_
  refine l_aload_n hX dL_law_638 rfl 0 rfl ?_
  refine l_iload hX dL_law_639 4 rfl ?_
  refine l_iconst (v := 1) hX dL_law_641 (by decide) ?_
  refine l_iadd hX dL_law_642 ?_
  refine l_sld hX h1 dL_law_643 ?_
  refine l_aload_n hX dL_law_644 rfl 0 rfl ?_
  refine l_iload hX dL_law_645 4 rfl ?_
  refine l_iconst (v := 2) hX dL_law_647 (by decide) ?_
  refine l_iadd hX dL_law_648 ?_
  refine l_sld hX h2 dL_law_649 ?_
  refine l_callIC hX (mC_EachAddsALine_hand hC l adC) kM_X11_hand kV_X11_hand rfl km_L_73 rfl rfl (Nat.le_of_ble_eq_true rfl) ⟨Nat.le_of_ble_eq_true rfl, Nat.le_of_ble_eq_true rfl⟩ hc1 hs1 dL_law_650 ?_
  refine l_aload_n hX dL_law_653 rfl 2 rfl ?_
  refine l_aload_n hX dL_law_654 rfl 0 rfl ?_
  refine l_iload hX dL_law_655 4 rfl ?_
  refine l_iconst (v := 1) hX dL_law_657 (by decide) ?_
  refine l_iadd hX dL_law_658 ?_
  refine l_sld hX h1 dL_law_659 ?_
  refine l_aload_n hX dL_law_660 rfl 0 rfl ?_
  refine l_iload hX dL_law_661 4 rfl ?_
  refine l_iconst (v := 2) hX dL_law_663 (by decide) ?_
  refine l_iadd hX dL_law_664 ?_
  refine l_sld hX h2 dL_law_665 ?_
  refine l_callIM hX (mM_EachAddsALineModel_hand hM l adM) kM_X12_hand kV_X12_hand rfl km_L_76 rfl rfl (Nat.le_of_ble_eq_true rfl) ⟨Nat.le_of_ble_eq_true rfl, Nat.le_of_ble_eq_true rfl⟩ hc1 hs1 dL_law_666 ?_
  exact l_eqT (tgt := 2297) hX dL_law_669 (by decide) rfl kk
theorem cs_11 {P : lP} {l : Launch} {adC adM : Nat → Nat} {ao b L : Nat} {xs : Nat → Int32} {σ τ σ' τ' : vSt} {g : Nat → Int64} {cells slots N : Nat} {i : Int32} {r : Int32} (hX : lOK P l adC adM ao b L xs) (h1 : vp_in (i + 1) L) (h2 : vp_in (i + 2) L) (h3 : vp_in (i + 3) L) (h4 : vp_in (i + 4) L) (hc1 : cells ≤ 601024) (hs1 : slots ≤ 7293034) (hC : fC_EachAddsALine_undo N (xs (i + 1).toNatClampNeg) σ = some (r, σ')) (hM : fM_EachAddsALineModel_undo N (xs (i + 1).toNatClampNeg) τ = some (r, τ')) (kk : P σ' τ' g cells slots 2297 [(0, .ref b), (1, .ref (adC 0)), (2, .ref (adM 0)), (3, .ref ao), (4, .int i)] []) : P σ τ g cells slots 674 [(0, .ref b), (1, .ref (adC 0)), (2, .ref (adM 0)), (3, .ref ao), (4, .int i)] [] := by
  refine l_aload_n hX dL_law_674 rfl 1 rfl ?_
  refine l_aload_n hX dL_law_675 rfl 0 rfl ?_
  refine l_iload hX dL_law_676 4 rfl ?_
  refine l_iconst (v := 1) hX dL_law_678 (by decide) ?_
  refine l_iadd hX dL_law_679 ?_
  refine l_sld hX h1 dL_law_680 ?_
  refine l_callIC hX (mC_EachAddsALine_undo hC l adC) kM_X11_undo kV_X11_undo rfl km_L_77 rfl rfl (Nat.le_of_ble_eq_true rfl) ⟨Nat.le_of_ble_eq_true rfl, Nat.le_of_ble_eq_true rfl⟩ hc1 hs1 dL_law_681 ?_
  refine l_aload_n hX dL_law_684 rfl 2 rfl ?_
  refine l_aload_n hX dL_law_685 rfl 0 rfl ?_
  refine l_iload hX dL_law_686 4 rfl ?_
  refine l_iconst (v := 1) hX dL_law_688 (by decide) ?_
  refine l_iadd hX dL_law_689 ?_
  refine l_sld hX h1 dL_law_690 ?_
  refine l_callIM hX (mM_EachAddsALineModel_undo hM l adM) kM_X12_undo kV_X12_undo rfl km_L_80 rfl rfl (Nat.le_of_ble_eq_true rfl) ⟨Nat.le_of_ble_eq_true rfl, Nat.le_of_ble_eq_true rfl⟩ hc1 hs1 dL_law_691 ?_
  exact l_eqT (tgt := 2297) hX dL_law_694 (by decide) rfl kk
theorem cs_12 {P : lP} {l : Launch} {adC adM : Nat → Nat} {ao b L : Nat} {xs : Nat → Int32} {σ τ σ' τ' : vSt} {g : Nat → Int64} {cells slots N : Nat} {i : Int32} {r : Int32} (hX : lOK P l adC adM ao b L xs) (h1 : vp_in (i + 1) L) (h2 : vp_in (i + 2) L) (h3 : vp_in (i + 3) L) (h4 : vp_in (i + 4) L) (hc1 : cells ≤ 601024) (hs1 : slots ≤ 7293034) (hC : fC_EachAddsALine_lines N (xs (i + 1).toNatClampNeg) σ = some (r, σ')) (hM : fM_EachAddsALineModel_lines N (xs (i + 1).toNatClampNeg) τ = some (r, τ')) (kk : P σ' τ' g cells slots 2297 [(0, .ref b), (1, .ref (adC 0)), (2, .ref (adM 0)), (3, .ref ao), (4, .int i)] []) : P σ τ g cells slots 699 [(0, .ref b), (1, .ref (adC 0)), (2, .ref (adM 0)), (3, .ref ao), (4, .int i)] [] := by
  refine l_aload_n hX dL_law_699 rfl 1 rfl ?_
  refine l_aload_n hX dL_law_700 rfl 0 rfl ?_
  refine l_iload hX dL_law_701 4 rfl ?_
  refine l_iconst (v := 1) hX dL_law_703 (by decide) ?_
  refine l_iadd hX dL_law_704 ?_
  refine l_sld hX h1 dL_law_705 ?_
  refine l_callIC hX (mC_EachAddsALine_lines hC l adC) kM_X11_lines kV_X11_lines rfl km_L_81 rfl rfl (Nat.le_of_ble_eq_true rfl) ⟨Nat.le_of_ble_eq_true rfl, Nat.le_of_ble_eq_true rfl⟩ hc1 hs1 dL_law_706 ?_
  refine l_aload_n hX dL_law_709 rfl 2 rfl ?_
  refine l_aload_n hX dL_law_710 rfl 0 rfl ?_
  refine l_iload hX dL_law_711 4 rfl ?_
  refine l_iconst (v := 1) hX dL_law_713 (by decide) ?_
  refine l_iadd hX dL_law_714 ?_
  refine l_sld hX h1 dL_law_715 ?_
  refine l_callIM hX (mM_EachAddsALineModel_lines hM l adM) kM_X12_lines kV_X12_lines rfl km_L_84 rfl rfl (Nat.le_of_ble_eq_true rfl) ⟨Nat.le_of_ble_eq_true rfl, Nat.le_of_ble_eq_true rfl⟩ hc1 hs1 dL_law_716 ?_
  exact l_eqT (tgt := 2297) hX dL_law_719 (by decide) rfl kk
theorem cs_13 {P : lP} {l : Launch} {adC adM : Nat → Nat} {ao b L : Nat} {xs : Nat → Int32} {σ τ σ' τ' : vSt} {g : Nat → Int64} {cells slots N : Nat} {i : Int32} {r : Int32} (hX : lOK P l adC adM ao b L xs) (h1 : vp_in (i + 1) L) (h2 : vp_in (i + 2) L) (h3 : vp_in (i + 3) L) (h4 : vp_in (i + 4) L) (hc1 : cells ≤ 601024) (hs1 : slots ≤ 7293034) (hC : fC_EachAddsALine_of N (xs (i + 1).toNatClampNeg) (xs (i + 2).toNatClampNeg) σ = some (r, σ')) (hM : fM_EachAddsALineModel_of N (xs (i + 1).toNatClampNeg) (xs (i + 2).toNatClampNeg) τ = some (r, τ')) (kk : P σ' τ' g cells slots 2297 [(0, .ref b), (1, .ref (adC 0)), (2, .ref (adM 0)), (3, .ref ao), (4, .int i)] []) : P σ τ g cells slots 724 [(0, .ref b), (1, .ref (adC 0)), (2, .ref (adM 0)), (3, .ref ao), (4, .int i)] [] := by
  refine l_aload_n hX dL_law_724 rfl 1 rfl ?_
  refine l_aload_n hX dL_law_725 rfl 0 rfl ?_
  refine l_iload hX dL_law_726 4 rfl ?_
  refine l_iconst (v := 1) hX dL_law_728 (by decide) ?_
  refine l_iadd hX dL_law_729 ?_
  refine l_sld hX h1 dL_law_730 ?_
  refine l_aload_n hX dL_law_731 rfl 0 rfl ?_
  refine l_iload hX dL_law_732 4 rfl ?_
  refine l_iconst (v := 2) hX dL_law_734 (by decide) ?_
  refine l_iadd hX dL_law_735 ?_
  refine l_sld hX h2 dL_law_736 ?_
  refine l_callIC hX (mC_EachAddsALine_of hC l adC) kM_X11_of kV_X11_of rfl km_L_85 rfl rfl (Nat.le_of_ble_eq_true rfl) ⟨Nat.le_of_ble_eq_true rfl, Nat.le_of_ble_eq_true rfl⟩ hc1 hs1 dL_law_737 ?_
  refine l_aload_n hX dL_law_740 rfl 2 rfl ?_
  refine l_aload_n hX dL_law_741 rfl 0 rfl ?_
  refine l_iload hX dL_law_742 4 rfl ?_
  refine l_iconst (v := 1) hX dL_law_744 (by decide) ?_
  refine l_iadd hX dL_law_745 ?_
  refine l_sld hX h1 dL_law_746 ?_
  refine l_aload_n hX dL_law_747 rfl 0 rfl ?_
  refine l_iload hX dL_law_748 4 rfl ?_
  refine l_iconst (v := 2) hX dL_law_750 (by decide) ?_
  refine l_iadd hX dL_law_751 ?_
  refine l_sld hX h2 dL_law_752 ?_
  refine l_callIM hX (mM_EachAddsALineModel_of hM l adM) kM_X12_of kV_X12_of rfl km_L_88 rfl rfl (Nat.le_of_ble_eq_true rfl) ⟨Nat.le_of_ble_eq_true rfl, Nat.le_of_ble_eq_true rfl⟩ hc1 hs1 dL_law_753 ?_
  exact l_eqT (tgt := 2297) hX dL_law_756 (by decide) rfl kk
theorem cs_14 {P : lP} {l : Launch} {adC adM : Nat → Nat} {ao b L : Nat} {xs : Nat → Int32} {σ τ σ' τ' : vSt} {g : Nat → Int64} {cells slots N : Nat} {i : Int32} {r : Int32} (hX : lOK P l adC adM ao b L xs) (h1 : vp_in (i + 1) L) (h2 : vp_in (i + 2) L) (h3 : vp_in (i + 3) L) (h4 : vp_in (i + 4) L) (hc1 : cells ≤ 601024) (hs1 : slots ≤ 7293034) (hC : fC_EachAddsALine_can N (xs (i + 1).toNatClampNeg) σ = some (r, σ')) (hM : fM_EachAddsALineModel_can N (xs (i + 1).toNatClampNeg) τ = some (r, τ')) (kk : P σ' τ' g cells slots 2297 [(0, .ref b), (1, .ref (adC 0)), (2, .ref (adM 0)), (3, .ref ao), (4, .int i)] []) : P σ τ g cells slots 761 [(0, .ref b), (1, .ref (adC 0)), (2, .ref (adM 0)), (3, .ref ao), (4, .int i)] [] := by
  refine l_aload_n hX dL_law_761 rfl 1 rfl ?_
  refine l_aload_n hX dL_law_762 rfl 0 rfl ?_
  refine l_iload hX dL_law_763 4 rfl ?_
  refine l_iconst (v := 1) hX dL_law_765 (by decide) ?_
  refine l_iadd hX dL_law_766 ?_
  refine l_sld hX h1 dL_law_767 ?_
  refine l_callIC hX (mC_EachAddsALine_can hC l adC) kM_X11_can kV_X11_can rfl km_L_89 rfl rfl (Nat.le_of_ble_eq_true rfl) ⟨Nat.le_of_ble_eq_true rfl, Nat.le_of_ble_eq_true rfl⟩ hc1 hs1 dL_law_768 ?_
  refine l_aload_n hX dL_law_771 rfl 2 rfl ?_
  refine l_aload_n hX dL_law_772 rfl 0 rfl ?_
  refine l_iload hX dL_law_773 4 rfl ?_
  refine l_iconst (v := 1) hX dL_law_775 (by decide) ?_
  refine l_iadd hX dL_law_776 ?_
  refine l_sld hX h1 dL_law_777 ?_
  refine l_callIM hX (mM_EachAddsALineModel_can hM l adM) kM_X12_can kV_X12_can rfl km_L_92 rfl rfl (Nat.le_of_ble_eq_true rfl) ⟨Nat.le_of_ble_eq_true rfl, Nat.le_of_ble_eq_true rfl⟩ hc1 hs1 dL_law_778 ?_
  exact l_eqT (tgt := 2297) hX dL_law_781 (by decide) rfl kk
theorem cs_15 {P : lP} {l : Launch} {adC adM : Nat → Nat} {ao b L : Nat} {xs : Nat → Int32} {σ τ σ' τ' : vSt} {g : Nat → Int64} {cells slots N : Nat} {i : Int32} {r : Int32} (hX : lOK P l adC adM ao b L xs) (h1 : vp_in (i + 1) L) (h2 : vp_in (i + 2) L) (h3 : vp_in (i + 3) L) (h4 : vp_in (i + 4) L) (hc1 : cells ≤ 601024) (hs1 : slots ≤ 7293034) (hC : fC_EachAddsALine_goes N (xs (i + 1).toNatClampNeg) (xs (i + 2).toNatClampNeg) σ = some (r, σ')) (hM : fM_EachAddsALineModel_goes N (xs (i + 1).toNatClampNeg) (xs (i + 2).toNatClampNeg) τ = some (r, τ')) (kk : P σ' τ' g cells slots 2297 [(0, .ref b), (1, .ref (adC 0)), (2, .ref (adM 0)), (3, .ref ao), (4, .int i)] []) : P σ τ g cells slots 786 [(0, .ref b), (1, .ref (adC 0)), (2, .ref (adM 0)), (3, .ref ao), (4, .int i)] [] := by
  refine l_aload_n hX dL_law_786 rfl 1 rfl ?_
  refine l_aload_n hX dL_law_787 rfl 0 rfl ?_
  refine l_iload hX dL_law_788 4 rfl ?_
  refine l_iconst (v := 1) hX dL_law_790 (by decide) ?_
  refine l_iadd hX dL_law_791 ?_
  refine l_sld hX h1 dL_law_792 ?_
  refine l_aload_n hX dL_law_793 rfl 0 rfl ?_
  refine l_iload hX dL_law_794 4 rfl ?_
  refine l_iconst (v := 2) hX dL_law_796 (by decide) ?_
  refine l_iadd hX dL_law_797 ?_
  refine l_sld hX h2 dL_law_798 ?_
  refine l_callIC hX (mC_EachAddsALine_goes hC l adC) kM_X11_goes kV_X11_goes rfl km_L_93 rfl rfl (Nat.le_of_ble_eq_true rfl) ⟨Nat.le_of_ble_eq_true rfl, Nat.le_of_ble_eq_true rfl⟩ hc1 hs1 dL_law_799 ?_
  refine l_aload_n hX dL_law_802 rfl 2 rfl ?_
  refine l_aload_n hX dL_law_803 rfl 0 rfl ?_
  refine l_iload hX dL_law_804 4 rfl ?_
  refine l_iconst (v := 1) hX dL_law_806 (by decide) ?_
  refine l_iadd hX dL_law_807 ?_
  refine l_sld hX h1 dL_law_808 ?_
  refine l_aload_n hX dL_law_809 rfl 0 rfl ?_
  refine l_iload hX dL_law_810 4 rfl ?_
  refine l_iconst (v := 2) hX dL_law_812 (by decide) ?_
  refine l_iadd hX dL_law_813 ?_
  refine l_sld hX h2 dL_law_814 ?_
  refine l_callIM hX (mM_EachAddsALineModel_goes hM l adM) kM_X12_goes kV_X12_goes rfl km_L_96 rfl rfl (Nat.le_of_ble_eq_true rfl) ⟨Nat.le_of_ble_eq_true rfl, Nat.le_of_ble_eq_true rfl⟩ hc1 hs1 dL_law_815 ?_
  exact l_eqT (tgt := 2297) hX dL_law_818 (by decide) rfl kk
theorem cs_16 {P : lP} {l : Launch} {adC adM : Nat → Nat} {ao b L : Nat} {xs : Nat → Int32} {σ τ σ' τ' : vSt} {g : Nat → Int64} {cells slots N : Nat} {i : Int32} {r : Int32} (hX : lOK P l adC adM ao b L xs) (h1 : vp_in (i + 1) L) (h2 : vp_in (i + 2) L) (h3 : vp_in (i + 3) L) (h4 : vp_in (i + 4) L) (hc1 : cells ≤ 601024) (hs1 : slots ≤ 7293034) (hC : fC_EachAddsALine_read N (xs (i + 1).toNatClampNeg) σ = some (r, σ')) (hM : fM_EachAddsALineModel_read N (xs (i + 1).toNatClampNeg) τ = some (r, τ')) (kk : P σ' τ' g cells slots 2297 [(0, .ref b), (1, .ref (adC 0)), (2, .ref (adM 0)), (3, .ref ao), (4, .int i)] []) : P σ τ g cells slots 823 [(0, .ref b), (1, .ref (adC 0)), (2, .ref (adM 0)), (3, .ref ao), (4, .int i)] [] := by
  refine l_aload_n hX dL_law_823 rfl 1 rfl ?_
  refine l_aload_n hX dL_law_824 rfl 0 rfl ?_
  refine l_iload hX dL_law_825 4 rfl ?_
  refine l_iconst (v := 1) hX dL_law_827 (by decide) ?_
  refine l_iadd hX dL_law_828 ?_
  refine l_sld hX h1 dL_law_829 ?_
  refine l_callIC hX (mC_EachAddsALine_read hC l adC) kM_X11_read kV_X11_read rfl km_L_97 rfl rfl (Nat.le_of_ble_eq_true rfl) ⟨Nat.le_of_ble_eq_true rfl, Nat.le_of_ble_eq_true rfl⟩ hc1 hs1 dL_law_830 ?_
  refine l_aload_n hX dL_law_833 rfl 2 rfl ?_
  refine l_aload_n hX dL_law_834 rfl 0 rfl ?_
  refine l_iload hX dL_law_835 4 rfl ?_
  refine l_iconst (v := 1) hX dL_law_837 (by decide) ?_
  refine l_iadd hX dL_law_838 ?_
  refine l_sld hX h1 dL_law_839 ?_
  refine l_callIM hX (mM_EachAddsALineModel_read hM l adM) kM_X12_read kV_X12_read rfl km_L_100 rfl rfl (Nat.le_of_ble_eq_true rfl) ⟨Nat.le_of_ble_eq_true rfl, Nat.le_of_ble_eq_true rfl⟩ hc1 hs1 dL_law_840 ?_
  exact l_eqT (tgt := 2297) hX dL_law_843 (by decide) rfl kk
theorem cs_17 {P : lP} {l : Launch} {adC adM : Nat → Nat} {ao b L : Nat} {xs : Nat → Int32} {σ τ σ' τ' : vSt} {g : Nat → Int64} {cells slots N : Nat} {i : Int32} {r : Int32} (hX : lOK P l adC adM ao b L xs) (h1 : vp_in (i + 1) L) (h2 : vp_in (i + 2) L) (h3 : vp_in (i + 3) L) (h4 : vp_in (i + 4) L) (hc1 : cells ≤ 601024) (hs1 : slots ≤ 7293034) (hC : fC_EachAddsALine_soonest N (xs (i + 1).toNatClampNeg) (xs (i + 2).toNatClampNeg) (xs (i + 3).toNatClampNeg) σ = some (r, σ')) (hM : fM_EachAddsALineModel_soonest N (xs (i + 1).toNatClampNeg) (xs (i + 2).toNatClampNeg) (xs (i + 3).toNatClampNeg) τ = some (r, τ')) (kk : P σ' τ' g cells slots 2297 [(0, .ref b), (1, .ref (adC 0)), (2, .ref (adM 0)), (3, .ref ao), (4, .int i)] []) : P σ τ g cells slots 848 [(0, .ref b), (1, .ref (adC 0)), (2, .ref (adM 0)), (3, .ref ao), (4, .int i)] [] := by
  refine l_aload_n hX dL_law_848 rfl 1 rfl ?_
  refine l_aload_n hX dL_law_849 rfl 0 rfl ?_
  refine l_iload hX dL_law_850 4 rfl ?_
  refine l_iconst (v := 1) hX dL_law_852 (by decide) ?_
  refine l_iadd hX dL_law_853 ?_
  refine l_sld hX h1 dL_law_854 ?_
  refine l_aload_n hX dL_law_855 rfl 0 rfl ?_
  refine l_iload hX dL_law_856 4 rfl ?_
  refine l_iconst (v := 2) hX dL_law_858 (by decide) ?_
  refine l_iadd hX dL_law_859 ?_
  refine l_sld hX h2 dL_law_860 ?_
  refine l_aload_n hX dL_law_861 rfl 0 rfl ?_
  refine l_iload hX dL_law_862 4 rfl ?_
  refine l_iconst (v := 3) hX dL_law_864 (by decide) ?_
  refine l_iadd hX dL_law_865 ?_
  refine l_sld hX h3 dL_law_866 ?_
  refine l_callIC hX (mC_EachAddsALine_soonest hC l adC) kM_X11_soonest kV_X11_soonest rfl km_L_101 rfl rfl (Nat.le_of_ble_eq_true rfl) ⟨Nat.le_of_ble_eq_true rfl, Nat.le_of_ble_eq_true rfl⟩ hc1 hs1 dL_law_867 ?_
  refine l_aload_n hX dL_law_870 rfl 2 rfl ?_
  refine l_aload_n hX dL_law_871 rfl 0 rfl ?_
  refine l_iload hX dL_law_872 4 rfl ?_
  refine l_iconst (v := 1) hX dL_law_874 (by decide) ?_
  refine l_iadd hX dL_law_875 ?_
  refine l_sld hX h1 dL_law_876 ?_
  refine l_aload_n hX dL_law_877 rfl 0 rfl ?_
  refine l_iload hX dL_law_878 4 rfl ?_
  refine l_iconst (v := 2) hX dL_law_880 (by decide) ?_
  refine l_iadd hX dL_law_881 ?_
  refine l_sld hX h2 dL_law_882 ?_
  refine l_aload_n hX dL_law_883 rfl 0 rfl ?_
  refine l_iload hX dL_law_884 4 rfl ?_
  refine l_iconst (v := 3) hX dL_law_886 (by decide) ?_
  refine l_iadd hX dL_law_887 ?_
  refine l_sld hX h3 dL_law_888 ?_
  refine l_callIM hX (mM_EachAddsALineModel_soonest hM l adM) kM_X12_soonest kV_X12_soonest rfl km_L_104 rfl rfl (Nat.le_of_ble_eq_true rfl) ⟨Nat.le_of_ble_eq_true rfl, Nat.le_of_ble_eq_true rfl⟩ hc1 hs1 dL_law_889 ?_
  exact l_eqT (tgt := 2297) hX dL_law_892 (by decide) rfl kk
theorem cs_18 {P : lP} {l : Launch} {adC adM : Nat → Nat} {ao b L : Nat} {xs : Nat → Int32} {σ τ σ' τ' : vSt} {g : Nat → Int64} {cells slots N : Nat} {i : Int32} {r : Int32} (hX : lOK P l adC adM ao b L xs) (h1 : vp_in (i + 1) L) (h2 : vp_in (i + 2) L) (h3 : vp_in (i + 3) L) (h4 : vp_in (i + 4) L) (hc1 : cells ≤ 601024) (hs1 : slots ≤ 7293034) (hC : fC_EachAddsALine_latest N (xs (i + 1).toNatClampNeg) (xs (i + 2).toNatClampNeg) (xs (i + 3).toNatClampNeg) σ = some (r, σ')) (hM : fM_EachAddsALineModel_latest N (xs (i + 1).toNatClampNeg) (xs (i + 2).toNatClampNeg) (xs (i + 3).toNatClampNeg) τ = some (r, τ')) (kk : P σ' τ' g cells slots 2297 [(0, .ref b), (1, .ref (adC 0)), (2, .ref (adM 0)), (3, .ref ao), (4, .int i)] []) : P σ τ g cells slots 897 [(0, .ref b), (1, .ref (adC 0)), (2, .ref (adM 0)), (3, .ref ao), (4, .int i)] [] := by
  refine l_aload_n hX dL_law_897 rfl 1 rfl ?_
  refine l_aload_n hX dL_law_898 rfl 0 rfl ?_
  refine l_iload hX dL_law_899 4 rfl ?_
  refine l_iconst (v := 1) hX dL_law_901 (by decide) ?_
  refine l_iadd hX dL_law_902 ?_
  refine l_sld hX h1 dL_law_903 ?_
  refine l_aload_n hX dL_law_904 rfl 0 rfl ?_
  refine l_iload hX dL_law_905 4 rfl ?_
  refine l_iconst (v := 2) hX dL_law_907 (by decide) ?_
  refine l_iadd hX dL_law_908 ?_
  refine l_sld hX h2 dL_law_909 ?_
  refine l_aload_n hX dL_law_910 rfl 0 rfl ?_
  refine l_iload hX dL_law_911 4 rfl ?_
  refine l_iconst (v := 3) hX dL_law_913 (by decide) ?_
  refine l_iadd hX dL_law_914 ?_
  refine l_sld hX h3 dL_law_915 ?_
  refine l_callIC hX (mC_EachAddsALine_latest hC l adC) kM_X11_latest kV_X11_latest rfl km_L_105 rfl rfl (Nat.le_of_ble_eq_true rfl) ⟨Nat.le_of_ble_eq_true rfl, Nat.le_of_ble_eq_true rfl⟩ hc1 hs1 dL_law_916 ?_
  refine l_aload_n hX dL_law_919 rfl 2 rfl ?_
  refine l_aload_n hX dL_law_920 rfl 0 rfl ?_
  refine l_iload hX dL_law_921 4 rfl ?_
  refine l_iconst (v := 1) hX dL_law_923 (by decide) ?_
  refine l_iadd hX dL_law_924 ?_
  refine l_sld hX h1 dL_law_925 ?_
  refine l_aload_n hX dL_law_926 rfl 0 rfl ?_
  refine l_iload hX dL_law_927 4 rfl ?_
  refine l_iconst (v := 2) hX dL_law_929 (by decide) ?_
  refine l_iadd hX dL_law_930 ?_
  refine l_sld hX h2 dL_law_931 ?_
  refine l_aload_n hX dL_law_932 rfl 0 rfl ?_
  refine l_iload hX dL_law_933 4 rfl ?_
  refine l_iconst (v := 3) hX dL_law_935 (by decide) ?_
  refine l_iadd hX dL_law_936 ?_
  refine l_sld hX h3 dL_law_937 ?_
  refine l_callIM hX (mM_EachAddsALineModel_latest hM l adM) kM_X12_latest kV_X12_latest rfl km_L_108 rfl rfl (Nat.le_of_ble_eq_true rfl) ⟨Nat.le_of_ble_eq_true rfl, Nat.le_of_ble_eq_true rfl⟩ hc1 hs1 dL_law_938 ?_
  exact l_eqT (tgt := 2297) hX dL_law_941 (by decide) rfl kk
theorem cs_19 {P : lP} {l : Launch} {adC adM : Nat → Nat} {ao b L : Nat} {xs : Nat → Int32} {σ τ σ' τ' : vSt} {g : Nat → Int64} {cells slots N : Nat} {i : Int32} {r : Int32} (hX : lOK P l adC adM ao b L xs) (h1 : vp_in (i + 1) L) (h2 : vp_in (i + 2) L) (h3 : vp_in (i + 3) L) (h4 : vp_in (i + 4) L) (hc1 : cells ≤ 601024) (hs1 : slots ≤ 7293034) (hC : fC_EachAddsALine_hands N (xs (i + 1).toNatClampNeg) (xs (i + 2).toNatClampNeg) (xs (i + 3).toNatClampNeg) σ = some (r, σ')) (hM : fM_EachAddsALineModel_hands N (xs (i + 1).toNatClampNeg) (xs (i + 2).toNatClampNeg) (xs (i + 3).toNatClampNeg) τ = some (r, τ')) (kk : P σ' τ' g cells slots 2297 [(0, .ref b), (1, .ref (adC 0)), (2, .ref (adM 0)), (3, .ref ao), (4, .int i)] []) : P σ τ g cells slots 946 [(0, .ref b), (1, .ref (adC 0)), (2, .ref (adM 0)), (3, .ref ao), (4, .int i)] [] := by
  refine l_aload_n hX dL_law_946 rfl 1 rfl ?_
  refine l_aload_n hX dL_law_947 rfl 0 rfl ?_
  refine l_iload hX dL_law_948 4 rfl ?_
  refine l_iconst (v := 1) hX dL_law_950 (by decide) ?_
  refine l_iadd hX dL_law_951 ?_
  refine l_sld hX h1 dL_law_952 ?_
  refine l_aload_n hX dL_law_953 rfl 0 rfl ?_
  refine l_iload hX dL_law_954 4 rfl ?_
  refine l_iconst (v := 2) hX dL_law_956 (by decide) ?_
  refine l_iadd hX dL_law_957 ?_
  refine l_sld hX h2 dL_law_958 ?_
  refine l_aload_n hX dL_law_959 rfl 0 rfl ?_
  refine l_iload hX dL_law_960 4 rfl ?_
  refine l_iconst (v := 3) hX dL_law_962 (by decide) ?_
  refine l_iadd hX dL_law_963 ?_
  refine l_sld hX h3 dL_law_964 ?_
  refine l_callIC hX (mC_EachAddsALine_hands hC l adC) kM_X11_hands kV_X11_hands rfl km_L_109 rfl rfl (Nat.le_of_ble_eq_true rfl) ⟨Nat.le_of_ble_eq_true rfl, Nat.le_of_ble_eq_true rfl⟩ hc1 hs1 dL_law_965 ?_
  refine l_aload_n hX dL_law_968 rfl 2 rfl ?_
  refine l_aload_n hX dL_law_969 rfl 0 rfl ?_
  refine l_iload hX dL_law_970 4 rfl ?_
  refine l_iconst (v := 1) hX dL_law_972 (by decide) ?_
  refine l_iadd hX dL_law_973 ?_
  refine l_sld hX h1 dL_law_974 ?_
  refine l_aload_n hX dL_law_975 rfl 0 rfl ?_
  refine l_iload hX dL_law_976 4 rfl ?_
  refine l_iconst (v := 2) hX dL_law_978 (by decide) ?_
  refine l_iadd hX dL_law_979 ?_
  refine l_sld hX h2 dL_law_980 ?_
  refine l_aload_n hX dL_law_981 rfl 0 rfl ?_
  refine l_iload hX dL_law_982 4 rfl ?_
  refine l_iconst (v := 3) hX dL_law_984 (by decide) ?_
  refine l_iadd hX dL_law_985 ?_
  refine l_sld hX h3 dL_law_986 ?_
  refine l_callIM hX (mM_EachAddsALineModel_hands hM l adM) kM_X12_hands kV_X12_hands rfl km_L_112 rfl rfl (Nat.le_of_ble_eq_true rfl) ⟨Nat.le_of_ble_eq_true rfl, Nat.le_of_ble_eq_true rfl⟩ hc1 hs1 dL_law_987 ?_
  exact l_eqT (tgt := 2297) hX dL_law_990 (by decide) rfl kk
theorem cs_20 {P : lP} {l : Launch} {adC adM : Nat → Nat} {ao b L : Nat} {xs : Nat → Int32} {σ τ σ' τ' : vSt} {g : Nat → Int64} {cells slots N : Nat} {i : Int32} {r : Int32} (hX : lOK P l adC adM ao b L xs) (h1 : vp_in (i + 1) L) (h2 : vp_in (i + 2) L) (h3 : vp_in (i + 3) L) (h4 : vp_in (i + 4) L) (hc1 : cells ≤ 601024) (hs1 : slots ≤ 7293034) (hC : fC_EachAddsALine_cheapest N (xs (i + 1).toNatClampNeg) (xs (i + 2).toNatClampNeg) (xs (i + 3).toNatClampNeg) σ = some (r, σ')) (hM : fM_EachAddsALineModel_cheapest N (xs (i + 1).toNatClampNeg) (xs (i + 2).toNatClampNeg) (xs (i + 3).toNatClampNeg) τ = some (r, τ')) (kk : P σ' τ' g cells slots 2297 [(0, .ref b), (1, .ref (adC 0)), (2, .ref (adM 0)), (3, .ref ao), (4, .int i)] []) : P σ τ g cells slots 995 [(0, .ref b), (1, .ref (adC 0)), (2, .ref (adM 0)), (3, .ref ao), (4, .int i)] [] := by
  refine l_aload_n hX dL_law_995 rfl 1 rfl ?_
  refine l_aload_n hX dL_law_996 rfl 0 rfl ?_
  refine l_iload hX dL_law_997 4 rfl ?_
  refine l_iconst (v := 1) hX dL_law_999 (by decide) ?_
  refine l_iadd hX dL_law_1000 ?_
  refine l_sld hX h1 dL_law_1001 ?_
  refine l_aload_n hX dL_law_1002 rfl 0 rfl ?_
  refine l_iload hX dL_law_1003 4 rfl ?_
  refine l_iconst (v := 2) hX dL_law_1005 (by decide) ?_
  refine l_iadd hX dL_law_1006 ?_
  refine l_sld hX h2 dL_law_1007 ?_
  refine l_aload_n hX dL_law_1008 rfl 0 rfl ?_
  refine l_iload hX dL_law_1009 4 rfl ?_
  refine l_iconst (v := 3) hX dL_law_1011 (by decide) ?_
  refine l_iadd hX dL_law_1012 ?_
  refine l_sld hX h3 dL_law_1013 ?_
  refine l_callIC hX (mC_EachAddsALine_cheapest hC l adC) kM_X11_cheapest kV_X11_cheapest rfl km_L_113 rfl rfl (Nat.le_of_ble_eq_true rfl) ⟨Nat.le_of_ble_eq_true rfl, Nat.le_of_ble_eq_true rfl⟩ hc1 hs1 dL_law_1014 ?_
  refine l_aload_n hX dL_law_1017 rfl 2 rfl ?_
  refine l_aload_n hX dL_law_1018 rfl 0 rfl ?_
  refine l_iload hX dL_law_1019 4 rfl ?_
  refine l_iconst (v := 1) hX dL_law_1021 (by decide) ?_
  refine l_iadd hX dL_law_1022 ?_
  refine l_sld hX h1 dL_law_1023 ?_
  refine l_aload_n hX dL_law_1024 rfl 0 rfl ?_
  refine l_iload hX dL_law_1025 4 rfl ?_
  refine l_iconst (v := 2) hX dL_law_1027 (by decide) ?_
  refine l_iadd hX dL_law_1028 ?_
  refine l_sld hX h2 dL_law_1029 ?_
  refine l_aload_n hX dL_law_1030 rfl 0 rfl ?_
  refine l_iload hX dL_law_1031 4 rfl ?_
  refine l_iconst (v := 3) hX dL_law_1033 (by decide) ?_
  refine l_iadd hX dL_law_1034 ?_
  refine l_sld hX h3 dL_law_1035 ?_
  refine l_callIM hX (mM_EachAddsALineModel_cheapest hM l adM) kM_X12_cheapest kV_X12_cheapest rfl km_L_116 rfl rfl (Nat.le_of_ble_eq_true rfl) ⟨Nat.le_of_ble_eq_true rfl, Nat.le_of_ble_eq_true rfl⟩ hc1 hs1 dL_law_1036 ?_
  exact l_eqT (tgt := 2297) hX dL_law_1039 (by decide) rfl kk
theorem cs_21 {P : lP} {l : Launch} {adC adM : Nat → Nat} {ao b L : Nat} {xs : Nat → Int32} {σ τ σ' τ' : vSt} {g : Nat → Int64} {cells slots N : Nat} {i : Int32} {r : Int32} (hX : lOK P l adC adM ao b L xs) (h1 : vp_in (i + 1) L) (h2 : vp_in (i + 2) L) (h3 : vp_in (i + 3) L) (h4 : vp_in (i + 4) L) (hc1 : cells ≤ 601024) (hs1 : slots ≤ 7293034) (hC : fC_EachAddsALine_without N (xs (i + 1).toNatClampNeg) (xs (i + 2).toNatClampNeg) (xs (i + 3).toNatClampNeg) (xs (i + 4).toNatClampNeg) σ = some (r, σ')) (hM : fM_EachAddsALineModel_without N (xs (i + 1).toNatClampNeg) (xs (i + 2).toNatClampNeg) (xs (i + 3).toNatClampNeg) (xs (i + 4).toNatClampNeg) τ = some (r, τ')) (kk : P σ' τ' g cells slots 2297 [(0, .ref b), (1, .ref (adC 0)), (2, .ref (adM 0)), (3, .ref ao), (4, .int i)] []) : P σ τ g cells slots 1044 [(0, .ref b), (1, .ref (adC 0)), (2, .ref (adM 0)), (3, .ref ao), (4, .int i)] [] := by
  refine l_aload_n hX dL_law_1044 rfl 1 rfl ?_
  refine l_aload_n hX dL_law_1045 rfl 0 rfl ?_
  refine l_iload hX dL_law_1046 4 rfl ?_
  refine l_iconst (v := 1) hX dL_law_1048 (by decide) ?_
  refine l_iadd hX dL_law_1049 ?_
  refine l_sld hX h1 dL_law_1050 ?_
  refine l_aload_n hX dL_law_1051 rfl 0 rfl ?_
  refine l_iload hX dL_law_1052 4 rfl ?_
  refine l_iconst (v := 2) hX dL_law_1054 (by decide) ?_
  refine l_iadd hX dL_law_1055 ?_
  refine l_sld hX h2 dL_law_1056 ?_
  refine l_aload_n hX dL_law_1057 rfl 0 rfl ?_
  refine l_iload hX dL_law_1058 4 rfl ?_
  refine l_iconst (v := 3) hX dL_law_1060 (by decide) ?_
  refine l_iadd hX dL_law_1061 ?_
  refine l_sld hX h3 dL_law_1062 ?_
  refine l_aload_n hX dL_law_1063 rfl 0 rfl ?_
  refine l_iload hX dL_law_1064 4 rfl ?_
  refine l_iconst (v := 4) hX dL_law_1066 (by decide) ?_
  refine l_iadd hX dL_law_1067 ?_
  refine l_sld hX h4 dL_law_1068 ?_
  refine l_callIC hX (mC_EachAddsALine_without hC l adC) kM_X11_without kV_X11_without rfl km_L_117 rfl rfl (Nat.le_of_ble_eq_true rfl) ⟨Nat.le_of_ble_eq_true rfl, Nat.le_of_ble_eq_true rfl⟩ hc1 hs1 dL_law_1069 ?_
  refine l_aload_n hX dL_law_1072 rfl 2 rfl ?_
  refine l_aload_n hX dL_law_1073 rfl 0 rfl ?_
  refine l_iload hX dL_law_1074 4 rfl ?_
  refine l_iconst (v := 1) hX dL_law_1076 (by decide) ?_
  refine l_iadd hX dL_law_1077 ?_
  refine l_sld hX h1 dL_law_1078 ?_
  refine l_aload_n hX dL_law_1079 rfl 0 rfl ?_
  refine l_iload hX dL_law_1080 4 rfl ?_
  refine l_iconst (v := 2) hX dL_law_1082 (by decide) ?_
  refine l_iadd hX dL_law_1083 ?_
  refine l_sld hX h2 dL_law_1084 ?_
  refine l_aload_n hX dL_law_1085 rfl 0 rfl ?_
  refine l_iload hX dL_law_1086 4 rfl ?_
  refine l_iconst (v := 3) hX dL_law_1088 (by decide) ?_
  refine l_iadd hX dL_law_1089 ?_
  refine l_sld hX h3 dL_law_1090 ?_
  refine l_aload_n hX dL_law_1091 rfl 0 rfl ?_
  refine l_iload hX dL_law_1092 4 rfl ?_
  refine l_iconst (v := 4) hX dL_law_1094 (by decide) ?_
  refine l_iadd hX dL_law_1095 ?_
  refine l_sld hX h4 dL_law_1096 ?_
  refine l_callIM hX (mM_EachAddsALineModel_without hM l adM) kM_X12_without kV_X12_without rfl km_L_120 rfl rfl (Nat.le_of_ble_eq_true rfl) ⟨Nat.le_of_ble_eq_true rfl, Nat.le_of_ble_eq_true rfl⟩ hc1 hs1 dL_law_1097 ?_
  exact l_eqT (tgt := 2297) hX dL_law_1100 (by decide) rfl kk
theorem cs_22 {P : lP} {l : Launch} {adC adM : Nat → Nat} {ao b L : Nat} {xs : Nat → Int32} {σ τ σ' τ' : vSt} {g : Nat → Int64} {cells slots N : Nat} {i : Int32} {r : Int64} (hX : lOK P l adC adM ao b L xs) (h1 : vp_in (i + 1) L) (h2 : vp_in (i + 2) L) (h3 : vp_in (i + 3) L) (h4 : vp_in (i + 4) L) (hc1 : cells ≤ 601024) (hs1 : slots ≤ 7293034) (hC : fC_EachAddsALine_ways N (xs (i + 1).toNatClampNeg) (xs (i + 2).toNatClampNeg) (xs (i + 3).toNatClampNeg) σ = some (r, σ')) (hM : fM_EachAddsALineModel_ways N (xs (i + 1).toNatClampNeg) (xs (i + 2).toNatClampNeg) (xs (i + 3).toNatClampNeg) τ = some (r, τ')) (kk : P σ' τ' g cells slots 2297 [(0, .ref b), (1, .ref (adC 0)), (2, .ref (adM 0)), (3, .ref ao), (4, .int i)] []) : P σ τ g cells slots 1105 [(0, .ref b), (1, .ref (adC 0)), (2, .ref (adM 0)), (3, .ref ao), (4, .int i)] [] := by
  refine l_aload_n hX dL_law_1105 rfl 1 rfl ?_
  refine l_aload_n hX dL_law_1106 rfl 0 rfl ?_
  refine l_iload hX dL_law_1107 4 rfl ?_
  refine l_iconst (v := 1) hX dL_law_1109 (by decide) ?_
  refine l_iadd hX dL_law_1110 ?_
  refine l_sld hX h1 dL_law_1111 ?_
  refine l_aload_n hX dL_law_1112 rfl 0 rfl ?_
  refine l_iload hX dL_law_1113 4 rfl ?_
  refine l_iconst (v := 2) hX dL_law_1115 (by decide) ?_
  refine l_iadd hX dL_law_1116 ?_
  refine l_sld hX h2 dL_law_1117 ?_
  refine l_aload_n hX dL_law_1118 rfl 0 rfl ?_
  refine l_iload hX dL_law_1119 4 rfl ?_
  refine l_iconst (v := 3) hX dL_law_1121 (by decide) ?_
  refine l_iadd hX dL_law_1122 ?_
  refine l_sld hX h3 dL_law_1123 ?_
  refine l_callLC hX (mC_EachAddsALine_ways hC l adC) kM_X11_ways kV_X11_ways rfl km_L_121 rfl rfl (Nat.le_of_ble_eq_true rfl) ⟨Nat.le_of_ble_eq_true rfl, Nat.le_of_ble_eq_true rfl⟩ hc1 hs1 dL_law_1124 ?_
  refine l_aload_n hX dL_law_1127 rfl 2 rfl ?_
  refine l_aload_n hX dL_law_1128 rfl 0 rfl ?_
  refine l_iload hX dL_law_1129 4 rfl ?_
  refine l_iconst (v := 1) hX dL_law_1131 (by decide) ?_
  refine l_iadd hX dL_law_1132 ?_
  refine l_sld hX h1 dL_law_1133 ?_
  refine l_aload_n hX dL_law_1134 rfl 0 rfl ?_
  refine l_iload hX dL_law_1135 4 rfl ?_
  refine l_iconst (v := 2) hX dL_law_1137 (by decide) ?_
  refine l_iadd hX dL_law_1138 ?_
  refine l_sld hX h2 dL_law_1139 ?_
  refine l_aload_n hX dL_law_1140 rfl 0 rfl ?_
  refine l_iload hX dL_law_1141 4 rfl ?_
  refine l_iconst (v := 3) hX dL_law_1143 (by decide) ?_
  refine l_iadd hX dL_law_1144 ?_
  refine l_sld hX h3 dL_law_1145 ?_
  refine l_callLM hX (mM_EachAddsALineModel_ways hM l adM) kM_X12_ways kV_X12_ways rfl km_L_125 rfl rfl (Nat.le_of_ble_eq_true rfl) ⟨Nat.le_of_ble_eq_true rfl, Nat.le_of_ble_eq_true rfl⟩ hc1 hs1 dL_law_1146 ?_
  refine l_lcmp hX dL_law_1149 ?_
  exact l_ifeqT (tgt := 2297) hX dL_law_1150 (by decide) (by rw [lg_cmp_refl]) kk
theorem cs_23 {P : lP} {l : Launch} {adC adM : Nat → Nat} {ao b L : Nat} {xs : Nat → Int32} {σ τ σ' τ' : vSt} {g : Nat → Int64} {cells slots N : Nat} {i : Int32} {r : Int32} (hX : lOK P l adC adM ao b L xs) (h1 : vp_in (i + 1) L) (h2 : vp_in (i + 2) L) (h3 : vp_in (i + 3) L) (h4 : vp_in (i + 4) L) (hc1 : cells ≤ 601024) (hs1 : slots ≤ 7293034) (hC : fC_EachAddsALine_needs N (xs (i + 1).toNatClampNeg) (xs (i + 2).toNatClampNeg) (xs (i + 3).toNatClampNeg) σ = some (r, σ')) (hM : fM_EachAddsALineModel_needs N (xs (i + 1).toNatClampNeg) (xs (i + 2).toNatClampNeg) (xs (i + 3).toNatClampNeg) τ = some (r, τ')) (kk : P σ' τ' g cells slots 2297 [(0, .ref b), (1, .ref (adC 0)), (2, .ref (adM 0)), (3, .ref ao), (4, .int i)] []) : P σ τ g cells slots 1155 [(0, .ref b), (1, .ref (adC 0)), (2, .ref (adM 0)), (3, .ref ao), (4, .int i)] [] := by
  refine l_aload_n hX dL_law_1155 rfl 1 rfl ?_
  refine l_aload_n hX dL_law_1156 rfl 0 rfl ?_
  refine l_iload hX dL_law_1157 4 rfl ?_
  refine l_iconst (v := 1) hX dL_law_1159 (by decide) ?_
  refine l_iadd hX dL_law_1160 ?_
  refine l_sld hX h1 dL_law_1161 ?_
  refine l_aload_n hX dL_law_1162 rfl 0 rfl ?_
  refine l_iload hX dL_law_1163 4 rfl ?_
  refine l_iconst (v := 2) hX dL_law_1165 (by decide) ?_
  refine l_iadd hX dL_law_1166 ?_
  refine l_sld hX h2 dL_law_1167 ?_
  refine l_aload_n hX dL_law_1168 rfl 0 rfl ?_
  refine l_iload hX dL_law_1169 4 rfl ?_
  refine l_iconst (v := 3) hX dL_law_1171 (by decide) ?_
  refine l_iadd hX dL_law_1172 ?_
  refine l_sld hX h3 dL_law_1173 ?_
  refine l_callIC hX (mC_EachAddsALine_needs hC l adC) kM_X11_needs kV_X11_needs rfl km_L_126 rfl rfl (Nat.le_of_ble_eq_true rfl) ⟨Nat.le_of_ble_eq_true rfl, Nat.le_of_ble_eq_true rfl⟩ hc1 hs1 dL_law_1174 ?_
  refine l_aload_n hX dL_law_1177 rfl 2 rfl ?_
  refine l_aload_n hX dL_law_1178 rfl 0 rfl ?_
  refine l_iload hX dL_law_1179 4 rfl ?_
  refine l_iconst (v := 1) hX dL_law_1181 (by decide) ?_
  refine l_iadd hX dL_law_1182 ?_
  refine l_sld hX h1 dL_law_1183 ?_
  refine l_aload_n hX dL_law_1184 rfl 0 rfl ?_
  refine l_iload hX dL_law_1185 4 rfl ?_
  refine l_iconst (v := 2) hX dL_law_1187 (by decide) ?_
  refine l_iadd hX dL_law_1188 ?_
  refine l_sld hX h2 dL_law_1189 ?_
  refine l_aload_n hX dL_law_1190 rfl 0 rfl ?_
  refine l_iload hX dL_law_1191 4 rfl ?_
  refine l_iconst (v := 3) hX dL_law_1193 (by decide) ?_
  refine l_iadd hX dL_law_1194 ?_
  refine l_sld hX h3 dL_law_1195 ?_
  refine l_callIM hX (mM_EachAddsALineModel_needs hM l adM) kM_X12_needs kV_X12_needs rfl km_L_129 rfl rfl (Nat.le_of_ble_eq_true rfl) ⟨Nat.le_of_ble_eq_true rfl, Nat.le_of_ble_eq_true rfl⟩ hc1 hs1 dL_law_1196 ?_
  exact l_eqT (tgt := 2297) hX dL_law_1199 (by decide) rfl kk
theorem cs_24 {P : lP} {l : Launch} {adC adM : Nat → Nat} {ao b L : Nat} {xs : Nat → Int32} {σ τ σ' τ' : vSt} {g : Nat → Int64} {cells slots N : Nat} {i : Int32} {r : Int32} (hX : lOK P l adC adM ao b L xs) (h1 : vp_in (i + 1) L) (h2 : vp_in (i + 2) L) (h3 : vp_in (i + 3) L) (h4 : vp_in (i + 4) L) (hc1 : cells ≤ 601024) (hs1 : slots ≤ 7293034) (hC : fC_EachAddsALine_idle N (xs (i + 1).toNatClampNeg) (xs (i + 2).toNatClampNeg) (xs (i + 3).toNatClampNeg) σ = some (r, σ')) (hM : fM_EachAddsALineModel_idle N (xs (i + 1).toNatClampNeg) (xs (i + 2).toNatClampNeg) (xs (i + 3).toNatClampNeg) τ = some (r, τ')) (kk : P σ' τ' g cells slots 2297 [(0, .ref b), (1, .ref (adC 0)), (2, .ref (adM 0)), (3, .ref ao), (4, .int i)] []) : P σ τ g cells slots 1204 [(0, .ref b), (1, .ref (adC 0)), (2, .ref (adM 0)), (3, .ref ao), (4, .int i)] [] := by
  refine l_aload_n hX dL_law_1204 rfl 1 rfl ?_
  refine l_aload_n hX dL_law_1205 rfl 0 rfl ?_
  refine l_iload hX dL_law_1206 4 rfl ?_
  refine l_iconst (v := 1) hX dL_law_1208 (by decide) ?_
  refine l_iadd hX dL_law_1209 ?_
  refine l_sld hX h1 dL_law_1210 ?_
  refine l_aload_n hX dL_law_1211 rfl 0 rfl ?_
  refine l_iload hX dL_law_1212 4 rfl ?_
  refine l_iconst (v := 2) hX dL_law_1214 (by decide) ?_
  refine l_iadd hX dL_law_1215 ?_
  refine l_sld hX h2 dL_law_1216 ?_
  refine l_aload_n hX dL_law_1217 rfl 0 rfl ?_
  refine l_iload hX dL_law_1218 4 rfl ?_
  refine l_iconst (v := 3) hX dL_law_1220 (by decide) ?_
  refine l_iadd hX dL_law_1221 ?_
  refine l_sld hX h3 dL_law_1222 ?_
  refine l_callIC hX (mC_EachAddsALine_idle hC l adC) kM_X11_idle kV_X11_idle rfl km_L_130 rfl rfl (Nat.le_of_ble_eq_true rfl) ⟨Nat.le_of_ble_eq_true rfl, Nat.le_of_ble_eq_true rfl⟩ hc1 hs1 dL_law_1223 ?_
  refine l_aload_n hX dL_law_1226 rfl 2 rfl ?_
  refine l_aload_n hX dL_law_1227 rfl 0 rfl ?_
  refine l_iload hX dL_law_1228 4 rfl ?_
  refine l_iconst (v := 1) hX dL_law_1230 (by decide) ?_
  refine l_iadd hX dL_law_1231 ?_
  refine l_sld hX h1 dL_law_1232 ?_
  refine l_aload_n hX dL_law_1233 rfl 0 rfl ?_
  refine l_iload hX dL_law_1234 4 rfl ?_
  refine l_iconst (v := 2) hX dL_law_1236 (by decide) ?_
  refine l_iadd hX dL_law_1237 ?_
  refine l_sld hX h2 dL_law_1238 ?_
  refine l_aload_n hX dL_law_1239 rfl 0 rfl ?_
  refine l_iload hX dL_law_1240 4 rfl ?_
  refine l_iconst (v := 3) hX dL_law_1242 (by decide) ?_
  refine l_iadd hX dL_law_1243 ?_
  refine l_sld hX h3 dL_law_1244 ?_
  refine l_callIM hX (mM_EachAddsALineModel_idle hM l adM) kM_X12_idle kV_X12_idle rfl km_L_133 rfl rfl (Nat.le_of_ble_eq_true rfl) ⟨Nat.le_of_ble_eq_true rfl, Nat.le_of_ble_eq_true rfl⟩ hc1 hs1 dL_law_1245 ?_
  exact l_eqT (tgt := 2297) hX dL_law_1248 (by decide) rfl kk
theorem cs_25 {P : lP} {l : Launch} {adC adM : Nat → Nat} {ao b L : Nat} {xs : Nat → Int32} {σ τ σ' τ' : vSt} {g : Nat → Int64} {cells slots N : Nat} {i : Int32} {r : Int32} (hX : lOK P l adC adM ao b L xs) (h1 : vp_in (i + 1) L) (h2 : vp_in (i + 2) L) (h3 : vp_in (i + 3) L) (h4 : vp_in (i + 4) L) (hc1 : cells ≤ 601024) (hs1 : slots ≤ 7293034) (hC : fC_EachAddsALine_longest N (xs (i + 1).toNatClampNeg) (xs (i + 2).toNatClampNeg) (xs (i + 3).toNatClampNeg) σ = some (r, σ')) (hM : fM_EachAddsALineModel_longest N (xs (i + 1).toNatClampNeg) (xs (i + 2).toNatClampNeg) (xs (i + 3).toNatClampNeg) τ = some (r, τ')) (kk : P σ' τ' g cells slots 2297 [(0, .ref b), (1, .ref (adC 0)), (2, .ref (adM 0)), (3, .ref ao), (4, .int i)] []) : P σ τ g cells slots 1253 [(0, .ref b), (1, .ref (adC 0)), (2, .ref (adM 0)), (3, .ref ao), (4, .int i)] [] := by
  refine l_aload_n hX dL_law_1253 rfl 1 rfl ?_
  refine l_aload_n hX dL_law_1254 rfl 0 rfl ?_
  refine l_iload hX dL_law_1255 4 rfl ?_
  refine l_iconst (v := 1) hX dL_law_1257 (by decide) ?_
  refine l_iadd hX dL_law_1258 ?_
  refine l_sld hX h1 dL_law_1259 ?_
  refine l_aload_n hX dL_law_1260 rfl 0 rfl ?_
  refine l_iload hX dL_law_1261 4 rfl ?_
  refine l_iconst (v := 2) hX dL_law_1263 (by decide) ?_
  refine l_iadd hX dL_law_1264 ?_
  refine l_sld hX h2 dL_law_1265 ?_
  refine l_aload_n hX dL_law_1266 rfl 0 rfl ?_
  refine l_iload hX dL_law_1267 4 rfl ?_
  refine l_iconst (v := 3) hX dL_law_1269 (by decide) ?_
  refine l_iadd hX dL_law_1270 ?_
  refine l_sld hX h3 dL_law_1271 ?_
  refine l_callIC hX (mC_EachAddsALine_longest hC l adC) kM_X11_longest kV_X11_longest rfl km_L_134 rfl rfl (Nat.le_of_ble_eq_true rfl) ⟨Nat.le_of_ble_eq_true rfl, Nat.le_of_ble_eq_true rfl⟩ hc1 hs1 dL_law_1272 ?_
  refine l_aload_n hX dL_law_1275 rfl 2 rfl ?_
  refine l_aload_n hX dL_law_1276 rfl 0 rfl ?_
  refine l_iload hX dL_law_1277 4 rfl ?_
  refine l_iconst (v := 1) hX dL_law_1279 (by decide) ?_
  refine l_iadd hX dL_law_1280 ?_
  refine l_sld hX h1 dL_law_1281 ?_
  refine l_aload_n hX dL_law_1282 rfl 0 rfl ?_
  refine l_iload hX dL_law_1283 4 rfl ?_
  refine l_iconst (v := 2) hX dL_law_1285 (by decide) ?_
  refine l_iadd hX dL_law_1286 ?_
  refine l_sld hX h2 dL_law_1287 ?_
  refine l_aload_n hX dL_law_1288 rfl 0 rfl ?_
  refine l_iload hX dL_law_1289 4 rfl ?_
  refine l_iconst (v := 3) hX dL_law_1291 (by decide) ?_
  refine l_iadd hX dL_law_1292 ?_
  refine l_sld hX h3 dL_law_1293 ?_
  refine l_callIM hX (mM_EachAddsALineModel_longest hM l adM) kM_X12_longest kV_X12_longest rfl km_L_137 rfl rfl (Nat.le_of_ble_eq_true rfl) ⟨Nat.le_of_ble_eq_true rfl, Nat.le_of_ble_eq_true rfl⟩ hc1 hs1 dL_law_1294 ?_
  exact l_eqT (tgt := 2297) hX dL_law_1297 (by decide) rfl kk
theorem cs_26 {P : lP} {l : Launch} {adC adM : Nat → Nat} {ao b L : Nat} {xs : Nat → Int32} {σ τ σ' τ' : vSt} {g : Nat → Int64} {cells slots N : Nat} {i : Int32} {r : Int32} (hX : lOK P l adC adM ao b L xs) (h1 : vp_in (i + 1) L) (h2 : vp_in (i + 2) L) (h3 : vp_in (i + 3) L) (h4 : vp_in (i + 4) L) (hc1 : cells ≤ 601024) (hs1 : slots ≤ 7293034) (hC : fC_EachAddsALine_pairs N (xs (i + 1).toNatClampNeg) σ = some (r, σ')) (hM : fM_EachAddsALineModel_pairs N (xs (i + 1).toNatClampNeg) τ = some (r, τ')) (kk : P σ' τ' g cells slots 2297 [(0, .ref b), (1, .ref (adC 0)), (2, .ref (adM 0)), (3, .ref ao), (4, .int i)] []) : P σ τ g cells slots 1302 [(0, .ref b), (1, .ref (adC 0)), (2, .ref (adM 0)), (3, .ref ao), (4, .int i)] [] := by
  refine l_aload_n hX dL_law_1302 rfl 1 rfl ?_
  refine l_aload_n hX dL_law_1303 rfl 0 rfl ?_
  refine l_iload hX dL_law_1304 4 rfl ?_
  refine l_iconst (v := 1) hX dL_law_1306 (by decide) ?_
  refine l_iadd hX dL_law_1307 ?_
  refine l_sld hX h1 dL_law_1308 ?_
  refine l_callIC hX (mC_EachAddsALine_pairs hC l adC) kM_X11_pairs kV_X11_pairs rfl km_L_138 rfl rfl (Nat.le_of_ble_eq_true rfl) ⟨Nat.le_of_ble_eq_true rfl, Nat.le_of_ble_eq_true rfl⟩ hc1 hs1 dL_law_1309 ?_
  refine l_aload_n hX dL_law_1312 rfl 2 rfl ?_
  refine l_aload_n hX dL_law_1313 rfl 0 rfl ?_
  refine l_iload hX dL_law_1314 4 rfl ?_
  refine l_iconst (v := 1) hX dL_law_1316 (by decide) ?_
  refine l_iadd hX dL_law_1317 ?_
  refine l_sld hX h1 dL_law_1318 ?_
  refine l_callIM hX (mM_EachAddsALineModel_pairs hM l adM) kM_X12_pairs kV_X12_pairs rfl km_L_141 rfl rfl (Nat.le_of_ble_eq_true rfl) ⟨Nat.le_of_ble_eq_true rfl, Nat.le_of_ble_eq_true rfl⟩ hc1 hs1 dL_law_1319 ?_
  exact l_eqT (tgt := 2297) hX dL_law_1322 (by decide) rfl kk
theorem cs_27 {P : lP} {l : Launch} {adC adM : Nat → Nat} {ao b L : Nat} {xs : Nat → Int32} {σ τ σ' τ' : vSt} {g : Nat → Int64} {cells slots N : Nat} {i : Int32} {r : Int32} (hX : lOK P l adC adM ao b L xs) (h1 : vp_in (i + 1) L) (h2 : vp_in (i + 2) L) (h3 : vp_in (i + 3) L) (h4 : vp_in (i + 4) L) (hc1 : cells ≤ 601024) (hs1 : slots ≤ 7293034) (hC : fC_EachAddsALine_bargain N (xs (i + 1).toNatClampNeg) (xs (i + 2).toNatClampNeg) (xs (i + 3).toNatClampNeg) (xs (i + 4).toNatClampNeg) σ = some (r, σ')) (hM : fM_EachAddsALineModel_bargain N (xs (i + 1).toNatClampNeg) (xs (i + 2).toNatClampNeg) (xs (i + 3).toNatClampNeg) (xs (i + 4).toNatClampNeg) τ = some (r, τ')) (kk : P σ' τ' g cells slots 2297 [(0, .ref b), (1, .ref (adC 0)), (2, .ref (adM 0)), (3, .ref ao), (4, .int i)] []) : P σ τ g cells slots 1327 [(0, .ref b), (1, .ref (adC 0)), (2, .ref (adM 0)), (3, .ref ao), (4, .int i)] [] := by
  refine l_aload_n hX dL_law_1327 rfl 1 rfl ?_
  refine l_aload_n hX dL_law_1328 rfl 0 rfl ?_
  refine l_iload hX dL_law_1329 4 rfl ?_
  refine l_iconst (v := 1) hX dL_law_1331 (by decide) ?_
  refine l_iadd hX dL_law_1332 ?_
  refine l_sld hX h1 dL_law_1333 ?_
  refine l_aload_n hX dL_law_1334 rfl 0 rfl ?_
  refine l_iload hX dL_law_1335 4 rfl ?_
  refine l_iconst (v := 2) hX dL_law_1337 (by decide) ?_
  refine l_iadd hX dL_law_1338 ?_
  refine l_sld hX h2 dL_law_1339 ?_
  refine l_aload_n hX dL_law_1340 rfl 0 rfl ?_
  refine l_iload hX dL_law_1341 4 rfl ?_
  refine l_iconst (v := 3) hX dL_law_1343 (by decide) ?_
  refine l_iadd hX dL_law_1344 ?_
  refine l_sld hX h3 dL_law_1345 ?_
  refine l_aload_n hX dL_law_1346 rfl 0 rfl ?_
  refine l_iload hX dL_law_1347 4 rfl ?_
  refine l_iconst (v := 4) hX dL_law_1349 (by decide) ?_
  refine l_iadd hX dL_law_1350 ?_
  refine l_sld hX h4 dL_law_1351 ?_
  refine l_callIC hX (mC_EachAddsALine_bargain hC l adC) kM_X11_bargain kV_X11_bargain rfl km_L_142 rfl rfl (Nat.le_of_ble_eq_true rfl) ⟨Nat.le_of_ble_eq_true rfl, Nat.le_of_ble_eq_true rfl⟩ hc1 hs1 dL_law_1352 ?_
  refine l_aload_n hX dL_law_1355 rfl 2 rfl ?_
  refine l_aload_n hX dL_law_1356 rfl 0 rfl ?_
  refine l_iload hX dL_law_1357 4 rfl ?_
  refine l_iconst (v := 1) hX dL_law_1359 (by decide) ?_
  refine l_iadd hX dL_law_1360 ?_
  refine l_sld hX h1 dL_law_1361 ?_
  refine l_aload_n hX dL_law_1362 rfl 0 rfl ?_
  refine l_iload hX dL_law_1363 4 rfl ?_
  refine l_iconst (v := 2) hX dL_law_1365 (by decide) ?_
  refine l_iadd hX dL_law_1366 ?_
  refine l_sld hX h2 dL_law_1367 ?_
  refine l_aload_n hX dL_law_1368 rfl 0 rfl ?_
  refine l_iload hX dL_law_1369 4 rfl ?_
  refine l_iconst (v := 3) hX dL_law_1371 (by decide) ?_
  refine l_iadd hX dL_law_1372 ?_
  refine l_sld hX h3 dL_law_1373 ?_
  refine l_aload_n hX dL_law_1374 rfl 0 rfl ?_
  refine l_iload hX dL_law_1375 4 rfl ?_
  refine l_iconst (v := 4) hX dL_law_1377 (by decide) ?_
  refine l_iadd hX dL_law_1378 ?_
  refine l_sld hX h4 dL_law_1379 ?_
  refine l_callIM hX (mM_EachAddsALineModel_bargain hM l adM) kM_X12_bargain kV_X12_bargain rfl km_L_145 rfl rfl (Nat.le_of_ble_eq_true rfl) ⟨Nat.le_of_ble_eq_true rfl, Nat.le_of_ble_eq_true rfl⟩ hc1 hs1 dL_law_1380 ?_
  exact l_eqT (tgt := 2297) hX dL_law_1383 (by decide) rfl kk
theorem cs_28 {P : lP} {l : Launch} {adC adM : Nat → Nat} {ao b L : Nat} {xs : Nat → Int32} {σ τ σ' τ' : vSt} {g : Nat → Int64} {cells slots N : Nat} {i : Int32} {r : Int32} (hX : lOK P l adC adM ao b L xs) (h1 : vp_in (i + 1) L) (h2 : vp_in (i + 2) L) (h3 : vp_in (i + 3) L) (h4 : vp_in (i + 4) L) (hc1 : cells ≤ 601024) (hs1 : slots ≤ 7293034) (hC : fC_EachAddsALine_apart N (xs (i + 1).toNatClampNeg) (xs (i + 2).toNatClampNeg) (xs (i + 3).toNatClampNeg) σ = some (r, σ')) (hM : fM_EachAddsALineModel_apart N (xs (i + 1).toNatClampNeg) (xs (i + 2).toNatClampNeg) (xs (i + 3).toNatClampNeg) τ = some (r, τ')) (kk : P σ' τ' g cells slots 2297 [(0, .ref b), (1, .ref (adC 0)), (2, .ref (adM 0)), (3, .ref ao), (4, .int i)] []) : P σ τ g cells slots 1388 [(0, .ref b), (1, .ref (adC 0)), (2, .ref (adM 0)), (3, .ref ao), (4, .int i)] [] := by
  refine l_aload_n hX dL_law_1388 rfl 1 rfl ?_
  refine l_aload_n hX dL_law_1389 rfl 0 rfl ?_
  refine l_iload hX dL_law_1390 4 rfl ?_
  refine l_iconst (v := 1) hX dL_law_1392 (by decide) ?_
  refine l_iadd hX dL_law_1393 ?_
  refine l_sld hX h1 dL_law_1394 ?_
  refine l_aload_n hX dL_law_1395 rfl 0 rfl ?_
  refine l_iload hX dL_law_1396 4 rfl ?_
  refine l_iconst (v := 2) hX dL_law_1398 (by decide) ?_
  refine l_iadd hX dL_law_1399 ?_
  refine l_sld hX h2 dL_law_1400 ?_
  refine l_aload_n hX dL_law_1401 rfl 0 rfl ?_
  refine l_iload hX dL_law_1402 4 rfl ?_
  refine l_iconst (v := 3) hX dL_law_1404 (by decide) ?_
  refine l_iadd hX dL_law_1405 ?_
  refine l_sld hX h3 dL_law_1406 ?_
  refine l_callIC hX (mC_EachAddsALine_apart hC l adC) kM_X11_apart kV_X11_apart rfl km_L_146 rfl rfl (Nat.le_of_ble_eq_true rfl) ⟨Nat.le_of_ble_eq_true rfl, Nat.le_of_ble_eq_true rfl⟩ hc1 hs1 dL_law_1407 ?_
  refine l_aload_n hX dL_law_1410 rfl 2 rfl ?_
  refine l_aload_n hX dL_law_1411 rfl 0 rfl ?_
  refine l_iload hX dL_law_1412 4 rfl ?_
  refine l_iconst (v := 1) hX dL_law_1414 (by decide) ?_
  refine l_iadd hX dL_law_1415 ?_
  refine l_sld hX h1 dL_law_1416 ?_
  refine l_aload_n hX dL_law_1417 rfl 0 rfl ?_
  refine l_iload hX dL_law_1418 4 rfl ?_
  refine l_iconst (v := 2) hX dL_law_1420 (by decide) ?_
  refine l_iadd hX dL_law_1421 ?_
  refine l_sld hX h2 dL_law_1422 ?_
  refine l_aload_n hX dL_law_1423 rfl 0 rfl ?_
  refine l_iload hX dL_law_1424 4 rfl ?_
  refine l_iconst (v := 3) hX dL_law_1426 (by decide) ?_
  refine l_iadd hX dL_law_1427 ?_
  refine l_sld hX h3 dL_law_1428 ?_
  refine l_callIM hX (mM_EachAddsALineModel_apart hM l adM) kM_X12_apart kV_X12_apart rfl km_L_149 rfl rfl (Nat.le_of_ble_eq_true rfl) ⟨Nat.le_of_ble_eq_true rfl, Nat.le_of_ble_eq_true rfl⟩ hc1 hs1 dL_law_1429 ?_
  exact l_eqT (tgt := 2297) hX dL_law_1432 (by decide) rfl kk
theorem cs_29 {P : lP} {l : Launch} {adC adM : Nat → Nat} {ao b L : Nat} {xs : Nat → Int32} {σ τ σ' τ' : vSt} {g : Nat → Int64} {cells slots N : Nat} {i : Int32} {r : Int32} (hX : lOK P l adC adM ao b L xs) (h1 : vp_in (i + 1) L) (h2 : vp_in (i + 2) L) (h3 : vp_in (i + 3) L) (h4 : vp_in (i + 4) L) (hc1 : cells ≤ 601024) (hs1 : slots ≤ 7293034) (hC : fC_EachAddsALine_far N (xs (i + 1).toNatClampNeg) (xs (i + 2).toNatClampNeg) σ = some (r, σ')) (hM : fM_EachAddsALineModel_far N (xs (i + 1).toNatClampNeg) (xs (i + 2).toNatClampNeg) τ = some (r, τ')) (kk : P σ' τ' g cells slots 2297 [(0, .ref b), (1, .ref (adC 0)), (2, .ref (adM 0)), (3, .ref ao), (4, .int i)] []) : P σ τ g cells slots 1437 [(0, .ref b), (1, .ref (adC 0)), (2, .ref (adM 0)), (3, .ref ao), (4, .int i)] [] := by
  refine l_aload_n hX dL_law_1437 rfl 1 rfl ?_
  refine l_aload_n hX dL_law_1438 rfl 0 rfl ?_
  refine l_iload hX dL_law_1439 4 rfl ?_
  refine l_iconst (v := 1) hX dL_law_1441 (by decide) ?_
  refine l_iadd hX dL_law_1442 ?_
  refine l_sld hX h1 dL_law_1443 ?_
  refine l_aload_n hX dL_law_1444 rfl 0 rfl ?_
  refine l_iload hX dL_law_1445 4 rfl ?_
  refine l_iconst (v := 2) hX dL_law_1447 (by decide) ?_
  refine l_iadd hX dL_law_1448 ?_
  refine l_sld hX h2 dL_law_1449 ?_
  refine l_callIC hX (mC_EachAddsALine_far hC l adC) kM_X11_far kV_X11_far rfl km_L_150 rfl rfl (Nat.le_of_ble_eq_true rfl) ⟨Nat.le_of_ble_eq_true rfl, Nat.le_of_ble_eq_true rfl⟩ hc1 hs1 dL_law_1450 ?_
  refine l_aload_n hX dL_law_1453 rfl 2 rfl ?_
  refine l_aload_n hX dL_law_1454 rfl 0 rfl ?_
  refine l_iload hX dL_law_1455 4 rfl ?_
  refine l_iconst (v := 1) hX dL_law_1457 (by decide) ?_
  refine l_iadd hX dL_law_1458 ?_
  refine l_sld hX h1 dL_law_1459 ?_
  refine l_aload_n hX dL_law_1460 rfl 0 rfl ?_
  refine l_iload hX dL_law_1461 4 rfl ?_
  refine l_iconst (v := 2) hX dL_law_1463 (by decide) ?_
  refine l_iadd hX dL_law_1464 ?_
  refine l_sld hX h2 dL_law_1465 ?_
  refine l_callIM hX (mM_EachAddsALineModel_far hM l adM) kM_X12_far kV_X12_far rfl km_L_153 rfl rfl (Nat.le_of_ble_eq_true rfl) ⟨Nat.le_of_ble_eq_true rfl, Nat.le_of_ble_eq_true rfl⟩ hc1 hs1 dL_law_1466 ?_
  exact l_eqT (tgt := 2297) hX dL_law_1469 (by decide) rfl kk
theorem cs_30 {P : lP} {l : Launch} {adC adM : Nat → Nat} {ao b L : Nat} {xs : Nat → Int32} {σ τ σ' τ' : vSt} {g : Nat → Int64} {cells slots N : Nat} {i : Int32} {r : Int32} (hX : lOK P l adC adM ao b L xs) (h1 : vp_in (i + 1) L) (h2 : vp_in (i + 2) L) (h3 : vp_in (i + 3) L) (h4 : vp_in (i + 4) L) (hc1 : cells ≤ 601024) (hs1 : slots ≤ 7293034) (hC : fC_EachAddsALine_worst N (xs (i + 1).toNatClampNeg) (xs (i + 2).toNatClampNeg) (xs (i + 3).toNatClampNeg) σ = some (r, σ')) (hM : fM_EachAddsALineModel_worst N (xs (i + 1).toNatClampNeg) (xs (i + 2).toNatClampNeg) (xs (i + 3).toNatClampNeg) τ = some (r, τ')) (kk : P σ' τ' g cells slots 2297 [(0, .ref b), (1, .ref (adC 0)), (2, .ref (adM 0)), (3, .ref ao), (4, .int i)] []) : P σ τ g cells slots 1474 [(0, .ref b), (1, .ref (adC 0)), (2, .ref (adM 0)), (3, .ref ao), (4, .int i)] [] := by
  refine l_aload_n hX dL_law_1474 rfl 1 rfl ?_
  refine l_aload_n hX dL_law_1475 rfl 0 rfl ?_
  refine l_iload hX dL_law_1476 4 rfl ?_
  refine l_iconst (v := 1) hX dL_law_1478 (by decide) ?_
  refine l_iadd hX dL_law_1479 ?_
  refine l_sld hX h1 dL_law_1480 ?_
  refine l_aload_n hX dL_law_1481 rfl 0 rfl ?_
  refine l_iload hX dL_law_1482 4 rfl ?_
  refine l_iconst (v := 2) hX dL_law_1484 (by decide) ?_
  refine l_iadd hX dL_law_1485 ?_
  refine l_sld hX h2 dL_law_1486 ?_
  refine l_aload_n hX dL_law_1487 rfl 0 rfl ?_
  refine l_iload hX dL_law_1488 4 rfl ?_
  refine l_iconst (v := 3) hX dL_law_1490 (by decide) ?_
  refine l_iadd hX dL_law_1491 ?_
  refine l_sld hX h3 dL_law_1492 ?_
  refine l_callIC hX (mC_EachAddsALine_worst hC l adC) kM_X11_worst kV_X11_worst rfl km_L_154 rfl rfl (Nat.le_of_ble_eq_true rfl) ⟨Nat.le_of_ble_eq_true rfl, Nat.le_of_ble_eq_true rfl⟩ hc1 hs1 dL_law_1493 ?_
  refine l_aload_n hX dL_law_1496 rfl 2 rfl ?_
  refine l_aload_n hX dL_law_1497 rfl 0 rfl ?_
  refine l_iload hX dL_law_1498 4 rfl ?_
  refine l_iconst (v := 1) hX dL_law_1500 (by decide) ?_
  refine l_iadd hX dL_law_1501 ?_
  refine l_sld hX h1 dL_law_1502 ?_
  refine l_aload_n hX dL_law_1503 rfl 0 rfl ?_
  refine l_iload hX dL_law_1504 4 rfl ?_
  refine l_iconst (v := 2) hX dL_law_1506 (by decide) ?_
  refine l_iadd hX dL_law_1507 ?_
  refine l_sld hX h2 dL_law_1508 ?_
  refine l_aload_n hX dL_law_1509 rfl 0 rfl ?_
  refine l_iload hX dL_law_1510 4 rfl ?_
  refine l_iconst (v := 3) hX dL_law_1512 (by decide) ?_
  refine l_iadd hX dL_law_1513 ?_
  refine l_sld hX h3 dL_law_1514 ?_
  refine l_callIM hX (mM_EachAddsALineModel_worst hM l adM) kM_X12_worst kV_X12_worst rfl km_L_157 rfl rfl (Nat.le_of_ble_eq_true rfl) ⟨Nat.le_of_ble_eq_true rfl, Nat.le_of_ble_eq_true rfl⟩ hc1 hs1 dL_law_1515 ?_
  exact l_eqT (tgt := 2297) hX dL_law_1518 (by decide) rfl kk
theorem cs_31 {P : lP} {l : Launch} {adC adM : Nat → Nat} {ao b L : Nat} {xs : Nat → Int32} {σ τ σ' τ' : vSt} {g : Nat → Int64} {cells slots N : Nat} {i : Int32} {r : Int32} (hX : lOK P l adC adM ao b L xs) (h1 : vp_in (i + 1) L) (h2 : vp_in (i + 2) L) (h3 : vp_in (i + 3) L) (h4 : vp_in (i + 4) L) (hc1 : cells ≤ 601024) (hs1 : slots ≤ 7293034) (hC : fC_EachAddsALine_way N (xs (i + 1).toNatClampNeg) (xs (i + 2).toNatClampNeg) σ = some (r, σ')) (hM : fM_EachAddsALineModel_way N (xs (i + 1).toNatClampNeg) (xs (i + 2).toNatClampNeg) τ = some (r, τ')) (kk : P σ' τ' g cells slots 2297 [(0, .ref b), (1, .ref (adC 0)), (2, .ref (adM 0)), (3, .ref ao), (4, .int i)] []) : P σ τ g cells slots 1523 [(0, .ref b), (1, .ref (adC 0)), (2, .ref (adM 0)), (3, .ref ao), (4, .int i)] [] := by
  refine l_aload_n hX dL_law_1523 rfl 1 rfl ?_
  refine l_aload_n hX dL_law_1524 rfl 0 rfl ?_
  refine l_iload hX dL_law_1525 4 rfl ?_
  refine l_iconst (v := 1) hX dL_law_1527 (by decide) ?_
  refine l_iadd hX dL_law_1528 ?_
  refine l_sld hX h1 dL_law_1529 ?_
  refine l_aload_n hX dL_law_1530 rfl 0 rfl ?_
  refine l_iload hX dL_law_1531 4 rfl ?_
  refine l_iconst (v := 2) hX dL_law_1533 (by decide) ?_
  refine l_iadd hX dL_law_1534 ?_
  refine l_sld hX h2 dL_law_1535 ?_
  refine l_callIC hX (mC_EachAddsALine_way hC l adC) kM_X11_way kV_X11_way rfl km_L_158 rfl rfl (Nat.le_of_ble_eq_true rfl) ⟨Nat.le_of_ble_eq_true rfl, Nat.le_of_ble_eq_true rfl⟩ hc1 hs1 dL_law_1536 ?_
  refine l_aload_n hX dL_law_1539 rfl 2 rfl ?_
  refine l_aload_n hX dL_law_1540 rfl 0 rfl ?_
  refine l_iload hX dL_law_1541 4 rfl ?_
  refine l_iconst (v := 1) hX dL_law_1543 (by decide) ?_
  refine l_iadd hX dL_law_1544 ?_
  refine l_sld hX h1 dL_law_1545 ?_
  refine l_aload_n hX dL_law_1546 rfl 0 rfl ?_
  refine l_iload hX dL_law_1547 4 rfl ?_
  refine l_iconst (v := 2) hX dL_law_1549 (by decide) ?_
  refine l_iadd hX dL_law_1550 ?_
  refine l_sld hX h2 dL_law_1551 ?_
  refine l_callIM hX (mM_EachAddsALineModel_way hM l adM) kM_X12_way kV_X12_way rfl km_L_161 rfl rfl (Nat.le_of_ble_eq_true rfl) ⟨Nat.le_of_ble_eq_true rfl, Nat.le_of_ble_eq_true rfl⟩ hc1 hs1 dL_law_1552 ?_
  exact l_eqT (tgt := 2297) hX dL_law_1555 (by decide) rfl kk
theorem cs_32 {P : lP} {l : Launch} {adC adM : Nat → Nat} {ao b L : Nat} {xs : Nat → Int32} {σ τ σ' τ' : vSt} {g : Nat → Int64} {cells slots N : Nat} {i : Int32} {r : Int32} (hX : lOK P l adC adM ao b L xs) (h1 : vp_in (i + 1) L) (h2 : vp_in (i + 2) L) (h3 : vp_in (i + 3) L) (h4 : vp_in (i + 4) L) (hc1 : cells ≤ 601024) (hs1 : slots ≤ 7293034) (hC : fC_EachAddsALine_tale N  σ = some (r, σ')) (hM : fM_EachAddsALineModel_tale N  τ = some (r, τ')) (kk : P σ' τ' g cells slots 2297 [(0, .ref b), (1, .ref (adC 0)), (2, .ref (adM 0)), (3, .ref ao), (4, .int i)] []) : P σ τ g cells slots 1560 [(0, .ref b), (1, .ref (adC 0)), (2, .ref (adM 0)), (3, .ref ao), (4, .int i)] [] := by
  refine l_aload_n hX dL_law_1560 rfl 1 rfl ?_
  refine l_callIC hX (mC_EachAddsALine_tale hC l adC) kM_X11_tale kV_X11_tale rfl km_L_162 rfl rfl (Nat.le_of_ble_eq_true rfl) ⟨Nat.le_of_ble_eq_true rfl, Nat.le_of_ble_eq_true rfl⟩ hc1 hs1 dL_law_1561 ?_
  refine l_aload_n hX dL_law_1564 rfl 2 rfl ?_
  refine l_callIM hX (mM_EachAddsALineModel_tale hM l adM) kM_X12_tale kV_X12_tale rfl km_L_165 rfl rfl (Nat.le_of_ble_eq_true rfl) ⟨Nat.le_of_ble_eq_true rfl, Nat.le_of_ble_eq_true rfl⟩ hc1 hs1 dL_law_1565 ?_
  exact l_eqT (tgt := 2297) hX dL_law_1568 (by decide) rfl kk
theorem cs_33 {P : lP} {l : Launch} {adC adM : Nat → Nat} {ao b L : Nat} {xs : Nat → Int32} {σ τ σ' τ' : vSt} {g : Nat → Int64} {cells slots N : Nat} {i : Int32} {r : Int32} (hX : lOK P l adC adM ao b L xs) (h1 : vp_in (i + 1) L) (h2 : vp_in (i + 2) L) (h3 : vp_in (i + 3) L) (h4 : vp_in (i + 4) L) (hc1 : cells ≤ 601024) (hs1 : slots ≤ 7293034) (hC : fC_EachAddsALine_check N (xs (i + 1).toNatClampNeg) σ = some (r, σ')) (hM : fM_EachAddsALineModel_check N (xs (i + 1).toNatClampNeg) τ = some (r, τ')) (kk : P σ' τ' g cells slots 2297 [(0, .ref b), (1, .ref (adC 0)), (2, .ref (adM 0)), (3, .ref ao), (4, .int i)] []) : P σ τ g cells slots 1573 [(0, .ref b), (1, .ref (adC 0)), (2, .ref (adM 0)), (3, .ref ao), (4, .int i)] [] := by
  refine l_aload_n hX dL_law_1573 rfl 1 rfl ?_
  refine l_aload_n hX dL_law_1574 rfl 0 rfl ?_
  refine l_iload hX dL_law_1575 4 rfl ?_
  refine l_iconst (v := 1) hX dL_law_1577 (by decide) ?_
  refine l_iadd hX dL_law_1578 ?_
  refine l_sld hX h1 dL_law_1579 ?_
  refine l_callIC hX (mC_EachAddsALine_check hC l adC) kM_X11_check kV_X11_check rfl km_L_166 rfl rfl (Nat.le_of_ble_eq_true rfl) ⟨Nat.le_of_ble_eq_true rfl, Nat.le_of_ble_eq_true rfl⟩ hc1 hs1 dL_law_1580 ?_
  refine l_aload_n hX dL_law_1583 rfl 2 rfl ?_
  refine l_aload_n hX dL_law_1584 rfl 0 rfl ?_
  refine l_iload hX dL_law_1585 4 rfl ?_
  refine l_iconst (v := 1) hX dL_law_1587 (by decide) ?_
  refine l_iadd hX dL_law_1588 ?_
  refine l_sld hX h1 dL_law_1589 ?_
  refine l_callIM hX (mM_EachAddsALineModel_check hM l adM) kM_X12_check kV_X12_check rfl km_L_169 rfl rfl (Nat.le_of_ble_eq_true rfl) ⟨Nat.le_of_ble_eq_true rfl, Nat.le_of_ble_eq_true rfl⟩ hc1 hs1 dL_law_1590 ?_
  exact l_eqT (tgt := 2297) hX dL_law_1593 (by decide) rfl kk
theorem cs_34 {P : lP} {l : Launch} {adC adM : Nat → Nat} {ao b L : Nat} {xs : Nat → Int32} {σ τ σ' τ' : vSt} {g : Nat → Int64} {cells slots N : Nat} {i : Int32} {r : Int32} (hX : lOK P l adC adM ao b L xs) (h1 : vp_in (i + 1) L) (h2 : vp_in (i + 2) L) (h3 : vp_in (i + 3) L) (h4 : vp_in (i + 4) L) (hc1 : cells ≤ 601024) (hs1 : slots ≤ 7293034) (hC : fC_EachAddsALine_copy N (xs (i + 1).toNatClampNeg) σ = some (r, σ')) (hM : fM_EachAddsALineModel_copy N (xs (i + 1).toNatClampNeg) τ = some (r, τ')) (kk : P σ' τ' g cells slots 2297 [(0, .ref b), (1, .ref (adC 0)), (2, .ref (adM 0)), (3, .ref ao), (4, .int i)] []) : P σ τ g cells slots 1598 [(0, .ref b), (1, .ref (adC 0)), (2, .ref (adM 0)), (3, .ref ao), (4, .int i)] [] := by
  refine l_aload_n hX dL_law_1598 rfl 1 rfl ?_
  refine l_aload_n hX dL_law_1599 rfl 0 rfl ?_
  refine l_iload hX dL_law_1600 4 rfl ?_
  refine l_iconst (v := 1) hX dL_law_1602 (by decide) ?_
  refine l_iadd hX dL_law_1603 ?_
  refine l_sld hX h1 dL_law_1604 ?_
  refine l_callIC hX (mC_EachAddsALine_copy hC l adC) kM_X11_copy kV_X11_copy rfl km_L_170 rfl rfl (Nat.le_of_ble_eq_true rfl) ⟨Nat.le_of_ble_eq_true rfl, Nat.le_of_ble_eq_true rfl⟩ hc1 hs1 dL_law_1605 ?_
  refine l_aload_n hX dL_law_1608 rfl 2 rfl ?_
  refine l_aload_n hX dL_law_1609 rfl 0 rfl ?_
  refine l_iload hX dL_law_1610 4 rfl ?_
  refine l_iconst (v := 1) hX dL_law_1612 (by decide) ?_
  refine l_iadd hX dL_law_1613 ?_
  refine l_sld hX h1 dL_law_1614 ?_
  refine l_callIM hX (mM_EachAddsALineModel_copy hM l adM) kM_X12_copy kV_X12_copy rfl km_L_173 rfl rfl (Nat.le_of_ble_eq_true rfl) ⟨Nat.le_of_ble_eq_true rfl, Nat.le_of_ble_eq_true rfl⟩ hc1 hs1 dL_law_1615 ?_
  exact l_eqT (tgt := 2297) hX dL_law_1618 (by decide) rfl kk
theorem cs_35 {P : lP} {l : Launch} {adC adM : Nat → Nat} {ao b L : Nat} {xs : Nat → Int32} {σ τ σ' τ' : vSt} {g : Nat → Int64} {cells slots N : Nat} {i : Int32} {r : Int64} (hX : lOK P l adC adM ao b L xs) (h1 : vp_in (i + 1) L) (h2 : vp_in (i + 2) L) (h3 : vp_in (i + 3) L) (h4 : vp_in (i + 4) L) (hc1 : cells ≤ 601024) (hs1 : slots ≤ 7293034) (hC : fC_EachAddsALine_fits N (xs (i + 1).toNatClampNeg) (xs (i + 2).toNatClampNeg) (xs (i + 3).toNatClampNeg) σ = some (r, σ')) (hM : fM_EachAddsALineModel_fits N (xs (i + 1).toNatClampNeg) (xs (i + 2).toNatClampNeg) (xs (i + 3).toNatClampNeg) τ = some (r, τ')) (kk : P σ' τ' g cells slots 2297 [(0, .ref b), (1, .ref (adC 0)), (2, .ref (adM 0)), (3, .ref ao), (4, .int i)] []) : P σ τ g cells slots 1623 [(0, .ref b), (1, .ref (adC 0)), (2, .ref (adM 0)), (3, .ref ao), (4, .int i)] [] := by
  refine l_aload_n hX dL_law_1623 rfl 1 rfl ?_
  refine l_aload_n hX dL_law_1624 rfl 0 rfl ?_
  refine l_iload hX dL_law_1625 4 rfl ?_
  refine l_iconst (v := 1) hX dL_law_1627 (by decide) ?_
  refine l_iadd hX dL_law_1628 ?_
  refine l_sld hX h1 dL_law_1629 ?_
  refine l_aload_n hX dL_law_1630 rfl 0 rfl ?_
  refine l_iload hX dL_law_1631 4 rfl ?_
  refine l_iconst (v := 2) hX dL_law_1633 (by decide) ?_
  refine l_iadd hX dL_law_1634 ?_
  refine l_sld hX h2 dL_law_1635 ?_
  refine l_aload_n hX dL_law_1636 rfl 0 rfl ?_
  refine l_iload hX dL_law_1637 4 rfl ?_
  refine l_iconst (v := 3) hX dL_law_1639 (by decide) ?_
  refine l_iadd hX dL_law_1640 ?_
  refine l_sld hX h3 dL_law_1641 ?_
  refine l_callLC hX (mC_EachAddsALine_fits hC l adC) kM_X11_fits kV_X11_fits rfl km_L_174 rfl rfl (Nat.le_of_ble_eq_true rfl) ⟨Nat.le_of_ble_eq_true rfl, Nat.le_of_ble_eq_true rfl⟩ hc1 hs1 dL_law_1642 ?_
  refine l_aload_n hX dL_law_1645 rfl 2 rfl ?_
  refine l_aload_n hX dL_law_1646 rfl 0 rfl ?_
  refine l_iload hX dL_law_1647 4 rfl ?_
  refine l_iconst (v := 1) hX dL_law_1649 (by decide) ?_
  refine l_iadd hX dL_law_1650 ?_
  refine l_sld hX h1 dL_law_1651 ?_
  refine l_aload_n hX dL_law_1652 rfl 0 rfl ?_
  refine l_iload hX dL_law_1653 4 rfl ?_
  refine l_iconst (v := 2) hX dL_law_1655 (by decide) ?_
  refine l_iadd hX dL_law_1656 ?_
  refine l_sld hX h2 dL_law_1657 ?_
  refine l_aload_n hX dL_law_1658 rfl 0 rfl ?_
  refine l_iload hX dL_law_1659 4 rfl ?_
  refine l_iconst (v := 3) hX dL_law_1661 (by decide) ?_
  refine l_iadd hX dL_law_1662 ?_
  refine l_sld hX h3 dL_law_1663 ?_
  refine l_callLM hX (mM_EachAddsALineModel_fits hM l adM) kM_X12_fits kV_X12_fits rfl km_L_177 rfl rfl (Nat.le_of_ble_eq_true rfl) ⟨Nat.le_of_ble_eq_true rfl, Nat.le_of_ble_eq_true rfl⟩ hc1 hs1 dL_law_1664 ?_
  refine l_lcmp hX dL_law_1667 ?_
  exact l_ifeqT (tgt := 2297) hX dL_law_1668 (by decide) (by rw [lg_cmp_refl]) kk
theorem cs_36 {P : lP} {l : Launch} {adC adM : Nat → Nat} {ao b L : Nat} {xs : Nat → Int32} {σ τ σ' τ' : vSt} {g : Nat → Int64} {cells slots N : Nat} {i : Int32} {r : Int32} (hX : lOK P l adC adM ao b L xs) (h1 : vp_in (i + 1) L) (h2 : vp_in (i + 2) L) (h3 : vp_in (i + 3) L) (h4 : vp_in (i + 4) L) (hc1 : cells ≤ 601024) (hs1 : slots ≤ 7293034) (hC : fC_EachAddsALine_sure N (xs (i + 1).toNatClampNeg) (xs (i + 2).toNatClampNeg) (xs (i + 3).toNatClampNeg) σ = some (r, σ')) (hM : fM_EachAddsALineModel_sure N (xs (i + 1).toNatClampNeg) (xs (i + 2).toNatClampNeg) (xs (i + 3).toNatClampNeg) τ = some (r, τ')) (kk : P σ' τ' g cells slots 2297 [(0, .ref b), (1, .ref (adC 0)), (2, .ref (adM 0)), (3, .ref ao), (4, .int i)] []) : P σ τ g cells slots 1673 [(0, .ref b), (1, .ref (adC 0)), (2, .ref (adM 0)), (3, .ref ao), (4, .int i)] [] := by
  refine l_aload_n hX dL_law_1673 rfl 1 rfl ?_
  refine l_aload_n hX dL_law_1674 rfl 0 rfl ?_
  refine l_iload hX dL_law_1675 4 rfl ?_
  refine l_iconst (v := 1) hX dL_law_1677 (by decide) ?_
  refine l_iadd hX dL_law_1678 ?_
  refine l_sld hX h1 dL_law_1679 ?_
  refine l_aload_n hX dL_law_1680 rfl 0 rfl ?_
  refine l_iload hX dL_law_1681 4 rfl ?_
  refine l_iconst (v := 2) hX dL_law_1683 (by decide) ?_
  refine l_iadd hX dL_law_1684 ?_
  refine l_sld hX h2 dL_law_1685 ?_
  refine l_aload_n hX dL_law_1686 rfl 0 rfl ?_
  refine l_iload hX dL_law_1687 4 rfl ?_
  refine l_iconst (v := 3) hX dL_law_1689 (by decide) ?_
  refine l_iadd hX dL_law_1690 ?_
  refine l_sld hX h3 dL_law_1691 ?_
  refine l_callIC hX (mC_EachAddsALine_sure hC l adC) kM_X11_sure kV_X11_sure rfl km_L_178 rfl rfl (Nat.le_of_ble_eq_true rfl) ⟨Nat.le_of_ble_eq_true rfl, Nat.le_of_ble_eq_true rfl⟩ hc1 hs1 dL_law_1692 ?_
  refine l_aload_n hX dL_law_1695 rfl 2 rfl ?_
  refine l_aload_n hX dL_law_1696 rfl 0 rfl ?_
  refine l_iload hX dL_law_1697 4 rfl ?_
  refine l_iconst (v := 1) hX dL_law_1699 (by decide) ?_
  refine l_iadd hX dL_law_1700 ?_
  refine l_sld hX h1 dL_law_1701 ?_
  refine l_aload_n hX dL_law_1702 rfl 0 rfl ?_
  refine l_iload hX dL_law_1703 4 rfl ?_
  refine l_iconst (v := 2) hX dL_law_1705 (by decide) ?_
  refine l_iadd hX dL_law_1706 ?_
  refine l_sld hX h2 dL_law_1707 ?_
  refine l_aload_n hX dL_law_1708 rfl 0 rfl ?_
  refine l_iload hX dL_law_1709 4 rfl ?_
  refine l_iconst (v := 3) hX dL_law_1711 (by decide) ?_
  refine l_iadd hX dL_law_1712 ?_
  refine l_sld hX h3 dL_law_1713 ?_
  refine l_callIM hX (mM_EachAddsALineModel_sure hM l adM) kM_X12_sure kV_X12_sure rfl km_L_181 rfl rfl (Nat.le_of_ble_eq_true rfl) ⟨Nat.le_of_ble_eq_true rfl, Nat.le_of_ble_eq_true rfl⟩ hc1 hs1 dL_law_1714 ?_
  exact l_eqT (tgt := 2297) hX dL_law_1717 (by decide) rfl kk
theorem cs_37 {P : lP} {l : Launch} {adC adM : Nat → Nat} {ao b L : Nat} {xs : Nat → Int32} {σ τ σ' τ' : vSt} {g : Nat → Int64} {cells slots N : Nat} {i : Int32} {r : Int32} (hX : lOK P l adC adM ao b L xs) (h1 : vp_in (i + 1) L) (h2 : vp_in (i + 2) L) (h3 : vp_in (i + 3) L) (h4 : vp_in (i + 4) L) (hc1 : cells ≤ 601024) (hs1 : slots ≤ 7293034) (hC : fC_EachAddsALine_writers N (xs (i + 1).toNatClampNeg) (xs (i + 2).toNatClampNeg) σ = some (r, σ')) (hM : fM_EachAddsALineModel_writers N (xs (i + 1).toNatClampNeg) (xs (i + 2).toNatClampNeg) τ = some (r, τ')) (kk : P σ' τ' g cells slots 2297 [(0, .ref b), (1, .ref (adC 0)), (2, .ref (adM 0)), (3, .ref ao), (4, .int i)] []) : P σ τ g cells slots 1722 [(0, .ref b), (1, .ref (adC 0)), (2, .ref (adM 0)), (3, .ref ao), (4, .int i)] [] := by
  refine l_aload_n hX dL_law_1722 rfl 1 rfl ?_
  refine l_aload_n hX dL_law_1723 rfl 0 rfl ?_
  refine l_iload hX dL_law_1724 4 rfl ?_
  refine l_iconst (v := 1) hX dL_law_1726 (by decide) ?_
  refine l_iadd hX dL_law_1727 ?_
  refine l_sld hX h1 dL_law_1728 ?_
  refine l_aload_n hX dL_law_1729 rfl 0 rfl ?_
  refine l_iload hX dL_law_1730 4 rfl ?_
  refine l_iconst (v := 2) hX dL_law_1732 (by decide) ?_
  refine l_iadd hX dL_law_1733 ?_
  refine l_sld hX h2 dL_law_1734 ?_
  refine l_callIC hX (mC_EachAddsALine_writers hC l adC) kM_X11_writers kV_X11_writers rfl km_L_182 rfl rfl (Nat.le_of_ble_eq_true rfl) ⟨Nat.le_of_ble_eq_true rfl, Nat.le_of_ble_eq_true rfl⟩ hc1 hs1 dL_law_1735 ?_
  refine l_aload_n hX dL_law_1738 rfl 2 rfl ?_
  refine l_aload_n hX dL_law_1739 rfl 0 rfl ?_
  refine l_iload hX dL_law_1740 4 rfl ?_
  refine l_iconst (v := 1) hX dL_law_1742 (by decide) ?_
  refine l_iadd hX dL_law_1743 ?_
  refine l_sld hX h1 dL_law_1744 ?_
  refine l_aload_n hX dL_law_1745 rfl 0 rfl ?_
  refine l_iload hX dL_law_1746 4 rfl ?_
  refine l_iconst (v := 2) hX dL_law_1748 (by decide) ?_
  refine l_iadd hX dL_law_1749 ?_
  refine l_sld hX h2 dL_law_1750 ?_
  refine l_callIM hX (mM_EachAddsALineModel_writers hM l adM) kM_X12_writers kV_X12_writers rfl km_L_185 rfl rfl (Nat.le_of_ble_eq_true rfl) ⟨Nat.le_of_ble_eq_true rfl, Nat.le_of_ble_eq_true rfl⟩ hc1 hs1 dL_law_1751 ?_
  exact l_eqT (tgt := 2297) hX dL_law_1754 (by decide) rfl kk
theorem cs_38 {P : lP} {l : Launch} {adC adM : Nat → Nat} {ao b L : Nat} {xs : Nat → Int32} {σ τ σ' τ' : vSt} {g : Nat → Int64} {cells slots N : Nat} {i : Int32} {r : Int64} (hX : lOK P l adC adM ao b L xs) (h1 : vp_in (i + 1) L) (h2 : vp_in (i + 2) L) (h3 : vp_in (i + 3) L) (h4 : vp_in (i + 4) L) (hc1 : cells ≤ 601024) (hs1 : slots ≤ 7293034) (hC : fC_EachAddsALine_missing N (xs (i + 1).toNatClampNeg) (xs (i + 2).toNatClampNeg) (xs (i + 3).toNatClampNeg) σ = some (r, σ')) (hM : fM_EachAddsALineModel_missing N (xs (i + 1).toNatClampNeg) (xs (i + 2).toNatClampNeg) (xs (i + 3).toNatClampNeg) τ = some (r, τ')) (kk : P σ' τ' g cells slots 2297 [(0, .ref b), (1, .ref (adC 0)), (2, .ref (adM 0)), (3, .ref ao), (4, .int i)] []) : P σ τ g cells slots 1759 [(0, .ref b), (1, .ref (adC 0)), (2, .ref (adM 0)), (3, .ref ao), (4, .int i)] [] := by
  refine l_aload_n hX dL_law_1759 rfl 1 rfl ?_
  refine l_aload_n hX dL_law_1760 rfl 0 rfl ?_
  refine l_iload hX dL_law_1761 4 rfl ?_
  refine l_iconst (v := 1) hX dL_law_1763 (by decide) ?_
  refine l_iadd hX dL_law_1764 ?_
  refine l_sld hX h1 dL_law_1765 ?_
  refine l_aload_n hX dL_law_1766 rfl 0 rfl ?_
  refine l_iload hX dL_law_1767 4 rfl ?_
  refine l_iconst (v := 2) hX dL_law_1769 (by decide) ?_
  refine l_iadd hX dL_law_1770 ?_
  refine l_sld hX h2 dL_law_1771 ?_
  refine l_aload_n hX dL_law_1772 rfl 0 rfl ?_
  refine l_iload hX dL_law_1773 4 rfl ?_
  refine l_iconst (v := 3) hX dL_law_1775 (by decide) ?_
  refine l_iadd hX dL_law_1776 ?_
  refine l_sld hX h3 dL_law_1777 ?_
  refine l_callLC hX (mC_EachAddsALine_missing hC l adC) kM_X11_missing kV_X11_missing rfl km_L_186 rfl rfl (Nat.le_of_ble_eq_true rfl) ⟨Nat.le_of_ble_eq_true rfl, Nat.le_of_ble_eq_true rfl⟩ hc1 hs1 dL_law_1778 ?_
  refine l_aload_n hX dL_law_1781 rfl 2 rfl ?_
  refine l_aload_n hX dL_law_1782 rfl 0 rfl ?_
  refine l_iload hX dL_law_1783 4 rfl ?_
  refine l_iconst (v := 1) hX dL_law_1785 (by decide) ?_
  refine l_iadd hX dL_law_1786 ?_
  refine l_sld hX h1 dL_law_1787 ?_
  refine l_aload_n hX dL_law_1788 rfl 0 rfl ?_
  refine l_iload hX dL_law_1789 4 rfl ?_
  refine l_iconst (v := 2) hX dL_law_1791 (by decide) ?_
  refine l_iadd hX dL_law_1792 ?_
  refine l_sld hX h2 dL_law_1793 ?_
  refine l_aload_n hX dL_law_1794 rfl 0 rfl ?_
  refine l_iload hX dL_law_1795 4 rfl ?_
  refine l_iconst (v := 3) hX dL_law_1797 (by decide) ?_
  refine l_iadd hX dL_law_1798 ?_
  refine l_sld hX h3 dL_law_1799 ?_
  refine l_callLM hX (mM_EachAddsALineModel_missing hM l adM) kM_X12_missing kV_X12_missing rfl km_L_189 rfl rfl (Nat.le_of_ble_eq_true rfl) ⟨Nat.le_of_ble_eq_true rfl, Nat.le_of_ble_eq_true rfl⟩ hc1 hs1 dL_law_1800 ?_
  refine l_lcmp hX dL_law_1803 ?_
  exact l_ifeqT (tgt := 2297) hX dL_law_1804 (by decide) (by rw [lg_cmp_refl]) kk
theorem cs_39 {P : lP} {l : Launch} {adC adM : Nat → Nat} {ao b L : Nat} {xs : Nat → Int32} {σ τ σ' τ' : vSt} {g : Nat → Int64} {cells slots N : Nat} {i : Int32} {r : Int32} (hX : lOK P l adC adM ao b L xs) (h1 : vp_in (i + 1) L) (h2 : vp_in (i + 2) L) (h3 : vp_in (i + 3) L) (h4 : vp_in (i + 4) L) (hc1 : cells ≤ 601024) (hs1 : slots ≤ 7293034) (hC : fC_EachAddsALine_lies N (xs (i + 1).toNatClampNeg) (xs (i + 2).toNatClampNeg) (xs (i + 3).toNatClampNeg) σ = some (r, σ')) (hM : fM_EachAddsALineModel_lies N (xs (i + 1).toNatClampNeg) (xs (i + 2).toNatClampNeg) (xs (i + 3).toNatClampNeg) τ = some (r, τ')) (kk : P σ' τ' g cells slots 2297 [(0, .ref b), (1, .ref (adC 0)), (2, .ref (adM 0)), (3, .ref ao), (4, .int i)] []) : P σ τ g cells slots 1809 [(0, .ref b), (1, .ref (adC 0)), (2, .ref (adM 0)), (3, .ref ao), (4, .int i)] [] := by
  refine l_aload_n hX dL_law_1809 rfl 1 rfl ?_
  refine l_aload_n hX dL_law_1810 rfl 0 rfl ?_
  refine l_iload hX dL_law_1811 4 rfl ?_
  refine l_iconst (v := 1) hX dL_law_1813 (by decide) ?_
  refine l_iadd hX dL_law_1814 ?_
  refine l_sld hX h1 dL_law_1815 ?_
  refine l_aload_n hX dL_law_1816 rfl 0 rfl ?_
  refine l_iload hX dL_law_1817 4 rfl ?_
  refine l_iconst (v := 2) hX dL_law_1819 (by decide) ?_
  refine l_iadd hX dL_law_1820 ?_
  refine l_sld hX h2 dL_law_1821 ?_
  refine l_aload_n hX dL_law_1822 rfl 0 rfl ?_
  refine l_iload hX dL_law_1823 4 rfl ?_
  refine l_iconst (v := 3) hX dL_law_1825 (by decide) ?_
  refine l_iadd hX dL_law_1826 ?_
  refine l_sld hX h3 dL_law_1827 ?_
  refine l_callIC hX (mC_EachAddsALine_lies hC l adC) kM_X11_lies kV_X11_lies rfl km_L_190 rfl rfl (Nat.le_of_ble_eq_true rfl) ⟨Nat.le_of_ble_eq_true rfl, Nat.le_of_ble_eq_true rfl⟩ hc1 hs1 dL_law_1828 ?_
  refine l_aload_n hX dL_law_1831 rfl 2 rfl ?_
  refine l_aload_n hX dL_law_1832 rfl 0 rfl ?_
  refine l_iload hX dL_law_1833 4 rfl ?_
  refine l_iconst (v := 1) hX dL_law_1835 (by decide) ?_
  refine l_iadd hX dL_law_1836 ?_
  refine l_sld hX h1 dL_law_1837 ?_
  refine l_aload_n hX dL_law_1838 rfl 0 rfl ?_
  refine l_iload hX dL_law_1839 4 rfl ?_
  refine l_iconst (v := 2) hX dL_law_1841 (by decide) ?_
  refine l_iadd hX dL_law_1842 ?_
  refine l_sld hX h2 dL_law_1843 ?_
  refine l_aload_n hX dL_law_1844 rfl 0 rfl ?_
  refine l_iload hX dL_law_1845 4 rfl ?_
  refine l_iconst (v := 3) hX dL_law_1847 (by decide) ?_
  refine l_iadd hX dL_law_1848 ?_
  refine l_sld hX h3 dL_law_1849 ?_
  refine l_callIM hX (mM_EachAddsALineModel_lies hM l adM) kM_X12_lies kV_X12_lies rfl km_L_193 rfl rfl (Nat.le_of_ble_eq_true rfl) ⟨Nat.le_of_ble_eq_true rfl, Nat.le_of_ble_eq_true rfl⟩ hc1 hs1 dL_law_1850 ?_
  exact l_eqT (tgt := 2297) hX dL_law_1853 (by decide) rfl kk
theorem cs_40 {P : lP} {l : Launch} {adC adM : Nat → Nat} {ao b L : Nat} {xs : Nat → Int32} {σ τ σ' τ' : vSt} {g : Nat → Int64} {cells slots N : Nat} {i : Int32} {r : Int32} (hX : lOK P l adC adM ao b L xs) (h1 : vp_in (i + 1) L) (h2 : vp_in (i + 2) L) (h3 : vp_in (i + 3) L) (h4 : vp_in (i + 4) L) (hc1 : cells ≤ 601024) (hs1 : slots ≤ 7293034) (hC : fC_EachAddsALine_lay N  σ = some (r, σ')) (hM : fM_EachAddsALineModel_lay N  τ = some (r, τ')) (kk : P σ' τ' g cells slots 2297 [(0, .ref b), (1, .ref (adC 0)), (2, .ref (adM 0)), (3, .ref ao), (4, .int i)] []) : P σ τ g cells slots 1858 [(0, .ref b), (1, .ref (adC 0)), (2, .ref (adM 0)), (3, .ref ao), (4, .int i)] [] := by
  refine l_aload_n hX dL_law_1858 rfl 1 rfl ?_
  refine l_callIC hX (mC_EachAddsALine_lay hC l adC) kM_X11_lay kV_X11_lay rfl km_L_194 rfl rfl (Nat.le_of_ble_eq_true rfl) ⟨Nat.le_of_ble_eq_true rfl, Nat.le_of_ble_eq_true rfl⟩ hc1 hs1 dL_law_1859 ?_
  refine l_aload_n hX dL_law_1862 rfl 2 rfl ?_
  refine l_callIM hX (mM_EachAddsALineModel_lay hM l adM) kM_X12_lay kV_X12_lay rfl km_L_198 rfl rfl (Nat.le_of_ble_eq_true rfl) ⟨Nat.le_of_ble_eq_true rfl, Nat.le_of_ble_eq_true rfl⟩ hc1 hs1 dL_law_1863 ?_
  exact l_eqT (tgt := 2297) hX dL_law_1866 (by decide) rfl kk
theorem cs_41 {P : lP} {l : Launch} {adC adM : Nat → Nat} {ao b L : Nat} {xs : Nat → Int32} {σ τ σ' τ' : vSt} {g : Nat → Int64} {cells slots N : Nat} {i : Int32} {r : Int32} (hX : lOK P l adC adM ao b L xs) (h1 : vp_in (i + 1) L) (h2 : vp_in (i + 2) L) (h3 : vp_in (i + 3) L) (h4 : vp_in (i + 4) L) (hc1 : cells ≤ 601024) (hs1 : slots ≤ 7293034) (hC : fC_EachAddsALine_copies N (xs (i + 1).toNatClampNeg) (xs (i + 2).toNatClampNeg) (xs (i + 3).toNatClampNeg) σ = some (r, σ')) (hM : fM_EachAddsALineModel_copies N (xs (i + 1).toNatClampNeg) (xs (i + 2).toNatClampNeg) (xs (i + 3).toNatClampNeg) τ = some (r, τ')) (kk : P σ' τ' g cells slots 2297 [(0, .ref b), (1, .ref (adC 0)), (2, .ref (adM 0)), (3, .ref ao), (4, .int i)] []) : P σ τ g cells slots 1871 [(0, .ref b), (1, .ref (adC 0)), (2, .ref (adM 0)), (3, .ref ao), (4, .int i)] [] := by
  refine l_aload_n hX dL_law_1871 rfl 1 rfl ?_
  refine l_aload_n hX dL_law_1872 rfl 0 rfl ?_
  refine l_iload hX dL_law_1873 4 rfl ?_
  refine l_iconst (v := 1) hX dL_law_1875 (by decide) ?_
  refine l_iadd hX dL_law_1876 ?_
  refine l_sld hX h1 dL_law_1877 ?_
  refine l_aload_n hX dL_law_1878 rfl 0 rfl ?_
  refine l_iload hX dL_law_1879 4 rfl ?_
  refine l_iconst (v := 2) hX dL_law_1881 (by decide) ?_
  refine l_iadd hX dL_law_1882 ?_
  refine l_sld hX h2 dL_law_1883 ?_
  refine l_aload_n hX dL_law_1884 rfl 0 rfl ?_
  refine l_iload hX dL_law_1885 4 rfl ?_
  refine l_iconst (v := 3) hX dL_law_1887 (by decide) ?_
  refine l_iadd hX dL_law_1888 ?_
  refine l_sld hX h3 dL_law_1889 ?_
  refine l_callIC hX (mC_EachAddsALine_copies hC l adC) kM_X11_copies kV_X11_copies rfl km_L_199 rfl rfl (Nat.le_of_ble_eq_true rfl) ⟨Nat.le_of_ble_eq_true rfl, Nat.le_of_ble_eq_true rfl⟩ hc1 hs1 dL_law_1890 ?_
  refine l_aload_n hX dL_law_1893 rfl 2 rfl ?_
  refine l_aload_n hX dL_law_1894 rfl 0 rfl ?_
  refine l_iload hX dL_law_1895 4 rfl ?_
  refine l_iconst (v := 1) hX dL_law_1897 (by decide) ?_
  refine l_iadd hX dL_law_1898 ?_
  refine l_sld hX h1 dL_law_1899 ?_
  refine l_aload_n hX dL_law_1900 rfl 0 rfl ?_
  refine l_iload hX dL_law_1901 4 rfl ?_
  refine l_iconst (v := 2) hX dL_law_1903 (by decide) ?_
  refine l_iadd hX dL_law_1904 ?_
  refine l_sld hX h2 dL_law_1905 ?_
  refine l_aload_n hX dL_law_1906 rfl 0 rfl ?_
  refine l_iload hX dL_law_1907 4 rfl ?_
  refine l_iconst (v := 3) hX dL_law_1909 (by decide) ?_
  refine l_iadd hX dL_law_1910 ?_
  refine l_sld hX h3 dL_law_1911 ?_
  refine l_callIM hX (mM_EachAddsALineModel_copies hM l adM) kM_X12_copies kV_X12_copies rfl km_L_202 rfl rfl (Nat.le_of_ble_eq_true rfl) ⟨Nat.le_of_ble_eq_true rfl, Nat.le_of_ble_eq_true rfl⟩ hc1 hs1 dL_law_1912 ?_
  exact l_eqT (tgt := 2297) hX dL_law_1915 (by decide) rfl kk
theorem cs_42 {P : lP} {l : Launch} {adC adM : Nat → Nat} {ao b L : Nat} {xs : Nat → Int32} {σ τ σ' τ' : vSt} {g : Nat → Int64} {cells slots N : Nat} {i : Int32} {r : Int32} (hX : lOK P l adC adM ao b L xs) (h1 : vp_in (i + 1) L) (h2 : vp_in (i + 2) L) (h3 : vp_in (i + 3) L) (h4 : vp_in (i + 4) L) (hc1 : cells ≤ 601024) (hs1 : slots ≤ 7293034) (hC : fC_EachAddsALine_when N (xs (i + 1).toNatClampNeg) (xs (i + 2).toNatClampNeg) σ = some (r, σ')) (hM : fM_EachAddsALineModel_when N (xs (i + 1).toNatClampNeg) (xs (i + 2).toNatClampNeg) τ = some (r, τ')) (kk : P σ' τ' g cells slots 2297 [(0, .ref b), (1, .ref (adC 0)), (2, .ref (adM 0)), (3, .ref ao), (4, .int i)] []) : P σ τ g cells slots 1920 [(0, .ref b), (1, .ref (adC 0)), (2, .ref (adM 0)), (3, .ref ao), (4, .int i)] [] := by
  refine l_aload_n hX dL_law_1920 rfl 1 rfl ?_
  refine l_aload_n hX dL_law_1921 rfl 0 rfl ?_
  refine l_iload hX dL_law_1922 4 rfl ?_
  refine l_iconst (v := 1) hX dL_law_1924 (by decide) ?_
  refine l_iadd hX dL_law_1925 ?_
  refine l_sld hX h1 dL_law_1926 ?_
  refine l_aload_n hX dL_law_1927 rfl 0 rfl ?_
  refine l_iload hX dL_law_1928 4 rfl ?_
  refine l_iconst (v := 2) hX dL_law_1930 (by decide) ?_
  refine l_iadd hX dL_law_1931 ?_
  refine l_sld hX h2 dL_law_1932 ?_
  refine l_callIC hX (mC_EachAddsALine_when hC l adC) kM_X11_when kV_X11_when rfl km_L_203 rfl rfl (Nat.le_of_ble_eq_true rfl) ⟨Nat.le_of_ble_eq_true rfl, Nat.le_of_ble_eq_true rfl⟩ hc1 hs1 dL_law_1933 ?_
  refine l_aload_n hX dL_law_1936 rfl 2 rfl ?_
  refine l_aload_n hX dL_law_1937 rfl 0 rfl ?_
  refine l_iload hX dL_law_1938 4 rfl ?_
  refine l_iconst (v := 1) hX dL_law_1940 (by decide) ?_
  refine l_iadd hX dL_law_1941 ?_
  refine l_sld hX h1 dL_law_1942 ?_
  refine l_aload_n hX dL_law_1943 rfl 0 rfl ?_
  refine l_iload hX dL_law_1944 4 rfl ?_
  refine l_iconst (v := 2) hX dL_law_1946 (by decide) ?_
  refine l_iadd hX dL_law_1947 ?_
  refine l_sld hX h2 dL_law_1948 ?_
  refine l_callIM hX (mM_EachAddsALineModel_when hM l adM) kM_X12_when kV_X12_when rfl km_L_206 rfl rfl (Nat.le_of_ble_eq_true rfl) ⟨Nat.le_of_ble_eq_true rfl, Nat.le_of_ble_eq_true rfl⟩ hc1 hs1 dL_law_1949 ?_
  exact l_eqT (tgt := 2297) hX dL_law_1952 (by decide) rfl kk
theorem cs_43 {P : lP} {l : Launch} {adC adM : Nat → Nat} {ao b L : Nat} {xs : Nat → Int32} {σ τ σ' τ' : vSt} {g : Nat → Int64} {cells slots N : Nat} {i : Int32} {r : Int32} (hX : lOK P l adC adM ao b L xs) (h1 : vp_in (i + 1) L) (h2 : vp_in (i + 2) L) (h3 : vp_in (i + 3) L) (h4 : vp_in (i + 4) L) (hc1 : cells ≤ 601024) (hs1 : slots ≤ 7293034) (hC : fC_EachAddsALine_answer N (xs (i + 1).toNatClampNeg) (xs (i + 2).toNatClampNeg) (xs (i + 3).toNatClampNeg) σ = some (r, σ')) (hM : fM_EachAddsALineModel_answer N (xs (i + 1).toNatClampNeg) (xs (i + 2).toNatClampNeg) (xs (i + 3).toNatClampNeg) τ = some (r, τ')) (kk : P σ' τ' g cells slots 2297 [(0, .ref b), (1, .ref (adC 0)), (2, .ref (adM 0)), (3, .ref ao), (4, .int i)] []) : P σ τ g cells slots 1957 [(0, .ref b), (1, .ref (adC 0)), (2, .ref (adM 0)), (3, .ref ao), (4, .int i)] [] := by
  refine l_aload_n hX dL_law_1957 rfl 1 rfl ?_
  refine l_aload_n hX dL_law_1958 rfl 0 rfl ?_
  refine l_iload hX dL_law_1959 4 rfl ?_
  refine l_iconst (v := 1) hX dL_law_1961 (by decide) ?_
  refine l_iadd hX dL_law_1962 ?_
  refine l_sld hX h1 dL_law_1963 ?_
  refine l_aload_n hX dL_law_1964 rfl 0 rfl ?_
  refine l_iload hX dL_law_1965 4 rfl ?_
  refine l_iconst (v := 2) hX dL_law_1967 (by decide) ?_
  refine l_iadd hX dL_law_1968 ?_
  refine l_sld hX h2 dL_law_1969 ?_
  refine l_aload_n hX dL_law_1970 rfl 0 rfl ?_
  refine l_iload hX dL_law_1971 4 rfl ?_
  refine l_iconst (v := 3) hX dL_law_1973 (by decide) ?_
  refine l_iadd hX dL_law_1974 ?_
  refine l_sld hX h3 dL_law_1975 ?_
  refine l_callIC hX (mC_EachAddsALine_answer hC l adC) kM_X11_answer kV_X11_answer rfl km_L_207 rfl rfl (Nat.le_of_ble_eq_true rfl) ⟨Nat.le_of_ble_eq_true rfl, Nat.le_of_ble_eq_true rfl⟩ hc1 hs1 dL_law_1976 ?_
  refine l_aload_n hX dL_law_1979 rfl 2 rfl ?_
  refine l_aload_n hX dL_law_1980 rfl 0 rfl ?_
  refine l_iload hX dL_law_1981 4 rfl ?_
  refine l_iconst (v := 1) hX dL_law_1983 (by decide) ?_
  refine l_iadd hX dL_law_1984 ?_
  refine l_sld hX h1 dL_law_1985 ?_
  refine l_aload_n hX dL_law_1986 rfl 0 rfl ?_
  refine l_iload hX dL_law_1987 4 rfl ?_
  refine l_iconst (v := 2) hX dL_law_1989 (by decide) ?_
  refine l_iadd hX dL_law_1990 ?_
  refine l_sld hX h2 dL_law_1991 ?_
  refine l_aload_n hX dL_law_1992 rfl 0 rfl ?_
  refine l_iload hX dL_law_1993 4 rfl ?_
  refine l_iconst (v := 3) hX dL_law_1995 (by decide) ?_
  refine l_iadd hX dL_law_1996 ?_
  refine l_sld hX h3 dL_law_1997 ?_
  refine l_callIM hX (mM_EachAddsALineModel_answer hM l adM) kM_X12_answer kV_X12_answer rfl km_L_210 rfl rfl (Nat.le_of_ble_eq_true rfl) ⟨Nat.le_of_ble_eq_true rfl, Nat.le_of_ble_eq_true rfl⟩ hc1 hs1 dL_law_1998 ?_
  exact l_eqT (tgt := 2297) hX dL_law_2001 (by decide) rfl kk
theorem cs_44 {P : lP} {l : Launch} {adC adM : Nat → Nat} {ao b L : Nat} {xs : Nat → Int32} {σ τ σ' τ' : vSt} {g : Nat → Int64} {cells slots N : Nat} {i : Int32} {r : Int32} (hX : lOK P l adC adM ao b L xs) (h1 : vp_in (i + 1) L) (h2 : vp_in (i + 2) L) (h3 : vp_in (i + 3) L) (h4 : vp_in (i + 4) L) (hc1 : cells ≤ 601024) (hs1 : slots ≤ 7293034) (hC : fC_EachAddsALine_ask N (xs (i + 1).toNatClampNeg) (xs (i + 2).toNatClampNeg) σ = some (r, σ')) (hM : fM_EachAddsALineModel_ask N (xs (i + 1).toNatClampNeg) (xs (i + 2).toNatClampNeg) τ = some (r, τ')) (kk : P σ' τ' g cells slots 2297 [(0, .ref b), (1, .ref (adC 0)), (2, .ref (adM 0)), (3, .ref ao), (4, .int i)] []) : P σ τ g cells slots 2006 [(0, .ref b), (1, .ref (adC 0)), (2, .ref (adM 0)), (3, .ref ao), (4, .int i)] [] := by
  refine l_aload_n hX dL_law_2006 rfl 1 rfl ?_
  refine l_aload_n hX dL_law_2007 rfl 0 rfl ?_
  refine l_iload hX dL_law_2008 4 rfl ?_
  refine l_iconst (v := 1) hX dL_law_2010 (by decide) ?_
  refine l_iadd hX dL_law_2011 ?_
  refine l_sld hX h1 dL_law_2012 ?_
  refine l_aload_n hX dL_law_2013 rfl 0 rfl ?_
  refine l_iload hX dL_law_2014 4 rfl ?_
  refine l_iconst (v := 2) hX dL_law_2016 (by decide) ?_
  refine l_iadd hX dL_law_2017 ?_
  refine l_sld hX h2 dL_law_2018 ?_
  refine l_callIC hX (mC_EachAddsALine_ask hC l adC) kM_X11_ask kV_X11_ask rfl km_L_211 rfl rfl (Nat.le_of_ble_eq_true rfl) ⟨Nat.le_of_ble_eq_true rfl, Nat.le_of_ble_eq_true rfl⟩ hc1 hs1 dL_law_2019 ?_
  refine l_aload_n hX dL_law_2022 rfl 2 rfl ?_
  refine l_aload_n hX dL_law_2023 rfl 0 rfl ?_
  refine l_iload hX dL_law_2024 4 rfl ?_
  refine l_iconst (v := 1) hX dL_law_2026 (by decide) ?_
  refine l_iadd hX dL_law_2027 ?_
  refine l_sld hX h1 dL_law_2028 ?_
  refine l_aload_n hX dL_law_2029 rfl 0 rfl ?_
  refine l_iload hX dL_law_2030 4 rfl ?_
  refine l_iconst (v := 2) hX dL_law_2032 (by decide) ?_
  refine l_iadd hX dL_law_2033 ?_
  refine l_sld hX h2 dL_law_2034 ?_
  refine l_callIM hX (mM_EachAddsALineModel_ask hM l adM) kM_X12_ask kV_X12_ask rfl km_L_214 rfl rfl (Nat.le_of_ble_eq_true rfl) ⟨Nat.le_of_ble_eq_true rfl, Nat.le_of_ble_eq_true rfl⟩ hc1 hs1 dL_law_2035 ?_
  exact l_eqT (tgt := 2297) hX dL_law_2038 (by decide) rfl kk
theorem cs_45 {P : lP} {l : Launch} {adC adM : Nat → Nat} {ao b L : Nat} {xs : Nat → Int32} {σ τ σ' τ' : vSt} {g : Nat → Int64} {cells slots N : Nat} {i : Int32} {r : Int32} (hX : lOK P l adC adM ao b L xs) (h1 : vp_in (i + 1) L) (h2 : vp_in (i + 2) L) (h3 : vp_in (i + 3) L) (h4 : vp_in (i + 4) L) (hc1 : cells ≤ 601024) (hs1 : slots ≤ 7293034) (hC : fC_EachAddsALine_gossip N (xs (i + 1).toNatClampNeg) (xs (i + 2).toNatClampNeg) (xs (i + 3).toNatClampNeg) σ = some (r, σ')) (hM : fM_EachAddsALineModel_gossip N (xs (i + 1).toNatClampNeg) (xs (i + 2).toNatClampNeg) (xs (i + 3).toNatClampNeg) τ = some (r, τ')) (kk : P σ' τ' g cells slots 2297 [(0, .ref b), (1, .ref (adC 0)), (2, .ref (adM 0)), (3, .ref ao), (4, .int i)] []) : P σ τ g cells slots 2043 [(0, .ref b), (1, .ref (adC 0)), (2, .ref (adM 0)), (3, .ref ao), (4, .int i)] [] := by
  refine l_aload_n hX dL_law_2043 rfl 1 rfl ?_
  refine l_aload_n hX dL_law_2044 rfl 0 rfl ?_
  refine l_iload hX dL_law_2045 4 rfl ?_
  refine l_iconst (v := 1) hX dL_law_2047 (by decide) ?_
  refine l_iadd hX dL_law_2048 ?_
  refine l_sld hX h1 dL_law_2049 ?_
  refine l_aload_n hX dL_law_2050 rfl 0 rfl ?_
  refine l_iload hX dL_law_2051 4 rfl ?_
  refine l_iconst (v := 2) hX dL_law_2053 (by decide) ?_
  refine l_iadd hX dL_law_2054 ?_
  refine l_sld hX h2 dL_law_2055 ?_
  refine l_aload_n hX dL_law_2056 rfl 0 rfl ?_
  refine l_iload hX dL_law_2057 4 rfl ?_
  refine l_iconst (v := 3) hX dL_law_2059 (by decide) ?_
  refine l_iadd hX dL_law_2060 ?_
  refine l_sld hX h3 dL_law_2061 ?_
  refine l_callIC hX (mC_EachAddsALine_gossip hC l adC) kM_X11_gossip kV_X11_gossip rfl km_L_215 rfl rfl (Nat.le_of_ble_eq_true rfl) ⟨Nat.le_of_ble_eq_true rfl, Nat.le_of_ble_eq_true rfl⟩ hc1 hs1 dL_law_2062 ?_
  refine l_aload_n hX dL_law_2065 rfl 2 rfl ?_
  refine l_aload_n hX dL_law_2066 rfl 0 rfl ?_
  refine l_iload hX dL_law_2067 4 rfl ?_
  refine l_iconst (v := 1) hX dL_law_2069 (by decide) ?_
  refine l_iadd hX dL_law_2070 ?_
  refine l_sld hX h1 dL_law_2071 ?_
  refine l_aload_n hX dL_law_2072 rfl 0 rfl ?_
  refine l_iload hX dL_law_2073 4 rfl ?_
  refine l_iconst (v := 2) hX dL_law_2075 (by decide) ?_
  refine l_iadd hX dL_law_2076 ?_
  refine l_sld hX h2 dL_law_2077 ?_
  refine l_aload_n hX dL_law_2078 rfl 0 rfl ?_
  refine l_iload hX dL_law_2079 4 rfl ?_
  refine l_iconst (v := 3) hX dL_law_2081 (by decide) ?_
  refine l_iadd hX dL_law_2082 ?_
  refine l_sld hX h3 dL_law_2083 ?_
  refine l_callIM hX (mM_EachAddsALineModel_gossip hM l adM) kM_X12_gossip kV_X12_gossip rfl km_L_218 rfl rfl (Nat.le_of_ble_eq_true rfl) ⟨Nat.le_of_ble_eq_true rfl, Nat.le_of_ble_eq_true rfl⟩ hc1 hs1 dL_law_2084 ?_
  exact l_eqT (tgt := 2297) hX dL_law_2087 (by decide) rfl kk
theorem cs_46 {P : lP} {l : Launch} {adC adM : Nat → Nat} {ao b L : Nat} {xs : Nat → Int32} {σ τ σ' τ' : vSt} {g : Nat → Int64} {cells slots N : Nat} {i : Int32} {r : Int32} (hX : lOK P l adC adM ao b L xs) (h1 : vp_in (i + 1) L) (h2 : vp_in (i + 2) L) (h3 : vp_in (i + 3) L) (h4 : vp_in (i + 4) L) (hc1 : cells ≤ 601024) (hs1 : slots ≤ 7293034) (hC : fC_EachAddsALine_postman N (xs (i + 1).toNatClampNeg) (xs (i + 2).toNatClampNeg) σ = some (r, σ')) (hM : fM_EachAddsALineModel_postman N (xs (i + 1).toNatClampNeg) (xs (i + 2).toNatClampNeg) τ = some (r, τ')) (kk : P σ' τ' g cells slots 2297 [(0, .ref b), (1, .ref (adC 0)), (2, .ref (adM 0)), (3, .ref ao), (4, .int i)] []) : P σ τ g cells slots 2092 [(0, .ref b), (1, .ref (adC 0)), (2, .ref (adM 0)), (3, .ref ao), (4, .int i)] [] := by
  refine l_aload_n hX dL_law_2092 rfl 1 rfl ?_
  refine l_aload_n hX dL_law_2093 rfl 0 rfl ?_
  refine l_iload hX dL_law_2094 4 rfl ?_
  refine l_iconst (v := 1) hX dL_law_2096 (by decide) ?_
  refine l_iadd hX dL_law_2097 ?_
  refine l_sld hX h1 dL_law_2098 ?_
  refine l_aload_n hX dL_law_2099 rfl 0 rfl ?_
  refine l_iload hX dL_law_2100 4 rfl ?_
  refine l_iconst (v := 2) hX dL_law_2102 (by decide) ?_
  refine l_iadd hX dL_law_2103 ?_
  refine l_sld hX h2 dL_law_2104 ?_
  refine l_callIC hX (mC_EachAddsALine_postman hC l adC) kM_X11_postman kV_X11_postman rfl km_L_219 rfl rfl (Nat.le_of_ble_eq_true rfl) ⟨Nat.le_of_ble_eq_true rfl, Nat.le_of_ble_eq_true rfl⟩ hc1 hs1 dL_law_2105 ?_
  refine l_aload_n hX dL_law_2108 rfl 2 rfl ?_
  refine l_aload_n hX dL_law_2109 rfl 0 rfl ?_
  refine l_iload hX dL_law_2110 4 rfl ?_
  refine l_iconst (v := 1) hX dL_law_2112 (by decide) ?_
  refine l_iadd hX dL_law_2113 ?_
  refine l_sld hX h1 dL_law_2114 ?_
  refine l_aload_n hX dL_law_2115 rfl 0 rfl ?_
  refine l_iload hX dL_law_2116 4 rfl ?_
  refine l_iconst (v := 2) hX dL_law_2118 (by decide) ?_
  refine l_iadd hX dL_law_2119 ?_
  refine l_sld hX h2 dL_law_2120 ?_
  refine l_callIM hX (mM_EachAddsALineModel_postman hM l adM) kM_X12_postman kV_X12_postman rfl km_L_222 rfl rfl (Nat.le_of_ble_eq_true rfl) ⟨Nat.le_of_ble_eq_true rfl, Nat.le_of_ble_eq_true rfl⟩ hc1 hs1 dL_law_2121 ?_
  exact l_eqT (tgt := 2297) hX dL_law_2124 (by decide) rfl kk
theorem cs_47 {P : lP} {l : Launch} {adC adM : Nat → Nat} {ao b L : Nat} {xs : Nat → Int32} {σ τ σ' τ' : vSt} {g : Nat → Int64} {cells slots N : Nat} {i : Int32} {r : Int32} (hX : lOK P l adC adM ao b L xs) (h1 : vp_in (i + 1) L) (h2 : vp_in (i + 2) L) (h3 : vp_in (i + 3) L) (h4 : vp_in (i + 4) L) (hc1 : cells ≤ 601024) (hs1 : slots ≤ 7293034) (hC : fC_EachAddsALine_heralds N (xs (i + 1).toNatClampNeg) (xs (i + 2).toNatClampNeg) σ = some (r, σ')) (hM : fM_EachAddsALineModel_heralds N (xs (i + 1).toNatClampNeg) (xs (i + 2).toNatClampNeg) τ = some (r, τ')) (kk : P σ' τ' g cells slots 2297 [(0, .ref b), (1, .ref (adC 0)), (2, .ref (adM 0)), (3, .ref ao), (4, .int i)] []) : P σ τ g cells slots 2129 [(0, .ref b), (1, .ref (adC 0)), (2, .ref (adM 0)), (3, .ref ao), (4, .int i)] [] := by
  refine l_aload_n hX dL_law_2129 rfl 1 rfl ?_
  refine l_aload_n hX dL_law_2130 rfl 0 rfl ?_
  refine l_iload hX dL_law_2131 4 rfl ?_
  refine l_iconst (v := 1) hX dL_law_2133 (by decide) ?_
  refine l_iadd hX dL_law_2134 ?_
  refine l_sld hX h1 dL_law_2135 ?_
  refine l_aload_n hX dL_law_2136 rfl 0 rfl ?_
  refine l_iload hX dL_law_2137 4 rfl ?_
  refine l_iconst (v := 2) hX dL_law_2139 (by decide) ?_
  refine l_iadd hX dL_law_2140 ?_
  refine l_sld hX h2 dL_law_2141 ?_
  refine l_callIC hX (mC_EachAddsALine_heralds hC l adC) kM_X11_heralds kV_X11_heralds rfl km_L_223 rfl rfl (Nat.le_of_ble_eq_true rfl) ⟨Nat.le_of_ble_eq_true rfl, Nat.le_of_ble_eq_true rfl⟩ hc1 hs1 dL_law_2142 ?_
  refine l_aload_n hX dL_law_2145 rfl 2 rfl ?_
  refine l_aload_n hX dL_law_2146 rfl 0 rfl ?_
  refine l_iload hX dL_law_2147 4 rfl ?_
  refine l_iconst (v := 1) hX dL_law_2149 (by decide) ?_
  refine l_iadd hX dL_law_2150 ?_
  refine l_sld hX h1 dL_law_2151 ?_
  refine l_aload_n hX dL_law_2152 rfl 0 rfl ?_
  refine l_iload hX dL_law_2153 4 rfl ?_
  refine l_iconst (v := 2) hX dL_law_2155 (by decide) ?_
  refine l_iadd hX dL_law_2156 ?_
  refine l_sld hX h2 dL_law_2157 ?_
  refine l_callIM hX (mM_EachAddsALineModel_heralds hM l adM) kM_X12_heralds kV_X12_heralds rfl km_L_226 rfl rfl (Nat.le_of_ble_eq_true rfl) ⟨Nat.le_of_ble_eq_true rfl, Nat.le_of_ble_eq_true rfl⟩ hc1 hs1 dL_law_2158 ?_
  exact l_eqT (tgt := 2297) hX dL_law_2161 (by decide) rfl kk
theorem cs_48 {P : lP} {l : Launch} {adC adM : Nat → Nat} {ao b L : Nat} {xs : Nat → Int32} {σ τ σ' τ' : vSt} {g : Nat → Int64} {cells slots N : Nat} {i : Int32} {r : Int32} (hX : lOK P l adC adM ao b L xs) (h1 : vp_in (i + 1) L) (h2 : vp_in (i + 2) L) (h3 : vp_in (i + 3) L) (h4 : vp_in (i + 4) L) (hc1 : cells ≤ 601024) (hs1 : slots ≤ 7293034) (hC : fC_EachAddsALine_keep N (xs (i + 1).toNatClampNeg) σ = some (r, σ')) (hM : fM_EachAddsALineModel_keep N (xs (i + 1).toNatClampNeg) τ = some (r, τ')) (kk : P σ' τ' g cells slots 2297 [(0, .ref b), (1, .ref (adC 0)), (2, .ref (adM 0)), (3, .ref ao), (4, .int i)] []) : P σ τ g cells slots 2166 [(0, .ref b), (1, .ref (adC 0)), (2, .ref (adM 0)), (3, .ref ao), (4, .int i)] [] := by
  refine l_aload_n hX dL_law_2166 rfl 1 rfl ?_
  refine l_aload_n hX dL_law_2167 rfl 0 rfl ?_
  refine l_iload hX dL_law_2168 4 rfl ?_
  refine l_iconst (v := 1) hX dL_law_2170 (by decide) ?_
  refine l_iadd hX dL_law_2171 ?_
  refine l_sld hX h1 dL_law_2172 ?_
  refine l_callIC hX (mC_EachAddsALine_keep hC l adC) kM_X11_keep kV_X11_keep rfl km_L_227 rfl rfl (Nat.le_of_ble_eq_true rfl) ⟨Nat.le_of_ble_eq_true rfl, Nat.le_of_ble_eq_true rfl⟩ hc1 hs1 dL_law_2173 ?_
  refine l_aload_n hX dL_law_2176 rfl 2 rfl ?_
  refine l_aload_n hX dL_law_2177 rfl 0 rfl ?_
  refine l_iload hX dL_law_2178 4 rfl ?_
  refine l_iconst (v := 1) hX dL_law_2180 (by decide) ?_
  refine l_iadd hX dL_law_2181 ?_
  refine l_sld hX h1 dL_law_2182 ?_
  refine l_callIM hX (mM_EachAddsALineModel_keep hM l adM) kM_X12_keep kV_X12_keep rfl km_L_230 rfl rfl (Nat.le_of_ble_eq_true rfl) ⟨Nat.le_of_ble_eq_true rfl, Nat.le_of_ble_eq_true rfl⟩ hc1 hs1 dL_law_2183 ?_
  exact l_eqT (tgt := 2297) hX dL_law_2186 (by decide) rfl kk
theorem cs_49 {P : lP} {l : Launch} {adC adM : Nat → Nat} {ao b L : Nat} {xs : Nat → Int32} {σ τ σ' τ' : vSt} {g : Nat → Int64} {cells slots N : Nat} {i : Int32} {r : Int32} (hX : lOK P l adC adM ao b L xs) (h1 : vp_in (i + 1) L) (h2 : vp_in (i + 2) L) (h3 : vp_in (i + 3) L) (h4 : vp_in (i + 4) L) (hc1 : cells ≤ 601024) (hs1 : slots ≤ 7293034) (hC : fC_EachAddsALine_again N (xs (i + 1).toNatClampNeg) σ = some (r, σ')) (hM : fM_EachAddsALineModel_again N (xs (i + 1).toNatClampNeg) τ = some (r, τ')) (kk : P σ' τ' g cells slots 2297 [(0, .ref b), (1, .ref (adC 0)), (2, .ref (adM 0)), (3, .ref ao), (4, .int i)] []) : P σ τ g cells slots 2191 [(0, .ref b), (1, .ref (adC 0)), (2, .ref (adM 0)), (3, .ref ao), (4, .int i)] [] := by
  refine l_aload_n hX dL_law_2191 rfl 1 rfl ?_
  refine l_aload_n hX dL_law_2192 rfl 0 rfl ?_
  refine l_iload hX dL_law_2193 4 rfl ?_
  refine l_iconst (v := 1) hX dL_law_2195 (by decide) ?_
  refine l_iadd hX dL_law_2196 ?_
  refine l_sld hX h1 dL_law_2197 ?_
  refine l_callIC hX (mC_EachAddsALine_again hC l adC) kM_X11_again kV_X11_again rfl km_L_231 rfl rfl (Nat.le_of_ble_eq_true rfl) ⟨Nat.le_of_ble_eq_true rfl, Nat.le_of_ble_eq_true rfl⟩ hc1 hs1 dL_law_2198 ?_
  refine l_aload_n hX dL_law_2201 rfl 2 rfl ?_
  refine l_aload_n hX dL_law_2202 rfl 0 rfl ?_
  refine l_iload hX dL_law_2203 4 rfl ?_
  refine l_iconst (v := 1) hX dL_law_2205 (by decide) ?_
  refine l_iadd hX dL_law_2206 ?_
  refine l_sld hX h1 dL_law_2207 ?_
  refine l_callIM hX (mM_EachAddsALineModel_again hM l adM) kM_X12_again kV_X12_again rfl km_L_234 rfl rfl (Nat.le_of_ble_eq_true rfl) ⟨Nat.le_of_ble_eq_true rfl, Nat.le_of_ble_eq_true rfl⟩ hc1 hs1 dL_law_2208 ?_
  exact l_eqT (tgt := 2297) hX dL_law_2211 (by decide) rfl kk
theorem cs_50 {P : lP} {l : Launch} {adC adM : Nat → Nat} {ao b L : Nat} {xs : Nat → Int32} {σ τ σ' τ' : vSt} {g : Nat → Int64} {cells slots N : Nat} {i : Int32} {r : Int32} (hX : lOK P l adC adM ao b L xs) (h1 : vp_in (i + 1) L) (h2 : vp_in (i + 2) L) (h3 : vp_in (i + 3) L) (h4 : vp_in (i + 4) L) (hc1 : cells ≤ 601024) (hs1 : slots ≤ 7293034) (hC : fC_EachAddsALine_count N (xs (i + 1).toNatClampNeg) σ = some (r, σ')) (hM : fM_EachAddsALineModel_count N (xs (i + 1).toNatClampNeg) τ = some (r, τ')) (kk : P σ' τ' g cells slots 2297 [(0, .ref b), (1, .ref (adC 0)), (2, .ref (adM 0)), (3, .ref ao), (4, .int i)] []) : P σ τ g cells slots 2216 [(0, .ref b), (1, .ref (adC 0)), (2, .ref (adM 0)), (3, .ref ao), (4, .int i)] [] := by
  refine l_aload_n hX dL_law_2216 rfl 1 rfl ?_
  refine l_aload_n hX dL_law_2217 rfl 0 rfl ?_
  refine l_iload hX dL_law_2218 4 rfl ?_
  refine l_iconst (v := 1) hX dL_law_2220 (by decide) ?_
  refine l_iadd hX dL_law_2221 ?_
  refine l_sld hX h1 dL_law_2222 ?_
  refine l_callIC hX (mC_EachAddsALine_count hC l adC) kM_X11_count kV_X11_count rfl km_L_235 rfl rfl (Nat.le_of_ble_eq_true rfl) ⟨Nat.le_of_ble_eq_true rfl, Nat.le_of_ble_eq_true rfl⟩ hc1 hs1 dL_law_2223 ?_
  refine l_aload_n hX dL_law_2226 rfl 2 rfl ?_
  refine l_aload_n hX dL_law_2227 rfl 0 rfl ?_
  refine l_iload hX dL_law_2228 4 rfl ?_
  refine l_iconst (v := 1) hX dL_law_2230 (by decide) ?_
  refine l_iadd hX dL_law_2231 ?_
  refine l_sld hX h1 dL_law_2232 ?_
  refine l_callIM hX (mM_EachAddsALineModel_count hM l adM) kM_X12_count kV_X12_count rfl km_L_238 rfl rfl (Nat.le_of_ble_eq_true rfl) ⟨Nat.le_of_ble_eq_true rfl, Nat.le_of_ble_eq_true rfl⟩ hc1 hs1 dL_law_2233 ?_
  exact l_eqT (tgt := 2297) hX dL_law_2236 (by decide) rfl kk
