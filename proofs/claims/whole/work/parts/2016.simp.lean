/-! numbers for simp: every literal is an nI, -1 is mI 1; comparisons fall where omega knows them -/
def mI (n : Nat) : Int32 := -(nI n)
theorem M_1 : (-1 : Int32) = mI 1 := by decide
theorem M_2 : (-2 : Int32) = mI 2 := by decide
theorem M_3 : (-3 : Int32) = mI 3 := by decide
theorem M_4 : (-4 : Int32) = mI 4 := by decide
theorem L_0 : (0 : Int32) = nI 0 := by decide
theorem L_1 : (1 : Int32) = nI 1 := by decide
theorem L_2 : (2 : Int32) = nI 2 := by decide
theorem L_3 : (3 : Int32) = nI 3 := by decide
theorem L_4 : (4 : Int32) = nI 4 := by decide
theorem L_5 : (5 : Int32) = nI 5 := by decide
theorem L_6 : (6 : Int32) = nI 6 := by decide
theorem L_7 : (7 : Int32) = nI 7 := by decide
theorem L_8 : (8 : Int32) = nI 8 := by decide
theorem L_9 : (9 : Int32) = nI 9 := by decide
theorem L_10 : (10 : Int32) = nI 10 := by decide
theorem L_11 : (11 : Int32) = nI 11 := by decide
theorem L_12 : (12 : Int32) = nI 12 := by decide
theorem L_13 : (13 : Int32) = nI 13 := by decide
theorem L_20 : (20 : Int32) = nI 20 := by decide
theorem L_24 : (24 : Int32) = nI 24 := by decide
theorem L_26 : (26 : Int32) = nI 26 := by decide
theorem L_30 : (30 : Int32) = nI 30 := by decide
theorem L_31 : (31 : Int32) = nI 31 := by decide
theorem L_32 : (32 : Int32) = nI 32 := by decide
theorem L_39 : (39 : Int32) = nI 39 := by decide
theorem L_40 : (40 : Int32) = nI 40 := by decide
theorem L_48 : (48 : Int32) = nI 48 := by decide
theorem L_57 : (57 : Int32) = nI 57 := by decide
theorem L_76 : (76 : Int32) = nI 76 := by decide
theorem L_80 : (80 : Int32) = nI 80 := by decide
theorem L_90 : (90 : Int32) = nI 90 := by decide
theorem L_91 : (91 : Int32) = nI 91 := by decide
theorem L_97 : (97 : Int32) = nI 97 := by decide
theorem L_99 : (99 : Int32) = nI 99 := by decide
theorem L_100 : (100 : Int32) = nI 100 := by decide
theorem L_255 : (255 : Int32) = nI 255 := by decide
theorem L_273 : (273 : Int32) = nI 273 := by decide
theorem L_1000 : (1000 : Int32) = nI 1000 := by decide
theorem L_2000 : (2000 : Int32) = nI 2000 := by decide
theorem L_1000000 : (1000000 : Int32) = nI 1000000 := by decide
theorem L_1048576 : (1048576 : Int32) = nI 1048576 := by decide
theorem q_ld {s : vSt} {o n i : Nat} (h : i < n) (hn : n < 2 ^ 31) : ld s o n (nI i) = some (s.1 o i) := ld_n h hn
theorem q_ldL {s : vSt} {o n i : Nat} (h : i < n) (hn : n < 2 ^ 31) : ldL s o n (nI i) = some (s.2 o i) := ldL_n h hn
theorem q_sto {s : vSt} {o n i : Nat} {x : Int32} (h : i < n) (hn : n < 2 ^ 31) : sto s o n (nI i) x = some (s1 s o i x) := sto_n h hn
theorem q_stoL {s : vSt} {o n i : Nat} {x : Int64} (h : i < n) (hn : n < 2 ^ 31) : stoL s o n (nI i) x = some (s2 s o i x) := stoL_n h hn
theorem q_add (a b : Nat) : nI a + nI b = nI (a + b) := nI_add a b
theorem q_mul (a b : Nat) : nI a * nI b = nI (a * b) := pk_mul a b
theorem q_sub {a b : Nat} (h : b ≤ a) : nI a - nI b = nI (a - b) := pk_sub h
theorem q_dec {a b : Nat} (h : b ≤ a) : nI a + mI b = nI (a - b) := by
  rw [← pk_sub h]
  exact (Int32.sub_eq_add_neg _ _).symm
theorem q_rem {a d : Nat} (ha : a < 2 ^ 31) (h0 : 0 < d) (hd : d < 2 ^ 31) : nI a - nI a / nI d * nI d = nI (a % d) := pk_rem ha h0 hd
theorem q_div {a d : Nat} (ha : a < 2 ^ 31) (h0 : 0 < d) (hd : d < 2 ^ 31) : nI a / nI d = nI (a / d) := pk_div ha h0 hd
theorem q_lt_t {a b : Nat} (h : a < b) (hb : b < 2 ^ 31) : (nI a < nI b) = True := eq_true (nI_lt h hb)
theorem q_lt_f {a b : Nat} (h : b ≤ a) (hb : a < 2 ^ 31) : (nI a < nI b) = False := eq_false (nI_nlt h hb)
theorem q_le_t {a b : Nat} (h : a ≤ b) (hb : b < 2 ^ 31) : (nI a ≤ nI b) = True := eq_true (nI_le h hb)
theorem q_le_f {a b : Nat} (h : b < a) (hb : a < 2 ^ 31) : (nI a ≤ nI b) = False := eq_false (nI_ge h hb)
theorem q_eq_t {a b : Nat} (h : a = b) : (nI a = nI b) = True := eq_true (congrArg nI h)
theorem q_eq_f {a b : Nat} (h : a ≠ b) (ha : a < 2 ^ 31) (hb : b < 2 ^ 31) : (nI a = nI b) = False := eq_false (fun z => h ((nI_eq ha hb).mp z))
theorem mI_toInt {b : Nat} (hb : b < 2 ^ 31) : (mI b).toInt = -(b : Int) := by
  unfold mI
  rw [fb_negI, nI_toInt hb]
  rw [nI_toInt hb]
  omega
theorem q_em {a b : Nat} (ha : a < 2 ^ 31) (hb : b < 2 ^ 31) (h : 0 < b) : (nI a = mI b) = False := eq_false (fun z => by
  have h1 := congrArg Int32.toInt z
  rw [nI_toInt ha, mI_toInt hb] at h1
  omega)
theorem q_me {a b : Nat} (ha : a < 2 ^ 31) (hb : b < 2 ^ 31) (h : 0 < b) : (mI b = nI a) = False := eq_false (fun z => by
  have h1 := congrArg Int32.toInt z
  rw [nI_toInt ha, mI_toInt hb] at h1
  omega)
theorem q_ml {a b : Nat} (ha : a < 2 ^ 31) (hb : b < 2 ^ 31) (h : 0 < a + b) : (mI b < nI a) = True := eq_true (by
  rw [Int32.lt_iff_toInt_lt, nI_toInt ha, mI_toInt hb]
  omega)
theorem q_lm {a b : Nat} (ha : a < 2 ^ 31) (hb : b < 2 ^ 31) : (nI a < mI b) = False := eq_false (by
  rw [Int32.lt_iff_toInt_lt, nI_toInt ha, mI_toInt hb]
  omega)
theorem q_mle {a b : Nat} (ha : a < 2 ^ 31) (hb : b < 2 ^ 31) : (mI b ≤ nI a) = True := eq_true (by
  rw [Int32.le_iff_toInt_le, nI_toInt ha, mI_toInt hb]
  omega)
theorem q_lem {a b : Nat} (ha : a < 2 ^ 31) (hb : b < 2 ^ 31) (h : 0 < a + b) : (nI a ≤ mI b) = False := eq_false (by
  rw [Int32.le_iff_toInt_le, nI_toInt ha, mI_toInt hb]
  omega)
theorem q_s1 (s : vSt) (o k : Nat) (x : Int32) : (s1 s o k x).1 o k = x := by rw [s1_eq, if_pos rfl]
theorem q_s1o {s : vSt} {o k o' : Nat} {x : Int32} (h : o' ≠ o) : (s1 s o k x).1 o' = s.1 o' := s1_ne h
theorem q_s1k {s : vSt} {o k j : Nat} {x : Int32} (h : j ≠ k) : (s1 s o k x).1 o j = s.1 o j := by rw [s1_eq, if_neg h]
theorem q_s12 (s : vSt) (o k : Nat) (x : Int32) : (s1 s o k x).2 = s.2 := rfl
theorem q_s2 (s : vSt) (o k : Nat) (x : Int64) : (s2 s o k x).2 o k = x := by rw [s2_eq, if_pos rfl]
theorem q_s2o {s : vSt} {o k o' : Nat} {x : Int64} (h : o' ≠ o) : (s2 s o k x).2 o' = s.2 o' := s2_ne h
theorem q_s2k {s : vSt} {o k j : Nat} {x : Int64} (h : j ≠ k) : (s2 s o k x).2 o j = s.2 o j := by rw [s2_eq, if_neg h]
theorem q_s21 (s : vSt) (o k : Nat) (x : Int64) : (s2 s o k x).1 = s.1 := rfl
section VX
variable {v : Int32}
theorem neg_lt (h : v < 0) {k : Nat} (hk : k < 2 ^ 31) : (v < nI k) = True := eq_true (by
  rw [Int32.lt_iff_toInt_lt] at h ⊢
  rw [nI_toInt hk]
  have e : (0 : Int32).toInt = 0 := by decide
  omega)
theorem neg_le (h : v < 0) {k : Nat} (hk : k < 2 ^ 31) : (v ≤ nI k) = True := eq_true (by
  rw [Int32.lt_iff_toInt_lt] at h
  rw [Int32.le_iff_toInt_le, nI_toInt hk]
  have e : (0 : Int32).toInt = 0 := by decide
  omega)
theorem neg_nle (h : v < 0) {k : Nat} (hk : k < 2 ^ 31) : (nI k ≤ v) = False := eq_false (by
  rw [Int32.lt_iff_toInt_lt] at h
  rw [Int32.le_iff_toInt_le, nI_toInt hk]
  have e : (0 : Int32).toInt = 0 := by decide
  omega)
theorem neg_ne (h : v < 0) {k : Nat} (hk : k < 2 ^ 31) : (v = nI k) = False := eq_false (fun z => by
  rw [Int32.lt_iff_toInt_lt, z, nI_toInt hk] at h
  have e : (0 : Int32).toInt = 0 := by decide
  omega)
theorem big_nlt {n : Nat} (h : nI n ≤ v) {k : Nat} (hk : k ≤ n) (hn : n < 2 ^ 31) : (v < nI k) = False := eq_false (by
  rw [Int32.le_iff_toInt_le, nI_toInt hn] at h
  rw [Int32.lt_iff_toInt_lt, nI_toInt (by omega)]
  omega)
theorem big_lt {n : Nat} (h : nI n ≤ v) {k : Nat} (hk : k < n) (hn : n < 2 ^ 31) : (nI k < v) = True := eq_true (by
  rw [Int32.le_iff_toInt_le, nI_toInt hn] at h
  rw [Int32.lt_iff_toInt_lt, nI_toInt (by omega)]
  omega)
theorem big_nle {n : Nat} (h : nI n ≤ v) {k : Nat} (hk : k < n) (hn : n < 2 ^ 31) : (v ≤ nI k) = False := eq_false (by
  rw [Int32.le_iff_toInt_le, nI_toInt hn] at h
  rw [Int32.le_iff_toInt_le, nI_toInt (by omega)]
  omega)
theorem big_ne {n : Nat} (h : nI n ≤ v) {k : Nat} (hk : k < n) (hn : n < 2 ^ 31) : (v = nI k) = False := eq_false (fun z => by
  rw [Int32.le_iff_toInt_le, nI_toInt hn, z, nI_toInt (by omega)] at h
  omega)
theorem big_le {n : Nat} (h : nI n ≤ v) {k : Nat} (hk : k ≤ n) (hn : n < 2 ^ 31) : (nI k ≤ v) = True := eq_true (by
  rw [Int32.le_iff_toInt_le, nI_toInt hn] at h
  rw [Int32.le_iff_toInt_le, nI_toInt (by omega)]
  omega)
end VX
theorem or_ff {a b : Prop} (ha : a = False) (hb : b = False) : (a ∨ b) = False := by rw [ha, hb]; exact propext ⟨fun z => z.elim id id, False.elim⟩
