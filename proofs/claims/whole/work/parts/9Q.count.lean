-- BITS OF A LONG COUNTED
def Rw (a : Int) (N : Nat) : Prop := a % 18446744073709551616 = (N : Int)
theorem toN64 {a : Int} {N : Nat} (h : Rw a N) : (BitVec.ofInt 64 a).toNat = N := by
  unfold Rw at h
  rw [BitVec.toNat_ofInt, show ((2 ^ 64 : Nat) : Int) = 18446744073709551616 from by decide, h]
  rfl
theorem emod64 (x : BitVec 64) : x.toInt % 18446744073709551616 = (x.toNat : Int) := by
  have := x.isLt
  rw [BitVec.toInt_eq_toNat_cond]
  split <;> omega
section RW
variable {a b c : Int} {N M C k : Nat}
theorem Rw.sz (h : Rw a N) : N < 18446744073709551616 := by
  unfold Rw at h
  omega
theorem Rw.an (h : Rw a N) (hC : C < 18446744073709551616) (hc : c = (C : Int)) : Rw (Int64.ofInt a &&& Int64.ofInt c).toInt (N &&& C) := by
  show (BitVec.ofInt 64 a &&& BitVec.ofInt 64 c).toInt % 18446744073709551616 = _
  rw [emod64, BitVec.toNat_and, toN64 h, toN64 (a := c) (N := C) (by unfold Rw; omega)]
theorem Rw.ush {d : Nat} (h : Rw a N) (hd : 2 ^ k = d) (hk : ((UInt64.mod ((Int32.ofInt c).toInt64.toUInt64 &&& Int64.toUInt64 63) 64).toBitVec).toNat = k) : Rw (((Int64.ofInt a).toUInt64 >>> ((Int32.ofInt c).toInt64.toUInt64 &&& Int64.toUInt64 63)).toInt64.toInt) (N / d) := by
  subst hd
  show (BitVec.ofInt 64 a >>> ((UInt64.mod ((Int32.ofInt c).toInt64.toUInt64 &&& Int64.toUInt64 63) 64).toBitVec)).toInt % 18446744073709551616 = _
  rw [BitVec.ushiftRight_eq', hk, emod64, BitVec.toNat_ushiftRight, toN64 h, Nat.shiftRight_eq_div_pow]
theorem Rw.su (h : Rw a N) (g : Rw b M) (hl : M ≤ N) : Rw (w64 (a - b)) (N - M) := by
  unfold Rw w64 at *
  omega
theorem Rw.ad (h : Rw a N) (g : Rw b M) (hl : N + M < 18446744073709551616) : Rw (w64 (a + b)) (N + M) := by
  unfold Rw w64 at *
  omega
theorem Rw.fnq (h : Rw a N) : (Int32.ofInt (w32 a) &&& Int32.ofInt 127).toInt = ((N % 128 : Nat) : Int) := by
  have e : (BitVec.ofInt 32 (w32 a)).toNat % 128 = N % 128 := by
    rw [BitVec.toNat_ofInt, show ((2 ^ 32 : Nat) : Int) = 4294967296 from by decide]
    unfold w32
    unfold Rw at h
    omega
  have e2 : (BitVec.ofInt 32 (w32 a) &&& BitVec.ofInt 32 127).toNat = N % 128 := by
    rw [BitVec.toNat_and, show (BitVec.ofInt 32 127).toNat = 2 ^ 7 - 1 from by decide, Nat.and_two_pow_sub_one_eq_mod]
    exact e
  show (BitVec.ofInt 32 (w32 a) &&& BitVec.ofInt 32 127).toInt = _
  rw [BitVec.toInt_eq_toNat_cond, e2, if_pos (by omega)]
end RW
theorem and_st {a b c d : Nat} (hc : c < 256) (hd : d < 256) : (256 * a + c) &&& (256 * b + d) = 256 * (a &&& b) + (c &&& d) := by
  apply Nat.eq_of_testBit_eq
  intro j
  have h1 : c &&& d < 2 ^ 8 := Nat.and_lt_two_pow c hd
  have e1 : (256 * a + c).testBit j = if j < 8 then c.testBit j else a.testBit (j - 8) := Nat.testBit_two_pow_mul_add (i := 8) a hc j
  have e2 : (256 * b + d).testBit j = if j < 8 then d.testBit j else b.testBit (j - 8) := Nat.testBit_two_pow_mul_add (i := 8) b hd j
  have e3 : (256 * (a &&& b) + (c &&& d)).testBit j = if j < 8 then (c &&& d).testBit j else (a &&& b).testBit (j - 8) := Nat.testBit_two_pow_mul_add (i := 8) (a &&& b) h1 j
  rw [Nat.testBit_and, e1, e2, e3]
  split
  · rw [Nat.testBit_and]
  · rw [Nat.testBit_and]
def mk8 (c : Nat) : Nat → Nat
  | 0 => 0
  | k + 1 => 256 * mk8 c k + c
theorem mk85 : mk8 85 8 = 6148914691236517205 := by decide +kernel
theorem mk51 : mk8 51 8 = 3689348814741910323 := by decide +kernel
theorem mk15 : mk8 15 8 = 1085102592571150095 := by decide +kernel
def pA (k n : Nat) : Nat := n - ((n / 2) &&& mk8 85 k)
def pB (k n : Nat) : Nat := (n &&& mk8 51 k) + ((n / 4) &&& mk8 51 k)
def pC (k n : Nat) : Nat := (n + n / 16) &&& mk8 15 k
def a8 (d : Nat) : Nat := d - ((d / 2) &&& 85)
def b8 (d : Nat) : Nat := (d &&& 51) + ((d / 4) &&& 51)
def c8 (d : Nat) : Nat := (d + d / 16) &&& 15
def s8 (d : Nat) : Nat := c8 (b8 (a8 d))
theorem kq85 : ∀ e, e < 2 → ∀ d, d < 128 → (128 * e + d) &&& 85 = d &&& 85 := by decide +kernel
theorem kq51 : ∀ e, e < 4 → ∀ d, d < 64 → (64 * e + d) &&& 51 = d &&& 51 := by decide +kernel
theorem kq15 : ∀ e, e < 5 → ∀ d, d < 80 → (16 * e + d) &&& 15 = d &&& 15 := by decide +kernel
theorem a8_b : ∀ d, d < 256 → a8 d < 256 := by decide +kernel
theorem b8_b : ∀ d, d < 256 → b8 (a8 d) < 256 ∧ b8 (a8 d) / 16 ≤ 4 ∧ b8 (a8 d) % 16 ≤ 4 := by decide +kernel
theorem s8_b : ∀ d, d < 256 → s8 d ≤ 8 ∧ s8 d = (d.testBit 0).toNat + (d.testBit 1).toNat + (d.testBit 2).toNat + (d.testBit 3).toNat + (d.testBit 4).toNat + (d.testBit 5).toNat + (d.testBit 6).toNat + (d.testBit 7).toNat := by decide +kernel
theorem pA_s {k m d : Nat} (hd : d < 256) : pA (k + 1) (256 * m + d) = 256 * pA k m + a8 d := by
  have e1 : (256 * m + d) / 2 = 256 * (m / 2) + (128 * (m % 2) + d / 2) := by omega
  have e2 := and_st (a := m / 2) (b := mk8 85 k) (c := 128 * (m % 2) + d / 2) (d := 85) (by omega) (by decide)
  have e3 := kq85 (m % 2) (by omega) (d / 2) (by omega)
  have e4 : m / 2 &&& mk8 85 k ≤ m / 2 := Nat.and_le_left
  have e5 : d / 2 &&& 85 ≤ d / 2 := Nat.and_le_left
  show 256 * m + d - ((256 * m + d) / 2 &&& (256 * mk8 85 k + 85)) = 256 * (m - (m / 2 &&& mk8 85 k)) + (d - (d / 2 &&& 85))
  rw [e1, e2, e3]
  omega
theorem pB_s {k m d : Nat} (hd : d < 256) : pB (k + 1) (256 * m + d) = 256 * pB k m + b8 d := by
  have e1 : (256 * m + d) / 4 = 256 * (m / 4) + (64 * (m % 4) + d / 4) := by omega
  have e2 := and_st (a := m / 4) (b := mk8 51 k) (c := 64 * (m % 4) + d / 4) (d := 51) (by omega) (by decide)
  have e3 := kq51 (m % 4) (by omega) (d / 4) (by omega)
  have e4 := and_st (a := m) (b := mk8 51 k) (c := d) (d := 51) hd (by decide)
  show (256 * m + d &&& (256 * mk8 51 k + 51)) + ((256 * m + d) / 4 &&& (256 * mk8 51 k + 51)) = 256 * ((m &&& mk8 51 k) + (m / 4 &&& mk8 51 k)) + ((d &&& 51) + (d / 4 &&& 51))
  rw [e1, e2, e3, e4]
  omega
theorem pC_s {k m d : Nat} (hd : d < 256) (h1 : d / 16 ≤ 4) (h2 : d % 16 ≤ 4) (h3 : m % 16 ≤ 4) : pC (k + 1) (256 * m + d) = 256 * pC k m + c8 d := by
  have e1 : 256 * m + d + (256 * m + d) / 16 = 256 * (m + m / 16) + (16 * (m % 16) + (d + d / 16)) := by omega
  have e2 := and_st (a := m + m / 16) (b := mk8 15 k) (c := 16 * (m % 16) + (d + d / 16)) (d := 15) (by omega) (by decide)
  have e3 := kq15 (m % 16) (by omega) (d + d / 16) (by omega)
  show (256 * m + d + (256 * m + d) / 16) &&& (256 * mk8 15 k + 15) = 256 * ((m + m / 16) &&& mk8 15 k) + ((d + d / 16) &&& 15)
  rw [e1, e2, e3]
def sS (k n : Nat) : Nat := pC k (pB k (pA k n))
theorem pBA_b : ∀ k m : Nat, pB k (pA k m) % 16 ≤ 4
  | 0, m => by
    show ((m - (m / 2 &&& 0) &&& 0) + ((m - (m / 2 &&& 0)) / 4 &&& 0)) % 16 ≤ 4
    simp only [Nat.and_zero]
    decide
  | k + 1, m => by
    have hd : m % 256 < 256 := by omega
    have hb := b8_b (m % 256) hd
    rw [show m = 256 * (m / 256) + m % 256 by omega, pA_s hd, pB_s (a8_b _ hd)]
    omega
theorem sS_s (k n : Nat) : sS (k + 1) n = 256 * sS k (n / 256) + s8 (n % 256) := by
  have hd : n % 256 < 256 := by omega
  have hb := b8_b (n % 256) hd
  have e : sS (k + 1) (256 * (n / 256) + n % 256) = 256 * sS k (n / 256) + s8 (n % 256) := by
    unfold sS
    rw [pA_s hd, pB_s (a8_b _ hd), pC_s hb.1 hb.2.1 hb.2.2 (pBA_b k _)]
    rfl
  rwa [show 256 * (n / 256) + n % 256 = n by omega] at e
theorem sS_0 (n : Nat) : sS 0 n = 0 := Nat.and_zero _
def dv8 (n : Nat) : Nat → Nat
  | 0 => n
  | i + 1 => dv8 n i / 256
theorem dv8_t {n : Nat} : ∀ i j : Nat, (dv8 n i).testBit j = n.testBit (8 * i + j)
  | 0, j => by
    show n.testBit j = n.testBit (8 * 0 + j)
    rw [show 8 * 0 + j = j by omega]
  | i + 1, j => by
    show (dv8 n i / 2 ^ 8).testBit j = _
    rw [Nat.testBit_div_two_pow, dv8_t i, show 8 * i + (j + 8) = 8 * (i + 1) + j by omega]
theorem s8_t {n i : Nat} : ((s8 (dv8 n i % 256) : Nat) : Int) = sm (fun j => bi (n.testBit j = true)) (8 * i + 8) - sm (fun j => bi (n.testBit j = true)) (8 * i) := by
  have h := (s8_b (dv8 n i % 256) (by omega)).2
  have t : ∀ j, j < 8 → (dv8 n i % 256).testBit j = n.testBit (8 * i + j) := fun j hj => by
    show (dv8 n i % 2 ^ 8).testBit j = _
    rw [Nat.testBit_mod_two_pow, dv8_t, decide_eq_true hj, Bool.true_and]
  have bb : ∀ b : Bool, bi (b = true) = ((b.toNat : Nat) : Int) := fun b => by
    cases b
    · exact bi_n (by decide)
    · exact bi_p rfl
  rw [t 0 (by decide), t 1 (by decide), t 2 (by decide), t 3 (by decide), t 4 (by decide), t 5 (by decide), t 6 (by decide), t 7 (by decide)] at h
  have e : sm (fun j => bi (n.testBit j = true)) (8 * i + 8) = sm (fun j => bi (n.testBit j = true)) (8 * i) + bi (n.testBit (8 * i + 0) = true) + bi (n.testBit (8 * i + 1) = true) + bi (n.testBit (8 * i + 2) = true) + bi (n.testBit (8 * i + 3) = true) + bi (n.testBit (8 * i + 4) = true) + bi (n.testBit (8 * i + 5) = true) + bi (n.testBit (8 * i + 6) = true) + bi (n.testBit (8 * i + 7) = true) := rfl
  rw [e, h]
  simp only [bb]
  omega
noncomputable def pc64 (w : Int) : Int := sm (fun j => bi (bt w j = true)) 64
theorem pc_fold {p0 p1 p2 p3 p4 p5 p6 p7 : Nat} (h0 : p0 ≤ 8) (h1 : p1 ≤ 8) (h2 : p2 ≤ 8) (h3 : p3 ≤ 8) (h4 : p4 ≤ 8) (h5 : p5 ≤ 8) (h6 : p6 ≤ 8) (h7 : p7 ≤ 8) {z x y u : Nat} (hz : z = 256 * (256 * (256 * (256 * (256 * (256 * (256 * (256 * 0 + p7) + p6) + p5) + p4) + p3) + p2) + p1) + p0) (hx : x = z + z / 256) (hy : y = x + x / 65536) (hu : u = y + y / 4294967296) : u % 128 = p0 + p1 + p2 + p3 + p4 + p5 + p6 + p7 := by
  obtain ⟨A, hA⟩ : ∃ A, A = 256 * (256 * (256 * (256 * (256 * (256 * (256 * 0 + p7) + p6) + p5) + p4) + p3) + p2) + p1 := ⟨_, rfl⟩
  rw [← hA] at hz
  have e1 : z / 256 = A := by omega
  rw [e1, hz] at hx
  obtain ⟨X6, h6⟩ : ∃ X6, X6 = 256 * p7 + (p6 + p7) := ⟨_, rfl⟩
  obtain ⟨X4, h4⟩ : ∃ X4, X4 = 65536 * X6 + 256 * (p5 + p6) + (p4 + p5) := ⟨_, rfl⟩
  obtain ⟨X2, h2⟩ : ∃ X2, X2 = 65536 * X4 + 256 * (p3 + p4) + (p2 + p3) := ⟨_, rfl⟩
  have e2 : x = 65536 * X2 + 256 * (p1 + p2) + (p0 + p1) := by omega
  clear hx hA e1 hz
  have e3 : x / 65536 = X2 := by clear h2 h4 h6 hy hu; omega
  rw [e3, e2] at hy
  obtain ⟨Y4, g4⟩ : ∃ Y4, Y4 = X4 + X6 := ⟨_, rfl⟩
  obtain ⟨R, hR⟩ : ∃ R, R = 256 * (65536 * (p3 + p4 + p5 + p6) + 256 * (p2 + p3 + p4 + p5) + (p1 + p2 + p3 + p4)) + (p0 + p1 + p2 + p3) := ⟨_, rfl⟩
  have e4 : y = 4294967296 * Y4 + R := by clear e3 e2 hu; omega
  have e5 : R < 4294967296 := by clear h2 h4 h6 hy hu e2 e3 e4; omega
  have e6 : y / 4294967296 = Y4 := by clear hR h2 h4 h6 hy hu e2 e3; omega
  rw [e6, e4] at hu
  have e7 : Y4 = 256 * (256 * X6 + (p5 + p6) + p7) + (p4 + p5 + (p6 + p7)) := by clear hu hR hy e2 e3 e4 e5 e6; omega
  obtain ⟨S, hS⟩ : ∃ S, S = 65536 * (p3 + p4 + p5 + p6) + 256 * (p2 + p3 + p4 + p5) + (p1 + p2 + p3 + p4) := ⟨_, rfl⟩
  rw [← hS] at hR
  obtain ⟨T, hT⟩ : ∃ T, T = 256 * X6 + (p5 + p6) + p7 := ⟨_, rfl⟩
  rw [← hT] at e7
  rw [e7, hR] at hu
  clear hR hT hS e7 h2 h4 h6 hy e2 e3 e4 e5 e6 g4
  omega
theorem pc64_n (w : Int) (N : Nat) (h : Rw w N) {x3 x4 x5 : Nat} (h3 : x3 = sS 8 N) (h4 : x4 = x3 + x3 / 256) (h5 : x5 = x4 + x4 / 65536) : (((x5 + x5 / 4294967296) % 128 : Nat) : Int) = pc64 w := by
  have b : ∀ i, s8 (dv8 N i % 256) ≤ 8 := fun i => (s8_b _ (by omega)).1
  have e3 : x3 = 256 * (256 * (256 * (256 * (256 * (256 * (256 * (256 * 0 + s8 (dv8 N 7 % 256)) + s8 (dv8 N 6 % 256)) + s8 (dv8 N 5 % 256)) + s8 (dv8 N 4 % 256)) + s8 (dv8 N 3 % 256)) + s8 (dv8 N 2 % 256)) + s8 (dv8 N 1 % 256)) + s8 (dv8 N 0 % 256) := by
    rw [h3, sS_s, sS_s, sS_s, sS_s, sS_s, sS_s, sS_s, sS_s, sS_0]
    rfl
  have f := pc_fold (b 0) (b 1) (b 2) (b 3) (b 4) (b 5) (b 6) (b 7) e3 h4 h5 rfl
  have t := fun i => s8_t (n := N) (i := i)
  have t0 := t 0
  have t1 := t 1
  have t2 := t 2
  have t3 := t 3
  have t4 := t 4
  have t5 := t 5
  have t6 := t 6
  have t7 := t 7
  have z0 : sm (fun j => bi (N.testBit j = true)) (8 * 0) = 0 := rfl
  have e : pc64 w = sm (fun j => bi (N.testBit j = true)) 64 := sm_c 64 (fun j hj => bi_c (by
    show (BitVec.ofInt 64 w).toNat.testBit j = true ↔ _
    rw [toN64 h]))
  rw [f, e]
  simp only [Nat.reduceMul, Nat.reduceAdd] at t0 t1 t2 t3 t4 t5 t6 t7 z0
  omega
section LB
variable {W : AW} {Q : AQ}
set_option maxRecDepth 10000 in
theorem x_lbits {w : Int} : Gm 35 [vl w] W Q ↔ Q (some (vi (pc64 w))) W := by
  have fin : ∀ z, z = pc64 w → (Q (some (vi z)) W ↔ Q (some (vi (pc64 w))) W) := fun z hz => by rw [hz]
  rw [e35]
  simp (disch := omega) only [s_1, s_2, s_3, s_4, s_76, s_5, s_6, s_7, s_8, s_9, s_10, s_11, s_12, s_13, s_14, s_15, s_16, s_17, s_18, s_19, s_20, s_21, s_22, s_23, s_24, s_25, s_26, s_27, s_28, s_29, s_30, s_31, s_32, s_33, s_34, s_35, s_36, s_37, s_38, s_39, s_40l, s_40i, s_40r, s_41, s_43, t_44, t_45, t_46, t_47, s_48, s_49, s_50, s_51, s_52, s_53, s_54, s_55, s_56, s_57, s_58, s_59, s_60, s_61, s_62_0, s_62_1, s_62_2, s_66, s_67, s_68, s_69, s_70, s_71, s_72, s_73, sws_n, sws_c, lget, lset, fget, fset, nolg, nolong, avc, stw, cnd, isobj_eo, GCi, GCn, retk, List.length_cons, List.length_nil, ↓reduceIte, and_true, true_and, not_true_eq_false, not_false_eq_true, forall_const, Nat.reduceAdd, Nat.reduceLT, Nat.reduceLeDiff, Nat.lt_add_one, Nat.le_refl, Nat.zero_le, Nat.sub_zero, Int.reduceEq, Int.reduceNe, Int.reduceLT, Int.reduceLE, Int.reduceAdd, Int.reduceSub, Int.reduceMul, Int.reduceNeg, Int.reduceTDiv, Int.reduceTMod, ne_eq, reduceCtorEq, Nat.reduceEqDiff, Int.cast_ofNat_Int, true_or, or_true, false_or, or_false, lcq_0, lcq_2, lcq_3, lcq_4, lcq_5, wu_s, wu_1, wu_w, wu_lt, wu_ne, ar_s, ar_n, rr_s, rr_n, ob_n, nz_c, lt_T, lt_F, le_T, le_F, ie_T, ie_F, nt_T, nt_F, nl_T, nl_F, in_T, and_false, false_and, and_self, not_true_eq_false, Int.toNat_natCast, Int.reduceToNat, if_true, if_false, mi_35, i35_0, i35_1, i35_2, i35_3, i35_4, i35_7, i35_8, i35_9, i35_10, i35_11, i35_14, i35_15, i35_16, i35_17, i35_18, i35_21, i35_22, i35_23, i35_24, i35_25, i35_26, i35_27, i35_28, i35_29, i35_32, i35_33, i35_34, i35_35, i35_36, i35_38, i35_39, i35_40, i35_41, i35_42, i35_43, i35_45, i35_46, i35_47, i35_48, i35_49, i35_50, i35_52, i35_53, i35_54, i35_55, i35_56, i35_57, i35_59, i35_60]
  obtain ⟨N, h0⟩ : ∃ N : Nat, Rw w N := ⟨(w % 18446744073709551616).toNat, by unfold Rw; omega⟩
  have s0 := h0.sz
  have h1 := h0.su ((h0.ush (c := 1) (k := 1) (d := 2) (by decide) (by decide +kernel)).an (C := 6148914691236517205) (c := 6148914691236517205) (by decide) rfl) (Nat.le_trans Nat.and_le_left (by omega))
  generalize hN1 : N - (N / 2 &&& 6148914691236517205) = N1 at h1
  have s1 := h1.sz
  have a1 : N1 &&& 3689348814741910323 ≤ 3689348814741910323 := Nat.and_le_right
  have a2 : N1 / 4 &&& 3689348814741910323 ≤ 3689348814741910323 := Nat.and_le_right
  have h2 := (h1.an (C := 3689348814741910323) (c := 3689348814741910323) (by decide) rfl).ad ((h1.ush (c := 2) (k := 2) (d := 4) (by decide) (by decide +kernel)).an (C := 3689348814741910323) (c := 3689348814741910323) (by decide) rfl) (by omega)
  generalize hN2 : (N1 &&& 3689348814741910323) + (N1 / 4 &&& 3689348814741910323) = N2 at h2
  have s2 : N2 ≤ 7378697629483820646 := by omega
  have h3 := (h2.ad (h2.ush (c := 4) (k := 4) (d := 16) (by decide) (by decide +kernel)) (by omega)).an (C := 1085102592571150095) (c := 1085102592571150095) (by decide) rfl
  have a3 : (N2 + N2 / 16) &&& 1085102592571150095 ≤ 1085102592571150095 := Nat.and_le_right
  generalize hN3 : (N2 + N2 / 16) &&& 1085102592571150095 = N3 at h3 a3
  have h4 := h3.ad (h3.ush (c := 8) (k := 8) (d := 256) (by decide) (by decide +kernel)) (by omega)
  have h5 := h4.ad (h4.ush (c := 16) (k := 16) (d := 65536) (by decide) (by decide +kernel)) (by omega)
  have h6 := h5.ad (h5.ush (c := 32) (k := 32) (d := 4294967296) (by decide) (by decide +kernel)) (by omega)
  have e3 : N3 = sS 8 N := by
    unfold sS pC pB pA
    rw [← hN3, ← hN2, ← hN1, mk85, mk51, mk15]
  exact fin _ (h6.fnq.trans (pc64_n w N h0 e3 rfl rfl))
end LB
