theorem dv32 {a b : Int} (ha : in32 a) (hb : in32 b) : Int32.ofInt (a.tdiv b) = Int32.ofInt a / Int32.ofInt b := Int32.ofInt_tdiv ha.1 (by have := ha.2; show a ≤ 2147483647; omega) hb.1 (by have := hb.2; show b ≤ 2147483647; omega)
theorem dv64 {a b : Int} (ha : in64 a) (hb : in64 b) : Int64.ofInt (a.tdiv b) = Int64.ofInt a / Int64.ofInt b := Int64.ofInt_tdiv ha.1 (by have := ha.2; show a ≤ 9223372036854775807; omega) hb.1 (by have := hb.2; show b ≤ 9223372036854775807; omega)
theorem tm_def (a b : Int) : a - a.tdiv b * b = a.tmod b := by
  have := Int.tdiv_mul_add_tmod a b
  omega
theorem rm32 {a b : Int} (ha : in32 a) (hb : in32 b) : Int32.ofInt (a.tmod b) = Int32.ofInt a - Int32.ofInt a / Int32.ofInt b * Int32.ofInt b := by
  rw [← dv32 ha hb, ← Int32.ofInt_mul, ← Int32.ofInt_sub, tm_def]
theorem rm64 {a b : Int} (ha : in64 a) (hb : in64 b) : Int64.ofInt (a.tmod b) = Int64.ofInt a - Int64.ofInt a / Int64.ofInt b * Int64.ofInt b := by
  rw [← dv64 ha hb, ← Int64.ofInt_mul, ← Int64.ofInt_sub, tm_def]
theorem tm_in {a b : Int} {N : Int} (h1 : -N ≤ a) (h2 : a < N) : -N ≤ a.tmod b ∧ a.tmod b < N := by
  have e : (a.tmod b).natAbs ≤ a.natAbs := by
    rw [Int.natAbs_tmod]
    exact Nat.mod_le _ _
  by_cases h : 0 ≤ a
  · have h3 := Int.tmod_nonneg b h
    omega
  · have h3 : a.tmod b ≤ 0 := by
      have h4 := Int.tmod_nonneg b (a := -a) (by omega)
      rw [Int.neg_tmod] at h4
      omega
    omega
theorem tm32 {a b : Int} (h : in32 a) : in32 (a.tmod b) := tm_in (N := 2147483648) h.1 h.2
theorem tm64 {a b : Int} (h : in64 a) : in64 (a.tmod b) := tm_in (N := 9223372036854775808) h.1 h.2
theorem ne32 {b : Int} (hb : in32 b) (h : b ≠ 0) : ¬ Int32.ofInt b = 0 := fun e => h ((i32_eq hb i32_z).mp e)
theorem ne64 {b : Int} (hb : in64 b) (h : b ≠ 0) : ¬ Int64.ofInt b = 0 := fun e => h ((i64_eq hb (by unfold in64; omega)).mp e)
theorem in3264 {a : Int} (h : in32 a) : in64 a := by unfold in32 at h; unfold in64; omega
theorem i2l_o {a : Int} (h : in32 a) : (Int32.ofInt a).toInt64 = Int64.ofInt a := Int32.toInt64_ofInt h.1 (by have := h.2; show a ≤ 2147483647; omega)
theorem bp_o {n : Int} (h1 : -128 ≤ n) (h2 : n < 128) : (Int8.ofInt n).toInt32 = Int32.ofInt n := by
  apply Int32.toInt_inj.mp
  rw [Int8.toInt_toInt32, Int8.toInt_ofInt_of_le h1 h2, i32_t (by unfold in32; omega)]
theorem sp_o {n : Int} (h1 : -32768 ≤ n) (h2 : n < 32768) : (Int16.ofInt n).toInt32 = Int32.ofInt n := by
  apply Int32.toInt_inj.mp
  rw [Int16.toInt_toInt32, Int16.toInt_ofInt_of_le h1 h2, i32_t (by unfold in32; omega)]
theorem bm_b (a : Int) : a.bmod 256 = (a + 128) % 256 - 128 := by
  simp only [Int.bmod]
  omega
theorem i2b_o {a : Int} (h : in32 a) : (Int32.ofInt a).toInt8.toInt32 = Int32.ofInt ((a + 128) % 256 - 128) := by
  apply Int32.toInt_inj.mp
  rw [Int8.toInt_toInt32, Int32.toInt_toInt8, i32_t h, i32_t (by unfold in32; omega)]
  exact bm_b a
theorem i2c_o {a : Int} (h : in32 a) : ((Int32.ofInt a).toUInt32 % 65536).toInt32 = Int32.ofInt (a % 65536) := by
  rw [pk_char]
  show nI _ = _
  have e : (Int32.ofInt a).toBitVec.toNat % 65536 = (a % 65536).toNat := by
    show (BitVec.ofInt 32 a).toNat % 65536 = _
    rw [BitVec.toNat_ofInt]
    omega
  rw [e]
  show Int32.ofNat (a % 65536).toNat = _
  rw [← Int32.ofInt_eq_ofNat, Int.toNat_of_nonneg (by omega)]
theorem lc_o {a b : Int} (ha : in64 a) (hb : in64 b) : lg_cmp (Int64.ofInt a) (Int64.ofInt b) = Int32.ofInt (lcq a b) := by
  unfold lg_cmp lcq
  have e1 : (Int64.ofInt a > Int64.ofInt b) ↔ b < a := i64_lt hb ha
  have e2 := i64_eq ha hb
  by_cases h : b < a
  · rw [if_pos (e1.mpr h), if_pos h]; rfl
  · rw [if_neg (fun q => h (e1.mp q)), if_neg h]
    by_cases h2 : a = b
    · rw [if_pos (e2.mpr h2), if_pos h2]; rfl
    · rw [if_neg (fun q => h2 (e2.mp q)), if_neg h2]; rfl
theorem lc_i (a b : Int) : in32 (lcq a b) := by
  unfold lcq in32
  split
  · omega
  · split <;> omega
section OPS
variable {l : Launch} {F : Nat → AE} {D : va_G} {cy cr : Nat → ClassId} {ad0 : Nat → Nat} {p : Program} {e : Env} {R : Room} {s : State} {m : MethodId} {args : Array Value} {below : List Frame} {meth : Method} {c : Code} {A : Nat → Prop} {mt mst : Nat} {y : Nat}
variable {pc : Nat} {L : AL} {st : List AV} {w : AW} {bc bs : Nat} {Q : AQ}
theorem r_iconst (hF : Fx F D cy cr ad0 p R s m args meth c A mt mst y) {n : Int} (hd : decode (byt y) pc = .ok (.iconst n, 1)) (hn : in32 n) (h : Run l F D cy cr ad0 p e R s m args below meth c A mt mst y (pc + 1) L (vi n :: st) w bc bs Q) : Run l F D cy cr ad0 p e R s m args below meth c A mt mst y pc L st w bc bs Q := by
  intro H locs cells slots ad ls Qc d1 d2 d3 d4 d5 d6 d7 d8 d9 d10 d11 fin
  refine lv_iconst hF.1 hF.2.1 hd rfl ?_
  exact h H locs cells slots ad ls Qc d1 d2 d3 d4 d5 (ok_c hn d6) d7 d8 d9 d10 d11 fin
theorem r_bipush (hF : Fx F D cy cr ad0 p R s m args meth c A mt mst y) {n : Int} (hd : decode (byt y) pc = .ok (.bipush n, 2)) (h1 : -128 ≤ n) (h2 : n < 128) (h : Run l F D cy cr ad0 p e R s m args below meth c A mt mst y (pc + 2) L (vi n :: st) w bc bs Q) : Run l F D cy cr ad0 p e R s m args below meth c A mt mst y pc L st w bc bs Q := by
  intro H locs cells slots ad ls Qc d1 d2 d3 d4 d5 d6 d7 d8 d9 d10 d11 fin
  refine lv_bipush hF.1 hF.2.1 hd (bp_o h1 h2) ?_
  exact h H locs cells slots ad ls Qc d1 d2 d3 d4 d5 (ok_c (show in32 n by unfold in32; omega) d6) d7 d8 d9 d10 d11 fin
theorem r_sipush (hF : Fx F D cy cr ad0 p R s m args meth c A mt mst y) {n : Int} (hd : decode (byt y) pc = .ok (.sipush n, 3)) (h1 : -32768 ≤ n) (h2 : n < 32768) (h : Run l F D cy cr ad0 p e R s m args below meth c A mt mst y (pc + 3) L (vi n :: st) w bc bs Q) : Run l F D cy cr ad0 p e R s m args below meth c A mt mst y pc L st w bc bs Q := by
  intro H locs cells slots ad ls Qc d1 d2 d3 d4 d5 d6 d7 d8 d9 d10 d11 fin
  refine lv_sipush hF.1 hF.2.1 hd (sp_o h1 h2) ?_
  exact h H locs cells slots ad ls Qc d1 d2 d3 d4 d5 (ok_c (show in32 n by unfold in32; omega) d6) d7 d8 d9 d10 d11 fin
theorem r_lconst (hF : Fx F D cy cr ad0 p R s m args meth c A mt mst y) {n : Fin 2} (hd : decode (byt y) pc = .ok (.lconst n, 1)) (h : Run l F D cy cr ad0 p e R s m args below meth c A mt mst y (pc + 1) L (vl ((n : Nat) : Int) :: st) w bc bs Q) : Run l F D cy cr ad0 p e R s m args below meth c A mt mst y pc L st w bc bs Q := by
  intro H locs cells slots ad ls Qc d1 d2 d3 d4 d5 d6 d7 d8 d9 d10 d11 fin
  refine lv_lconst hF.1 hF.2.1 hd rfl ?_
  rw [← Int64.ofInt_eq_ofNat]
  exact h H locs cells slots ad ls Qc d1 d2 d3 d4 d5 (ok_c (show in64 ((n : Nat) : Int) by have := n.isLt; unfold in64; omega) d6) d7 d8 d9 d10 d11 fin
theorem r_null (hF : Fx F D cy cr ad0 p R s m args meth c A mt mst y)  (hd : decode (byt y) pc = .ok (.aconst_null, 1)) (h : Run l F D cy cr ad0 p e R s m args below meth c A mt mst y (pc + 1) L (vn :: st) w bc bs Q) : Run l F D cy cr ad0 p e R s m args below meth c A mt mst y pc L st w bc bs Q := by
  intro H locs cells slots ad ls Qc d1 d2 d3 d4 d5 d6 d7 d8 d9 d10 d11 fin
  refine lv_null hF.1 hF.2.1 hd ?_
  exact h H locs cells slots ad ls Qc d1 d2 d3 d4 d5 (ok_c trivial d6) d7 d8 d9 d10 d11 fin
theorem r_iadd (hF : Fx F D cy cr ad0 p R s m args meth c A mt mst y) {a b : Int} (hd : decode (byt y) pc = .ok (.iadd, 1)) (hr : in32 (a + b)) (h : Run l F D cy cr ad0 p e R s m args below meth c A mt mst y (pc + 1) L (vi (a + b) :: st) w bc bs Q) : Run l F D cy cr ad0 p e R s m args below meth c A mt mst y pc L (vi b :: vi a :: st) w bc bs Q := by
  intro H locs cells slots ad ls Qc d1 d2 d3 d4 d5 d6 d7 d8 d9 d10 d11 fin
  have hb := ok_h d6; have ha := ok_h (ok_t d6); refine lv_iadd hF.1 hF.2.1 hd ?_
  rw [← Int32.ofInt_add]
  exact h H locs cells slots ad ls Qc d1 d2 d3 d4 d5 (ok_c hr (ok_t (ok_t d6))) d7 d8 d9 d10 d11 fin
theorem r_isub (hF : Fx F D cy cr ad0 p R s m args meth c A mt mst y) {a b : Int} (hd : decode (byt y) pc = .ok (.isub, 1)) (hr : in32 (a - b)) (h : Run l F D cy cr ad0 p e R s m args below meth c A mt mst y (pc + 1) L (vi (a - b) :: st) w bc bs Q) : Run l F D cy cr ad0 p e R s m args below meth c A mt mst y pc L (vi b :: vi a :: st) w bc bs Q := by
  intro H locs cells slots ad ls Qc d1 d2 d3 d4 d5 d6 d7 d8 d9 d10 d11 fin
  have hb := ok_h d6; have ha := ok_h (ok_t d6); refine lv_isub hF.1 hF.2.1 hd ?_
  rw [← Int32.ofInt_sub]
  exact h H locs cells slots ad ls Qc d1 d2 d3 d4 d5 (ok_c hr (ok_t (ok_t d6))) d7 d8 d9 d10 d11 fin
theorem r_imul (hF : Fx F D cy cr ad0 p R s m args meth c A mt mst y) {a b : Int} (hd : decode (byt y) pc = .ok (.imul, 1)) (hr : in32 (a * b)) (h : Run l F D cy cr ad0 p e R s m args below meth c A mt mst y (pc + 1) L (vi (a * b) :: st) w bc bs Q) : Run l F D cy cr ad0 p e R s m args below meth c A mt mst y pc L (vi b :: vi a :: st) w bc bs Q := by
  intro H locs cells slots ad ls Qc d1 d2 d3 d4 d5 d6 d7 d8 d9 d10 d11 fin
  have hb := ok_h d6; have ha := ok_h (ok_t d6); refine lv_imul hF.1 hF.2.1 hd ?_
  rw [← Int32.ofInt_mul]
  exact h H locs cells slots ad ls Qc d1 d2 d3 d4 d5 (ok_c hr (ok_t (ok_t d6))) d7 d8 d9 d10 d11 fin
theorem r_idiv (hF : Fx F D cy cr ad0 p R s m args meth c A mt mst y) {a b : Int} (hd : decode (byt y) pc = .ok (.idiv, 1)) (hne : b ≠ 0) (hr : in32 (Int.tdiv a b)) (h : Run l F D cy cr ad0 p e R s m args below meth c A mt mst y (pc + 1) L (vi (Int.tdiv a b) :: st) w bc bs Q) : Run l F D cy cr ad0 p e R s m args below meth c A mt mst y pc L (vi b :: vi a :: st) w bc bs Q := by
  intro H locs cells slots ad ls Qc d1 d2 d3 d4 d5 d6 d7 d8 d9 d10 d11 fin
  have hb := ok_h d6; have ha := ok_h (ok_t d6); refine lv_idiv hF.1 hF.2.1 hd (ne32 hb hne) ?_
  rw [← dv32 ha hb]
  exact h H locs cells slots ad ls Qc d1 d2 d3 d4 d5 (ok_c hr (ok_t (ok_t d6))) d7 d8 d9 d10 d11 fin
theorem r_irem (hF : Fx F D cy cr ad0 p R s m args meth c A mt mst y) {a b : Int} (hd : decode (byt y) pc = .ok (.irem, 1)) (hne : b ≠ 0) (h : Run l F D cy cr ad0 p e R s m args below meth c A mt mst y (pc + 1) L (vi (Int.tmod a b) :: st) w bc bs Q) : Run l F D cy cr ad0 p e R s m args below meth c A mt mst y pc L (vi b :: vi a :: st) w bc bs Q := by
  intro H locs cells slots ad ls Qc d1 d2 d3 d4 d5 d6 d7 d8 d9 d10 d11 fin
  have hb := ok_h d6; have ha := ok_h (ok_t d6); refine lv_irem hF.1 hF.2.1 hd (ne32 hb hne) ?_
  rw [← rm32 ha hb]
  exact h H locs cells slots ad ls Qc d1 d2 d3 d4 d5 (ok_c (tm32 ha) (ok_t (ok_t d6))) d7 d8 d9 d10 d11 fin
theorem r_iand (hF : Fx F D cy cr ad0 p R s m args meth c A mt mst y) {a b : Int} (hd : decode (byt y) pc = .ok (.iand, 1)) (h : Run l F D cy cr ad0 p e R s m args below meth c A mt mst y (pc + 1) L (vi (Int32.ofInt a &&& Int32.ofInt b).toInt :: st) w bc bs Q) : Run l F D cy cr ad0 p e R s m args below meth c A mt mst y pc L (vi b :: vi a :: st) w bc bs Q := by
  intro H locs cells slots ad ls Qc d1 d2 d3 d4 d5 d6 d7 d8 d9 d10 d11 fin
  have hb := ok_h d6; have ha := ok_h (ok_t d6); refine lv_iand hF.1 hF.2.1 hd ?_
  rw [← i32_o (Int32.ofInt a &&& Int32.ofInt b)]
  exact h H locs cells slots ad ls Qc d1 d2 d3 d4 d5 (ok_c (i32_i _) (ok_t (ok_t d6))) d7 d8 d9 d10 d11 fin
theorem r_ior (hF : Fx F D cy cr ad0 p R s m args meth c A mt mst y) {a b : Int} (hd : decode (byt y) pc = .ok (.ior, 1)) (h : Run l F D cy cr ad0 p e R s m args below meth c A mt mst y (pc + 1) L (vi (Int32.ofInt a ||| Int32.ofInt b).toInt :: st) w bc bs Q) : Run l F D cy cr ad0 p e R s m args below meth c A mt mst y pc L (vi b :: vi a :: st) w bc bs Q := by
  intro H locs cells slots ad ls Qc d1 d2 d3 d4 d5 d6 d7 d8 d9 d10 d11 fin
  have hb := ok_h d6; have ha := ok_h (ok_t d6); refine lv_ior hF.1 hF.2.1 hd ?_
  rw [← i32_o (Int32.ofInt a ||| Int32.ofInt b)]
  exact h H locs cells slots ad ls Qc d1 d2 d3 d4 d5 (ok_c (i32_i _) (ok_t (ok_t d6))) d7 d8 d9 d10 d11 fin
theorem r_ixor (hF : Fx F D cy cr ad0 p R s m args meth c A mt mst y) {a b : Int} (hd : decode (byt y) pc = .ok (.ixor, 1)) (h : Run l F D cy cr ad0 p e R s m args below meth c A mt mst y (pc + 1) L (vi (Int32.ofInt a ^^^ Int32.ofInt b).toInt :: st) w bc bs Q) : Run l F D cy cr ad0 p e R s m args below meth c A mt mst y pc L (vi b :: vi a :: st) w bc bs Q := by
  intro H locs cells slots ad ls Qc d1 d2 d3 d4 d5 d6 d7 d8 d9 d10 d11 fin
  have hb := ok_h d6; have ha := ok_h (ok_t d6); refine lv_ixor hF.1 hF.2.1 hd ?_
  rw [← i32_o (Int32.ofInt a ^^^ Int32.ofInt b)]
  exact h H locs cells slots ad ls Qc d1 d2 d3 d4 d5 (ok_c (i32_i _) (ok_t (ok_t d6))) d7 d8 d9 d10 d11 fin
theorem r_ishl (hF : Fx F D cy cr ad0 p R s m args meth c A mt mst y) {a b : Int} (hd : decode (byt y) pc = .ok (.ishl, 1)) (h : Run l F D cy cr ad0 p e R s m args below meth c A mt mst y (pc + 1) L (vi (Int32.ofInt a <<< (Int32.ofInt b &&& 31)).toInt :: st) w bc bs Q) : Run l F D cy cr ad0 p e R s m args below meth c A mt mst y pc L (vi b :: vi a :: st) w bc bs Q := by
  intro H locs cells slots ad ls Qc d1 d2 d3 d4 d5 d6 d7 d8 d9 d10 d11 fin
  have hb := ok_h d6; have ha := ok_h (ok_t d6); refine lv_ishl hF.1 hF.2.1 hd ?_
  rw [← i32_o (Int32.ofInt a <<< (Int32.ofInt b &&& 31))]
  exact h H locs cells slots ad ls Qc d1 d2 d3 d4 d5 (ok_c (i32_i _) (ok_t (ok_t d6))) d7 d8 d9 d10 d11 fin
theorem r_ishr (hF : Fx F D cy cr ad0 p R s m args meth c A mt mst y) {a b : Int} (hd : decode (byt y) pc = .ok (.ishr, 1)) (h : Run l F D cy cr ad0 p e R s m args below meth c A mt mst y (pc + 1) L (vi (Int32.ofInt a >>> (Int32.ofInt b &&& 31)).toInt :: st) w bc bs Q) : Run l F D cy cr ad0 p e R s m args below meth c A mt mst y pc L (vi b :: vi a :: st) w bc bs Q := by
  intro H locs cells slots ad ls Qc d1 d2 d3 d4 d5 d6 d7 d8 d9 d10 d11 fin
  have hb := ok_h d6; have ha := ok_h (ok_t d6); refine lv_ishr hF.1 hF.2.1 hd ?_
  rw [← i32_o (Int32.ofInt a >>> (Int32.ofInt b &&& 31))]
  exact h H locs cells slots ad ls Qc d1 d2 d3 d4 d5 (ok_c (i32_i _) (ok_t (ok_t d6))) d7 d8 d9 d10 d11 fin
theorem r_iushr (hF : Fx F D cy cr ad0 p R s m args meth c A mt mst y) {a b : Int} (hd : decode (byt y) pc = .ok (.iushr, 1)) (h : Run l F D cy cr ad0 p e R s m args below meth c A mt mst y (pc + 1) L (vi ((Int32.ofInt a).toUInt32 >>> ((Int32.ofInt b).toUInt32 &&& Int32.toUInt32 31)).toInt32.toInt :: st) w bc bs Q) : Run l F D cy cr ad0 p e R s m args below meth c A mt mst y pc L (vi b :: vi a :: st) w bc bs Q := by
  intro H locs cells slots ad ls Qc d1 d2 d3 d4 d5 d6 d7 d8 d9 d10 d11 fin
  refine lv_iushr hF.1 hF.2.1 hd (i32_o ((Int32.ofInt a).toUInt32 >>> ((Int32.ofInt b).toUInt32 &&& Int32.toUInt32 31)).toInt32).symm ?_
  exact h H locs cells slots ad ls Qc d1 d2 d3 d4 d5 (ok_c (i32_i _) (ok_t (ok_t d6))) d7 d8 d9 d10 d11 fin
theorem r_ineg (hF : Fx F D cy cr ad0 p R s m args meth c A mt mst y) {a : Int} (hd : decode (byt y) pc = .ok (.ineg, 1)) (hr : in32 (-a)) (h : Run l F D cy cr ad0 p e R s m args below meth c A mt mst y (pc + 1) L (vi (-a) :: st) w bc bs Q) : Run l F D cy cr ad0 p e R s m args below meth c A mt mst y pc L (vi a :: st) w bc bs Q := by
  intro H locs cells slots ad ls Qc d1 d2 d3 d4 d5 d6 d7 d8 d9 d10 d11 fin
  refine lv_ineg hF.1 hF.2.1 hd ?_
  rw [← Int32.ofInt_neg]
  exact h H locs cells slots ad ls Qc d1 d2 d3 d4 d5 (ok_c hr (ok_t d6)) d7 d8 d9 d10 d11 fin
theorem r_ladd (hF : Fx F D cy cr ad0 p R s m args meth c A mt mst y) {a b : Int} (hd : decode (byt y) pc = .ok (.ladd, 1)) (h : Run l F D cy cr ad0 p e R s m args below meth c A mt mst y (pc + 1) L (vl (w64 (a + b)) :: st) w bc bs Q) : Run l F D cy cr ad0 p e R s m args below meth c A mt mst y pc L (vl b :: vl a :: st) w bc bs Q := by
  intro H locs cells slots ad ls Qc d1 d2 d3 d4 d5 d6 d7 d8 d9 d10 d11 fin
  have hb := ok_h d6; have ha := ok_h (ok_t d6); refine lv_ladd hF.1 hF.2.1 hd ?_
  rw [← Int64.ofInt_add, ← w64_o (a + b)]
  exact h H locs cells slots ad ls Qc d1 d2 d3 d4 d5 (ok_c (w64_i _) (ok_t (ok_t d6))) d7 d8 d9 d10 d11 fin
theorem r_lsub (hF : Fx F D cy cr ad0 p R s m args meth c A mt mst y) {a b : Int} (hd : decode (byt y) pc = .ok (.lsub, 1)) (h : Run l F D cy cr ad0 p e R s m args below meth c A mt mst y (pc + 1) L (vl (w64 (a - b)) :: st) w bc bs Q) : Run l F D cy cr ad0 p e R s m args below meth c A mt mst y pc L (vl b :: vl a :: st) w bc bs Q := by
  intro H locs cells slots ad ls Qc d1 d2 d3 d4 d5 d6 d7 d8 d9 d10 d11 fin
  have hb := ok_h d6; have ha := ok_h (ok_t d6); refine lv_lsub hF.1 hF.2.1 hd ?_
  rw [← Int64.ofInt_sub, ← w64_o (a - b)]
  exact h H locs cells slots ad ls Qc d1 d2 d3 d4 d5 (ok_c (w64_i _) (ok_t (ok_t d6))) d7 d8 d9 d10 d11 fin
theorem r_lmul (hF : Fx F D cy cr ad0 p R s m args meth c A mt mst y) {a b : Int} (hd : decode (byt y) pc = .ok (.lmul, 1)) (h : Run l F D cy cr ad0 p e R s m args below meth c A mt mst y (pc + 1) L (vl (w64 (a * b)) :: st) w bc bs Q) : Run l F D cy cr ad0 p e R s m args below meth c A mt mst y pc L (vl b :: vl a :: st) w bc bs Q := by
  intro H locs cells slots ad ls Qc d1 d2 d3 d4 d5 d6 d7 d8 d9 d10 d11 fin
  have hb := ok_h d6; have ha := ok_h (ok_t d6); refine lv_lmul hF.1 hF.2.1 hd ?_
  rw [← Int64.ofInt_mul, ← w64_o (a * b)]
  exact h H locs cells slots ad ls Qc d1 d2 d3 d4 d5 (ok_c (w64_i _) (ok_t (ok_t d6))) d7 d8 d9 d10 d11 fin
theorem r_ldiv (hF : Fx F D cy cr ad0 p R s m args meth c A mt mst y) {a b : Int} (hd : decode (byt y) pc = .ok (.ldiv, 1)) (hne : b ≠ 0) (h : Run l F D cy cr ad0 p e R s m args below meth c A mt mst y (pc + 1) L (vl (w64 (Int.tdiv a b)) :: st) w bc bs Q) : Run l F D cy cr ad0 p e R s m args below meth c A mt mst y pc L (vl b :: vl a :: st) w bc bs Q := by
  intro H locs cells slots ad ls Qc d1 d2 d3 d4 d5 d6 d7 d8 d9 d10 d11 fin
  have hb := ok_h d6; have ha := ok_h (ok_t d6); refine lv_ldiv hF.1 hF.2.1 hd (ne64 hb hne) ?_
  rw [← dv64 ha hb, ← w64_o (Int.tdiv a b)]
  exact h H locs cells slots ad ls Qc d1 d2 d3 d4 d5 (ok_c (w64_i _) (ok_t (ok_t d6))) d7 d8 d9 d10 d11 fin
theorem r_lrem (hF : Fx F D cy cr ad0 p R s m args meth c A mt mst y) {a b : Int} (hd : decode (byt y) pc = .ok (.lrem, 1)) (hne : b ≠ 0) (h : Run l F D cy cr ad0 p e R s m args below meth c A mt mst y (pc + 1) L (vl (Int.tmod a b) :: st) w bc bs Q) : Run l F D cy cr ad0 p e R s m args below meth c A mt mst y pc L (vl b :: vl a :: st) w bc bs Q := by
  intro H locs cells slots ad ls Qc d1 d2 d3 d4 d5 d6 d7 d8 d9 d10 d11 fin
  have hb := ok_h d6; have ha := ok_h (ok_t d6); refine lv_lrem hF.1 hF.2.1 hd (ne64 hb hne) ?_
  rw [← rm64 ha hb]
  exact h H locs cells slots ad ls Qc d1 d2 d3 d4 d5 (ok_c (tm64 ha) (ok_t (ok_t d6))) d7 d8 d9 d10 d11 fin
theorem r_land (hF : Fx F D cy cr ad0 p R s m args meth c A mt mst y) {a b : Int} (hd : decode (byt y) pc = .ok (.land, 1)) (h : Run l F D cy cr ad0 p e R s m args below meth c A mt mst y (pc + 1) L (vl (Int64.ofInt a &&& Int64.ofInt b).toInt :: st) w bc bs Q) : Run l F D cy cr ad0 p e R s m args below meth c A mt mst y pc L (vl b :: vl a :: st) w bc bs Q := by
  intro H locs cells slots ad ls Qc d1 d2 d3 d4 d5 d6 d7 d8 d9 d10 d11 fin
  have hb := ok_h d6; have ha := ok_h (ok_t d6); refine lv_land hF.1 hF.2.1 hd ?_
  rw [← i64_o (Int64.ofInt a &&& Int64.ofInt b)]
  exact h H locs cells slots ad ls Qc d1 d2 d3 d4 d5 (ok_c (i64_i _) (ok_t (ok_t d6))) d7 d8 d9 d10 d11 fin
theorem r_lor (hF : Fx F D cy cr ad0 p R s m args meth c A mt mst y) {a b : Int} (hd : decode (byt y) pc = .ok (.lor, 1)) (h : Run l F D cy cr ad0 p e R s m args below meth c A mt mst y (pc + 1) L (vl (Int64.ofInt a ||| Int64.ofInt b).toInt :: st) w bc bs Q) : Run l F D cy cr ad0 p e R s m args below meth c A mt mst y pc L (vl b :: vl a :: st) w bc bs Q := by
  intro H locs cells slots ad ls Qc d1 d2 d3 d4 d5 d6 d7 d8 d9 d10 d11 fin
  have hb := ok_h d6; have ha := ok_h (ok_t d6); refine lv_lor hF.1 hF.2.1 hd ?_
  rw [← i64_o (Int64.ofInt a ||| Int64.ofInt b)]
  exact h H locs cells slots ad ls Qc d1 d2 d3 d4 d5 (ok_c (i64_i _) (ok_t (ok_t d6))) d7 d8 d9 d10 d11 fin
theorem r_lushr (hF : Fx F D cy cr ad0 p R s m args meth c A mt mst y) {a b : Int} (hd : decode (byt y) pc = .ok (.lushr, 1)) (h : Run l F D cy cr ad0 p e R s m args below meth c A mt mst y (pc + 1) L (vl ((Int64.ofInt a).toUInt64 >>> ((Int32.ofInt b).toInt64.toUInt64 &&& Int64.toUInt64 63)).toInt64.toInt :: st) w bc bs Q) : Run l F D cy cr ad0 p e R s m args below meth c A mt mst y pc L (vi b :: vl a :: st) w bc bs Q := by
  intro H locs cells slots ad ls Qc d1 d2 d3 d4 d5 d6 d7 d8 d9 d10 d11 fin
  refine lv_lushr hF.1 hF.2.1 hd (i64_o ((Int64.ofInt a).toUInt64 >>> ((Int32.ofInt b).toInt64.toUInt64 &&& Int64.toUInt64 63)).toInt64).symm ?_
  exact h H locs cells slots ad ls Qc d1 d2 d3 d4 d5 (ok_c (i64_i _) (ok_t (ok_t d6))) d7 d8 d9 d10 d11 fin
theorem r_lshl (hF : Fx F D cy cr ad0 p R s m args meth c A mt mst y) {a b : Int} (hd : decode (byt y) pc = .ok (.lshl, 1)) (h : Run l F D cy cr ad0 p e R s m args below meth c A mt mst y (pc + 1) L (vl (Int64.ofInt a <<< ((Int32.ofInt b).toInt64 &&& 63)).toInt :: st) w bc bs Q) : Run l F D cy cr ad0 p e R s m args below meth c A mt mst y pc L (vi b :: vl a :: st) w bc bs Q := by
  intro H locs cells slots ad ls Qc d1 d2 d3 d4 d5 d6 d7 d8 d9 d10 d11 fin
  refine lv_lshl hF.1 hF.2.1 hd (i64_o (Int64.ofInt a <<< ((Int32.ofInt b).toInt64 &&& 63))).symm ?_
  exact h H locs cells slots ad ls Qc d1 d2 d3 d4 d5 (ok_c (i64_i _) (ok_t (ok_t d6))) d7 d8 d9 d10 d11 fin
theorem r_lshr (hF : Fx F D cy cr ad0 p R s m args meth c A mt mst y) {a b : Int} (hd : decode (byt y) pc = .ok (.lshr, 1)) (h : Run l F D cy cr ad0 p e R s m args below meth c A mt mst y (pc + 1) L (vl (Int64.ofInt a >>> ((Int32.ofInt b).toInt64 &&& 63)).toInt :: st) w bc bs Q) : Run l F D cy cr ad0 p e R s m args below meth c A mt mst y pc L (vi b :: vl a :: st) w bc bs Q := by
  intro H locs cells slots ad ls Qc d1 d2 d3 d4 d5 d6 d7 d8 d9 d10 d11 fin
  refine lv_lshr hF.1 hF.2.1 hd (i64_o (Int64.ofInt a >>> ((Int32.ofInt b).toInt64 &&& 63))).symm ?_
  exact h H locs cells slots ad ls Qc d1 d2 d3 d4 d5 (ok_c (i64_i _) (ok_t (ok_t d6))) d7 d8 d9 d10 d11 fin
theorem r_lcmp (hF : Fx F D cy cr ad0 p R s m args meth c A mt mst y) {a b : Int} (hd : decode (byt y) pc = .ok (.lcmp, 1)) (h : Run l F D cy cr ad0 p e R s m args below meth c A mt mst y (pc + 1) L (vi (lcq a b) :: st) w bc bs Q) : Run l F D cy cr ad0 p e R s m args below meth c A mt mst y pc L (vl b :: vl a :: st) w bc bs Q := by
  intro H locs cells slots ad ls Qc d1 d2 d3 d4 d5 d6 d7 d8 d9 d10 d11 fin
  have hb := ok_h d6; have ha := ok_h (ok_t d6); refine W.lcmp hF.1 hF.2.1 hd ?_
  rw [lc_o ha hb]
  exact h H locs cells slots ad ls Qc d1 d2 d3 d4 d5 (ok_c (lc_i a b) (ok_t (ok_t d6))) d7 d8 d9 d10 d11 fin
theorem r_i2l (hF : Fx F D cy cr ad0 p R s m args meth c A mt mst y) {a : Int} (hd : decode (byt y) pc = .ok (.i2l, 1)) (h : Run l F D cy cr ad0 p e R s m args below meth c A mt mst y (pc + 1) L (vl a :: st) w bc bs Q) : Run l F D cy cr ad0 p e R s m args below meth c A mt mst y pc L (vi a :: st) w bc bs Q := by
  intro H locs cells slots ad ls Qc d1 d2 d3 d4 d5 d6 d7 d8 d9 d10 d11 fin
  refine lv_i2l hF.1 hF.2.1 hd (i2l_o (ok_h d6)) ?_
  exact h H locs cells slots ad ls Qc d1 d2 d3 d4 d5 (ok_c (in3264 (ok_h d6)) (ok_t d6)) d7 d8 d9 d10 d11 fin
theorem r_l2i (hF : Fx F D cy cr ad0 p R s m args meth c A mt mst y) {a : Int} (hd : decode (byt y) pc = .ok (.l2i, 1)) (h : Run l F D cy cr ad0 p e R s m args below meth c A mt mst y (pc + 1) L (vi (w32 a) :: st) w bc bs Q) : Run l F D cy cr ad0 p e R s m args below meth c A mt mst y pc L (vl a :: st) w bc bs Q := by
  intro H locs cells slots ad ls Qc d1 d2 d3 d4 d5 d6 d7 d8 d9 d10 d11 fin
  refine lv_l2i hF.1 hF.2.1 hd (v := Int32.ofInt (w32 a)) (by rw [Int64.toInt32_ofInt, w32_o]) ?_
  exact h H locs cells slots ad ls Qc d1 d2 d3 d4 d5 (ok_c (w32_i a) (ok_t d6)) d7 d8 d9 d10 d11 fin
theorem r_i2b (hF : Fx F D cy cr ad0 p R s m args meth c A mt mst y) {a : Int} (hd : decode (byt y) pc = .ok (.i2b, 1)) (h : Run l F D cy cr ad0 p e R s m args below meth c A mt mst y (pc + 1) L (vi ((a + 128) % 256 - 128) :: st) w bc bs Q) : Run l F D cy cr ad0 p e R s m args below meth c A mt mst y pc L (vi a :: st) w bc bs Q := by
  intro H locs cells slots ad ls Qc d1 d2 d3 d4 d5 d6 d7 d8 d9 d10 d11 fin
  refine lv_i2b hF.1 hF.2.1 hd (i2b_o (ok_h d6)) ?_
  exact h H locs cells slots ad ls Qc d1 d2 d3 d4 d5 (ok_c (show in32 _ by unfold in32; omega) (ok_t d6)) d7 d8 d9 d10 d11 fin
theorem r_i2c (hF : Fx F D cy cr ad0 p R s m args meth c A mt mst y) {a : Int} (hd : decode (byt y) pc = .ok (.i2c, 1)) (h : Run l F D cy cr ad0 p e R s m args below meth c A mt mst y (pc + 1) L (vi (a % 65536) :: st) w bc bs Q) : Run l F D cy cr ad0 p e R s m args below meth c A mt mst y pc L (vi a :: st) w bc bs Q := by
  intro H locs cells slots ad ls Qc d1 d2 d3 d4 d5 d6 d7 d8 d9 d10 d11 fin
  refine lv_i2c hF.1 hF.2.1 hd (i2c_o (ok_h d6)) ?_
  exact h H locs cells slots ad ls Qc d1 d2 d3 d4 d5 (ok_c (show in32 _ by unfold in32; omega) (ok_t d6)) d7 d8 d9 d10 d11 fin
theorem r_dup (hF : Fx F D cy cr ad0 p R s m args meth c A mt mst y) {v : AV} (hd : decode (byt y) pc = .ok (.dup, 1)) (hc : avc v = 1) (h : Run l F D cy cr ad0 p e R s m args below meth c A mt mst y (pc + 1) L (v :: v :: st) w bc bs Q) : Run l F D cy cr ad0 p e R s m args below meth c A mt mst y pc L (v :: st) w bc bs Q := by
  intro H locs cells slots ad ls Qc d1 d2 d3 d4 d5 d6 d7 d8 d9 d10 d11 fin
  refine lv_dup hF.1 hF.2.1 hd ((cv_cat v).trans hc) ?_
  exact h H locs cells slots ad ls Qc d1 d2 d3 d4 d5 (ok_c (ok_h d6) d6) d7 d8 d9 d10 d11 fin
theorem r_dup2 (hF : Fx F D cy cr ad0 p R s m args meth c A mt mst y) {v u : AV} (hd : decode (byt y) pc = .ok (.dup2, 1)) (hc : avc v = 1) (hu : avc u = 1) (h : Run l F D cy cr ad0 p e R s m args below meth c A mt mst y (pc + 1) L (v :: u :: v :: u :: st) w bc bs Q) : Run l F D cy cr ad0 p e R s m args below meth c A mt mst y pc L (v :: u :: st) w bc bs Q := by
  intro H locs cells slots ad ls Qc d1 d2 d3 d4 d5 d6 d7 d8 d9 d10 d11 fin
  refine lv_dup2_11 hF.1 hF.2.1 hd ((cv_cat v).trans hc) ((cv_cat u).trans hu) ?_
  exact h H locs cells slots ad ls Qc d1 d2 d3 d4 d5 (ok_c (ok_h d6) (ok_c (ok_h (ok_t d6)) d6)) d7 d8 d9 d10 d11 fin
theorem r_dup2l (hF : Fx F D cy cr ad0 p R s m args meth c A mt mst y) {z : Int} (hd : decode (byt y) pc = .ok (.dup2, 1)) (h : Run l F D cy cr ad0 p e R s m args below meth c A mt mst y (pc + 1) L (vl z :: vl z :: st) w bc bs Q) : Run l F D cy cr ad0 p e R s m args below meth c A mt mst y pc L (vl z :: st) w bc bs Q := by
  intro H locs cells slots ad ls Qc d1 d2 d3 d4 d5 d6 d7 d8 d9 d10 d11 fin
  refine lv_dup2_2 hF.1 hF.2.1 hd rfl ?_
  exact h H locs cells slots ad ls Qc d1 d2 d3 d4 d5 (ok_c (ok_h d6) d6) d7 d8 d9 d10 d11 fin
theorem r_pop (hF : Fx F D cy cr ad0 p R s m args meth c A mt mst y) {v : AV} (hd : decode (byt y) pc = .ok (.pop, 1)) (hc : avc v = 1) (h : Run l F D cy cr ad0 p e R s m args below meth c A mt mst y (pc + 1) L st w bc bs Q) : Run l F D cy cr ad0 p e R s m args below meth c A mt mst y pc L (v :: st) w bc bs Q := by
  intro H locs cells slots ad ls Qc d1 d2 d3 d4 d5 d6 d7 d8 d9 d10 d11 fin
  refine lv_pop hF.1 hF.2.1 hd ((cv_cat v).trans hc) ?_
  exact h H locs cells slots ad ls Qc d1 d2 d3 d4 d5 (ok_t d6) d7 d8 d9 d10 d11 fin
theorem r_goto (hF : Fx F D cy cr ad0 p R s m args meth c A mt mst y) {off : Int} (hd : decode (byt y) pc = .ok (.goto off, 3)) (ht : 0 ≤ (pc : Int) + off) (h : Run l F D cy cr ad0 p e R s m args below meth c A mt mst y (tgt pc off) L st w bc bs Q) : Run l F D cy cr ad0 p e R s m args below meth c A mt mst y pc L st w bc bs Q := by
  intro H locs cells slots ad ls Qc d1 d2 d3 d4 d5 d6 d7 d8 d9 d10 d11 fin
  refine lv_goto (tgt := tgt pc off) hF.1 hF.2.1 hd (Int.toNat_of_nonneg ht).symm ?_
  exact h H locs cells slots ad ls Qc d1 d2 d3 d4 d5 d6 d7 d8 d9 d10 d11 fin
theorem r_if_eq (hF : Fx F D cy cr ad0 p R s m args meth c A mt mst y) {a : Int} {off : Int} (hd : decode (byt y) pc = .ok (.ifCond .eq off, 3)) (ht : 0 ≤ (pc : Int) + off) (h1 : a = 0 → Run l F D cy cr ad0 p e R s m args below meth c A mt mst y (tgt pc off) L st w bc bs Q) (h2 : ¬ (a = 0) → Run l F D cy cr ad0 p e R s m args below meth c A mt mst y (pc + 3) L st w bc bs Q) : Run l F D cy cr ad0 p e R s m args below meth c A mt mst y pc L (vi a :: st) w bc bs Q := by
  intro H locs cells slots ad ls Qc d1 d2 d3 d4 d5 d6 d7 d8 d9 d10 d11 fin
  have ha := ok_h d6
  have hb := i32_z
  refine lv_if_eq (tgt := tgt pc off) hF.1 hF.2.1 hd (Int.toNat_of_nonneg ht).symm (fun q => ?_) (fun q => ?_)
  · exact h1 ((i32_eq ha hb).mp q) H locs cells slots ad ls Qc d1 d2 d3 d4 d5 (ok_t d6) d7 d8 d9 d10 d11 fin
  · exact h2 (fun z => q ((i32_eq ha hb).mpr z)) H locs cells slots ad ls Qc d1 d2 d3 d4 d5 (ok_t d6) d7 d8 d9 d10 d11 fin
theorem r_icmp_eq (hF : Fx F D cy cr ad0 p R s m args meth c A mt mst y) {a b : Int} {off : Int} (hd : decode (byt y) pc = .ok (.if_icmp .eq off, 3)) (ht : 0 ≤ (pc : Int) + off) (h1 : a = b → Run l F D cy cr ad0 p e R s m args below meth c A mt mst y (tgt pc off) L st w bc bs Q) (h2 : ¬ (a = b) → Run l F D cy cr ad0 p e R s m args below meth c A mt mst y (pc + 3) L st w bc bs Q) : Run l F D cy cr ad0 p e R s m args below meth c A mt mst y pc L (vi b :: vi a :: st) w bc bs Q := by
  intro H locs cells slots ad ls Qc d1 d2 d3 d4 d5 d6 d7 d8 d9 d10 d11 fin
  have hb := ok_h d6
  have ha := ok_h (ok_t d6)
  refine lv_icmp_eq (tgt := tgt pc off) hF.1 hF.2.1 hd (Int.toNat_of_nonneg ht).symm (fun q => ?_) (fun q => ?_)
  · exact h1 ((i32_eq ha hb).mp q) H locs cells slots ad ls Qc d1 d2 d3 d4 d5 (ok_t (ok_t d6)) d7 d8 d9 d10 d11 fin
  · exact h2 (fun z => q ((i32_eq ha hb).mpr z)) H locs cells slots ad ls Qc d1 d2 d3 d4 d5 (ok_t (ok_t d6)) d7 d8 d9 d10 d11 fin
theorem r_if_ne (hF : Fx F D cy cr ad0 p R s m args meth c A mt mst y) {a : Int} {off : Int} (hd : decode (byt y) pc = .ok (.ifCond .ne off, 3)) (ht : 0 ≤ (pc : Int) + off) (h1 : a ≠ 0 → Run l F D cy cr ad0 p e R s m args below meth c A mt mst y (tgt pc off) L st w bc bs Q) (h2 : ¬ (a ≠ 0) → Run l F D cy cr ad0 p e R s m args below meth c A mt mst y (pc + 3) L st w bc bs Q) : Run l F D cy cr ad0 p e R s m args below meth c A mt mst y pc L (vi a :: st) w bc bs Q := by
  intro H locs cells slots ad ls Qc d1 d2 d3 d4 d5 d6 d7 d8 d9 d10 d11 fin
  have ha := ok_h d6
  have hb := i32_z
  refine lv_if_ne (tgt := tgt pc off) hF.1 hF.2.1 hd (Int.toNat_of_nonneg ht).symm (fun q => ?_) (fun q => ?_)
  · exact h1 ((not_congr (i32_eq ha hb)).mp q) H locs cells slots ad ls Qc d1 d2 d3 d4 d5 (ok_t d6) d7 d8 d9 d10 d11 fin
  · exact h2 (fun z => z ((i32_eq ha hb).mp q)) H locs cells slots ad ls Qc d1 d2 d3 d4 d5 (ok_t d6) d7 d8 d9 d10 d11 fin
theorem r_icmp_ne (hF : Fx F D cy cr ad0 p R s m args meth c A mt mst y) {a b : Int} {off : Int} (hd : decode (byt y) pc = .ok (.if_icmp .ne off, 3)) (ht : 0 ≤ (pc : Int) + off) (h1 : a ≠ b → Run l F D cy cr ad0 p e R s m args below meth c A mt mst y (tgt pc off) L st w bc bs Q) (h2 : ¬ (a ≠ b) → Run l F D cy cr ad0 p e R s m args below meth c A mt mst y (pc + 3) L st w bc bs Q) : Run l F D cy cr ad0 p e R s m args below meth c A mt mst y pc L (vi b :: vi a :: st) w bc bs Q := by
  intro H locs cells slots ad ls Qc d1 d2 d3 d4 d5 d6 d7 d8 d9 d10 d11 fin
  have hb := ok_h d6
  have ha := ok_h (ok_t d6)
  refine lv_icmp_ne (tgt := tgt pc off) hF.1 hF.2.1 hd (Int.toNat_of_nonneg ht).symm (fun q => ?_) (fun q => ?_)
  · exact h1 ((not_congr (i32_eq ha hb)).mp q) H locs cells slots ad ls Qc d1 d2 d3 d4 d5 (ok_t (ok_t d6)) d7 d8 d9 d10 d11 fin
  · exact h2 (fun z => z ((i32_eq ha hb).mp q)) H locs cells slots ad ls Qc d1 d2 d3 d4 d5 (ok_t (ok_t d6)) d7 d8 d9 d10 d11 fin
theorem r_if_lt (hF : Fx F D cy cr ad0 p R s m args meth c A mt mst y) {a : Int} {off : Int} (hd : decode (byt y) pc = .ok (.ifCond .lt off, 3)) (ht : 0 ≤ (pc : Int) + off) (h1 : a < 0 → Run l F D cy cr ad0 p e R s m args below meth c A mt mst y (tgt pc off) L st w bc bs Q) (h2 : ¬ (a < 0) → Run l F D cy cr ad0 p e R s m args below meth c A mt mst y (pc + 3) L st w bc bs Q) : Run l F D cy cr ad0 p e R s m args below meth c A mt mst y pc L (vi a :: st) w bc bs Q := by
  intro H locs cells slots ad ls Qc d1 d2 d3 d4 d5 d6 d7 d8 d9 d10 d11 fin
  have ha := ok_h d6
  have hb := i32_z
  refine lv_if_lt (tgt := tgt pc off) hF.1 hF.2.1 hd (Int.toNat_of_nonneg ht).symm (fun q => ?_) (fun q => ?_)
  · exact h1 ((i32_lt ha hb).mp q) H locs cells slots ad ls Qc d1 d2 d3 d4 d5 (ok_t d6) d7 d8 d9 d10 d11 fin
  · exact h2 (fun z => q ((i32_lt ha hb).mpr z)) H locs cells slots ad ls Qc d1 d2 d3 d4 d5 (ok_t d6) d7 d8 d9 d10 d11 fin
theorem r_icmp_lt (hF : Fx F D cy cr ad0 p R s m args meth c A mt mst y) {a b : Int} {off : Int} (hd : decode (byt y) pc = .ok (.if_icmp .lt off, 3)) (ht : 0 ≤ (pc : Int) + off) (h1 : a < b → Run l F D cy cr ad0 p e R s m args below meth c A mt mst y (tgt pc off) L st w bc bs Q) (h2 : ¬ (a < b) → Run l F D cy cr ad0 p e R s m args below meth c A mt mst y (pc + 3) L st w bc bs Q) : Run l F D cy cr ad0 p e R s m args below meth c A mt mst y pc L (vi b :: vi a :: st) w bc bs Q := by
  intro H locs cells slots ad ls Qc d1 d2 d3 d4 d5 d6 d7 d8 d9 d10 d11 fin
  have hb := ok_h d6
  have ha := ok_h (ok_t d6)
  refine lv_icmp_lt (tgt := tgt pc off) hF.1 hF.2.1 hd (Int.toNat_of_nonneg ht).symm (fun q => ?_) (fun q => ?_)
  · exact h1 ((i32_lt ha hb).mp q) H locs cells slots ad ls Qc d1 d2 d3 d4 d5 (ok_t (ok_t d6)) d7 d8 d9 d10 d11 fin
  · exact h2 (fun z => q ((i32_lt ha hb).mpr z)) H locs cells slots ad ls Qc d1 d2 d3 d4 d5 (ok_t (ok_t d6)) d7 d8 d9 d10 d11 fin
theorem r_if_ge (hF : Fx F D cy cr ad0 p R s m args meth c A mt mst y) {a : Int} {off : Int} (hd : decode (byt y) pc = .ok (.ifCond .ge off, 3)) (ht : 0 ≤ (pc : Int) + off) (h1 : 0 ≤ a → Run l F D cy cr ad0 p e R s m args below meth c A mt mst y (tgt pc off) L st w bc bs Q) (h2 : ¬ (0 ≤ a) → Run l F D cy cr ad0 p e R s m args below meth c A mt mst y (pc + 3) L st w bc bs Q) : Run l F D cy cr ad0 p e R s m args below meth c A mt mst y pc L (vi a :: st) w bc bs Q := by
  intro H locs cells slots ad ls Qc d1 d2 d3 d4 d5 d6 d7 d8 d9 d10 d11 fin
  have ha := ok_h d6
  have hb := i32_z
  refine lv_if_ge (tgt := tgt pc off) hF.1 hF.2.1 hd (Int.toNat_of_nonneg ht).symm (fun q => ?_) (fun q => ?_)
  · exact h1 ((i32_le hb ha).mp q) H locs cells slots ad ls Qc d1 d2 d3 d4 d5 (ok_t d6) d7 d8 d9 d10 d11 fin
  · exact h2 (fun z => q ((i32_le hb ha).mpr z)) H locs cells slots ad ls Qc d1 d2 d3 d4 d5 (ok_t d6) d7 d8 d9 d10 d11 fin
theorem r_icmp_ge (hF : Fx F D cy cr ad0 p R s m args meth c A mt mst y) {a b : Int} {off : Int} (hd : decode (byt y) pc = .ok (.if_icmp .ge off, 3)) (ht : 0 ≤ (pc : Int) + off) (h1 : b ≤ a → Run l F D cy cr ad0 p e R s m args below meth c A mt mst y (tgt pc off) L st w bc bs Q) (h2 : ¬ (b ≤ a) → Run l F D cy cr ad0 p e R s m args below meth c A mt mst y (pc + 3) L st w bc bs Q) : Run l F D cy cr ad0 p e R s m args below meth c A mt mst y pc L (vi b :: vi a :: st) w bc bs Q := by
  intro H locs cells slots ad ls Qc d1 d2 d3 d4 d5 d6 d7 d8 d9 d10 d11 fin
  have hb := ok_h d6
  have ha := ok_h (ok_t d6)
  refine lv_icmp_ge (tgt := tgt pc off) hF.1 hF.2.1 hd (Int.toNat_of_nonneg ht).symm (fun q => ?_) (fun q => ?_)
  · exact h1 ((i32_le hb ha).mp q) H locs cells slots ad ls Qc d1 d2 d3 d4 d5 (ok_t (ok_t d6)) d7 d8 d9 d10 d11 fin
  · exact h2 (fun z => q ((i32_le hb ha).mpr z)) H locs cells slots ad ls Qc d1 d2 d3 d4 d5 (ok_t (ok_t d6)) d7 d8 d9 d10 d11 fin
theorem r_if_gt (hF : Fx F D cy cr ad0 p R s m args meth c A mt mst y) {a : Int} {off : Int} (hd : decode (byt y) pc = .ok (.ifCond .gt off, 3)) (ht : 0 ≤ (pc : Int) + off) (h1 : 0 < a → Run l F D cy cr ad0 p e R s m args below meth c A mt mst y (tgt pc off) L st w bc bs Q) (h2 : ¬ (0 < a) → Run l F D cy cr ad0 p e R s m args below meth c A mt mst y (pc + 3) L st w bc bs Q) : Run l F D cy cr ad0 p e R s m args below meth c A mt mst y pc L (vi a :: st) w bc bs Q := by
  intro H locs cells slots ad ls Qc d1 d2 d3 d4 d5 d6 d7 d8 d9 d10 d11 fin
  have ha := ok_h d6
  have hb := i32_z
  refine lv_if_gt (tgt := tgt pc off) hF.1 hF.2.1 hd (Int.toNat_of_nonneg ht).symm (fun q => ?_) (fun q => ?_)
  · exact h1 ((i32_lt hb ha).mp q) H locs cells slots ad ls Qc d1 d2 d3 d4 d5 (ok_t d6) d7 d8 d9 d10 d11 fin
  · exact h2 (fun z => q ((i32_lt hb ha).mpr z)) H locs cells slots ad ls Qc d1 d2 d3 d4 d5 (ok_t d6) d7 d8 d9 d10 d11 fin
theorem r_icmp_gt (hF : Fx F D cy cr ad0 p R s m args meth c A mt mst y) {a b : Int} {off : Int} (hd : decode (byt y) pc = .ok (.if_icmp .gt off, 3)) (ht : 0 ≤ (pc : Int) + off) (h1 : b < a → Run l F D cy cr ad0 p e R s m args below meth c A mt mst y (tgt pc off) L st w bc bs Q) (h2 : ¬ (b < a) → Run l F D cy cr ad0 p e R s m args below meth c A mt mst y (pc + 3) L st w bc bs Q) : Run l F D cy cr ad0 p e R s m args below meth c A mt mst y pc L (vi b :: vi a :: st) w bc bs Q := by
  intro H locs cells slots ad ls Qc d1 d2 d3 d4 d5 d6 d7 d8 d9 d10 d11 fin
  have hb := ok_h d6
  have ha := ok_h (ok_t d6)
  refine lv_icmp_gt (tgt := tgt pc off) hF.1 hF.2.1 hd (Int.toNat_of_nonneg ht).symm (fun q => ?_) (fun q => ?_)
  · exact h1 ((i32_lt hb ha).mp q) H locs cells slots ad ls Qc d1 d2 d3 d4 d5 (ok_t (ok_t d6)) d7 d8 d9 d10 d11 fin
  · exact h2 (fun z => q ((i32_lt hb ha).mpr z)) H locs cells slots ad ls Qc d1 d2 d3 d4 d5 (ok_t (ok_t d6)) d7 d8 d9 d10 d11 fin
theorem r_if_le (hF : Fx F D cy cr ad0 p R s m args meth c A mt mst y) {a : Int} {off : Int} (hd : decode (byt y) pc = .ok (.ifCond .le off, 3)) (ht : 0 ≤ (pc : Int) + off) (h1 : a ≤ 0 → Run l F D cy cr ad0 p e R s m args below meth c A mt mst y (tgt pc off) L st w bc bs Q) (h2 : ¬ (a ≤ 0) → Run l F D cy cr ad0 p e R s m args below meth c A mt mst y (pc + 3) L st w bc bs Q) : Run l F D cy cr ad0 p e R s m args below meth c A mt mst y pc L (vi a :: st) w bc bs Q := by
  intro H locs cells slots ad ls Qc d1 d2 d3 d4 d5 d6 d7 d8 d9 d10 d11 fin
  have ha := ok_h d6
  have hb := i32_z
  refine lv_if_le (tgt := tgt pc off) hF.1 hF.2.1 hd (Int.toNat_of_nonneg ht).symm (fun q => ?_) (fun q => ?_)
  · exact h1 ((i32_le ha hb).mp q) H locs cells slots ad ls Qc d1 d2 d3 d4 d5 (ok_t d6) d7 d8 d9 d10 d11 fin
  · exact h2 (fun z => q ((i32_le ha hb).mpr z)) H locs cells slots ad ls Qc d1 d2 d3 d4 d5 (ok_t d6) d7 d8 d9 d10 d11 fin
theorem r_icmp_le (hF : Fx F D cy cr ad0 p R s m args meth c A mt mst y) {a b : Int} {off : Int} (hd : decode (byt y) pc = .ok (.if_icmp .le off, 3)) (ht : 0 ≤ (pc : Int) + off) (h1 : a ≤ b → Run l F D cy cr ad0 p e R s m args below meth c A mt mst y (tgt pc off) L st w bc bs Q) (h2 : ¬ (a ≤ b) → Run l F D cy cr ad0 p e R s m args below meth c A mt mst y (pc + 3) L st w bc bs Q) : Run l F D cy cr ad0 p e R s m args below meth c A mt mst y pc L (vi b :: vi a :: st) w bc bs Q := by
  intro H locs cells slots ad ls Qc d1 d2 d3 d4 d5 d6 d7 d8 d9 d10 d11 fin
  have hb := ok_h d6
  have ha := ok_h (ok_t d6)
  refine lv_icmp_le (tgt := tgt pc off) hF.1 hF.2.1 hd (Int.toNat_of_nonneg ht).symm (fun q => ?_) (fun q => ?_)
  · exact h1 ((i32_le ha hb).mp q) H locs cells slots ad ls Qc d1 d2 d3 d4 d5 (ok_t (ok_t d6)) d7 d8 d9 d10 d11 fin
  · exact h2 (fun z => q ((i32_le ha hb).mpr z)) H locs cells slots ad ls Qc d1 d2 d3 d4 d5 (ok_t (ok_t d6)) d7 d8 d9 d10 d11 fin
theorem r_ifnull (hF : Fx F D cy cr ad0 p R s m args meth c A mt mst y) {r : Option Nat} {off : Int} (hd : decode (byt y) pc = .ok (.ifnull off, 3)) (ht : 0 ≤ (pc : Int) + off) (h1 : r = none → Run l F D cy cr ad0 p e R s m args below meth c A mt mst y (tgt pc off) L st w bc bs Q) (h2 : r ≠ none → Run l F D cy cr ad0 p e R s m args below meth c A mt mst y (pc + 3) L st w bc bs Q) : Run l F D cy cr ad0 p e R s m args below meth c A mt mst y pc L (vo r :: st) w bc bs Q := by
  intro H locs cells slots ad ls Qc d1 d2 d3 d4 d5 d6 d7 d8 d9 d10 d11 fin
  cases r with
  | none => exact lv_ifnullN (tgt := tgt pc off) hF.1 hF.2.1 hd (Int.toNat_of_nonneg ht).symm (h1 rfl H locs cells slots ad ls Qc d1 d2 d3 d4 d5 (ok_t d6) d7 d8 d9 d10 d11 fin)
  | some k => exact lv_ifnull hF.1 hF.2.1 hd (h2 (fun q => by cases q) H locs cells slots ad ls Qc d1 d2 d3 d4 d5 (ok_t d6) d7 d8 d9 d10 d11 fin)
theorem r_ifnonnull (hF : Fx F D cy cr ad0 p R s m args meth c A mt mst y) {r : Option Nat} {off : Int} (hd : decode (byt y) pc = .ok (.ifnonnull off, 3)) (ht : 0 ≤ (pc : Int) + off) (h1 : r ≠ none → Run l F D cy cr ad0 p e R s m args below meth c A mt mst y (tgt pc off) L st w bc bs Q) (h2 : r = none → Run l F D cy cr ad0 p e R s m args below meth c A mt mst y (pc + 3) L st w bc bs Q) : Run l F D cy cr ad0 p e R s m args below meth c A mt mst y pc L (vo r :: st) w bc bs Q := by
  intro H locs cells slots ad ls Qc d1 d2 d3 d4 d5 d6 d7 d8 d9 d10 d11 fin
  cases r with
  | none => exact lv_ifnonnullN hF.1 hF.2.1 hd (h2 rfl H locs cells slots ad ls Qc d1 d2 d3 d4 d5 (ok_t d6) d7 d8 d9 d10 d11 fin)
  | some k => exact lv_ifnonnull (tgt := tgt pc off) hF.1 hF.2.1 hd (Int.toNat_of_nonneg ht).symm (h1 (fun q => by cases q) H locs cells slots ad ls Qc d1 d2 d3 d4 d5 (ok_t d6) d7 d8 d9 d10 d11 fin)
end OPS
