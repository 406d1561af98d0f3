-- what an instruction of the class file is in the tables
abbrev ai0 : AI := (0, 0, 0, 0, [])
def tgt (pc : Nat) (off : Int) : Nat := ((pc : Int) + off).toNat
def swl (pc : Nat) : Int → List Int → List (Int × Nat)
  | _, [] => []
  | lo, o :: r => (lo, tgt pc o) :: swl pc (lo + 1) r
def ccd : ClassFile.Cond → Int
  | .eq => 0
  | .ne => 1
  | .lt => 2
  | .ge => 3
  | .gt => 4
  | .le => 5
def atc : ArrayType → Nat
  | .int => 0
  | .byte => 1
  | .boolean => 2
  | .long => 3
  | _ => 9
def jm (pc : Nat) (off : Int) (x : AI) : AI := if 0 ≤ (pc : Int) + off then x else ai0
def ab (o pc : Nat) (i : Instr) (len : Nat) : AI := match i with
  | .iconst n => if len = 1 ∧ -1 ≤ n ∧ n ≤ 5 then (1, 0, len, n, []) else ai0
  | .bipush n => if len = 2 ∧ -128 ≤ n ∧ n < 128 then (1, 0, len, n, []) else ai0
  | .sipush n => if len = 3 ∧ -32768 ≤ n ∧ n < 32768 then (1, 0, len, n, []) else ai0
  | .lconst n => if len = 1 then (2, 0, len, ((n : Nat) : Int), []) else ai0
  | .ldc x => if len = 2 then (match pl o x with
    | (7, _, _, z) => (1, 0, len, z, [])
    | (9, a, _, _) => (3, a, len, 0, [])
    | _ => ai0) else ai0
  | .ldc_w x => if len = 3 then (match pl o x with
    | (7, _, _, z) => (1, 0, len, z, [])
    | (9, a, _, _) => (3, a, len, 0, [])
    | _ => ai0) else ai0
  | .ldc2_w x => if len = 3 then (match pl o x with
    | (8, _, _, z) => (2, 0, len, z, [])
    | _ => ai0) else ai0
  | .getstatic x => if len = 3 then (match pl o x with
    | (10, _, _, z) => (1, 0, len, z, [])
    | (11, a, _, _) => (3, a, len, 0, [])
    | (12, _, _, _) => (76, 0, len, 0, [])
    | _ => ai0) else ai0
  | .aconst_null => if len = 1 then (4, 0, len, 0, []) else ai0
  | .iload k => if len = 2 then (5, k, len, 0, []) else ai0
  | .iload_n k => if len = 1 then (5, (k : Nat), len, 0, []) else ai0
  | .lload k => if len = 2 then (6, k, len, 0, []) else ai0
  | .lload_n k => if len = 1 then (6, (k : Nat), len, 0, []) else ai0
  | .aload k => if len = 2 then (7, k, len, 0, []) else ai0
  | .aload_n k => if len = 1 then (7, (k : Nat), len, 0, []) else ai0
  | .istore k => if len = 2 then (8, k, len, 0, []) else ai0
  | .istore_n k => if len = 1 then (8, (k : Nat), len, 0, []) else ai0
  | .lstore k => if len = 2 then (9, k, len, 0, []) else ai0
  | .lstore_n k => if len = 1 then (9, (k : Nat), len, 0, []) else ai0
  | .astore k => if len = 2 then (10, k, len, 0, []) else ai0
  | .astore_n k => if len = 1 then (10, (k : Nat), len, 0, []) else ai0
  | .iinc k n => if len = 3 ∧ -128 ≤ n ∧ n < 128 then (11, k, len, n, []) else ai0
  | .iadd => if len = 1 then (12, 0, 1, 0, []) else ai0
  | .isub => if len = 1 then (13, 0, 1, 0, []) else ai0
  | .imul => if len = 1 then (14, 0, 1, 0, []) else ai0
  | .idiv => if len = 1 then (15, 0, 1, 0, []) else ai0
  | .irem => if len = 1 then (16, 0, 1, 0, []) else ai0
  | .ineg => if len = 1 then (17, 0, 1, 0, []) else ai0
  | .iand => if len = 1 then (18, 0, 1, 0, []) else ai0
  | .ior => if len = 1 then (19, 0, 1, 0, []) else ai0
  | .ixor => if len = 1 then (20, 0, 1, 0, []) else ai0
  | .ishl => if len = 1 then (21, 0, 1, 0, []) else ai0
  | .ishr => if len = 1 then (22, 0, 1, 0, []) else ai0
  | .iushr => if len = 1 then (23, 0, 1, 0, []) else ai0
  | .ladd => if len = 1 then (24, 0, 1, 0, []) else ai0
  | .lsub => if len = 1 then (25, 0, 1, 0, []) else ai0
  | .lmul => if len = 1 then (26, 0, 1, 0, []) else ai0
  | .ldiv => if len = 1 then (27, 0, 1, 0, []) else ai0
  | .lrem => if len = 1 then (28, 0, 1, 0, []) else ai0
  | .land => if len = 1 then (29, 0, 1, 0, []) else ai0
  | .lor => if len = 1 then (30, 0, 1, 0, []) else ai0
  | .lushr => if len = 1 then (31, 0, 1, 0, []) else ai0
  | .lshl => if len = 1 then (32, 0, 1, 0, []) else ai0
  | .lshr => if len = 1 then (33, 0, 1, 0, []) else ai0
  | .lcmp => if len = 1 then (34, 0, 1, 0, []) else ai0
  | .i2l => if len = 1 then (35, 0, 1, 0, []) else ai0
  | .l2i => if len = 1 then (36, 0, 1, 0, []) else ai0
  | .i2b => if len = 1 then (37, 0, 1, 0, []) else ai0
  | .i2c => if len = 1 then (38, 0, 1, 0, []) else ai0
  | .dup => if len = 1 then (39, 0, 1, 0, []) else ai0
  | .dup2 => if len = 1 then (40, 0, 1, 0, []) else ai0
  | .pop => if len = 1 then (41, 0, 1, 0, []) else ai0
  | .goto d => if len = 3 then jm pc d (43, tgt pc d, len, 0, []) else ai0
  | .ifCond q d => if len = 3 then jm pc d (44, tgt pc d, len, ccd q, []) else ai0
  | .if_icmp q d => if len = 3 then jm pc d (45, tgt pc d, len, ccd q, []) else ai0
  | .ifnull d => if len = 3 then jm pc d (46, tgt pc d, len, 0, []) else ai0
  | .ifnonnull d => if len = 3 then jm pc d (47, tgt pc d, len, 0, []) else ai0
  | .tableswitch d lo hi offs => if hi = lo + (offs.toList.length : Int) - 1 ∧ 0 ≤ (pc : Int) + d ∧ offs.toList.all (fun o => decide (0 ≤ (pc : Int) + o)) = true then (48, tgt pc d, len, 0, swl pc lo offs.toList) else ai0
  | .lookupswitch d ps => if 0 ≤ (pc : Int) + d ∧ ps.toList.all (fun o => decide (0 ≤ (pc : Int) + o.2)) = true ∧ (ps.toList.zip (ps.toList.drop 1)).all (fun (a, next) => a.1 < next.1) = true then (48, tgt pc d, len, 0, ps.toList.map (fun q => (q.1, tgt pc q.2))) else ai0
  | .iaload => if len = 1 then (49, 0, 1, 0, []) else ai0
  | .baload => if len = 1 then (50, 0, 1, 0, []) else ai0
  | .laload => if len = 1 then (51, 0, 1, 0, []) else ai0
  | .aaload => if len = 1 then (52, 0, 1, 0, []) else ai0
  | .iastore => if len = 1 then (53, 0, 1, 0, []) else ai0
  | .bastore => if len = 1 then (54, 0, 1, 0, []) else ai0
  | .lastore => if len = 1 then (55, 0, 1, 0, []) else ai0
  | .aastore => if len = 1 then (56, 0, 1, 0, []) else ai0
  | .arraylength => if len = 1 then (57, 0, 1, 0, []) else ai0
  | .newarray t => if len = 2 ∧ atc t < 4 then (58, atc t, len, 0, []) else ai0
  | .anewarray x => if len = 3 then (match pl o x with
    | (6, c, _, _) => if c < 13 then (59, c, len, 0, []) else ai0
    | _ => ai0) else ai0
  | .new x => if len = 3 then (match pl o x with
    | (6, c, _, _) => if c < 13 then (60, c, len, 0, []) else ai0
    | _ => ai0) else ai0
  | .checkcast x => if len = 3 then (match pl o x with
    | (6, c, _, _) => if c = 100 then (69, 0, len, 0, []) else ai0
    | _ => ai0) else ai0
  | .getfield x => if len = 3 then (match pl o x with
    | (1, c, k, z) => (61, c, k, z, [])
    | _ => ai0) else ai0
  | .putfield x => if len = 3 then (match pl o x with
    | (1, c, k, z) => (62, c, k, z, [])
    | _ => ai0) else ai0
  | .invokevirtual x => if len = 3 then (match pl o x with
    | (2, m, _, _) => (63, m, 3, 0, [])
    | (5, _, _, _) => (68, 0, 3, 0, [])
    | _ => ai0) else ai0
  | .invokestatic x => if len = 3 then (match pl o x with
    | (2, m, _, _) => (64, m, 3, 0, [])
    | (4, _, _, _) => (67, 0, 3, 0, [])
    | _ => ai0) else ai0
  | .invokespecial x => if len = 3 then (match pl o x with
    | (2, m, _, _) => (65, m, 3, 0, [])
    | (3, _, _, _) => (66, 0, 3, 0, [])
    | _ => ai0) else ai0
  | .ireturn => if len = 1 then (70, 0, 1, 0, []) else ai0
  | .lreturn => if len = 1 then (71, 0, 1, 0, []) else ai0
  | .areturn => if len = 1 then (72, 0, 1, 0, []) else ai0
  | .return_ => if len = 1 then (73, 0, 1, 0, []) else ai0
  | _ => ai0
/-- a row of a method's table is what its bytes say -/
def ckr (b : ByteArray) (o : Nat) (q : Nat × AI) : Bool := match decode b q.1 with
  | .ok (i, len) => decide (ab o q.1 i len = q.2)
  | .error _ => false
theorem ckr_spec {b : ByteArray} {o : Nat} {q : Nat × AI} (h : ckr b o q = true) : ∃ (i : Instr) (len : Nat), decode b q.1 = .ok (i, len) ∧ ab o q.1 i len = q.2 := by
  unfold ckr at h
  split at h
  · next i len hd => exact ⟨i, len, hd, of_decide_eq_true h⟩
  · cases h
abbrev PX : Type := Nat → Nat → AL → List AV → AW → Nat → Nat → AQ → Prop
/-- what an instruction asks, and where it goes on -/
def sem (X : PX) (y pc : Nat) (i : AI) (L : AL) (st : List AV) (W : AW) (bc bs : Nat) (Q : AQ) : Prop := match i with
  | (1, _, len, z, _) => X y (pc + len) L (vi z :: st) W bc bs Q
  | (2, _, len, z, _) => X y (pc + len) L (vl z :: st) W bc bs Q
  | (3, a, len, _, _) => X y (pc + len) L (vr a :: st) W bc bs Q
  | (4, _, len, _, _) => X y (pc + len) L (vn :: st) W bc bs Q
  | (76, _, len, _, _) => ∀ r : Option Nat, (r = none ∨ r = some (nfz - 1)) → X y (pc + len) L (vo r :: st) W bc bs Q
  | (5, k, len, _, _) => match lget L k with
    | some (Sum.inl z) => X y (pc + len) L (vi z :: st) W bc bs Q
    | _ => False
  | (6, k, len, _, _) => match lget L k with
    | some (Sum.inr (Sum.inl z)) => X y (pc + len) L (vl z :: st) W bc bs Q
    | _ => False
  | (7, k, len, _, _) => match lget L k with
    | some (Sum.inr (Sum.inr r)) => X y (pc + len) L (vo r :: st) W bc bs Q
    | _ => False
  | (8, k, len, _, _) => match st with
    | Sum.inl z :: st => nolg L k ∧ k < L.length ∧ X y (pc + len) (lset L k (some (vi z))) st W bc bs Q
    | _ => False
  | (9, k, len, _, _) => match st with
    | Sum.inr (Sum.inl z) :: st => nolg L k ∧ k + 1 < L.length ∧ X y (pc + len) (lset (lset L k (some (vl z))) (k + 1) none) st W bc bs Q
    | _ => False
  | (10, k, len, _, _) => match st with
    | Sum.inr (Sum.inr r) :: st => nolg L k ∧ k < L.length ∧ X y (pc + len) (lset L k (some (vo r))) st W bc bs Q
    | _ => False
  | (11, k, len, n, _) => match lget L k with
    | some (Sum.inl z) => in32 (z + n) ∧ nolg L k ∧ X y (pc + len) (lset L k (some (vi (z + n)))) st W bc bs Q
    | _ => False
  | (12, _, len, _, _) => match st with
    | Sum.inl b :: Sum.inl a :: st => in32 (a + b) ∧ X y (pc + len) L (vi (a + b) :: st) W bc bs Q
    | _ => False
  | (13, _, len, _, _) => match st with
    | Sum.inl b :: Sum.inl a :: st => in32 (a - b) ∧ X y (pc + len) L (vi (a - b) :: st) W bc bs Q
    | _ => False
  | (14, _, len, _, _) => match st with
    | Sum.inl b :: Sum.inl a :: st => in32 (a * b) ∧ X y (pc + len) L (vi (a * b) :: st) W bc bs Q
    | _ => False
  | (15, _, len, _, _) => match st with
    | Sum.inl b :: Sum.inl a :: st => b ≠ 0 ∧ in32 (Int.tdiv a b) ∧ X y (pc + len) L (vi (Int.tdiv a b) :: st) W bc bs Q
    | _ => False
  | (16, _, len, _, _) => match st with
    | Sum.inl b :: Sum.inl a :: st => b ≠ 0 ∧ X y (pc + len) L (vi (Int.tmod a b) :: st) W bc bs Q
    | _ => False
  | (17, _, len, _, _) => match st with
    | Sum.inl a :: st => in32 (-a) ∧ X y (pc + len) L (vi (-a) :: st) W bc bs Q
    | _ => False
  | (18, _, len, _, _) => match st with
    | Sum.inl b :: Sum.inl a :: st => X y (pc + len) L (vi (Int32.ofInt a &&& Int32.ofInt b).toInt :: st) W bc bs Q
    | _ => False
  | (19, _, len, _, _) => match st with
    | Sum.inl b :: Sum.inl a :: st => X y (pc + len) L (vi (Int32.ofInt a ||| Int32.ofInt b).toInt :: st) W bc bs Q
    | _ => False
  | (20, _, len, _, _) => match st with
    | Sum.inl b :: Sum.inl a :: st => X y (pc + len) L (vi (Int32.ofInt a ^^^ Int32.ofInt b).toInt :: st) W bc bs Q
    | _ => False
  | (21, _, len, _, _) => match st with
    | Sum.inl b :: Sum.inl a :: st => X y (pc + len) L (vi (Int32.ofInt a <<< (Int32.ofInt b &&& 31)).toInt :: st) W bc bs Q
    | _ => False
  | (22, _, len, _, _) => match st with
    | Sum.inl b :: Sum.inl a :: st => X y (pc + len) L (vi (Int32.ofInt a >>> (Int32.ofInt b &&& 31)).toInt :: st) W bc bs Q
    | _ => False
  | (23, _, len, _, _) => match st with
    | Sum.inl b :: Sum.inl a :: st => X y (pc + len) L (vi ((Int32.ofInt a).toUInt32 >>> ((Int32.ofInt b).toUInt32 &&& Int32.toUInt32 31)).toInt32.toInt :: st) W bc bs Q
    | _ => False
  | (24, _, len, _, _) => match st with
    | Sum.inr (Sum.inl b) :: Sum.inr (Sum.inl a) :: st => X y (pc + len) L (vl (w64 (a + b)) :: st) W bc bs Q
    | _ => False
  | (25, _, len, _, _) => match st with
    | Sum.inr (Sum.inl b) :: Sum.inr (Sum.inl a) :: st => X y (pc + len) L (vl (w64 (a - b)) :: st) W bc bs Q
    | _ => False
  | (26, _, len, _, _) => match st with
    | Sum.inr (Sum.inl b) :: Sum.inr (Sum.inl a) :: st => X y (pc + len) L (vl (w64 (a * b)) :: st) W bc bs Q
    | _ => False
  | (27, _, len, _, _) => match st with
    | Sum.inr (Sum.inl b) :: Sum.inr (Sum.inl a) :: st => b ≠ 0 ∧ X y (pc + len) L (vl (w64 (Int.tdiv a b)) :: st) W bc bs Q
    | _ => False
  | (28, _, len, _, _) => match st with
    | Sum.inr (Sum.inl b) :: Sum.inr (Sum.inl a) :: st => b ≠ 0 ∧ X y (pc + len) L (vl (Int.tmod a b) :: st) W bc bs Q
    | _ => False
  | (29, _, len, _, _) => match st with
    | Sum.inr (Sum.inl b) :: Sum.inr (Sum.inl a) :: st => X y (pc + len) L (vl (Int64.ofInt a &&& Int64.ofInt b).toInt :: st) W bc bs Q
    | _ => False
  | (30, _, len, _, _) => match st with
    | Sum.inr (Sum.inl b) :: Sum.inr (Sum.inl a) :: st => X y (pc + len) L (vl (Int64.ofInt a ||| Int64.ofInt b).toInt :: st) W bc bs Q
    | _ => False
  | (31, _, len, _, _) => match st with
    | Sum.inl b :: Sum.inr (Sum.inl a) :: st => X y (pc + len) L (vl ((Int64.ofInt a).toUInt64 >>> ((Int32.ofInt b).toInt64.toUInt64 &&& Int64.toUInt64 63)).toInt64.toInt :: st) W bc bs Q
    | _ => False
  | (32, _, len, _, _) => match st with
    | Sum.inl b :: Sum.inr (Sum.inl a) :: st => X y (pc + len) L (vl (Int64.ofInt a <<< ((Int32.ofInt b).toInt64 &&& 63)).toInt :: st) W bc bs Q
    | _ => False
  | (33, _, len, _, _) => match st with
    | Sum.inl b :: Sum.inr (Sum.inl a) :: st => X y (pc + len) L (vl (Int64.ofInt a >>> ((Int32.ofInt b).toInt64 &&& 63)).toInt :: st) W bc bs Q
    | _ => False
  | (34, _, len, _, _) => match st with
    | Sum.inr (Sum.inl b) :: Sum.inr (Sum.inl a) :: st => X y (pc + len) L (vi (lcq a b) :: st) W bc bs Q
    | _ => False
  | (35, _, len, _, _) => match st with
    | Sum.inl a :: st => X y (pc + len) L (vl a :: st) W bc bs Q
    | _ => False
  | (36, _, len, _, _) => match st with
    | Sum.inr (Sum.inl a) :: st => X y (pc + len) L (vi (w32 a) :: st) W bc bs Q
    | _ => False
  | (37, _, len, _, _) => match st with
    | Sum.inl a :: st => X y (pc + len) L (vi ((a + 128) % 256 - 128) :: st) W bc bs Q
    | _ => False
  | (38, _, len, _, _) => match st with
    | Sum.inl a :: st => X y (pc + len) L (vi (a % 65536) :: st) W bc bs Q
    | _ => False
  | (39, _, len, _, _) => match st with
    | v :: st => avc v = 1 ∧ X y (pc + len) L (v :: v :: st) W bc bs Q
    | _ => False
  | (40, _, len, _, _) => match st with
    | Sum.inr (Sum.inl z) :: st => X y (pc + len) L (vl z :: vl z :: st) W bc bs Q
    | v :: u :: st => avc v = 1 ∧ avc u = 1 ∧ X y (pc + len) L (v :: u :: v :: u :: st) W bc bs Q
    | _ => False
  | (41, _, len, _, _) => match st with
    | v :: st => avc v = 1 ∧ X y (pc + len) L st W bc bs Q
    | _ => False
  | (43, t, _, _, _) => X y t L st W bc bs Q
  | (44, t, len, q, _) => match st with
    | Sum.inl a :: st => (cnd q a 0 → X y t L st W bc bs Q) ∧ (¬ cnd q a 0 → X y (pc + len) L st W bc bs Q)
    | _ => False
  | (45, t, len, q, _) => match st with
    | Sum.inl b :: Sum.inl a :: st => (cnd q a b → X y t L st W bc bs Q) ∧ (¬ cnd q a b → X y (pc + len) L st W bc bs Q)
    | _ => False
  | (46, t, len, _, _) => match st with
    | Sum.inr (Sum.inr r) :: st => (r = none → X y t L st W bc bs Q) ∧ (r ≠ none → X y (pc + len) L st W bc bs Q)
    | _ => False
  | (47, t, len, _, _) => match st with
    | Sum.inr (Sum.inr r) :: st => (r ≠ none → X y t L st W bc bs Q) ∧ (r = none → X y (pc + len) L st W bc bs Q)
    | _ => False
  | (48, t, _, _, l) => match st with
    | Sum.inl a :: st => sws l t a (fun u => X y u L st W bc bs Q)
    | _ => False
  | (49, _, len, _, _) => match st with
    | Sum.inl i :: Sum.inr (Sum.inr (some k)) :: st => (match W.2 k with
      | Sum.inl (0, n, f) => k < W.1 ∧ 0 ≤ i ∧ i < (n : Int) ∧ X y (pc + len) L (vi (f i.toNat) :: st) W bc bs Q
      | _ => False)
    | _ => False
  | (50, _, len, _, _) => match st with
    | Sum.inl i :: Sum.inr (Sum.inr (some k)) :: st => (match W.2 k with
      | Sum.inl (1, n, f) => k < W.1 ∧ 0 ≤ i ∧ i < (n : Int) ∧ X y (pc + len) L (vi (f i.toNat) :: st) W bc bs Q
      | Sum.inl (2, n, f) => k < W.1 ∧ 0 ≤ i ∧ i < (n : Int) ∧ X y (pc + len) L (vi (f i.toNat) :: st) W bc bs Q
      | _ => False)
    | _ => False
  | (51, _, len, _, _) => match st with
    | Sum.inl i :: Sum.inr (Sum.inr (some k)) :: st => (match W.2 k with
      | Sum.inl (3, n, f) => k < W.1 ∧ 0 ≤ i ∧ i < (n : Int) ∧ X y (pc + len) L (vl (f i.toNat) :: st) W bc bs Q
      | _ => False)
    | _ => False
  | (52, _, len, _, _) => match st with
    | Sum.inl i :: Sum.inr (Sum.inr (some k)) :: st => (match W.2 k with
      | Sum.inr (Sum.inl (_, n, f)) => k < W.1 ∧ 0 ≤ i ∧ i < (n : Int) ∧ X y (pc + len) L (vo (f i.toNat) :: st) W bc bs Q
      | _ => False)
    | _ => False
  | (53, _, len, _, _) => match st with
    | Sum.inl x :: Sum.inl i :: Sum.inr (Sum.inr (some k)) :: st => (match W.2 k with
      | Sum.inl (0, n, f) => nfz ≤ k ∧ k < W.1 ∧ 0 ≤ i ∧ i < (n : Int) ∧ X y (pc + len) L st (wu W k (ea 0 n (fu f i.toNat x))) bc bs Q
      | _ => False)
    | _ => False
  | (54, _, len, _, _) => match st with
    | Sum.inl x :: Sum.inl i :: Sum.inr (Sum.inr (some k)) :: st => (match W.2 k with
      | Sum.inl (1, n, f) => nfz ≤ k ∧ k < W.1 ∧ 0 ≤ i ∧ i < (n : Int) ∧ okt 1 x ∧ X y (pc + len) L st (wu W k (ea 1 n (fu f i.toNat x))) bc bs Q
      | Sum.inl (2, n, f) => nfz ≤ k ∧ k < W.1 ∧ 0 ≤ i ∧ i < (n : Int) ∧ okt 2 x ∧ X y (pc + len) L st (wu W k (ea 2 n (fu f i.toNat x))) bc bs Q
      | _ => False)
    | _ => False
  | (55, _, len, _, _) => match st with
    | Sum.inr (Sum.inl x) :: Sum.inl i :: Sum.inr (Sum.inr (some k)) :: st => (match W.2 k with
      | Sum.inl (3, n, f) => nfz ≤ k ∧ k < W.1 ∧ 0 ≤ i ∧ i < (n : Int) ∧ X y (pc + len) L st (wu W k (ea 3 n (fu f i.toNat x))) bc bs Q
      | _ => False)
    | _ => False
  | (56, _, len, _, _) => match st with
    | Sum.inr (Sum.inr (some j)) :: Sum.inl i :: Sum.inr (Sum.inr (some k)) :: st => (match W.2 k, W.2 j with
      | Sum.inr (Sum.inl (c, n, f)), Sum.inr (Sum.inr (d, _)) => nfz ≤ k ∧ k < W.1 ∧ nfz ≤ j ∧ j < W.1 ∧ c = d ∧ c < 13 ∧ 0 ≤ i ∧ i < (n : Int) ∧ X y (pc + len) L st (wu W k (er c n (fu f i.toNat (some j)))) bc bs Q
      | _, _ => False)
    | _ => False
  | (57, _, len, _, _) => match st with
    | Sum.inr (Sum.inr (some k)) :: st => (match W.2 k with
      | Sum.inl (t, n, _) => k < W.1 ∧ t < 4 ∧ n < 2147483648 ∧ X y (pc + len) L (vi (n : Int) :: st) W bc bs Q
      | Sum.inr (Sum.inl (_, n, _)) => nfz ≤ k ∧ k < W.1 ∧ n < 2147483648 ∧ X y (pc + len) L (vi (n : Int) :: st) W bc bs Q
      | _ => False)
    | _ => False
  | (58, t, len, _, _) => match st with
    | Sum.inl n :: st => 0 ≤ n ∧ n ≤ 1000000 ∧ 1 ≤ bc ∧ n.toNat ≤ bs ∧ X y (pc + len) L (vr W.1 :: st) (wn W (ea t n.toNat (fun _ => 0))) (bc - 1) (bs - n.toNat) Q
    | _ => False
  | (59, c, len, _, _) => match st with
    | Sum.inl n :: st => 0 ≤ n ∧ n ≤ 1000000 ∧ 1 ≤ bc ∧ n.toNat ≤ bs ∧ X y (pc + len) L (vr W.1 :: st) (wn W (er c n.toNat (fun _ => none))) (bc - 1) (bs - n.toNat) Q
    | _ => False
  | (60, c, len, _, _) => 1 ≤ bc ∧ (fdf c).length ≤ bs ∧ X y (pc + len) L (vr W.1 :: st) (wn W (eo c (fdf c))) (bc - 1) (bs - (fdf c).length) Q
  | (61, c, k, _, _) => match st with
    | Sum.inr (Sum.inr (some j)) :: st => (match W.2 j with
      | Sum.inr (Sum.inr (d, fs)) => c = d ∧ j < W.1 ∧ (match fget fs k with
        | some v => X y (pc + 3) L (v :: st) W bc bs Q
        | none => False)
      | _ => False)
    | _ => False
  | (62, c, k, z, _) => match st with
    | v :: Sum.inr (Sum.inr (some j)) :: st => (match W.2 j with
      | Sum.inr (Sum.inr (d, fs)) => c = d ∧ nfz ≤ j ∧ j < W.1 ∧ (match z, v with
        | 0, Sum.inl _ => True
        | 1, Sum.inl x => x = 0 ∨ x = 1
        | 2, Sum.inr (Sum.inr _) => True
        | _, _ => False) ∧ X y (pc + 3) L st (wu W j (eo c (fset fs k v))) bc bs Q
      | _ => False)
    | _ => False
  | (63, z, _, _, _) => match pops (mi z).2.1 st [] with
    | some (Sum.inr (Sum.inr (some j)) :: as, rest) => (match W.2 j with
      | Sum.inr (Sum.inr (d, _)) => d = (mi z).1 ∧ j < W.1 ∧ stw rest ≤ 8 ∧ (lay1 (vr j :: as)).length ≤ (mi z).2.2.1 ∧ (mi z).2.2.2.2.1 ≤ bc ∧ (mi z).2.2.2.2.2.1 ≤ bs ∧
        ∃ P : AQ, X z 0 (ent (mi z).2.2.1 (vr j :: as)) [] W (mi z).2.2.2.2.1 (mi z).2.2.2.2.2.1 P ∧ ∀ r W', P r W' → X y (pc + 3) L (psh r rest) W' (bc - (mi z).2.2.2.2.1) (bs - (mi z).2.2.2.2.2.1) Q
      | _ => False)
    | _ => False
  | (64, z, _, _, _) => match pops (mi z).2.1 st [] with
    | some (as, rest) => stw rest ≤ 8 ∧ (lay1 (as)).length ≤ (mi z).2.2.1 ∧ (mi z).2.2.2.2.1 ≤ bc ∧ (mi z).2.2.2.2.2.1 ≤ bs ∧
        ∃ P : AQ, X z 0 (ent (mi z).2.2.1 as) [] W (mi z).2.2.2.2.1 (mi z).2.2.2.2.2.1 P ∧ ∀ r W', P r W' → X y (pc + 3) L (psh r rest) W' (bc - (mi z).2.2.2.2.1) (bs - (mi z).2.2.2.2.2.1) Q
    | _ => False
  | (65, z, _, _, _) => match pops (mi z).2.1 st [] with
    | some (Sum.inr (Sum.inr (some j)) :: as, rest) => stw rest ≤ 8 ∧ (lay1 (vr j :: as)).length ≤ (mi z).2.2.1 ∧ (mi z).2.2.2.2.1 ≤ bc ∧ (mi z).2.2.2.2.2.1 ≤ bs ∧
        ∃ P : AQ, X z 0 (ent (mi z).2.2.1 (vr j :: as)) [] W (mi z).2.2.2.2.1 (mi z).2.2.2.2.2.1 P ∧ ∀ r W', P r W' → X y (pc + 3) L (psh r rest) W' (bc - (mi z).2.2.2.2.1) (bs - (mi z).2.2.2.2.2.1) Q
    | _ => False
  | (66, _, _, _, _) => match st with
    | Sum.inr (Sum.inr (some _)) :: st => stw st ≤ 8 ∧ X y (pc + 3) L st W bc bs Q
    | _ => False
  | (67, _, _, _, _) => match st with
    | Sum.inl n :: Sum.inl dp :: Sum.inr (Sum.inr (some d)) :: Sum.inl sp :: Sum.inr (Sum.inr (some s)) :: st => (match W.2 s, W.2 d with
      | Sum.inl (0, n0, f), Sum.inl (0, n1, g) => nfz ≤ s ∧ s < W.1 ∧ nfz ≤ d ∧ d < W.1 ∧ stw st ≤ 8 ∧ 0 ≤ sp ∧ 0 ≤ dp ∧ 0 ≤ n ∧ sp + n ≤ (n0 : Int) ∧ dp + n ≤ (n1 : Int) ∧
        X y (pc + 3) L st (wu W d (ea 0 n1 (fcp f g sp.toNat dp.toNat n.toNat))) bc bs Q
      | _, _ => False)
    | _ => False
  | (68, _, _, _, _) => match st with
    | Sum.inr (Sum.inr (some k)) :: st => (match W.2 k with
      | Sum.inl (0, n, f) => k < W.1 ∧ (nfz ≤ k ∨ (1 ≤ k ∧ k < 6)) ∧ stw st ≤ 8 ∧ 1 ≤ bc ∧ n ≤ bs ∧ X y (pc + 3) L (vr W.1 :: st) (wn W (ea 0 n f)) (bc - 1) (bs - n) Q
      | _ => False)
    | _ => False
  | (69, _, _, _, _) => match st with
    | Sum.inr (Sum.inr (some k)) :: st => (match W.2 k with
      | Sum.inl (0, _, _) => nfz ≤ k ∧ k < W.1 ∧ X y (pc + 3) L (vr k :: st) W bc bs Q
      | _ => False)
    | _ => False
  | (70, _, _, _, _) => match st with
    | [v] => retk (mi y).2.2.2.1 v ∧ Q (some v) W
    | _ => False
  | (71, _, _, _, _) => match st with
    | [Sum.inr (Sum.inl z)] => (mi y).2.2.2.1 = 4 ∧ Q (some (vl z)) W
    | _ => False
  | (72, _, _, _, _) => match st with
    | [Sum.inr (Sum.inr r)] => (mi y).2.2.2.1 = 5 ∧ Q (some (vo r)) W
    | _ => False
  | (73, _, _, _, _) => match st with
    | [] => (mi y).2.2.2.1 = 6 ∧ Q none W
    | _ => False
  | _ => False
