def PK (o x : Nat) (r : AR) : Prop := match r with
  | (1, c, k, z) => (c < 13 ∧ k < (tcx c).2 ∧ Cond.fieldLink (cnm o) x ((tcx c).1 k).1 ((tcx c).1 k).2.1 ((tcx c).1 k).2.2.1 ∈ wsu ∧ fkz ((tcx c).1 k).2.2.1 = z) ∨ (c = 13 ∧ ((k = 0 ∧ Cond.fieldLink (cnm o) x "java/lang/String" "value" "[B" ∈ wsu) ∨ (k = 1 ∧ Cond.fieldLink (cnm o) x "java/lang/String" "coder" "B" ∈ wsu)))
  | (2, m, _, _) => m < 297 ∧ (Cond.methodLink (cnm o) x (nmy m) ∈ wsu ∨ (kdz m ≠ 1 ∧ ∃ host, (cnm o, x, nmy m, host) ∈ nestM))
  | (3, _, _, _) => Cond.methodLink (cnm o) x Lib.objectInit ∈ wsu
  | (4, _, _, _) => Cond.methodLink (cnm o) x arraycopyName ∈ wsu
  | (5, _, _, _) => Cond.methodLink (cnm o) x ⟨"[I", "clone", "()Ljava/lang/Object;"⟩ ∈ wsu
  | (6, c, _, _) => (c < 13 ∧ Cond.classLink (cnm o) x (cnm c) ∈ wsu) ∨ (c = 100 ∧ Cond.classLink (cnm o) x "[I" ∈ wsu)
  | (7, _, _, z) => in32 z ∧ Cond.constant (cnm o) x (Int32.ofInt z) ∈ wsu
  | (8, _, _, z) => in64 z ∧ Cond.constantLong (cnm o) x (Int64.ofInt z) ∈ wsu
  | (9, a, _, _) => a < nfz ∧ ∃ tx, (cnm o, x, tx, a) ∈ strl
  | (10, _, _, z) => z = 1 ∧ Cond.fieldLink (cnm o) x "java/lang/String" "COMPACT_STRINGS" "Z" ∈ wsu
  | (11, a, _, _) => a < nfz ∧ ∃ C n, (C, n, a) ∈ statl ∧ (Cond.fieldLink (cnm o) x C n "[I" ∈ wsu ∨ ∃ host, (cnm o, x, C, n, "[I", host) ∈ nestF)
  | (12, _, _, _) => Cond.fieldLink (cnm o) x "jdk/internal/util/Preconditions" "SIOOBE_FORMATTER" "Ljava/util/function/BiFunction;" ∈ wsu
  | _ => True
theorem pk_0_3 : PK 0 3 (3, 0, 0, 0) := tm2 (List.mem_of_getElem? (i := 197) (by decide +kernel)) (by decide +kernel)
theorem pk_0_9 : PK 0 9 (1, 0, 0, 2) := Or.inl ⟨by decide, by decide +kernel, tm2 (List.mem_of_getElem? (i := 198) (by decide +kernel)) (by decide +kernel), by decide +kernel⟩
theorem pk_0_15 : PK 0 15 (2, 26, 0, 0) := ⟨by decide, Or.inl (tm5 (List.mem_of_getElem? (i := 122) (by decide +kernel)) (by decide +kernel))⟩
theorem pk_0_21 : PK 0 21 (1, 7, 0, 0) := Or.inl ⟨by decide, by decide +kernel, tm1 (List.mem_of_getElem? (i := 86) (by decide +kernel)) (by decide +kernel), by decide +kernel⟩
theorem pk_0_27 : PK 0 27 (1, 7, 5, 2) := Or.inl ⟨by decide, by decide +kernel, tm1 (List.mem_of_getElem? (i := 101) (by decide +kernel)) (by decide +kernel), by decide +kernel⟩
theorem pk_0_31 : PK 0 31 (2, 144, 0, 0) := ⟨by decide, Or.inl (tm5 (List.mem_of_getElem? (i := 123) (by decide +kernel)) (by decide +kernel))⟩
theorem pk_0_35 : PK 0 35 (2, 146, 0, 0) := ⟨by decide, Or.inl (tm5 (List.mem_of_getElem? (i := 131) (by decide +kernel)) (by decide +kernel))⟩
theorem pk_0_38 : PK 0 38 (2, 145, 0, 0) := ⟨by decide, Or.inl (tm5 (List.mem_of_getElem? (i := 155) (by decide +kernel)) (by decide +kernel))⟩
set_option maxRecDepth 100000 in
theorem pks_0 : ∀ q ∈ pl_0, PK 0 q.1 q.2 := List.forall_mem_cons.mpr ⟨pk_0_3, List.forall_mem_cons.mpr ⟨pk_0_9, List.forall_mem_cons.mpr ⟨pk_0_15, List.forall_mem_cons.mpr ⟨pk_0_21, List.forall_mem_cons.mpr ⟨pk_0_27, List.forall_mem_cons.mpr ⟨pk_0_31, List.forall_mem_cons.mpr ⟨pk_0_35, List.forall_mem_cons.mpr ⟨pk_0_38, fun _ h => absurd h List.not_mem_nil⟩⟩⟩⟩⟩⟩⟩⟩
theorem pk_1_3 : PK 1 3 (3, 0, 0, 0) := tm1 (List.mem_of_getElem? (i := 36) (by decide +kernel)) (by decide +kernel)
theorem pk_1_9 : PK 1 9 (1, 1, 0, 2) := Or.inl ⟨by decide, by decide +kernel, tm1 (List.mem_of_getElem? (i := 40) (by decide +kernel)) (by decide +kernel), by decide +kernel⟩
theorem pk_1_15 : PK 1 15 (1, 1, 1, 2) := Or.inl ⟨by decide, by decide +kernel, tm1 (List.mem_of_getElem? (i := 43) (by decide +kernel)) (by decide +kernel), by decide +kernel⟩
theorem pk_1_18 : PK 1 18 (1, 1, 2, 2) := Or.inl ⟨by decide, by decide +kernel, tm1 (List.mem_of_getElem? (i := 46) (by decide +kernel)) (by decide +kernel), by decide +kernel⟩
theorem pk_1_21 : PK 1 21 (1, 1, 3, 2) := Or.inl ⟨by decide, by decide +kernel, tm1 (List.mem_of_getElem? (i := 48) (by decide +kernel)) (by decide +kernel), by decide +kernel⟩
theorem pk_1_24 : PK 1 24 (1, 1, 4, 2) := Or.inl ⟨by decide, by decide +kernel, tm1 (List.mem_of_getElem? (i := 50) (by decide +kernel)) (by decide +kernel), by decide +kernel⟩
theorem pk_1_27 : PK 1 27 (1, 1, 5, 2) := Or.inl ⟨by decide, by decide +kernel, tm1 (List.mem_of_getElem? (i := 52) (by decide +kernel)) (by decide +kernel), by decide +kernel⟩
theorem pk_1_30 : PK 1 30 (1, 1, 6, 2) := Or.inl ⟨by decide, by decide +kernel, tm1 (List.mem_of_getElem? (i := 54) (by decide +kernel)) (by decide +kernel), by decide +kernel⟩
theorem pk_1_33 : PK 1 33 (2, 2, 0, 0) := ⟨by decide, Or.inl (tm1 (List.mem_of_getElem? (i := 37) (by decide +kernel)) (by decide +kernel))⟩
set_option maxRecDepth 100000 in
theorem pks_1 : ∀ q ∈ pl_1, PK 1 q.1 q.2 := List.forall_mem_cons.mpr ⟨pk_1_3, List.forall_mem_cons.mpr ⟨pk_1_9, List.forall_mem_cons.mpr ⟨pk_1_15, List.forall_mem_cons.mpr ⟨pk_1_18, List.forall_mem_cons.mpr ⟨pk_1_21, List.forall_mem_cons.mpr ⟨pk_1_24, List.forall_mem_cons.mpr ⟨pk_1_27, List.forall_mem_cons.mpr ⟨pk_1_30, List.forall_mem_cons.mpr ⟨pk_1_33, fun _ h => absurd h List.not_mem_nil⟩⟩⟩⟩⟩⟩⟩⟩⟩
theorem pk_2_3 : PK 2 3 (3, 0, 0, 0) := tm1 (List.mem_of_getElem? (i := 78) (by decide +kernel)) (by decide +kernel)
theorem pk_2_9 : PK 2 9 (1, 2, 0, 0) := Or.inl ⟨by decide, by decide +kernel, tm1 (List.mem_of_getElem? (i := 125) (by decide +kernel)) (by decide +kernel), by decide +kernel⟩
theorem pk_2_15 : PK 2 15 (1, 2, 1, 0) := Or.inl ⟨by decide, by decide +kernel, tm1 (List.mem_of_getElem? (i := 128) (by decide +kernel)) (by decide +kernel), by decide +kernel⟩
theorem pk_2_18 : PK 2 18 (1, 2, 2, 0) := Or.inl ⟨by decide, by decide +kernel, tm1 (List.mem_of_getElem? (i := 130) (by decide +kernel)) (by decide +kernel), by decide +kernel⟩
theorem pk_2_21 : PK 2 21 (1, 2, 3, 0) := Or.inl ⟨by decide, by decide +kernel, tm1 (List.mem_of_getElem? (i := 132) (by decide +kernel)) (by decide +kernel), by decide +kernel⟩
theorem pk_2_24 : PK 2 24 (1, 2, 4, 0) := Or.inl ⟨by decide, by decide +kernel, tm1 (List.mem_of_getElem? (i := 134) (by decide +kernel)) (by decide +kernel), by decide +kernel⟩
theorem pk_2_27 : PK 2 27 (1, 2, 5, 0) := Or.inl ⟨by decide, by decide +kernel, tm1 (List.mem_of_getElem? (i := 136) (by decide +kernel)) (by decide +kernel), by decide +kernel⟩
theorem pk_2_30 : PK 2 30 (1, 2, 6, 2) := Or.inl ⟨by decide, by decide +kernel, tm1 (List.mem_of_getElem? (i := 140) (by decide +kernel)) (by decide +kernel), by decide +kernel⟩
theorem pk_2_34 : PK 2 34 (1, 2, 7, 2) := Or.inl ⟨by decide, by decide +kernel, tm1 (List.mem_of_getElem? (i := 143) (by decide +kernel)) (by decide +kernel), by decide +kernel⟩
theorem pk_2_37 : PK 2 37 (1, 2, 8, 2) := Or.inl ⟨by decide, by decide +kernel, tm1 (List.mem_of_getElem? (i := 146) (by decide +kernel)) (by decide +kernel), by decide +kernel⟩
theorem pk_2_40 : PK 2 40 (1, 2, 9, 2) := Or.inl ⟨by decide, by decide +kernel, tm1 (List.mem_of_getElem? (i := 149) (by decide +kernel)) (by decide +kernel), by decide +kernel⟩
theorem pk_2_43 : PK 2 43 (1, 2, 10, 2) := Or.inl ⟨by decide, by decide +kernel, tm1 (List.mem_of_getElem? (i := 152) (by decide +kernel)) (by decide +kernel), by decide +kernel⟩
theorem pk_2_46 : PK 2 46 (1, 2, 11, 2) := Or.inl ⟨by decide, by decide +kernel, tm1 (List.mem_of_getElem? (i := 155) (by decide +kernel)) (by decide +kernel), by decide +kernel⟩
theorem pk_2_49 : PK 2 49 (1, 2, 12, 2) := Or.inl ⟨by decide, by decide +kernel, tm1 (List.mem_of_getElem? (i := 158) (by decide +kernel)) (by decide +kernel), by decide +kernel⟩
theorem pk_2_52 : PK 2 52 (1, 2, 13, 2) := Or.inl ⟨by decide, by decide +kernel, tm1 (List.mem_of_getElem? (i := 161) (by decide +kernel)) (by decide +kernel), by decide +kernel⟩
theorem pk_2_55 : PK 2 55 (6, 7, 0, 0) := Or.inl ⟨by decide, tm1 (List.mem_of_getElem? (i := 79) (by decide +kernel)) (by decide +kernel)⟩
theorem pk_2_57 : PK 2 57 (2, 4, 0, 0) := ⟨by decide, Or.inr ⟨by decide +kernel, "CrackedMud", List.mem_of_getElem? (i := 1) (by decide +kernel)⟩⟩
theorem pk_2_58 : PK 2 58 (1, 2, 14, 2) := Or.inl ⟨by decide, by decide +kernel, tm1 (List.mem_of_getElem? (i := 164) (by decide +kernel)) (by decide +kernel), by decide +kernel⟩
theorem pk_2_62 : PK 2 62 (2, 2, 0, 0) := ⟨by decide, Or.inl (tm3 (List.mem_of_getElem? (i := 28) (by decide +kernel)) (by decide +kernel))⟩
theorem pk_2_68 : PK 2 68 (1, 7, 0, 0) := Or.inl ⟨by decide, by decide +kernel, tm1 (List.mem_of_getElem? (i := 87) (by decide +kernel)) (by decide +kernel), by decide +kernel⟩
theorem pk_2_71 : PK 2 71 (2, 16, 0, 0) := ⟨by decide, Or.inl (tm3 (List.mem_of_getElem? (i := 29) (by decide +kernel)) (by decide +kernel))⟩
theorem pk_2_74 : PK 2 74 (2, 17, 0, 0) := ⟨by decide, Or.inl (tm3 (List.mem_of_getElem? (i := 33) (by decide +kernel)) (by decide +kernel))⟩
theorem pk_2_80 : PK 2 80 (8, 0, 0, 1103515245) := ⟨⟨by decide, by decide⟩, tm3 (List.mem_of_getElem? (i := 36) (by decide +kernel)) (by decide +kernel)⟩
theorem pk_2_82 : PK 2 82 (8, 0, 0, 12345) := ⟨⟨by decide, by decide⟩, tm3 (List.mem_of_getElem? (i := 37) (by decide +kernel)) (by decide +kernel)⟩
theorem pk_2_84 : PK 2 84 (8, 0, 0, 2147483648) := ⟨⟨by decide, by decide⟩, tm3 (List.mem_of_getElem? (i := 38) (by decide +kernel)) (by decide +kernel)⟩
theorem pk_2_86 : PK 2 86 (8, 0, 0, 65536) := ⟨⟨by decide, by decide⟩, tm3 (List.mem_of_getElem? (i := 39) (by decide +kernel)) (by decide +kernel)⟩
theorem pk_2_88 : PK 2 88 (4, 0, 0, 0) := tm5 (List.mem_of_getElem? (i := 168) (by decide +kernel)) (by decide +kernel)
theorem pk_2_94 : PK 2 94 (2, 155, 0, 0) := ⟨by decide, Or.inl (tm5 (List.mem_of_getElem? (i := 169) (by decide +kernel)) (by decide +kernel))⟩
theorem pk_2_98 : PK 2 98 (2, 30, 0, 0) := ⟨by decide, Or.inl (tm3 (List.mem_of_getElem? (i := 132) (by decide +kernel)) (by decide +kernel))⟩
theorem pk_2_102 : PK 2 102 (1, 7, 2, 2) := Or.inl ⟨by decide, by decide +kernel, tm1 (List.mem_of_getElem? (i := 93) (by decide +kernel)) (by decide +kernel), by decide +kernel⟩
theorem pk_2_105 : PK 2 105 (2, 123, 0, 0) := ⟨by decide, Or.inl (tm5 (List.mem_of_getElem? (i := 37) (by decide +kernel)) (by decide +kernel))⟩
set_option maxRecDepth 100000 in
theorem pks_2 : ∀ q ∈ pl_2, PK 2 q.1 q.2 := List.forall_mem_cons.mpr ⟨pk_2_3, List.forall_mem_cons.mpr ⟨pk_2_9, List.forall_mem_cons.mpr ⟨pk_2_15, List.forall_mem_cons.mpr ⟨pk_2_18, List.forall_mem_cons.mpr ⟨pk_2_21, List.forall_mem_cons.mpr ⟨pk_2_24, List.forall_mem_cons.mpr ⟨pk_2_27, List.forall_mem_cons.mpr ⟨pk_2_30, List.forall_mem_cons.mpr ⟨pk_2_34, List.forall_mem_cons.mpr ⟨pk_2_37, List.forall_mem_cons.mpr ⟨pk_2_40, List.forall_mem_cons.mpr ⟨pk_2_43, List.forall_mem_cons.mpr ⟨pk_2_46, List.forall_mem_cons.mpr ⟨pk_2_49, List.forall_mem_cons.mpr ⟨pk_2_52, List.forall_mem_cons.mpr ⟨pk_2_55, List.forall_mem_cons.mpr ⟨pk_2_57, List.forall_mem_cons.mpr ⟨pk_2_58, List.forall_mem_cons.mpr ⟨pk_2_62, List.forall_mem_cons.mpr ⟨pk_2_68, List.forall_mem_cons.mpr ⟨pk_2_71, List.forall_mem_cons.mpr ⟨pk_2_74, List.forall_mem_cons.mpr ⟨pk_2_80, List.forall_mem_cons.mpr ⟨pk_2_82, List.forall_mem_cons.mpr ⟨pk_2_84, List.forall_mem_cons.mpr ⟨pk_2_86, List.forall_mem_cons.mpr ⟨pk_2_88, List.forall_mem_cons.mpr ⟨pk_2_94, List.forall_mem_cons.mpr ⟨pk_2_98, List.forall_mem_cons.mpr ⟨pk_2_102, List.forall_mem_cons.mpr ⟨pk_2_105, fun _ h => absurd h List.not_mem_nil⟩⟩⟩⟩⟩⟩⟩⟩⟩⟩⟩⟩⟩⟩⟩⟩⟩⟩⟩⟩⟩⟩⟩⟩⟩⟩⟩⟩⟩⟩⟩
theorem pk_3_3 : PK 3 3 (3, 0, 0, 0) := tm2 (List.mem_of_getElem? (i := 156) (by decide +kernel)) (by decide +kernel)
theorem pk_3_9 : PK 3 9 (1, 3, 0, 2) := Or.inl ⟨by decide, by decide +kernel, tm2 (List.mem_of_getElem? (i := 157) (by decide +kernel)) (by decide +kernel), by decide +kernel⟩
theorem pk_3_15 : PK 3 15 (1, 3, 1, 2) := Or.inl ⟨by decide, by decide +kernel, tm2 (List.mem_of_getElem? (i := 159) (by decide +kernel)) (by decide +kernel), by decide +kernel⟩
theorem pk_3_18 : PK 3 18 (1, 3, 2, 2) := Or.inl ⟨by decide, by decide +kernel, tm2 (List.mem_of_getElem? (i := 161) (by decide +kernel)) (by decide +kernel), by decide +kernel⟩
theorem pk_3_22 : PK 3 22 (1, 3, 3, 2) := Or.inl ⟨by decide, by decide +kernel, tm2 (List.mem_of_getElem? (i := 163) (by decide +kernel)) (by decide +kernel), by decide +kernel⟩
theorem pk_3_25 : PK 3 25 (1, 3, 4, 0) := Or.inl ⟨by decide, by decide +kernel, tm2 (List.mem_of_getElem? (i := 165) (by decide +kernel)) (by decide +kernel), by decide +kernel⟩
theorem pk_3_29 : PK 3 29 (1, 3, 5, 0) := Or.inl ⟨by decide, by decide +kernel, tm2 (List.mem_of_getElem? (i := 167) (by decide +kernel)) (by decide +kernel), by decide +kernel⟩
theorem pk_3_32 : PK 3 32 (1, 3, 7, 2) := Or.inl ⟨by decide, by decide +kernel, tm2 (List.mem_of_getElem? (i := 170) (by decide +kernel)) (by decide +kernel), by decide +kernel⟩
theorem pk_3_36 : PK 3 36 (1, 3, 8, 2) := Or.inl ⟨by decide, by decide +kernel, tm2 (List.mem_of_getElem? (i := 171) (by decide +kernel)) (by decide +kernel), by decide +kernel⟩
theorem pk_3_39 : PK 3 39 (1, 3, 6, 2) := Or.inl ⟨by decide, by decide +kernel, tm2 (List.mem_of_getElem? (i := 169) (by decide +kernel)) (by decide +kernel), by decide +kernel⟩
theorem pk_3_43 : PK 3 43 (2, 2, 0, 0) := ⟨by decide, Or.inl (tm3 (List.mem_of_getElem? (i := 70) (by decide +kernel)) (by decide +kernel))⟩
theorem pk_3_49 : PK 3 49 (2, 26, 0, 0) := ⟨by decide, Or.inl (tm3 (List.mem_of_getElem? (i := 71) (by decide +kernel)) (by decide +kernel))⟩
theorem pk_3_52 : PK 3 52 (2, 27, 0, 0) := ⟨by decide, Or.inl (tm3 (List.mem_of_getElem? (i := 74) (by decide +kernel)) (by decide +kernel))⟩
theorem pk_3_56 : PK 3 56 (2, 32, 0, 0) := ⟨by decide, Or.inl (tm3 (List.mem_of_getElem? (i := 92) (by decide +kernel)) (by decide +kernel))⟩
theorem pk_3_60 : PK 3 60 (2, 33, 0, 0) := ⟨by decide, Or.inl (tm3 (List.mem_of_getElem? (i := 96) (by decide +kernel)) (by decide +kernel))⟩
theorem pk_3_63 : PK 3 63 (2, 37, 0, 0) := ⟨by decide, Or.inl (tm3 (List.mem_of_getElem? (i := 114) (by decide +kernel)) (by decide +kernel))⟩
theorem pk_3_66 : PK 3 66 (2, 41, 0, 0) := ⟨by decide, Or.inl (tm3 (List.mem_of_getElem? (i := 128) (by decide +kernel)) (by decide +kernel))⟩
theorem pk_3_72 : PK 3 72 (1, 2, 14, 2) := Or.inl ⟨by decide, by decide +kernel, tm1 (List.mem_of_getElem? (i := 165) (by decide +kernel)) (by decide +kernel), by decide +kernel⟩
theorem pk_3_76 : PK 3 76 (2, 42, 0, 0) := ⟨by decide, Or.inl (tm3 (List.mem_of_getElem? (i := 133) (by decide +kernel)) (by decide +kernel))⟩
theorem pk_3_81 : PK 3 81 (1, 2, 5, 0) := Or.inl ⟨by decide, by decide +kernel, tm1 (List.mem_of_getElem? (i := 137) (by decide +kernel)) (by decide +kernel), by decide +kernel⟩
theorem pk_3_84 : PK 3 84 (2, 28, 0, 0) := ⟨by decide, Or.inl (tm3 (List.mem_of_getElem? (i := 78) (by decide +kernel)) (by decide +kernel))⟩
theorem pk_3_90 : PK 3 90 (2, 29, 0, 0) := ⟨by decide, Or.inl (tm3 (List.mem_of_getElem? (i := 81) (by decide +kernel)) (by decide +kernel))⟩
theorem pk_3_94 : PK 3 94 (2, 30, 0, 0) := ⟨by decide, Or.inl (tm3 (List.mem_of_getElem? (i := 84) (by decide +kernel)) (by decide +kernel))⟩
theorem pk_3_97 : PK 3 97 (2, 31, 0, 0) := ⟨by decide, Or.inl (tm3 (List.mem_of_getElem? (i := 88) (by decide +kernel)) (by decide +kernel))⟩
theorem pk_3_100 : PK 3 100 (1, 1, 0, 2) := Or.inl ⟨by decide, by decide +kernel, tm1 (List.mem_of_getElem? (i := 41) (by decide +kernel)) (by decide +kernel), by decide +kernel⟩
theorem pk_3_103 : PK 3 103 (1, 1, 1, 2) := Or.inl ⟨by decide, by decide +kernel, tm1 (List.mem_of_getElem? (i := 44) (by decide +kernel)) (by decide +kernel), by decide +kernel⟩
theorem pk_3_106 : PK 3 106 (2, 35, 0, 0) := ⟨by decide, Or.inl (tm3 (List.mem_of_getElem? (i := 104) (by decide +kernel)) (by decide +kernel))⟩
theorem pk_3_112 : PK 3 112 (2, 34, 0, 0) := ⟨by decide, Or.inl (tm3 (List.mem_of_getElem? (i := 100) (by decide +kernel)) (by decide +kernel))⟩
theorem pk_3_116 : PK 3 116 (2, 17, 0, 0) := ⟨by decide, Or.inl (tm3 (List.mem_of_getElem? (i := 110) (by decide +kernel)) (by decide +kernel))⟩
theorem pk_3_121 : PK 3 121 (2, 36, 0, 0) := ⟨by decide, Or.inl (tm3 (List.mem_of_getElem? (i := 111) (by decide +kernel)) (by decide +kernel))⟩
theorem pk_3_124 : PK 3 124 (2, 38, 0, 0) := ⟨by decide, Or.inl (tm3 (List.mem_of_getElem? (i := 118) (by decide +kernel)) (by decide +kernel))⟩
theorem pk_3_127 : PK 3 127 (2, 39, 0, 0) := ⟨by decide, Or.inl (tm3 (List.mem_of_getElem? (i := 121) (by decide +kernel)) (by decide +kernel))⟩
theorem pk_3_131 : PK 3 131 (2, 40, 0, 0) := ⟨by decide, Or.inl (tm3 (List.mem_of_getElem? (i := 125) (by decide +kernel)) (by decide +kernel))⟩
theorem pk_3_134 : PK 3 134 (1, 1, 6, 2) := Or.inl ⟨by decide, by decide +kernel, tm1 (List.mem_of_getElem? (i := 55) (by decide +kernel)) (by decide +kernel), by decide +kernel⟩
set_option maxRecDepth 100000 in
theorem pks_3 : ∀ q ∈ pl_3, PK 3 q.1 q.2 := List.forall_mem_cons.mpr ⟨pk_3_3, List.forall_mem_cons.mpr ⟨pk_3_9, List.forall_mem_cons.mpr ⟨pk_3_15, List.forall_mem_cons.mpr ⟨pk_3_18, List.forall_mem_cons.mpr ⟨pk_3_22, List.forall_mem_cons.mpr ⟨pk_3_25, List.forall_mem_cons.mpr ⟨pk_3_29, List.forall_mem_cons.mpr ⟨pk_3_32, List.forall_mem_cons.mpr ⟨pk_3_36, List.forall_mem_cons.mpr ⟨pk_3_39, List.forall_mem_cons.mpr ⟨pk_3_43, List.forall_mem_cons.mpr ⟨pk_3_49, List.forall_mem_cons.mpr ⟨pk_3_52, List.forall_mem_cons.mpr ⟨pk_3_56, List.forall_mem_cons.mpr ⟨pk_3_60, List.forall_mem_cons.mpr ⟨pk_3_63, List.forall_mem_cons.mpr ⟨pk_3_66, List.forall_mem_cons.mpr ⟨pk_3_72, List.forall_mem_cons.mpr ⟨pk_3_76, List.forall_mem_cons.mpr ⟨pk_3_81, List.forall_mem_cons.mpr ⟨pk_3_84, List.forall_mem_cons.mpr ⟨pk_3_90, List.forall_mem_cons.mpr ⟨pk_3_94, List.forall_mem_cons.mpr ⟨pk_3_97, List.forall_mem_cons.mpr ⟨pk_3_100, List.forall_mem_cons.mpr ⟨pk_3_103, List.forall_mem_cons.mpr ⟨pk_3_106, List.forall_mem_cons.mpr ⟨pk_3_112, List.forall_mem_cons.mpr ⟨pk_3_116, List.forall_mem_cons.mpr ⟨pk_3_121, List.forall_mem_cons.mpr ⟨pk_3_124, List.forall_mem_cons.mpr ⟨pk_3_127, List.forall_mem_cons.mpr ⟨pk_3_131, List.forall_mem_cons.mpr ⟨pk_3_134, fun _ h => absurd h List.not_mem_nil⟩⟩⟩⟩⟩⟩⟩⟩⟩⟩⟩⟩⟩⟩⟩⟩⟩⟩⟩⟩⟩⟩⟩⟩⟩⟩⟩⟩⟩⟩⟩⟩⟩⟩
theorem pk_4_3 : PK 4 3 (3, 0, 0, 0) := tm1 (List.mem_of_getElem? (i := 204) (by decide +kernel)) (by decide +kernel)
theorem pk_4_9 : PK 4 9 (1, 4, 0, 0) := Or.inl ⟨by decide, by decide +kernel, tm1 (List.mem_of_getElem? (i := 206) (by decide +kernel)) (by decide +kernel), by decide +kernel⟩
theorem pk_4_15 : PK 4 15 (1, 4, 1, 2) := Or.inl ⟨by decide, by decide +kernel, tm1 (List.mem_of_getElem? (i := 208) (by decide +kernel)) (by decide +kernel), by decide +kernel⟩
theorem pk_4_19 : PK 4 19 (1, 4, 2, 2) := Or.inl ⟨by decide, by decide +kernel, tm1 (List.mem_of_getElem? (i := 209) (by decide +kernel)) (by decide +kernel), by decide +kernel⟩
theorem pk_4_22 : PK 4 22 (1, 4, 3, 2) := Or.inl ⟨by decide, by decide +kernel, tm1 (List.mem_of_getElem? (i := 211) (by decide +kernel)) (by decide +kernel), by decide +kernel⟩
theorem pk_4_25 : PK 4 25 (2, 2, 0, 0) := ⟨by decide, Or.inl (tm1 (List.mem_of_getElem? (i := 205) (by decide +kernel)) (by decide +kernel))⟩
theorem pk_4_31 : PK 4 31 (4, 0, 0, 0) := tm6 (List.mem_of_getElem? (i := 18) (by decide +kernel)) (by decide +kernel)
theorem pk_4_37 : PK 4 37 (2, 137, 0, 0) := ⟨by decide, Or.inl (tm5 (List.mem_of_getElem? (i := 110) (by decide +kernel)) (by decide +kernel))⟩
theorem pk_4_41 : PK 4 41 (2, 141, 0, 0) := ⟨by decide, Or.inl (tm5 (List.mem_of_getElem? (i := 111) (by decide +kernel)) (by decide +kernel))⟩
set_option maxRecDepth 100000 in
theorem pks_4 : ∀ q ∈ pl_4, PK 4 q.1 q.2 := List.forall_mem_cons.mpr ⟨pk_4_3, List.forall_mem_cons.mpr ⟨pk_4_9, List.forall_mem_cons.mpr ⟨pk_4_15, List.forall_mem_cons.mpr ⟨pk_4_19, List.forall_mem_cons.mpr ⟨pk_4_22, List.forall_mem_cons.mpr ⟨pk_4_25, List.forall_mem_cons.mpr ⟨pk_4_31, List.forall_mem_cons.mpr ⟨pk_4_37, List.forall_mem_cons.mpr ⟨pk_4_41, fun _ h => absurd h List.not_mem_nil⟩⟩⟩⟩⟩⟩⟩⟩⟩
theorem pk_5_3 : PK 5 3 (3, 0, 0, 0) := tm2 (List.mem_of_getElem? (i := 76) (by decide +kernel)) (by decide +kernel)
theorem pk_5_9 : PK 5 9 (1, 5, 0, 2) := Or.inl ⟨by decide, by decide +kernel, tm2 (List.mem_of_getElem? (i := 77) (by decide +kernel)) (by decide +kernel), by decide +kernel⟩
theorem pk_5_15 : PK 5 15 (1, 5, 1, 2) := Or.inl ⟨by decide, by decide +kernel, tm2 (List.mem_of_getElem? (i := 80) (by decide +kernel)) (by decide +kernel), by decide +kernel⟩
theorem pk_5_18 : PK 5 18 (1, 6, 1, 2) := Or.inl ⟨by decide, by decide +kernel, tm2 (List.mem_of_getElem? (i := 111) (by decide +kernel)) (by decide +kernel), by decide +kernel⟩
theorem pk_5_24 : PK 5 24 (1, 6, 2, 2) := Or.inl ⟨by decide, by decide +kernel, tm2 (List.mem_of_getElem? (i := 113) (by decide +kernel)) (by decide +kernel), by decide +kernel⟩
theorem pk_5_27 : PK 5 27 (1, 6, 3, 2) := Or.inl ⟨by decide, by decide +kernel, tm2 (List.mem_of_getElem? (i := 115) (by decide +kernel)) (by decide +kernel), by decide +kernel⟩
theorem pk_5_30 : PK 5 30 (1, 6, 0, 2) := Or.inl ⟨by decide, by decide +kernel, tm2 (List.mem_of_getElem? (i := 109) (by decide +kernel)) (by decide +kernel), by decide +kernel⟩
theorem pk_5_33 : PK 5 33 (2, 52, 0, 0) := ⟨by decide, Or.inl (tm3 (List.mem_of_getElem? (i := 175) (by decide +kernel)) (by decide +kernel))⟩
theorem pk_5_37 : PK 5 37 (2, 53, 0, 0) := ⟨by decide, Or.inl (tm3 (List.mem_of_getElem? (i := 179) (by decide +kernel)) (by decide +kernel))⟩
set_option maxRecDepth 100000 in
theorem pks_5 : ∀ q ∈ pl_5, PK 5 q.1 q.2 := List.forall_mem_cons.mpr ⟨pk_5_3, List.forall_mem_cons.mpr ⟨pk_5_9, List.forall_mem_cons.mpr ⟨pk_5_15, List.forall_mem_cons.mpr ⟨pk_5_18, List.forall_mem_cons.mpr ⟨pk_5_24, List.forall_mem_cons.mpr ⟨pk_5_27, List.forall_mem_cons.mpr ⟨pk_5_30, List.forall_mem_cons.mpr ⟨pk_5_33, List.forall_mem_cons.mpr ⟨pk_5_37, fun _ h => absurd h List.not_mem_nil⟩⟩⟩⟩⟩⟩⟩⟩⟩
theorem pk_6_1 : PK 6 1 (3, 0, 0, 0) := tm2 (List.mem_of_getElem? (i := 107) (by decide +kernel)) (by decide +kernel)
theorem pk_6_7 : PK 6 7 (1, 6, 0, 2) := Or.inl ⟨by decide, by decide +kernel, tm2 (List.mem_of_getElem? (i := 108) (by decide +kernel)) (by decide +kernel), by decide +kernel⟩
theorem pk_6_13 : PK 6 13 (1, 6, 1, 2) := Or.inl ⟨by decide, by decide +kernel, tm2 (List.mem_of_getElem? (i := 110) (by decide +kernel)) (by decide +kernel), by decide +kernel⟩
theorem pk_6_16 : PK 6 16 (1, 6, 2, 2) := Or.inl ⟨by decide, by decide +kernel, tm2 (List.mem_of_getElem? (i := 112) (by decide +kernel)) (by decide +kernel), by decide +kernel⟩
theorem pk_6_19 : PK 6 19 (1, 6, 3, 2) := Or.inl ⟨by decide, by decide +kernel, tm2 (List.mem_of_getElem? (i := 114) (by decide +kernel)) (by decide +kernel), by decide +kernel⟩
theorem pk_6_22 : PK 6 22 (1, 6, 4, 2) := Or.inl ⟨by decide, by decide +kernel, tm2 (List.mem_of_getElem? (i := 116) (by decide +kernel)) (by decide +kernel), by decide +kernel⟩
set_option maxRecDepth 100000 in
theorem pks_6 : ∀ q ∈ pl_6, PK 6 q.1 q.2 := List.forall_mem_cons.mpr ⟨pk_6_1, List.forall_mem_cons.mpr ⟨pk_6_7, List.forall_mem_cons.mpr ⟨pk_6_13, List.forall_mem_cons.mpr ⟨pk_6_16, List.forall_mem_cons.mpr ⟨pk_6_19, List.forall_mem_cons.mpr ⟨pk_6_22, fun _ h => absurd h List.not_mem_nil⟩⟩⟩⟩⟩⟩
theorem pk_7_3 : PK 7 3 (3, 0, 0, 0) := tm1 (List.mem_of_getElem? (i := 84) (by decide +kernel)) (by decide +kernel)
theorem pk_7_9 : PK 7 9 (1, 7, 0, 0) := Or.inl ⟨by decide, by decide +kernel, tm1 (List.mem_of_getElem? (i := 85) (by decide +kernel)) (by decide +kernel), by decide +kernel⟩
theorem pk_7_15 : PK 7 15 (1, 7, 1, 2) := Or.inl ⟨by decide, by decide +kernel, tm1 (List.mem_of_getElem? (i := 90) (by decide +kernel)) (by decide +kernel), by decide +kernel⟩
theorem pk_7_19 : PK 7 19 (1, 7, 2, 2) := Or.inl ⟨by decide, by decide +kernel, tm1 (List.mem_of_getElem? (i := 92) (by decide +kernel)) (by decide +kernel), by decide +kernel⟩
theorem pk_7_22 : PK 7 22 (1, 7, 3, 2) := Or.inl ⟨by decide, by decide +kernel, tm1 (List.mem_of_getElem? (i := 95) (by decide +kernel)) (by decide +kernel), by decide +kernel⟩
theorem pk_7_25 : PK 7 25 (1, 7, 4, 2) := Or.inl ⟨by decide, by decide +kernel, tm1 (List.mem_of_getElem? (i := 97) (by decide +kernel)) (by decide +kernel), by decide +kernel⟩
theorem pk_7_28 : PK 7 28 (1, 7, 5, 2) := Or.inl ⟨by decide, by decide +kernel, tm1 (List.mem_of_getElem? (i := 100) (by decide +kernel)) (by decide +kernel), by decide +kernel⟩
theorem pk_7_31 : PK 7 31 (1, 7, 6, 2) := Or.inl ⟨by decide, by decide +kernel, tm1 (List.mem_of_getElem? (i := 104) (by decide +kernel)) (by decide +kernel), by decide +kernel⟩
theorem pk_7_34 : PK 7 34 (1, 7, 7, 2) := Or.inl ⟨by decide, by decide +kernel, tm1 (List.mem_of_getElem? (i := 106) (by decide +kernel)) (by decide +kernel), by decide +kernel⟩
theorem pk_7_37 : PK 7 37 (4, 0, 0, 0) := tm5 (List.mem_of_getElem? (i := 173) (by decide +kernel)) (by decide +kernel)
set_option maxRecDepth 100000 in
theorem pks_7 : ∀ q ∈ pl_7, PK 7 q.1 q.2 := List.forall_mem_cons.mpr ⟨pk_7_3, List.forall_mem_cons.mpr ⟨pk_7_9, List.forall_mem_cons.mpr ⟨pk_7_15, List.forall_mem_cons.mpr ⟨pk_7_19, List.forall_mem_cons.mpr ⟨pk_7_22, List.forall_mem_cons.mpr ⟨pk_7_25, List.forall_mem_cons.mpr ⟨pk_7_28, List.forall_mem_cons.mpr ⟨pk_7_31, List.forall_mem_cons.mpr ⟨pk_7_34, List.forall_mem_cons.mpr ⟨pk_7_37, fun _ h => absurd h List.not_mem_nil⟩⟩⟩⟩⟩⟩⟩⟩⟩⟩
theorem pk_8_3 : PK 8 3 (3, 0, 0, 0) := tm1 (List.mem_of_getElem? (i := 237) (by decide +kernel)) (by decide +kernel)
theorem pk_8_9 : PK 8 9 (1, 8, 0, 0) := Or.inl ⟨by decide, by decide +kernel, tm1 (List.mem_of_getElem? (i := 238) (by decide +kernel)) (by decide +kernel), by decide +kernel⟩
theorem pk_8_15 : PK 8 15 (1, 8, 1, 0) := Or.inl ⟨by decide, by decide +kernel, tm2 (List.mem_of_getElem? (i := 0) (by decide +kernel)) (by decide +kernel), by decide +kernel⟩
theorem pk_8_18 : PK 8 18 (1, 8, 2, 0) := Or.inl ⟨by decide, by decide +kernel, tm2 (List.mem_of_getElem? (i := 2) (by decide +kernel)) (by decide +kernel), by decide +kernel⟩
theorem pk_8_21 : PK 8 21 (1, 8, 4, 0) := Or.inl ⟨by decide, by decide +kernel, tm2 (List.mem_of_getElem? (i := 5) (by decide +kernel)) (by decide +kernel), by decide +kernel⟩
theorem pk_8_24 : PK 8 24 (1, 8, 5, 0) := Or.inl ⟨by decide, by decide +kernel, tm2 (List.mem_of_getElem? (i := 6) (by decide +kernel)) (by decide +kernel), by decide +kernel⟩
theorem pk_8_27 : PK 8 27 (1, 8, 3, 2) := Or.inl ⟨by decide, by decide +kernel, tm2 (List.mem_of_getElem? (i := 4) (by decide +kernel)) (by decide +kernel), by decide +kernel⟩
theorem pk_8_31 : PK 8 31 (2, 36, 0, 0) := ⟨by decide, Or.inl (tm3 (List.mem_of_getElem? (i := 222) (by decide +kernel)) (by decide +kernel))⟩
theorem pk_8_37 : PK 8 37 (2, 65, 0, 0) := ⟨by decide, Or.inl (tm3 (List.mem_of_getElem? (i := 227) (by decide +kernel)) (by decide +kernel))⟩
theorem pk_8_41 : PK 8 41 (2, 66, 0, 0) := ⟨by decide, Or.inl (tm3 (List.mem_of_getElem? (i := 231) (by decide +kernel)) (by decide +kernel))⟩
theorem pk_8_44 : PK 8 44 (2, 67, 0, 0) := ⟨by decide, Or.inl (tm3 (List.mem_of_getElem? (i := 235) (by decide +kernel)) (by decide +kernel))⟩
theorem pk_8_47 : PK 8 47 (2, 68, 0, 0) := ⟨by decide, Or.inl (tm3 (List.mem_of_getElem? (i := 239) (by decide +kernel)) (by decide +kernel))⟩
theorem pk_8_50 : PK 8 50 (2, 82, 0, 0) := ⟨by decide, Or.inl (tm4 (List.mem_of_getElem? (i := 88) (by decide +kernel)) (by decide +kernel))⟩
theorem pk_8_53 : PK 8 53 (2, 69, 0, 0) := ⟨by decide, Or.inl (tm4 (List.mem_of_getElem? (i := 3) (by decide +kernel)) (by decide +kernel))⟩
theorem pk_8_57 : PK 8 57 (2, 70, 0, 0) := ⟨by decide, Or.inl (tm4 (List.mem_of_getElem? (i := 36) (by decide +kernel)) (by decide +kernel))⟩
theorem pk_8_61 : PK 8 61 (2, 71, 0, 0) := ⟨by decide, Or.inl (tm4 (List.mem_of_getElem? (i := 40) (by decide +kernel)) (by decide +kernel))⟩
theorem pk_8_66 : PK 8 66 (2, 73, 0, 0) := ⟨by decide, Or.inl (tm4 (List.mem_of_getElem? (i := 50) (by decide +kernel)) (by decide +kernel))⟩
theorem pk_8_70 : PK 8 70 (9, 6, 0, 0) := ⟨by decide, "notch", List.mem_of_getElem? (i := 0) (by decide +kernel)⟩
theorem pk_8_72 : PK 8 72 (9, 7, 0, 0) := ⟨by decide, "heal", List.mem_of_getElem? (i := 1) (by decide +kernel)⟩
theorem pk_8_74 : PK 8 74 (9, 8, 0, 0) := ⟨by decide, "scar", List.mem_of_getElem? (i := 2) (by decide +kernel)⟩
theorem pk_8_76 : PK 8 76 (9, 9, 0, 0) := ⟨by decide, "let", List.mem_of_getElem? (i := 3) (by decide +kernel)⟩
theorem pk_8_78 : PK 8 78 (9, 10, 0, 0) := ⟨by decide, "most", List.mem_of_getElem? (i := 4) (by decide +kernel)⟩
theorem pk_8_80 : PK 8 80 (9, 11, 0, 0) := ⟨by decide, "deepen", List.mem_of_getElem? (i := 5) (by decide +kernel)⟩
theorem pk_8_82 : PK 8 82 (9, 12, 0, 0) := ⟨by decide, "dry", List.mem_of_getElem? (i := 6) (by decide +kernel)⟩
theorem pk_8_84 : PK 8 84 (9, 13, 0, 0) := ⟨by decide, "tear", List.mem_of_getElem? (i := 7) (by decide +kernel)⟩
theorem pk_8_86 : PK 8 86 (9, 14, 0, 0) := ⟨by decide, "want", List.mem_of_getElem? (i := 8) (by decide +kernel)⟩
theorem pk_8_88 : PK 8 88 (9, 15, 0, 0) := ⟨by decide, "not", List.mem_of_getElem? (i := 9) (by decide +kernel)⟩
theorem pk_8_90 : PK 8 90 (9, 16, 0, 0) := ⟨by decide, "if", List.mem_of_getElem? (i := 10) (by decide +kernel)⟩
theorem pk_8_92 : PK 8 92 (9, 17, 0, 0) := ⟨by decide, "and", List.mem_of_getElem? (i := 11) (by decide +kernel)⟩
theorem pk_8_94 : PK 8 94 (9, 18, 0, 0) := ⟨by decide, "or", List.mem_of_getElem? (i := 12) (by decide +kernel)⟩
theorem pk_8_96 : PK 8 96 (9, 19, 0, 0) := ⟨by decide, "x", List.mem_of_getElem? (i := 13) (by decide +kernel)⟩
theorem pk_8_98 : PK 8 98 (9, 20, 0, 0) := ⟨by decide, "y", List.mem_of_getElem? (i := 14) (by decide +kernel)⟩
theorem pk_8_100 : PK 8 100 (9, 21, 0, 0) := ⟨by decide, "wet", List.mem_of_getElem? (i := 15) (by decide +kernel)⟩
theorem pk_8_102 : PK 8 102 (9, 22, 0, 0) := ⟨by decide, "shade", List.mem_of_getElem? (i := 16) (by decide +kernel)⟩
theorem pk_8_104 : PK 8 104 (9, 23, 0, 0) := ⟨by decide, "salt", List.mem_of_getElem? (i := 17) (by decide +kernel)⟩
theorem pk_8_106 : PK 8 106 (9, 24, 0, 0) := ⟨by decide, "way", List.mem_of_getElem? (i := 18) (by decide +kernel)⟩
theorem pk_8_108 : PK 8 108 (9, 25, 0, 0) := ⟨by decide, "tick", List.mem_of_getElem? (i := 19) (by decide +kernel)⟩
theorem pk_8_110 : PK 8 110 (9, 26, 0, 0) := ⟨by decide, "rooms", List.mem_of_getElem? (i := 20) (by decide +kernel)⟩
theorem pk_8_112 : PK 8 112 (9, 27, 0, 0) := ⟨by decide, "tees", List.mem_of_getElem? (i := 21) (by decide +kernel)⟩
theorem pk_8_114 : PK 8 114 (9, 28, 0, 0) := ⟨by decide, "crosses", List.mem_of_getElem? (i := 22) (by decide +kernel)⟩
theorem pk_8_116 : PK 8 116 (9, 29, 0, 0) := ⟨by decide, "turns", List.mem_of_getElem? (i := 23) (by decide +kernel)⟩
theorem pk_8_118 : PK 8 118 (9, 30, 0, 0) := ⟨by decide, "ends", List.mem_of_getElem? (i := 24) (by decide +kernel)⟩
theorem pk_8_120 : PK 8 120 (9, 31, 0, 0) := ⟨by decide, "torn", List.mem_of_getElem? (i := 25) (by decide +kernel)⟩
theorem pk_8_122 : PK 8 122 (9, 32, 0, 0) := ⟨by decide, "tears", List.mem_of_getElem? (i := 26) (by decide +kernel)⟩
theorem pk_8_124 : PK 8 124 (9, 33, 0, 0) := ⟨by decide, "sides", List.mem_of_getElem? (i := 27) (by decide +kernel)⟩
theorem pk_8_126 : PK 8 126 (9, 34, 0, 0) := ⟨by decide, "least", List.mem_of_getElem? (i := 28) (by decide +kernel)⟩
theorem pk_8_128 : PK 8 128 (9, 35, 0, 0) := ⟨by decide, "greatest", List.mem_of_getElem? (i := 29) (by decide +kernel)⟩
set_option maxRecDepth 100000 in
theorem pks_8 : ∀ q ∈ pl_8, PK 8 q.1 q.2 := List.forall_mem_cons.mpr ⟨pk_8_3, List.forall_mem_cons.mpr ⟨pk_8_9, List.forall_mem_cons.mpr ⟨pk_8_15, List.forall_mem_cons.mpr ⟨pk_8_18, List.forall_mem_cons.mpr ⟨pk_8_21, List.forall_mem_cons.mpr ⟨pk_8_24, List.forall_mem_cons.mpr ⟨pk_8_27, List.forall_mem_cons.mpr ⟨pk_8_31, List.forall_mem_cons.mpr ⟨pk_8_37, List.forall_mem_cons.mpr ⟨pk_8_41, List.forall_mem_cons.mpr ⟨pk_8_44, List.forall_mem_cons.mpr ⟨pk_8_47, List.forall_mem_cons.mpr ⟨pk_8_50, List.forall_mem_cons.mpr ⟨pk_8_53, List.forall_mem_cons.mpr ⟨pk_8_57, List.forall_mem_cons.mpr ⟨pk_8_61, List.forall_mem_cons.mpr ⟨pk_8_66, List.forall_mem_cons.mpr ⟨pk_8_70, List.forall_mem_cons.mpr ⟨pk_8_72, List.forall_mem_cons.mpr ⟨pk_8_74, List.forall_mem_cons.mpr ⟨pk_8_76, List.forall_mem_cons.mpr ⟨pk_8_78, List.forall_mem_cons.mpr ⟨pk_8_80, List.forall_mem_cons.mpr ⟨pk_8_82, List.forall_mem_cons.mpr ⟨pk_8_84, List.forall_mem_cons.mpr ⟨pk_8_86, List.forall_mem_cons.mpr ⟨pk_8_88, List.forall_mem_cons.mpr ⟨pk_8_90, List.forall_mem_cons.mpr ⟨pk_8_92, List.forall_mem_cons.mpr ⟨pk_8_94, List.forall_mem_cons.mpr ⟨pk_8_96, List.forall_mem_cons.mpr ⟨pk_8_98, List.forall_mem_cons.mpr ⟨pk_8_100, List.forall_mem_cons.mpr ⟨pk_8_102, List.forall_mem_cons.mpr ⟨pk_8_104, List.forall_mem_cons.mpr ⟨pk_8_106, List.forall_mem_cons.mpr ⟨pk_8_108, List.forall_mem_cons.mpr ⟨pk_8_110, List.forall_mem_cons.mpr ⟨pk_8_112, List.forall_mem_cons.mpr ⟨pk_8_114, List.forall_mem_cons.mpr ⟨pk_8_116, List.forall_mem_cons.mpr ⟨pk_8_118, List.forall_mem_cons.mpr ⟨pk_8_120, List.forall_mem_cons.mpr ⟨pk_8_122, List.forall_mem_cons.mpr ⟨pk_8_124, List.forall_mem_cons.mpr ⟨pk_8_126, List.forall_mem_cons.mpr ⟨pk_8_128, fun _ h => absurd h List.not_mem_nil⟩⟩⟩⟩⟩⟩⟩⟩⟩⟩⟩⟩⟩⟩⟩⟩⟩⟩⟩⟩⟩⟩⟩⟩⟩⟩⟩⟩⟩⟩⟩⟩⟩⟩⟩⟩⟩⟩⟩⟩⟩⟩⟩⟩⟩⟩⟩
theorem pk_9_3 : PK 9 3 (3, 0, 0, 0) := tm1 (List.mem_of_getElem? (i := 231) (by decide +kernel)) (by decide +kernel)
theorem pk_9_9 : PK 9 9 (1, 9, 0, 0) := Or.inl ⟨by decide, by decide +kernel, tm2 (List.mem_of_getElem? (i := 21) (by decide +kernel)) (by decide +kernel), by decide +kernel⟩
theorem pk_9_15 : PK 9 15 (1, 9, 2, 1) := Or.inl ⟨by decide, by decide +kernel, tm2 (List.mem_of_getElem? (i := 24) (by decide +kernel)) (by decide +kernel), by decide +kernel⟩
theorem pk_9_19 : PK 9 19 (1, 9, 3, 0) := Or.inl ⟨by decide, by decide +kernel, tm2 (List.mem_of_getElem? (i := 25) (by decide +kernel)) (by decide +kernel), by decide +kernel⟩
theorem pk_9_22 : PK 9 22 (1, 9, 4, 0) := Or.inl ⟨by decide, by decide +kernel, tm2 (List.mem_of_getElem? (i := 26) (by decide +kernel)) (by decide +kernel), by decide +kernel⟩
theorem pk_9_25 : PK 9 25 (1, 9, 5, 0) := Or.inl ⟨by decide, by decide +kernel, tm2 (List.mem_of_getElem? (i := 27) (by decide +kernel)) (by decide +kernel), by decide +kernel⟩
theorem pk_9_28 : PK 9 28 (1, 9, 6, 2) := Or.inl ⟨by decide, by decide +kernel, tm2 (List.mem_of_getElem? (i := 28) (by decide +kernel)) (by decide +kernel), by decide +kernel⟩
theorem pk_9_32 : PK 9 32 (1, 9, 7, 0) := Or.inl ⟨by decide, by decide +kernel, tm2 (List.mem_of_getElem? (i := 29) (by decide +kernel)) (by decide +kernel), by decide +kernel⟩
theorem pk_9_35 : PK 9 35 (1, 9, 8, 2) := Or.inl ⟨by decide, by decide +kernel, tm2 (List.mem_of_getElem? (i := 30) (by decide +kernel)) (by decide +kernel), by decide +kernel⟩
theorem pk_9_38 : PK 9 38 (1, 9, 9, 0) := Or.inl ⟨by decide, by decide +kernel, tm2 (List.mem_of_getElem? (i := 31) (by decide +kernel)) (by decide +kernel), by decide +kernel⟩
theorem pk_9_41 : PK 9 41 (1, 9, 10, 0) := Or.inl ⟨by decide, by decide +kernel, tm2 (List.mem_of_getElem? (i := 32) (by decide +kernel)) (by decide +kernel), by decide +kernel⟩
theorem pk_9_44 : PK 9 44 (1, 9, 11, 2) := Or.inl ⟨by decide, by decide +kernel, tm2 (List.mem_of_getElem? (i := 33) (by decide +kernel)) (by decide +kernel), by decide +kernel⟩
theorem pk_9_47 : PK 9 47 (1, 9, 12, 2) := Or.inl ⟨by decide, by decide +kernel, tm2 (List.mem_of_getElem? (i := 34) (by decide +kernel)) (by decide +kernel), by decide +kernel⟩
theorem pk_9_50 : PK 9 50 (1, 9, 13, 2) := Or.inl ⟨by decide, by decide +kernel, tm2 (List.mem_of_getElem? (i := 35) (by decide +kernel)) (by decide +kernel), by decide +kernel⟩
theorem pk_9_53 : PK 9 53 (1, 9, 14, 0) := Or.inl ⟨by decide, by decide +kernel, tm2 (List.mem_of_getElem? (i := 36) (by decide +kernel)) (by decide +kernel), by decide +kernel⟩
theorem pk_9_56 : PK 9 56 (1, 9, 15, 2) := Or.inl ⟨by decide, by decide +kernel, tm2 (List.mem_of_getElem? (i := 37) (by decide +kernel)) (by decide +kernel), by decide +kernel⟩
theorem pk_9_59 : PK 9 59 (6, 8, 0, 0) := Or.inl ⟨by decide, tm1 (List.mem_of_getElem? (i := 232) (by decide +kernel)) (by decide +kernel)⟩
theorem pk_9_61 : PK 9 61 (2, 7, 0, 0) := ⟨by decide, Or.inl (tm1 (List.mem_of_getElem? (i := 234) (by decide +kernel)) (by decide +kernel))⟩
theorem pk_9_64 : PK 9 64 (1, 9, 1, 2) := Or.inl ⟨by decide, by decide +kernel, tm2 (List.mem_of_getElem? (i := 23) (by decide +kernel)) (by decide +kernel), by decide +kernel⟩
theorem pk_9_68 : PK 9 68 (2, 2, 0, 0) := ⟨by decide, Or.inl (tm3 (List.mem_of_getElem? (i := 217) (by decide +kernel)) (by decide +kernel))⟩
theorem pk_9_74 : PK 9 74 (2, 63, 0, 0) := ⟨by decide, Or.inl (tm3 (List.mem_of_getElem? (i := 218) (by decide +kernel)) (by decide +kernel))⟩
theorem pk_9_78 : PK 9 78 (2, 64, 0, 0) := ⟨by decide, Or.inl (tm3 (List.mem_of_getElem? (i := 223) (by decide +kernel)) (by decide +kernel))⟩
theorem pk_9_81 : PK 9 81 (2, 83, 0, 0) := ⟨by decide, Or.inl (tm4 (List.mem_of_getElem? (i := 92) (by decide +kernel)) (by decide +kernel))⟩
theorem pk_9_85 : PK 9 85 (1, 8, 0, 0) := Or.inl ⟨by decide, by decide +kernel, tm1 (List.mem_of_getElem? (i := 239) (by decide +kernel)) (by decide +kernel), by decide +kernel⟩
theorem pk_9_88 : PK 9 88 (2, 100, 0, 0) := ⟨by decide, Or.inl (tm4 (List.mem_of_getElem? (i := 167) (by decide +kernel)) (by decide +kernel))⟩
theorem pk_9_92 : PK 9 92 (11, 1, 0, 0) := ⟨by decide, "CrackedMud", "USUAL", List.mem_of_getElem? (i := 0) (by decide +kernel), Or.inr ⟨"CrackedMud", List.mem_of_getElem? (i := 4) (by decide +kernel)⟩⟩
theorem pk_9_95 : PK 9 95 (6, 6, 0, 0) := Or.inl ⟨by decide, tm4 (List.mem_of_getElem? (i := 172) (by decide +kernel)) (by decide +kernel)⟩
theorem pk_9_97 : PK 9 97 (2, 101, 0, 0) := ⟨by decide, Or.inl (tm4 (List.mem_of_getElem? (i := 173) (by decide +kernel)) (by decide +kernel))⟩
theorem pk_9_101 : PK 9 101 (5, 0, 0, 0) := tm4 (List.mem_of_getElem? (i := 182) (by decide +kernel)) (by decide +kernel)
theorem pk_9_102 : PK 9 102 (6, 100, 0, 0) := Or.inr ⟨rfl, tm4 (List.mem_of_getElem? (i := 183) (by decide +kernel)) (by decide +kernel)⟩
theorem pk_9_106 : PK 9 106 (2, 10, 0, 0) := ⟨by decide, Or.inl (tm4 (List.mem_of_getElem? (i := 184) (by decide +kernel)) (by decide +kernel))⟩
theorem pk_9_109 : PK 9 109 (2, 84, 0, 0) := ⟨by decide, Or.inl (tm4 (List.mem_of_getElem? (i := 96) (by decide +kernel)) (by decide +kernel))⟩
theorem pk_9_112 : PK 9 112 (2, 86, 0, 0) := ⟨by decide, Or.inl (tm4 (List.mem_of_getElem? (i := 105) (by decide +kernel)) (by decide +kernel))⟩
theorem pk_9_115 : PK 9 115 (2, 87, 0, 0) := ⟨by decide, Or.inl (tm4 (List.mem_of_getElem? (i := 113) (by decide +kernel)) (by decide +kernel))⟩
theorem pk_9_118 : PK 9 118 (2, 90, 0, 0) := ⟨by decide, Or.inl (tm4 (List.mem_of_getElem? (i := 125) (by decide +kernel)) (by decide +kernel))⟩
theorem pk_9_121 : PK 9 121 (2, 94, 0, 0) := ⟨by decide, Or.inl (tm4 (List.mem_of_getElem? (i := 141) (by decide +kernel)) (by decide +kernel))⟩
theorem pk_9_124 : PK 9 124 (2, 97, 0, 0) := ⟨by decide, Or.inl (tm4 (List.mem_of_getElem? (i := 155) (by decide +kernel)) (by decide +kernel))⟩
theorem pk_9_127 : PK 9 127 (1, 8, 1, 0) := Or.inl ⟨by decide, by decide +kernel, tm2 (List.mem_of_getElem? (i := 1) (by decide +kernel)) (by decide +kernel), by decide +kernel⟩
theorem pk_9_130 : PK 9 130 (1, 8, 2, 0) := Or.inl ⟨by decide, by decide +kernel, tm2 (List.mem_of_getElem? (i := 3) (by decide +kernel)) (by decide +kernel), by decide +kernel⟩
theorem pk_9_133 : PK 9 133 (2, 14, 0, 0) := ⟨by decide, Or.inr ⟨by decide +kernel, "CrackedMud", List.mem_of_getElem? (i := 4) (by decide +kernel)⟩⟩
theorem pk_9_137 : PK 9 137 (2, 85, 0, 0) := ⟨by decide, Or.inl (tm4 (List.mem_of_getElem? (i := 101) (by decide +kernel)) (by decide +kernel))⟩
theorem pk_9_141 : PK 9 141 (11, 2, 0, 0) := ⟨by decide, "CrackedMud", "SMALLEST", List.mem_of_getElem? (i := 1) (by decide +kernel), Or.inr ⟨"CrackedMud", List.mem_of_getElem? (i := 1) (by decide +kernel)⟩⟩
theorem pk_9_144 : PK 9 144 (11, 3, 0, 0) := ⟨by decide, "CrackedMud", "LARGEST", List.mem_of_getElem? (i := 2) (by decide +kernel), Or.inr ⟨"CrackedMud", List.mem_of_getElem? (i := 2) (by decide +kernel)⟩⟩
theorem pk_9_147 : PK 9 147 (2, 88, 0, 0) := ⟨by decide, Or.inl (tm4 (List.mem_of_getElem? (i := 117) (by decide +kernel)) (by decide +kernel))⟩
theorem pk_9_150 : PK 9 150 (2, 89, 0, 0) := ⟨by decide, Or.inl (tm4 (List.mem_of_getElem? (i := 121) (by decide +kernel)) (by decide +kernel))⟩
theorem pk_9_153 : PK 9 153 (2, 93, 0, 0) := ⟨by decide, Or.inl (tm4 (List.mem_of_getElem? (i := 137) (by decide +kernel)) (by decide +kernel))⟩
theorem pk_9_156 : PK 9 156 (2, 91, 0, 0) := ⟨by decide, Or.inl (tm4 (List.mem_of_getElem? (i := 129) (by decide +kernel)) (by decide +kernel))⟩
theorem pk_9_160 : PK 9 160 (2, 92, 0, 0) := ⟨by decide, Or.inl (tm4 (List.mem_of_getElem? (i := 133) (by decide +kernel)) (by decide +kernel))⟩
theorem pk_9_163 : PK 9 163 (2, 95, 0, 0) := ⟨by decide, Or.inl (tm4 (List.mem_of_getElem? (i := 145) (by decide +kernel)) (by decide +kernel))⟩
theorem pk_9_166 : PK 9 166 (11, 4, 0, 0) := ⟨by decide, "CrackedMud", "RANKS", List.mem_of_getElem? (i := 3) (by decide +kernel), Or.inr ⟨"CrackedMud", List.mem_of_getElem? (i := 3) (by decide +kernel)⟩⟩
theorem pk_9_169 : PK 9 169 (2, 96, 0, 0) := ⟨by decide, Or.inl (tm4 (List.mem_of_getElem? (i := 151) (by decide +kernel)) (by decide +kernel))⟩
theorem pk_9_172 : PK 9 172 (2, 99, 0, 0) := ⟨by decide, Or.inl (tm4 (List.mem_of_getElem? (i := 163) (by decide +kernel)) (by decide +kernel))⟩
theorem pk_9_175 : PK 9 175 (2, 98, 0, 0) := ⟨by decide, Or.inl (tm4 (List.mem_of_getElem? (i := 159) (by decide +kernel)) (by decide +kernel))⟩
set_option maxRecDepth 100000 in
theorem pks_9 : ∀ q ∈ pl_9, PK 9 q.1 q.2 := List.forall_mem_cons.mpr ⟨pk_9_3, List.forall_mem_cons.mpr ⟨pk_9_9, List.forall_mem_cons.mpr ⟨pk_9_15, List.forall_mem_cons.mpr ⟨pk_9_19, List.forall_mem_cons.mpr ⟨pk_9_22, List.forall_mem_cons.mpr ⟨pk_9_25, List.forall_mem_cons.mpr ⟨pk_9_28, List.forall_mem_cons.mpr ⟨pk_9_32, List.forall_mem_cons.mpr ⟨pk_9_35, List.forall_mem_cons.mpr ⟨pk_9_38, List.forall_mem_cons.mpr ⟨pk_9_41, List.forall_mem_cons.mpr ⟨pk_9_44, List.forall_mem_cons.mpr ⟨pk_9_47, List.forall_mem_cons.mpr ⟨pk_9_50, List.forall_mem_cons.mpr ⟨pk_9_53, List.forall_mem_cons.mpr ⟨pk_9_56, List.forall_mem_cons.mpr ⟨pk_9_59, List.forall_mem_cons.mpr ⟨pk_9_61, List.forall_mem_cons.mpr ⟨pk_9_64, List.forall_mem_cons.mpr ⟨pk_9_68, List.forall_mem_cons.mpr ⟨pk_9_74, List.forall_mem_cons.mpr ⟨pk_9_78, List.forall_mem_cons.mpr ⟨pk_9_81, List.forall_mem_cons.mpr ⟨pk_9_85, List.forall_mem_cons.mpr ⟨pk_9_88, List.forall_mem_cons.mpr ⟨pk_9_92, List.forall_mem_cons.mpr ⟨pk_9_95, List.forall_mem_cons.mpr ⟨pk_9_97, List.forall_mem_cons.mpr ⟨pk_9_101, List.forall_mem_cons.mpr ⟨pk_9_102, List.forall_mem_cons.mpr ⟨pk_9_106, List.forall_mem_cons.mpr ⟨pk_9_109, List.forall_mem_cons.mpr ⟨pk_9_112, List.forall_mem_cons.mpr ⟨pk_9_115, List.forall_mem_cons.mpr ⟨pk_9_118, List.forall_mem_cons.mpr ⟨pk_9_121, List.forall_mem_cons.mpr ⟨pk_9_124, List.forall_mem_cons.mpr ⟨pk_9_127, List.forall_mem_cons.mpr ⟨pk_9_130, List.forall_mem_cons.mpr ⟨pk_9_133, List.forall_mem_cons.mpr ⟨pk_9_137, List.forall_mem_cons.mpr ⟨pk_9_141, List.forall_mem_cons.mpr ⟨pk_9_144, List.forall_mem_cons.mpr ⟨pk_9_147, List.forall_mem_cons.mpr ⟨pk_9_150, List.forall_mem_cons.mpr ⟨pk_9_153, List.forall_mem_cons.mpr ⟨pk_9_156, List.forall_mem_cons.mpr ⟨pk_9_160, List.forall_mem_cons.mpr ⟨pk_9_163, List.forall_mem_cons.mpr ⟨pk_9_166, List.forall_mem_cons.mpr ⟨pk_9_169, List.forall_mem_cons.mpr ⟨pk_9_172, List.forall_mem_cons.mpr ⟨pk_9_175, fun _ h => absurd h List.not_mem_nil⟩⟩⟩⟩⟩⟩⟩⟩⟩⟩⟩⟩⟩⟩⟩⟩⟩⟩⟩⟩⟩⟩⟩⟩⟩⟩⟩⟩⟩⟩⟩⟩⟩⟩⟩⟩⟩⟩⟩⟩⟩⟩⟩⟩⟩⟩⟩⟩⟩⟩⟩⟩⟩
theorem pk_10_3 : PK 10 3 (3, 0, 0, 0) := tm2 (List.mem_of_getElem? (i := 92) (by decide +kernel)) (by decide +kernel)
theorem pk_10_9 : PK 10 9 (1, 10, 2, 2) := Or.inl ⟨by decide, by decide +kernel, tm2 (List.mem_of_getElem? (i := 131) (by decide +kernel)) (by decide +kernel), by decide +kernel⟩
theorem pk_10_15 : PK 10 15 (1, 10, 3, 2) := Or.inl ⟨by decide, by decide +kernel, tm2 (List.mem_of_getElem? (i := 132) (by decide +kernel)) (by decide +kernel), by decide +kernel⟩
theorem pk_10_18 : PK 10 18 (6, 6, 0, 0) := Or.inl ⟨by decide, tm2 (List.mem_of_getElem? (i := 93) (by decide +kernel)) (by decide +kernel)⟩
theorem pk_10_20 : PK 10 20 (11, 1, 0, 0) := ⟨by decide, "CrackedMud", "USUAL", List.mem_of_getElem? (i := 0) (by decide +kernel), Or.inr ⟨"CrackedMud", List.mem_of_getElem? (i := 0) (by decide +kernel)⟩⟩
theorem pk_10_23 : PK 10 23 (5, 0, 0, 0) := tm2 (List.mem_of_getElem? (i := 97) (by decide +kernel)) (by decide +kernel)
theorem pk_10_24 : PK 10 24 (6, 100, 0, 0) := Or.inr ⟨rfl, tm2 (List.mem_of_getElem? (i := 103) (by decide +kernel)) (by decide +kernel)⟩
theorem pk_10_28 : PK 10 28 (2, 10, 0, 0) := ⟨by decide, Or.inl (tm2 (List.mem_of_getElem? (i := 104) (by decide +kernel)) (by decide +kernel))⟩
theorem pk_10_31 : PK 10 31 (1, 10, 5, 2) := Or.inl ⟨by decide, by decide +kernel, tm2 (List.mem_of_getElem? (i := 134) (by decide +kernel)) (by decide +kernel), by decide +kernel⟩
theorem pk_10_35 : PK 10 35 (1, 10, 6, 0) := Or.inl ⟨by decide, by decide +kernel, tm2 (List.mem_of_getElem? (i := 135) (by decide +kernel)) (by decide +kernel), by decide +kernel⟩
theorem pk_10_39 : PK 10 39 (1, 10, 0, 2) := Or.inl ⟨by decide, by decide +kernel, tm2 (List.mem_of_getElem? (i := 129) (by decide +kernel)) (by decide +kernel), by decide +kernel⟩
theorem pk_10_43 : PK 10 43 (1, 10, 1, 2) := Or.inl ⟨by decide, by decide +kernel, tm2 (List.mem_of_getElem? (i := 130) (by decide +kernel)) (by decide +kernel), by decide +kernel⟩
theorem pk_10_47 : PK 10 47 (1, 10, 4, 2) := Or.inl ⟨by decide, by decide +kernel, tm2 (List.mem_of_getElem? (i := 133) (by decide +kernel)) (by decide +kernel), by decide +kernel⟩
theorem pk_10_51 : PK 10 51 (2, 105, 0, 0) := ⟨by decide, Or.inl (tm4 (List.mem_of_getElem? (i := 198) (by decide +kernel)) (by decide +kernel))⟩
theorem pk_10_55 : PK 10 55 (2, 106, 0, 0) := ⟨by decide, Or.inl (tm4 (List.mem_of_getElem? (i := 202) (by decide +kernel)) (by decide +kernel))⟩
theorem pk_10_58 : PK 10 58 (2, 107, 0, 0) := ⟨by decide, Or.inl (tm4 (List.mem_of_getElem? (i := 206) (by decide +kernel)) (by decide +kernel))⟩
theorem pk_10_61 : PK 10 61 (1, 2, 14, 2) := Or.inl ⟨by decide, by decide +kernel, tm1 (List.mem_of_getElem? (i := 166) (by decide +kernel)) (by decide +kernel), by decide +kernel⟩
theorem pk_10_67 : PK 10 67 (1, 7, 0, 0) := Or.inl ⟨by decide, by decide +kernel, tm1 (List.mem_of_getElem? (i := 88) (by decide +kernel)) (by decide +kernel), by decide +kernel⟩
theorem pk_10_72 : PK 10 72 (2, 108, 0, 0) := ⟨by decide, Or.inl (tm4 (List.mem_of_getElem? (i := 212) (by decide +kernel)) (by decide +kernel))⟩
theorem pk_10_75 : PK 10 75 (2, 115, 0, 0) := ⟨by decide, Or.inl (tm5 (List.mem_of_getElem? (i := 3) (by decide +kernel)) (by decide +kernel))⟩
theorem pk_10_78 : PK 10 78 (2, 118, 0, 0) := ⟨by decide, Or.inl (tm5 (List.mem_of_getElem? (i := 15) (by decide +kernel)) (by decide +kernel))⟩
theorem pk_10_81 : PK 10 81 (7, 0, 0, 99999) := ⟨⟨by decide, by decide⟩, tm5 (List.mem_of_getElem? (i := 19) (by decide +kernel)) (by decide +kernel)⟩
theorem pk_10_82 : PK 10 82 (1, 2, 5, 0) := Or.inl ⟨by decide, by decide +kernel, tm1 (List.mem_of_getElem? (i := 138) (by decide +kernel)) (by decide +kernel), by decide +kernel⟩
theorem pk_10_85 : PK 10 85 (2, 36, 0, 0) := ⟨by decide, Or.inl (tm5 (List.mem_of_getElem? (i := 20) (by decide +kernel)) (by decide +kernel))⟩
theorem pk_10_91 : PK 10 91 (2, 104, 0, 0) := ⟨by decide, Or.inl (tm5 (List.mem_of_getElem? (i := 229) (by decide +kernel)) (by decide +kernel))⟩
theorem pk_10_94 : PK 10 94 (1, 2, 6, 2) := Or.inl ⟨by decide, by decide +kernel, tm1 (List.mem_of_getElem? (i := 142) (by decide +kernel)) (by decide +kernel), by decide +kernel⟩
theorem pk_10_97 : PK 10 97 (1, 2, 7, 2) := Or.inl ⟨by decide, by decide +kernel, tm1 (List.mem_of_getElem? (i := 144) (by decide +kernel)) (by decide +kernel), by decide +kernel⟩
theorem pk_10_100 : PK 10 100 (1, 2, 8, 2) := Or.inl ⟨by decide, by decide +kernel, tm1 (List.mem_of_getElem? (i := 147) (by decide +kernel)) (by decide +kernel), by decide +kernel⟩
theorem pk_10_103 : PK 10 103 (2, 50, 0, 0) := ⟨by decide, Or.inl (tm3 (List.mem_of_getElem? (i := 165) (by decide +kernel)) (by decide +kernel))⟩
theorem pk_10_107 : PK 10 107 (2, 51, 0, 0) := ⟨by decide, Or.inl (tm3 (List.mem_of_getElem? (i := 171) (by decide +kernel)) (by decide +kernel))⟩
theorem pk_10_113 : PK 10 113 (2, 54, 0, 0) := ⟨by decide, Or.inl (tm3 (List.mem_of_getElem? (i := 182) (by decide +kernel)) (by decide +kernel))⟩
theorem pk_10_116 : PK 10 116 (2, 55, 0, 0) := ⟨by decide, Or.inl (tm3 (List.mem_of_getElem? (i := 185) (by decide +kernel)) (by decide +kernel))⟩
theorem pk_10_119 : PK 10 119 (1, 5, 0, 2) := Or.inl ⟨by decide, by decide +kernel, tm2 (List.mem_of_getElem? (i := 78) (by decide +kernel)) (by decide +kernel), by decide +kernel⟩
theorem pk_10_123 : PK 10 123 (1, 2, 0, 0) := Or.inl ⟨by decide, by decide +kernel, tm1 (List.mem_of_getElem? (i := 126) (by decide +kernel)) (by decide +kernel), by decide +kernel⟩
theorem pk_10_126 : PK 10 126 (2, 30, 0, 0) := ⟨by decide, Or.inl (tm3 (List.mem_of_getElem? (i := 196) (by decide +kernel)) (by decide +kernel))⟩
theorem pk_10_130 : PK 10 130 (2, 57, 0, 0) := ⟨by decide, Or.inl (tm4 (List.mem_of_getElem? (i := 210) (by decide +kernel)) (by decide +kernel))⟩
theorem pk_10_134 : PK 10 134 (2, 49, 0, 0) := ⟨by decide, Or.inl (tm4 (List.mem_of_getElem? (i := 211) (by decide +kernel)) (by decide +kernel))⟩
theorem pk_10_137 : PK 10 137 (1, 1, 0, 2) := Or.inl ⟨by decide, by decide +kernel, tm1 (List.mem_of_getElem? (i := 42) (by decide +kernel)) (by decide +kernel), by decide +kernel⟩
theorem pk_10_142 : PK 10 142 (1, 1, 1, 2) := Or.inl ⟨by decide, by decide +kernel, tm1 (List.mem_of_getElem? (i := 45) (by decide +kernel)) (by decide +kernel), by decide +kernel⟩
theorem pk_10_145 : PK 10 145 (8, 0, 0, (-9999)) := ⟨⟨by decide, by decide⟩, tm3 (List.mem_of_getElem? (i := 169) (by decide +kernel)) (by decide +kernel)⟩
theorem pk_10_147 : PK 10 147 (8, 0, 0, 9999) := ⟨⟨by decide, by decide⟩, tm3 (List.mem_of_getElem? (i := 170) (by decide +kernel)) (by decide +kernel)⟩
theorem pk_10_149 : PK 10 149 (1, 2, 9, 2) := Or.inl ⟨by decide, by decide +kernel, tm1 (List.mem_of_getElem? (i := 151) (by decide +kernel)) (by decide +kernel), by decide +kernel⟩
theorem pk_10_152 : PK 10 152 (1, 2, 10, 2) := Or.inl ⟨by decide, by decide +kernel, tm1 (List.mem_of_getElem? (i := 154) (by decide +kernel)) (by decide +kernel), by decide +kernel⟩
theorem pk_10_155 : PK 10 155 (1, 2, 13, 2) := Or.inl ⟨by decide, by decide +kernel, tm1 (List.mem_of_getElem? (i := 163) (by decide +kernel)) (by decide +kernel), by decide +kernel⟩
theorem pk_10_158 : PK 10 158 (1, 6, 4, 2) := Or.inl ⟨by decide, by decide +kernel, tm2 (List.mem_of_getElem? (i := 117) (by decide +kernel)) (by decide +kernel), by decide +kernel⟩
theorem pk_10_161 : PK 10 161 (2, 56, 0, 0) := ⟨by decide, Or.inl (tm3 (List.mem_of_getElem? (i := 188) (by decide +kernel)) (by decide +kernel))⟩
theorem pk_10_164 : PK 10 164 (2, 17, 0, 0) := ⟨by decide, Or.inl (tm3 (List.mem_of_getElem? (i := 191) (by decide +kernel)) (by decide +kernel))⟩
theorem pk_10_166 : PK 10 166 (1, 1, 4, 2) := Or.inl ⟨by decide, by decide +kernel, tm1 (List.mem_of_getElem? (i := 51) (by decide +kernel)) (by decide +kernel), by decide +kernel⟩
theorem pk_10_169 : PK 10 169 (1, 1, 5, 2) := Or.inl ⟨by decide, by decide +kernel, tm1 (List.mem_of_getElem? (i := 53) (by decide +kernel)) (by decide +kernel), by decide +kernel⟩
theorem pk_10_172 : PK 10 172 (1, 7, 5, 2) := Or.inl ⟨by decide, by decide +kernel, tm1 (List.mem_of_getElem? (i := 102) (by decide +kernel)) (by decide +kernel), by decide +kernel⟩
theorem pk_10_175 : PK 10 175 (1, 7, 6, 2) := Or.inl ⟨by decide, by decide +kernel, tm1 (List.mem_of_getElem? (i := 105) (by decide +kernel)) (by decide +kernel), by decide +kernel⟩
theorem pk_10_178 : PK 10 178 (1, 7, 7, 2) := Or.inl ⟨by decide, by decide +kernel, tm1 (List.mem_of_getElem? (i := 107) (by decide +kernel)) (by decide +kernel), by decide +kernel⟩
theorem pk_10_181 : PK 10 181 (11, 5, 0, 0) := ⟨by decide, "CrackedMud", "STRAIGHT_LEFT_RIGHT", List.mem_of_getElem? (i := 4) (by decide +kernel), Or.inr ⟨"CrackedMud", List.mem_of_getElem? (i := 5) (by decide +kernel)⟩⟩
theorem pk_10_184 : PK 10 184 (1, 1, 6, 2) := Or.inl ⟨by decide, by decide +kernel, tm1 (List.mem_of_getElem? (i := 56) (by decide +kernel)) (by decide +kernel), by decide +kernel⟩
theorem pk_10_187 : PK 10 187 (2, 109, 0, 0) := ⟨by decide, Or.inl (tm4 (List.mem_of_getElem? (i := 218) (by decide +kernel)) (by decide +kernel))⟩
theorem pk_10_190 : PK 10 190 (2, 110, 0, 0) := ⟨by decide, Or.inl (tm4 (List.mem_of_getElem? (i := 222) (by decide +kernel)) (by decide +kernel))⟩
theorem pk_10_194 : PK 10 194 (1, 7, 4, 2) := Or.inl ⟨by decide, by decide +kernel, tm1 (List.mem_of_getElem? (i := 98) (by decide +kernel)) (by decide +kernel), by decide +kernel⟩
theorem pk_10_197 : PK 10 197 (2, 112, 0, 0) := ⟨by decide, Or.inl (tm4 (List.mem_of_getElem? (i := 230) (by decide +kernel)) (by decide +kernel))⟩
theorem pk_10_200 : PK 10 200 (2, 113, 0, 0) := ⟨by decide, Or.inl (tm4 (List.mem_of_getElem? (i := 234) (by decide +kernel)) (by decide +kernel))⟩
theorem pk_10_203 : PK 10 203 (2, 114, 0, 0) := ⟨by decide, Or.inl (tm4 (List.mem_of_getElem? (i := 239) (by decide +kernel)) (by decide +kernel))⟩
theorem pk_10_207 : PK 10 207 (2, 111, 0, 0) := ⟨by decide, Or.inl (tm4 (List.mem_of_getElem? (i := 226) (by decide +kernel)) (by decide +kernel))⟩
theorem pk_10_208 : PK 10 208 (2, 38, 0, 0) := ⟨by decide, Or.inl (tm4 (List.mem_of_getElem? (i := 238) (by decide +kernel)) (by decide +kernel))⟩
theorem pk_10_211 : PK 10 211 (1, 2, 11, 2) := Or.inl ⟨by decide, by decide +kernel, tm1 (List.mem_of_getElem? (i := 157) (by decide +kernel)) (by decide +kernel), by decide +kernel⟩
theorem pk_10_214 : PK 10 214 (2, 116, 0, 0) := ⟨by decide, Or.inl (tm5 (List.mem_of_getElem? (i := 7) (by decide +kernel)) (by decide +kernel))⟩
theorem pk_10_218 : PK 10 218 (2, 117, 0, 0) := ⟨by decide, Or.inl (tm5 (List.mem_of_getElem? (i := 11) (by decide +kernel)) (by decide +kernel))⟩
theorem pk_10_221 : PK 10 221 (1, 1, 2, 2) := Or.inl ⟨by decide, by decide +kernel, tm1 (List.mem_of_getElem? (i := 47) (by decide +kernel)) (by decide +kernel), by decide +kernel⟩
theorem pk_10_224 : PK 10 224 (1, 1, 3, 2) := Or.inl ⟨by decide, by decide +kernel, tm1 (List.mem_of_getElem? (i := 49) (by decide +kernel)) (by decide +kernel), by decide +kernel⟩
theorem pk_10_227 : PK 10 227 (1, 2, 12, 2) := Or.inl ⟨by decide, by decide +kernel, tm1 (List.mem_of_getElem? (i := 160) (by decide +kernel)) (by decide +kernel), by decide +kernel⟩
theorem pk_10_230 : PK 10 230 (2, 121, 0, 0) := ⟨by decide, Or.inl (tm5 (List.mem_of_getElem? (i := 29) (by decide +kernel)) (by decide +kernel))⟩
theorem pk_10_234 : PK 10 234 (2, 122, 0, 0) := ⟨by decide, Or.inl (tm5 (List.mem_of_getElem? (i := 33) (by decide +kernel)) (by decide +kernel))⟩
set_option maxRecDepth 100000 in
theorem pks_10 : ∀ q ∈ pl_10, PK 10 q.1 q.2 := List.forall_mem_cons.mpr ⟨pk_10_3, List.forall_mem_cons.mpr ⟨pk_10_9, List.forall_mem_cons.mpr ⟨pk_10_15, List.forall_mem_cons.mpr ⟨pk_10_18, List.forall_mem_cons.mpr ⟨pk_10_20, List.forall_mem_cons.mpr ⟨pk_10_23, List.forall_mem_cons.mpr ⟨pk_10_24, List.forall_mem_cons.mpr ⟨pk_10_28, List.forall_mem_cons.mpr ⟨pk_10_31, List.forall_mem_cons.mpr ⟨pk_10_35, List.forall_mem_cons.mpr ⟨pk_10_39, List.forall_mem_cons.mpr ⟨pk_10_43, List.forall_mem_cons.mpr ⟨pk_10_47, List.forall_mem_cons.mpr ⟨pk_10_51, List.forall_mem_cons.mpr ⟨pk_10_55, List.forall_mem_cons.mpr ⟨pk_10_58, List.forall_mem_cons.mpr ⟨pk_10_61, List.forall_mem_cons.mpr ⟨pk_10_67, List.forall_mem_cons.mpr ⟨pk_10_72, List.forall_mem_cons.mpr ⟨pk_10_75, List.forall_mem_cons.mpr ⟨pk_10_78, List.forall_mem_cons.mpr ⟨pk_10_81, List.forall_mem_cons.mpr ⟨pk_10_82, List.forall_mem_cons.mpr ⟨pk_10_85, List.forall_mem_cons.mpr ⟨pk_10_91, List.forall_mem_cons.mpr ⟨pk_10_94, List.forall_mem_cons.mpr ⟨pk_10_97, List.forall_mem_cons.mpr ⟨pk_10_100, List.forall_mem_cons.mpr ⟨pk_10_103, List.forall_mem_cons.mpr ⟨pk_10_107, List.forall_mem_cons.mpr ⟨pk_10_113, List.forall_mem_cons.mpr ⟨pk_10_116, List.forall_mem_cons.mpr ⟨pk_10_119, List.forall_mem_cons.mpr ⟨pk_10_123, List.forall_mem_cons.mpr ⟨pk_10_126, List.forall_mem_cons.mpr ⟨pk_10_130, List.forall_mem_cons.mpr ⟨pk_10_134, List.forall_mem_cons.mpr ⟨pk_10_137, List.forall_mem_cons.mpr ⟨pk_10_142, List.forall_mem_cons.mpr ⟨pk_10_145, List.forall_mem_cons.mpr ⟨pk_10_147, List.forall_mem_cons.mpr ⟨pk_10_149, List.forall_mem_cons.mpr ⟨pk_10_152, List.forall_mem_cons.mpr ⟨pk_10_155, List.forall_mem_cons.mpr ⟨pk_10_158, List.forall_mem_cons.mpr ⟨pk_10_161, List.forall_mem_cons.mpr ⟨pk_10_164, List.forall_mem_cons.mpr ⟨pk_10_166, List.forall_mem_cons.mpr ⟨pk_10_169, List.forall_mem_cons.mpr ⟨pk_10_172, List.forall_mem_cons.mpr ⟨pk_10_175, List.forall_mem_cons.mpr ⟨pk_10_178, List.forall_mem_cons.mpr ⟨pk_10_181, List.forall_mem_cons.mpr ⟨pk_10_184, List.forall_mem_cons.mpr ⟨pk_10_187, List.forall_mem_cons.mpr ⟨pk_10_190, List.forall_mem_cons.mpr ⟨pk_10_194, List.forall_mem_cons.mpr ⟨pk_10_197, List.forall_mem_cons.mpr ⟨pk_10_200, List.forall_mem_cons.mpr ⟨pk_10_203, List.forall_mem_cons.mpr ⟨pk_10_207, List.forall_mem_cons.mpr ⟨pk_10_208, List.forall_mem_cons.mpr ⟨pk_10_211, List.forall_mem_cons.mpr ⟨pk_10_214, List.forall_mem_cons.mpr ⟨pk_10_218, List.forall_mem_cons.mpr ⟨pk_10_221, List.forall_mem_cons.mpr ⟨pk_10_224, List.forall_mem_cons.mpr ⟨pk_10_227, List.forall_mem_cons.mpr ⟨pk_10_230, List.forall_mem_cons.mpr ⟨pk_10_234, fun _ h => absurd h List.not_mem_nil⟩⟩⟩⟩⟩⟩⟩⟩⟩⟩⟩⟩⟩⟩⟩⟩⟩⟩⟩⟩⟩⟩⟩⟩⟩⟩⟩⟩⟩⟩⟩⟩⟩⟩⟩⟩⟩⟩⟩⟩⟩⟩⟩⟩⟩⟩⟩⟩⟩⟩⟩⟩⟩⟩⟩⟩⟩⟩⟩⟩⟩⟩⟩⟩⟩⟩⟩⟩⟩⟩
theorem pk_11_3 : PK 11 3 (3, 0, 0, 0) := tm1 (List.mem_of_getElem? (i := 28) (by decide +kernel)) (by decide +kernel)
theorem pk_11_9 : PK 11 9 (6, 1, 0, 0) := Or.inl ⟨by decide, tm1 (List.mem_of_getElem? (i := 31) (by decide +kernel)) (by decide +kernel)⟩
theorem pk_11_11 : PK 11 11 (2, 1, 0, 0) := ⟨by decide, Or.inl (tm1 (List.mem_of_getElem? (i := 33) (by decide +kernel)) (by decide +kernel))⟩
theorem pk_11_12 : PK 11 12 (1, 11, 0, 2) := Or.inl ⟨by decide, by decide +kernel, tm2 (List.mem_of_getElem? (i := 202) (by decide +kernel)) (by decide +kernel), by decide +kernel⟩
theorem pk_11_16 : PK 11 16 (6, 2, 0, 0) := Or.inl ⟨by decide, tm1 (List.mem_of_getElem? (i := 73) (by decide +kernel)) (by decide +kernel)⟩
theorem pk_11_18 : PK 11 18 (2, 3, 0, 0) := ⟨by decide, Or.inr ⟨by decide +kernel, "CrackedMud", List.mem_of_getElem? (i := 0) (by decide +kernel)⟩⟩
theorem pk_11_19 : PK 11 19 (1, 11, 1, 2) := Or.inl ⟨by decide, by decide +kernel, tm2 (List.mem_of_getElem? (i := 203) (by decide +kernel)) (by decide +kernel), by decide +kernel⟩
theorem pk_11_23 : PK 11 23 (1, 11, 2, 2) := Or.inl ⟨by decide, by decide +kernel, tm2 (List.mem_of_getElem? (i := 204) (by decide +kernel)) (by decide +kernel), by decide +kernel⟩
theorem pk_11_26 : PK 11 26 (6, 4, 0, 0) := Or.inl ⟨by decide, tm1 (List.mem_of_getElem? (i := 199) (by decide +kernel)) (by decide +kernel)⟩
theorem pk_11_28 : PK 11 28 (2, 5, 0, 0) := ⟨by decide, Or.inl (tm1 (List.mem_of_getElem? (i := 201) (by decide +kernel)) (by decide +kernel))⟩
theorem pk_11_29 : PK 11 29 (1, 11, 3, 2) := Or.inl ⟨by decide, by decide +kernel, tm2 (List.mem_of_getElem? (i := 205) (by decide +kernel)) (by decide +kernel), by decide +kernel⟩
theorem pk_11_33 : PK 11 33 (1, 11, 4, 2) := Or.inl ⟨by decide, by decide +kernel, tm2 (List.mem_of_getElem? (i := 206) (by decide +kernel)) (by decide +kernel), by decide +kernel⟩
theorem pk_11_37 : PK 11 37 (1, 11, 5, 2) := Or.inl ⟨by decide, by decide +kernel, tm2 (List.mem_of_getElem? (i := 207) (by decide +kernel)) (by decide +kernel), by decide +kernel⟩
theorem pk_11_41 : PK 11 41 (6, 6, 0, 0) := Or.inl ⟨by decide, tm1 (List.mem_of_getElem? (i := 224) (by decide +kernel)) (by decide +kernel)⟩
theorem pk_11_43 : PK 11 43 (1, 11, 6, 2) := Or.inl ⟨by decide, by decide +kernel, tm2 (List.mem_of_getElem? (i := 208) (by decide +kernel)) (by decide +kernel), by decide +kernel⟩
theorem pk_11_47 : PK 11 47 (1, 11, 7, 2) := Or.inl ⟨by decide, by decide +kernel, tm2 (List.mem_of_getElem? (i := 209) (by decide +kernel)) (by decide +kernel), by decide +kernel⟩
theorem pk_11_50 : PK 11 50 (1, 11, 8, 2) := Or.inl ⟨by decide, by decide +kernel, tm2 (List.mem_of_getElem? (i := 210) (by decide +kernel)) (by decide +kernel), by decide +kernel⟩
theorem pk_11_54 : PK 11 54 (6, 9, 0, 0) := Or.inl ⟨by decide, tm1 (List.mem_of_getElem? (i := 226) (by decide +kernel)) (by decide +kernel)⟩
theorem pk_11_56 : PK 11 56 (2, 6, 0, 0) := ⟨by decide, Or.inl (tm1 (List.mem_of_getElem? (i := 228) (by decide +kernel)) (by decide +kernel))⟩
theorem pk_11_59 : PK 11 59 (1, 11, 9, 2) := Or.inl ⟨by decide, by decide +kernel, tm2 (List.mem_of_getElem? (i := 211) (by decide +kernel)) (by decide +kernel), by decide +kernel⟩
theorem pk_11_63 : PK 11 63 (6, 5, 0, 0) := Or.inl ⟨by decide, tm2 (List.mem_of_getElem? (i := 71) (by decide +kernel)) (by decide +kernel)⟩
theorem pk_11_65 : PK 11 65 (2, 8, 0, 0) := ⟨by decide, Or.inr ⟨by decide +kernel, "CrackedMud", List.mem_of_getElem? (i := 2) (by decide +kernel)⟩⟩
theorem pk_11_66 : PK 11 66 (1, 11, 10, 2) := Or.inl ⟨by decide, by decide +kernel, tm2 (List.mem_of_getElem? (i := 212) (by decide +kernel)) (by decide +kernel), by decide +kernel⟩
theorem pk_11_70 : PK 11 70 (6, 10, 0, 0) := Or.inl ⟨by decide, tm2 (List.mem_of_getElem? (i := 87) (by decide +kernel)) (by decide +kernel)⟩
theorem pk_11_72 : PK 11 72 (2, 9, 0, 0) := ⟨by decide, Or.inl (tm2 (List.mem_of_getElem? (i := 89) (by decide +kernel)) (by decide +kernel))⟩
theorem pk_11_75 : PK 11 75 (1, 11, 11, 2) := Or.inl ⟨by decide, by decide +kernel, tm2 (List.mem_of_getElem? (i := 213) (by decide +kernel)) (by decide +kernel), by decide +kernel⟩
theorem pk_11_79 : PK 11 79 (6, 3, 0, 0) := Or.inl ⟨by decide, tm2 (List.mem_of_getElem? (i := 151) (by decide +kernel)) (by decide +kernel)⟩
theorem pk_11_81 : PK 11 81 (2, 11, 0, 0) := ⟨by decide, Or.inl (tm2 (List.mem_of_getElem? (i := 153) (by decide +kernel)) (by decide +kernel))⟩
theorem pk_11_84 : PK 11 84 (1, 11, 12, 2) := Or.inl ⟨by decide, by decide +kernel, tm2 (List.mem_of_getElem? (i := 214) (by decide +kernel)) (by decide +kernel), by decide +kernel⟩
theorem pk_11_88 : PK 11 88 (6, 0, 0, 0) := Or.inl ⟨by decide, tm2 (List.mem_of_getElem? (i := 192) (by decide +kernel)) (by decide +kernel)⟩
theorem pk_11_90 : PK 11 90 (2, 12, 0, 0) := ⟨by decide, Or.inr ⟨by decide +kernel, "CrackedMud", List.mem_of_getElem? (i := 3) (by decide +kernel)⟩⟩
theorem pk_11_91 : PK 11 91 (1, 11, 13, 2) := Or.inl ⟨by decide, by decide +kernel, tm2 (List.mem_of_getElem? (i := 215) (by decide +kernel)) (by decide +kernel), by decide +kernel⟩
theorem pk_11_95 : PK 11 95 (1, 11, 14, 0) := Or.inl ⟨by decide, by decide +kernel, tm2 (List.mem_of_getElem? (i := 216) (by decide +kernel)) (by decide +kernel), by decide +kernel⟩
theorem pk_11_99 : PK 11 99 (1, 11, 15, 0) := Or.inl ⟨by decide, by decide +kernel, tm2 (List.mem_of_getElem? (i := 217) (by decide +kernel)) (by decide +kernel), by decide +kernel⟩
theorem pk_11_102 : PK 11 102 (1, 11, 16, 0) := Or.inl ⟨by decide, by decide +kernel, tm2 (List.mem_of_getElem? (i := 218) (by decide +kernel)) (by decide +kernel), by decide +kernel⟩
theorem pk_11_105 : PK 11 105 (1, 11, 17, 0) := Or.inl ⟨by decide, by decide +kernel, tm2 (List.mem_of_getElem? (i := 219) (by decide +kernel)) (by decide +kernel), by decide +kernel⟩
theorem pk_11_108 : PK 11 108 (2, 14, 0, 0) := ⟨by decide, Or.inl (tm3 (List.mem_of_getElem? (i := 21) (by decide +kernel)) (by decide +kernel))⟩
theorem pk_11_112 : PK 11 112 (2, 15, 0, 0) := ⟨by decide, Or.inl (tm3 (List.mem_of_getElem? (i := 24) (by decide +kernel)) (by decide +kernel))⟩
theorem pk_11_116 : PK 11 116 (1, 2, 4, 0) := Or.inl ⟨by decide, by decide +kernel, tm1 (List.mem_of_getElem? (i := 135) (by decide +kernel)) (by decide +kernel), by decide +kernel⟩
theorem pk_11_119 : PK 11 119 (2, 18, 0, 0) := ⟨by decide, Or.inl (tm3 (List.mem_of_getElem? (i := 40) (by decide +kernel)) (by decide +kernel))⟩
theorem pk_11_122 : PK 11 122 (2, 20, 0, 0) := ⟨by decide, Or.inl (tm3 (List.mem_of_getElem? (i := 48) (by decide +kernel)) (by decide +kernel))⟩
theorem pk_11_126 : PK 11 126 (2, 22, 0, 0) := ⟨by decide, Or.inl (tm3 (List.mem_of_getElem? (i := 56) (by decide +kernel)) (by decide +kernel))⟩
theorem pk_11_130 : PK 11 130 (2, 23, 0, 0) := ⟨by decide, Or.inl (tm3 (List.mem_of_getElem? (i := 59) (by decide +kernel)) (by decide +kernel))⟩
theorem pk_11_134 : PK 11 134 (2, 21, 0, 0) := ⟨by decide, Or.inl (tm3 (List.mem_of_getElem? (i := 52) (by decide +kernel)) (by decide +kernel))⟩
theorem pk_11_138 : PK 11 138 (1, 2, 6, 2) := Or.inl ⟨by decide, by decide +kernel, tm1 (List.mem_of_getElem? (i := 141) (by decide +kernel)) (by decide +kernel), by decide +kernel⟩
theorem pk_11_142 : PK 11 142 (2, 25, 0, 0) := ⟨by decide, Or.inl (tm3 (List.mem_of_getElem? (i := 66) (by decide +kernel)) (by decide +kernel))⟩
theorem pk_11_146 : PK 11 146 (1, 3, 0, 2) := Or.inl ⟨by decide, by decide +kernel, tm2 (List.mem_of_getElem? (i := 158) (by decide +kernel)) (by decide +kernel), by decide +kernel⟩
theorem pk_11_149 : PK 11 149 (2, 44, 0, 0) := ⟨by decide, Or.inl (tm3 (List.mem_of_getElem? (i := 141) (by decide +kernel)) (by decide +kernel))⟩
theorem pk_11_153 : PK 11 153 (1, 2, 10, 2) := Or.inl ⟨by decide, by decide +kernel, tm1 (List.mem_of_getElem? (i := 153) (by decide +kernel)) (by decide +kernel), by decide +kernel⟩
theorem pk_11_156 : PK 11 156 (2, 30, 0, 0) := ⟨by decide, Or.inl (tm3 (List.mem_of_getElem? (i := 148) (by decide +kernel)) (by decide +kernel))⟩
theorem pk_11_159 : PK 11 159 (1, 2, 11, 2) := Or.inl ⟨by decide, by decide +kernel, tm1 (List.mem_of_getElem? (i := 156) (by decide +kernel)) (by decide +kernel), by decide +kernel⟩
theorem pk_11_162 : PK 11 162 (1, 2, 12, 2) := Or.inl ⟨by decide, by decide +kernel, tm1 (List.mem_of_getElem? (i := 159) (by decide +kernel)) (by decide +kernel), by decide +kernel⟩
theorem pk_11_165 : PK 11 165 (1, 2, 9, 2) := Or.inl ⟨by decide, by decide +kernel, tm1 (List.mem_of_getElem? (i := 150) (by decide +kernel)) (by decide +kernel), by decide +kernel⟩
theorem pk_11_168 : PK 11 168 (1, 2, 13, 2) := Or.inl ⟨by decide, by decide +kernel, tm1 (List.mem_of_getElem? (i := 162) (by decide +kernel)) (by decide +kernel), by decide +kernel⟩
theorem pk_11_171 : PK 11 171 (2, 46, 0, 0) := ⟨by decide, Or.inl (tm3 (List.mem_of_getElem? (i := 149) (by decide +kernel)) (by decide +kernel))⟩
theorem pk_11_175 : PK 11 175 (2, 47, 0, 0) := ⟨by decide, Or.inl (tm3 (List.mem_of_getElem? (i := 153) (by decide +kernel)) (by decide +kernel))⟩
theorem pk_11_179 : PK 11 179 (2, 59, 0, 0) := ⟨by decide, Or.inl (tm3 (List.mem_of_getElem? (i := 201) (by decide +kernel)) (by decide +kernel))⟩
theorem pk_11_183 : PK 11 183 (2, 62, 0, 0) := ⟨by decide, Or.inl (tm3 (List.mem_of_getElem? (i := 213) (by decide +kernel)) (by decide +kernel))⟩
theorem pk_11_187 : PK 11 187 (1, 9, 0, 0) := Or.inl ⟨by decide, by decide +kernel, tm2 (List.mem_of_getElem? (i := 22) (by decide +kernel)) (by decide +kernel), by decide +kernel⟩
theorem pk_11_190 : PK 11 190 (1, 2, 5, 0) := Or.inl ⟨by decide, by decide +kernel, tm1 (List.mem_of_getElem? (i := 139) (by decide +kernel)) (by decide +kernel), by decide +kernel⟩
theorem pk_11_193 : PK 11 193 (7, 0, 0, 99999) := ⟨⟨by decide, by decide⟩, tm4 (List.mem_of_getElem? (i := 193) (by decide +kernel)) (by decide +kernel)⟩
theorem pk_11_194 : PK 11 194 (2, 48, 0, 0) := ⟨by decide, Or.inl (tm3 (List.mem_of_getElem? (i := 157) (by decide +kernel)) (by decide +kernel))⟩
theorem pk_11_198 : PK 11 198 (2, 104, 0, 0) := ⟨by decide, Or.inl (tm4 (List.mem_of_getElem? (i := 194) (by decide +kernel)) (by decide +kernel))⟩
theorem pk_11_202 : PK 11 202 (2, 120, 0, 0) := ⟨by decide, Or.inl (tm5 (List.mem_of_getElem? (i := 25) (by decide +kernel)) (by decide +kernel))⟩
theorem pk_11_206 : PK 11 206 (2, 125, 0, 0) := ⟨by decide, Or.inl (tm5 (List.mem_of_getElem? (i := 45) (by decide +kernel)) (by decide +kernel))⟩
theorem pk_11_209 : PK 11 209 (1, 2, 14, 2) := Or.inl ⟨by decide, by decide +kernel, tm1 (List.mem_of_getElem? (i := 167) (by decide +kernel)) (by decide +kernel), by decide +kernel⟩
theorem pk_11_213 : PK 11 213 (1, 7, 1, 2) := Or.inl ⟨by decide, by decide +kernel, tm1 (List.mem_of_getElem? (i := 91) (by decide +kernel)) (by decide +kernel), by decide +kernel⟩
theorem pk_11_218 : PK 11 218 (1, 7, 2, 2) := Or.inl ⟨by decide, by decide +kernel, tm1 (List.mem_of_getElem? (i := 94) (by decide +kernel)) (by decide +kernel), by decide +kernel⟩
theorem pk_11_221 : PK 11 221 (1, 7, 5, 2) := Or.inl ⟨by decide, by decide +kernel, tm1 (List.mem_of_getElem? (i := 103) (by decide +kernel)) (by decide +kernel), by decide +kernel⟩
theorem pk_11_224 : PK 11 224 (1, 7, 3, 2) := Or.inl ⟨by decide, by decide +kernel, tm1 (List.mem_of_getElem? (i := 96) (by decide +kernel)) (by decide +kernel), by decide +kernel⟩
theorem pk_11_227 : PK 11 227 (1, 7, 4, 2) := Or.inl ⟨by decide, by decide +kernel, tm1 (List.mem_of_getElem? (i := 99) (by decide +kernel)) (by decide +kernel), by decide +kernel⟩
theorem pk_11_230 : PK 11 230 (2, 17, 0, 0) := ⟨by decide, Or.inl (tm5 (List.mem_of_getElem? (i := 49) (by decide +kernel)) (by decide +kernel))⟩
theorem pk_11_235 : PK 11 235 (1, 3, 1, 2) := Or.inl ⟨by decide, by decide +kernel, tm2 (List.mem_of_getElem? (i := 160) (by decide +kernel)) (by decide +kernel), by decide +kernel⟩
theorem pk_11_238 : PK 11 238 (2, 34, 0, 0) := ⟨by decide, Or.inl (tm5 (List.mem_of_getElem? (i := 54) (by decide +kernel)) (by decide +kernel))⟩
theorem pk_11_241 : PK 11 241 (1, 3, 2, 2) := Or.inl ⟨by decide, by decide +kernel, tm2 (List.mem_of_getElem? (i := 162) (by decide +kernel)) (by decide +kernel), by decide +kernel⟩
theorem pk_11_245 : PK 11 245 (2, 128, 0, 0) := ⟨by decide, Or.inl (tm5 (List.mem_of_getElem? (i := 59) (by decide +kernel)) (by decide +kernel))⟩
theorem pk_11_248 : PK 11 248 (2, 131, 0, 0) := ⟨by decide, Or.inl (tm5 (List.mem_of_getElem? (i := 71) (by decide +kernel)) (by decide +kernel))⟩
theorem pk_11_251 : PK 11 251 (2, 132, 0, 0) := ⟨by decide, Or.inl (tm5 (List.mem_of_getElem? (i := 75) (by decide +kernel)) (by decide +kernel))⟩
theorem pk_11_255 : PK 11 255 (1, 4, 0, 0) := Or.inl ⟨by decide, by decide +kernel, tm1 (List.mem_of_getElem? (i := 207) (by decide +kernel)) (by decide +kernel), by decide +kernel⟩
theorem pk_11_258 : PK 11 258 (1, 3, 3, 2) := Or.inl ⟨by decide, by decide +kernel, tm2 (List.mem_of_getElem? (i := 164) (by decide +kernel)) (by decide +kernel), by decide +kernel⟩
theorem pk_11_261 : PK 11 261 (2, 135, 0, 0) := ⟨by decide, Or.inl (tm5 (List.mem_of_getElem? (i := 87) (by decide +kernel)) (by decide +kernel))⟩
theorem pk_11_265 : PK 11 265 (2, 137, 0, 0) := ⟨by decide, Or.inl (tm5 (List.mem_of_getElem? (i := 95) (by decide +kernel)) (by decide +kernel))⟩
theorem pk_11_268 : PK 11 268 (2, 138, 0, 0) := ⟨by decide, Or.inl (tm5 (List.mem_of_getElem? (i := 99) (by decide +kernel)) (by decide +kernel))⟩
theorem pk_11_271 : PK 11 271 (2, 140, 0, 0) := ⟨by decide, Or.inl (tm5 (List.mem_of_getElem? (i := 106) (by decide +kernel)) (by decide +kernel))⟩
theorem pk_11_274 : PK 11 274 (2, 143, 0, 0) := ⟨by decide, Or.inl (tm5 (List.mem_of_getElem? (i := 118) (by decide +kernel)) (by decide +kernel))⟩
theorem pk_11_278 : PK 11 278 (2, 145, 0, 0) := ⟨by decide, Or.inl (tm5 (List.mem_of_getElem? (i := 127) (by decide +kernel)) (by decide +kernel))⟩
theorem pk_11_281 : PK 11 281 (1, 7, 0, 0) := Or.inl ⟨by decide, by decide +kernel, tm1 (List.mem_of_getElem? (i := 89) (by decide +kernel)) (by decide +kernel), by decide +kernel⟩
theorem pk_11_284 : PK 11 284 (2, 148, 0, 0) := ⟨by decide, Or.inl (tm5 (List.mem_of_getElem? (i := 139) (by decide +kernel)) (by decide +kernel))⟩
theorem pk_11_287 : PK 11 287 (2, 149, 0, 0) := ⟨by decide, Or.inl (tm5 (List.mem_of_getElem? (i := 143) (by decide +kernel)) (by decide +kernel))⟩
theorem pk_11_290 : PK 11 290 (2, 151, 0, 0) := ⟨by decide, Or.inl (tm5 (List.mem_of_getElem? (i := 151) (by decide +kernel)) (by decide +kernel))⟩
theorem pk_11_293 : PK 11 293 (1, 3, 4, 0) := Or.inl ⟨by decide, by decide +kernel, tm2 (List.mem_of_getElem? (i := 166) (by decide +kernel)) (by decide +kernel), by decide +kernel⟩
theorem pk_11_296 : PK 11 296 (1, 3, 5, 0) := Or.inl ⟨by decide, by decide +kernel, tm2 (List.mem_of_getElem? (i := 168) (by decide +kernel)) (by decide +kernel), by decide +kernel⟩
theorem pk_11_299 : PK 11 299 (2, 154, 0, 0) := ⟨by decide, Or.inl (tm5 (List.mem_of_getElem? (i := 164) (by decide +kernel)) (by decide +kernel))⟩
theorem pk_11_302 : PK 11 302 (2, 41, 0, 0) := ⟨by decide, Or.inl (tm5 (List.mem_of_getElem? (i := 174) (by decide +kernel)) (by decide +kernel))⟩
theorem pk_11_306 : PK 11 306 (2, 158, 0, 0) := ⟨by decide, Or.inl (tm5 (List.mem_of_getElem? (i := 183) (by decide +kernel)) (by decide +kernel))⟩
theorem pk_11_309 : PK 11 309 (2, 160, 0, 0) := ⟨by decide, Or.inl (tm5 (List.mem_of_getElem? (i := 191) (by decide +kernel)) (by decide +kernel))⟩
theorem pk_11_313 : PK 11 313 (1, 4, 2, 2) := Or.inl ⟨by decide, by decide +kernel, tm1 (List.mem_of_getElem? (i := 210) (by decide +kernel)) (by decide +kernel), by decide +kernel⟩
theorem pk_11_316 : PK 11 316 (1, 4, 3, 2) := Or.inl ⟨by decide, by decide +kernel, tm1 (List.mem_of_getElem? (i := 212) (by decide +kernel)) (by decide +kernel), by decide +kernel⟩
theorem pk_11_319 : PK 11 319 (2, 164, 0, 0) := ⟨by decide, Or.inl (tm5 (List.mem_of_getElem? (i := 207) (by decide +kernel)) (by decide +kernel))⟩
theorem pk_11_322 : PK 11 322 (2, 165, 0, 0) := ⟨by decide, Or.inl (tm5 (List.mem_of_getElem? (i := 211) (by decide +kernel)) (by decide +kernel))⟩
theorem pk_11_327 : PK 11 327 (2, 166, 0, 0) := ⟨by decide, Or.inl (tm5 (List.mem_of_getElem? (i := 217) (by decide +kernel)) (by decide +kernel))⟩
theorem pk_11_331 : PK 11 331 (2, 168, 0, 0) := ⟨by decide, Or.inl (tm5 (List.mem_of_getElem? (i := 225) (by decide +kernel)) (by decide +kernel))⟩
theorem pk_11_334 : PK 11 334 (1, 2, 1, 0) := Or.inl ⟨by decide, by decide +kernel, tm1 (List.mem_of_getElem? (i := 129) (by decide +kernel)) (by decide +kernel), by decide +kernel⟩
theorem pk_11_337 : PK 11 337 (1, 2, 2, 0) := Or.inl ⟨by decide, by decide +kernel, tm1 (List.mem_of_getElem? (i := 131) (by decide +kernel)) (by decide +kernel), by decide +kernel⟩
theorem pk_11_340 : PK 11 340 (1, 2, 3, 0) := Or.inl ⟨by decide, by decide +kernel, tm1 (List.mem_of_getElem? (i := 133) (by decide +kernel)) (by decide +kernel), by decide +kernel⟩
theorem pk_11_343 : PK 11 343 (2, 171, 0, 0) := ⟨by decide, Or.inl (tm5 (List.mem_of_getElem? (i := 238) (by decide +kernel)) (by decide +kernel))⟩
theorem pk_11_346 : PK 11 346 (2, 173, 0, 0) := ⟨by decide, Or.inl (tm6 (List.mem_of_getElem? (i := 6) (by decide +kernel)) (by decide +kernel))⟩
theorem pk_11_349 : PK 11 349 (2, 175, 0, 0) := ⟨by decide, Or.inl (tm6 (List.mem_of_getElem? (i := 14) (by decide +kernel)) (by decide +kernel))⟩
theorem pk_11_352 : PK 11 352 (2, 159, 0, 0) := ⟨by decide, Or.inl (tm5 (List.mem_of_getElem? (i := 187) (by decide +kernel)) (by decide +kernel))⟩
theorem pk_11_355 : PK 11 355 (1, 2, 0, 0) := Or.inl ⟨by decide, by decide +kernel, tm1 (List.mem_of_getElem? (i := 127) (by decide +kernel)) (by decide +kernel), by decide +kernel⟩
theorem pk_11_358 : PK 11 358 (1, 2, 7, 2) := Or.inl ⟨by decide, by decide +kernel, tm1 (List.mem_of_getElem? (i := 145) (by decide +kernel)) (by decide +kernel), by decide +kernel⟩
theorem pk_11_361 : PK 11 361 (1, 2, 8, 2) := Or.inl ⟨by decide, by decide +kernel, tm1 (List.mem_of_getElem? (i := 148) (by decide +kernel)) (by decide +kernel), by decide +kernel⟩
theorem pk_11_364 : PK 11 364 (2, 49, 0, 0) := ⟨by decide, Or.inl (tm3 (List.mem_of_getElem? (i := 161) (by decide +kernel)) (by decide +kernel))⟩
theorem pk_11_367 : PK 11 367 (2, 57, 0, 0) := ⟨by decide, Or.inl (tm3 (List.mem_of_getElem? (i := 192) (by decide +kernel)) (by decide +kernel))⟩
theorem pk_11_370 : PK 11 370 (2, 129, 0, 0) := ⟨by decide, Or.inl (tm5 (List.mem_of_getElem? (i := 63) (by decide +kernel)) (by decide +kernel))⟩
theorem pk_11_373 : PK 11 373 (1, 5, 0, 2) := Or.inl ⟨by decide, by decide +kernel, tm2 (List.mem_of_getElem? (i := 79) (by decide +kernel)) (by decide +kernel), by decide +kernel⟩
theorem pk_11_377 : PK 11 377 (2, 133, 0, 0) := ⟨by decide, Or.inl (tm5 (List.mem_of_getElem? (i := 79) (by decide +kernel)) (by decide +kernel))⟩
set_option maxRecDepth 100000 in
theorem pks_11 : ∀ q ∈ pl_11, PK 11 q.1 q.2 := List.forall_mem_cons.mpr ⟨pk_11_3, List.forall_mem_cons.mpr ⟨pk_11_9, List.forall_mem_cons.mpr ⟨pk_11_11, List.forall_mem_cons.mpr ⟨pk_11_12, List.forall_mem_cons.mpr ⟨pk_11_16, List.forall_mem_cons.mpr ⟨pk_11_18, List.forall_mem_cons.mpr ⟨pk_11_19, List.forall_mem_cons.mpr ⟨pk_11_23, List.forall_mem_cons.mpr ⟨pk_11_26, List.forall_mem_cons.mpr ⟨pk_11_28, List.forall_mem_cons.mpr ⟨pk_11_29, List.forall_mem_cons.mpr ⟨pk_11_33, List.forall_mem_cons.mpr ⟨pk_11_37, List.forall_mem_cons.mpr ⟨pk_11_41, List.forall_mem_cons.mpr ⟨pk_11_43, List.forall_mem_cons.mpr ⟨pk_11_47, List.forall_mem_cons.mpr ⟨pk_11_50, List.forall_mem_cons.mpr ⟨pk_11_54, List.forall_mem_cons.mpr ⟨pk_11_56, List.forall_mem_cons.mpr ⟨pk_11_59, List.forall_mem_cons.mpr ⟨pk_11_63, List.forall_mem_cons.mpr ⟨pk_11_65, List.forall_mem_cons.mpr ⟨pk_11_66, List.forall_mem_cons.mpr ⟨pk_11_70, List.forall_mem_cons.mpr ⟨pk_11_72, List.forall_mem_cons.mpr ⟨pk_11_75, List.forall_mem_cons.mpr ⟨pk_11_79, List.forall_mem_cons.mpr ⟨pk_11_81, List.forall_mem_cons.mpr ⟨pk_11_84, List.forall_mem_cons.mpr ⟨pk_11_88, List.forall_mem_cons.mpr ⟨pk_11_90, List.forall_mem_cons.mpr ⟨pk_11_91, List.forall_mem_cons.mpr ⟨pk_11_95, List.forall_mem_cons.mpr ⟨pk_11_99, List.forall_mem_cons.mpr ⟨pk_11_102, List.forall_mem_cons.mpr ⟨pk_11_105, List.forall_mem_cons.mpr ⟨pk_11_108, List.forall_mem_cons.mpr ⟨pk_11_112, List.forall_mem_cons.mpr ⟨pk_11_116, List.forall_mem_cons.mpr ⟨pk_11_119, List.forall_mem_cons.mpr ⟨pk_11_122, List.forall_mem_cons.mpr ⟨pk_11_126, List.forall_mem_cons.mpr ⟨pk_11_130, List.forall_mem_cons.mpr ⟨pk_11_134, List.forall_mem_cons.mpr ⟨pk_11_138, List.forall_mem_cons.mpr ⟨pk_11_142, List.forall_mem_cons.mpr ⟨pk_11_146, List.forall_mem_cons.mpr ⟨pk_11_149, List.forall_mem_cons.mpr ⟨pk_11_153, List.forall_mem_cons.mpr ⟨pk_11_156, List.forall_mem_cons.mpr ⟨pk_11_159, List.forall_mem_cons.mpr ⟨pk_11_162, List.forall_mem_cons.mpr ⟨pk_11_165, List.forall_mem_cons.mpr ⟨pk_11_168, List.forall_mem_cons.mpr ⟨pk_11_171, List.forall_mem_cons.mpr ⟨pk_11_175, List.forall_mem_cons.mpr ⟨pk_11_179, List.forall_mem_cons.mpr ⟨pk_11_183, List.forall_mem_cons.mpr ⟨pk_11_187, List.forall_mem_cons.mpr ⟨pk_11_190, List.forall_mem_cons.mpr ⟨pk_11_193, List.forall_mem_cons.mpr ⟨pk_11_194, List.forall_mem_cons.mpr ⟨pk_11_198, List.forall_mem_cons.mpr ⟨pk_11_202, List.forall_mem_cons.mpr ⟨pk_11_206, List.forall_mem_cons.mpr ⟨pk_11_209, List.forall_mem_cons.mpr ⟨pk_11_213, List.forall_mem_cons.mpr ⟨pk_11_218, List.forall_mem_cons.mpr ⟨pk_11_221, List.forall_mem_cons.mpr ⟨pk_11_224, List.forall_mem_cons.mpr ⟨pk_11_227, List.forall_mem_cons.mpr ⟨pk_11_230, List.forall_mem_cons.mpr ⟨pk_11_235, List.forall_mem_cons.mpr ⟨pk_11_238, List.forall_mem_cons.mpr ⟨pk_11_241, List.forall_mem_cons.mpr ⟨pk_11_245, List.forall_mem_cons.mpr ⟨pk_11_248, List.forall_mem_cons.mpr ⟨pk_11_251, List.forall_mem_cons.mpr ⟨pk_11_255, List.forall_mem_cons.mpr ⟨pk_11_258, List.forall_mem_cons.mpr ⟨pk_11_261, List.forall_mem_cons.mpr ⟨pk_11_265, List.forall_mem_cons.mpr ⟨pk_11_268, List.forall_mem_cons.mpr ⟨pk_11_271, List.forall_mem_cons.mpr ⟨pk_11_274, List.forall_mem_cons.mpr ⟨pk_11_278, List.forall_mem_cons.mpr ⟨pk_11_281, List.forall_mem_cons.mpr ⟨pk_11_284, List.forall_mem_cons.mpr ⟨pk_11_287, List.forall_mem_cons.mpr ⟨pk_11_290, List.forall_mem_cons.mpr ⟨pk_11_293, List.forall_mem_cons.mpr ⟨pk_11_296, List.forall_mem_cons.mpr ⟨pk_11_299, List.forall_mem_cons.mpr ⟨pk_11_302, List.forall_mem_cons.mpr ⟨pk_11_306, List.forall_mem_cons.mpr ⟨pk_11_309, List.forall_mem_cons.mpr ⟨pk_11_313, List.forall_mem_cons.mpr ⟨pk_11_316, List.forall_mem_cons.mpr ⟨pk_11_319, List.forall_mem_cons.mpr ⟨pk_11_322, List.forall_mem_cons.mpr ⟨pk_11_327, List.forall_mem_cons.mpr ⟨pk_11_331, List.forall_mem_cons.mpr ⟨pk_11_334, List.forall_mem_cons.mpr ⟨pk_11_337, List.forall_mem_cons.mpr ⟨pk_11_340, List.forall_mem_cons.mpr ⟨pk_11_343, List.forall_mem_cons.mpr ⟨pk_11_346, List.forall_mem_cons.mpr ⟨pk_11_349, List.forall_mem_cons.mpr ⟨pk_11_352, List.forall_mem_cons.mpr ⟨pk_11_355, List.forall_mem_cons.mpr ⟨pk_11_358, List.forall_mem_cons.mpr ⟨pk_11_361, List.forall_mem_cons.mpr ⟨pk_11_364, List.forall_mem_cons.mpr ⟨pk_11_367, List.forall_mem_cons.mpr ⟨pk_11_370, List.forall_mem_cons.mpr ⟨pk_11_373, List.forall_mem_cons.mpr ⟨pk_11_377, fun _ h => absurd h List.not_mem_nil⟩⟩⟩⟩⟩⟩⟩⟩⟩⟩⟩⟩⟩⟩⟩⟩⟩⟩⟩⟩⟩⟩⟩⟩⟩⟩⟩⟩⟩⟩⟩⟩⟩⟩⟩⟩⟩⟩⟩⟩⟩⟩⟩⟩⟩⟩⟩⟩⟩⟩⟩⟩⟩⟩⟩⟩⟩⟩⟩⟩⟩⟩⟩⟩⟩⟩⟩⟩⟩⟩⟩⟩⟩⟩⟩⟩⟩⟩⟩⟩⟩⟩⟩⟩⟩⟩⟩⟩⟩⟩⟩⟩⟩⟩⟩⟩⟩⟩⟩⟩⟩⟩⟩⟩⟩⟩⟩⟩⟩⟩⟩⟩⟩⟩⟩⟩⟩
theorem pk_12_1 : PK 12 1 (3, 0, 0, 0) := tm6 (List.mem_of_getElem? (i := 28) (by decide +kernel)) (by decide +kernel)
theorem pk_12_7 : PK 12 7 (1, 12, 2, 2) := Or.inl ⟨by decide, by decide +kernel, tm6 (List.mem_of_getElem? (i := 30) (by decide +kernel)) (by decide +kernel), by decide +kernel⟩
theorem pk_12_13 : PK 12 13 (1, 12, 3, 2) := Or.inl ⟨by decide, by decide +kernel, tm6 (List.mem_of_getElem? (i := 31) (by decide +kernel)) (by decide +kernel), by decide +kernel⟩
theorem pk_12_16 : PK 12 16 (1, 12, 4, 2) := Or.inl ⟨by decide, by decide +kernel, tm6 (List.mem_of_getElem? (i := 32) (by decide +kernel)) (by decide +kernel), by decide +kernel⟩
theorem pk_12_19 : PK 12 19 (1, 12, 5, 2) := Or.inl ⟨by decide, by decide +kernel, tm6 (List.mem_of_getElem? (i := 33) (by decide +kernel)) (by decide +kernel), by decide +kernel⟩
theorem pk_12_22 : PK 12 22 (1, 12, 6, 2) := Or.inl ⟨by decide, by decide +kernel, tm6 (List.mem_of_getElem? (i := 34) (by decide +kernel)) (by decide +kernel), by decide +kernel⟩
theorem pk_12_25 : PK 12 25 (1, 12, 7, 2) := Or.inl ⟨by decide, by decide +kernel, tm6 (List.mem_of_getElem? (i := 35) (by decide +kernel)) (by decide +kernel), by decide +kernel⟩
theorem pk_12_28 : PK 12 28 (1, 12, 8, 2) := Or.inl ⟨by decide, by decide +kernel, tm6 (List.mem_of_getElem? (i := 36) (by decide +kernel)) (by decide +kernel), by decide +kernel⟩
theorem pk_12_31 : PK 12 31 (1, 12, 9, 2) := Or.inl ⟨by decide, by decide +kernel, tm6 (List.mem_of_getElem? (i := 37) (by decide +kernel)) (by decide +kernel), by decide +kernel⟩
theorem pk_12_34 : PK 12 34 (1, 12, 10, 2) := Or.inl ⟨by decide, by decide +kernel, tm6 (List.mem_of_getElem? (i := 38) (by decide +kernel)) (by decide +kernel), by decide +kernel⟩
theorem pk_12_37 : PK 12 37 (1, 12, 11, 2) := Or.inl ⟨by decide, by decide +kernel, tm6 (List.mem_of_getElem? (i := 39) (by decide +kernel)) (by decide +kernel), by decide +kernel⟩
theorem pk_12_40 : PK 12 40 (1, 12, 12, 2) := Or.inl ⟨by decide, by decide +kernel, tm6 (List.mem_of_getElem? (i := 40) (by decide +kernel)) (by decide +kernel), by decide +kernel⟩
theorem pk_12_43 : PK 12 43 (1, 12, 13, 2) := Or.inl ⟨by decide, by decide +kernel, tm6 (List.mem_of_getElem? (i := 41) (by decide +kernel)) (by decide +kernel), by decide +kernel⟩
theorem pk_12_46 : PK 12 46 (1, 12, 14, 2) := Or.inl ⟨by decide, by decide +kernel, tm6 (List.mem_of_getElem? (i := 42) (by decide +kernel)) (by decide +kernel), by decide +kernel⟩
theorem pk_12_49 : PK 12 49 (1, 12, 15, 2) := Or.inl ⟨by decide, by decide +kernel, tm6 (List.mem_of_getElem? (i := 43) (by decide +kernel)) (by decide +kernel), by decide +kernel⟩
theorem pk_12_52 : PK 12 52 (1, 12, 16, 2) := Or.inl ⟨by decide, by decide +kernel, tm6 (List.mem_of_getElem? (i := 44) (by decide +kernel)) (by decide +kernel), by decide +kernel⟩
theorem pk_12_55 : PK 12 55 (1, 12, 17, 2) := Or.inl ⟨by decide, by decide +kernel, tm6 (List.mem_of_getElem? (i := 45) (by decide +kernel)) (by decide +kernel), by decide +kernel⟩
theorem pk_12_58 : PK 12 58 (1, 12, 18, 2) := Or.inl ⟨by decide, by decide +kernel, tm6 (List.mem_of_getElem? (i := 46) (by decide +kernel)) (by decide +kernel), by decide +kernel⟩
theorem pk_12_61 : PK 12 61 (1, 12, 19, 2) := Or.inl ⟨by decide, by decide +kernel, tm6 (List.mem_of_getElem? (i := 47) (by decide +kernel)) (by decide +kernel), by decide +kernel⟩
theorem pk_12_64 : PK 12 64 (1, 12, 31, 2) := Or.inl ⟨by decide, by decide +kernel, tm6 (List.mem_of_getElem? (i := 59) (by decide +kernel)) (by decide +kernel), by decide +kernel⟩
theorem pk_12_68 : PK 12 68 (1, 12, 32, 2) := Or.inl ⟨by decide, by decide +kernel, tm6 (List.mem_of_getElem? (i := 60) (by decide +kernel)) (by decide +kernel), by decide +kernel⟩
theorem pk_12_71 : PK 12 71 (1, 12, 33, 2) := Or.inl ⟨by decide, by decide +kernel, tm6 (List.mem_of_getElem? (i := 61) (by decide +kernel)) (by decide +kernel), by decide +kernel⟩
theorem pk_12_74 : PK 12 74 (1, 12, 34, 2) := Or.inl ⟨by decide, by decide +kernel, tm6 (List.mem_of_getElem? (i := 62) (by decide +kernel)) (by decide +kernel), by decide +kernel⟩
theorem pk_12_77 : PK 12 77 (1, 12, 35, 2) := Or.inl ⟨by decide, by decide +kernel, tm6 (List.mem_of_getElem? (i := 63) (by decide +kernel)) (by decide +kernel), by decide +kernel⟩
theorem pk_12_80 : PK 12 80 (1, 12, 36, 2) := Or.inl ⟨by decide, by decide +kernel, tm6 (List.mem_of_getElem? (i := 64) (by decide +kernel)) (by decide +kernel), by decide +kernel⟩
theorem pk_12_83 : PK 12 83 (1, 12, 37, 2) := Or.inl ⟨by decide, by decide +kernel, tm6 (List.mem_of_getElem? (i := 65) (by decide +kernel)) (by decide +kernel), by decide +kernel⟩
theorem pk_12_86 : PK 12 86 (1, 12, 38, 2) := Or.inl ⟨by decide, by decide +kernel, tm6 (List.mem_of_getElem? (i := 66) (by decide +kernel)) (by decide +kernel), by decide +kernel⟩
theorem pk_12_89 : PK 12 89 (1, 12, 39, 2) := Or.inl ⟨by decide, by decide +kernel, tm6 (List.mem_of_getElem? (i := 67) (by decide +kernel)) (by decide +kernel), by decide +kernel⟩
theorem pk_12_92 : PK 12 92 (1, 12, 40, 2) := Or.inl ⟨by decide, by decide +kernel, tm6 (List.mem_of_getElem? (i := 68) (by decide +kernel)) (by decide +kernel), by decide +kernel⟩
theorem pk_12_95 : PK 12 95 (1, 12, 41, 2) := Or.inl ⟨by decide, by decide +kernel, tm6 (List.mem_of_getElem? (i := 69) (by decide +kernel)) (by decide +kernel), by decide +kernel⟩
theorem pk_12_99 : PK 12 99 (1, 12, 42, 2) := Or.inl ⟨by decide, by decide +kernel, tm6 (List.mem_of_getElem? (i := 70) (by decide +kernel)) (by decide +kernel), by decide +kernel⟩
theorem pk_12_102 : PK 12 102 (1, 12, 43, 2) := Or.inl ⟨by decide, by decide +kernel, tm6 (List.mem_of_getElem? (i := 71) (by decide +kernel)) (by decide +kernel), by decide +kernel⟩
theorem pk_12_105 : PK 12 105 (1, 12, 44, 2) := Or.inl ⟨by decide, by decide +kernel, tm6 (List.mem_of_getElem? (i := 72) (by decide +kernel)) (by decide +kernel), by decide +kernel⟩
theorem pk_12_108 : PK 12 108 (1, 12, 45, 2) := Or.inl ⟨by decide, by decide +kernel, tm6 (List.mem_of_getElem? (i := 73) (by decide +kernel)) (by decide +kernel), by decide +kernel⟩
theorem pk_12_111 : PK 12 111 (1, 12, 46, 2) := Or.inl ⟨by decide, by decide +kernel, tm6 (List.mem_of_getElem? (i := 74) (by decide +kernel)) (by decide +kernel), by decide +kernel⟩
theorem pk_12_114 : PK 12 114 (1, 12, 47, 2) := Or.inl ⟨by decide, by decide +kernel, tm6 (List.mem_of_getElem? (i := 75) (by decide +kernel)) (by decide +kernel), by decide +kernel⟩
theorem pk_12_117 : PK 12 117 (1, 12, 48, 2) := Or.inl ⟨by decide, by decide +kernel, tm6 (List.mem_of_getElem? (i := 76) (by decide +kernel)) (by decide +kernel), by decide +kernel⟩
theorem pk_12_121 : PK 12 121 (1, 12, 49, 2) := Or.inl ⟨by decide, by decide +kernel, tm6 (List.mem_of_getElem? (i := 77) (by decide +kernel)) (by decide +kernel), by decide +kernel⟩
theorem pk_12_124 : PK 12 124 (1, 12, 50, 2) := Or.inl ⟨by decide, by decide +kernel, tm6 (List.mem_of_getElem? (i := 78) (by decide +kernel)) (by decide +kernel), by decide +kernel⟩
theorem pk_12_127 : PK 12 127 (1, 12, 51, 2) := Or.inl ⟨by decide, by decide +kernel, tm6 (List.mem_of_getElem? (i := 79) (by decide +kernel)) (by decide +kernel), by decide +kernel⟩
theorem pk_12_130 : PK 12 130 (1, 12, 52, 2) := Or.inl ⟨by decide, by decide +kernel, tm6 (List.mem_of_getElem? (i := 80) (by decide +kernel)) (by decide +kernel), by decide +kernel⟩
theorem pk_12_133 : PK 12 133 (1, 12, 53, 2) := Or.inl ⟨by decide, by decide +kernel, tm6 (List.mem_of_getElem? (i := 81) (by decide +kernel)) (by decide +kernel), by decide +kernel⟩
theorem pk_12_136 : PK 12 136 (1, 12, 54, 2) := Or.inl ⟨by decide, by decide +kernel, tm6 (List.mem_of_getElem? (i := 82) (by decide +kernel)) (by decide +kernel), by decide +kernel⟩
theorem pk_12_139 : PK 12 139 (1, 12, 55, 2) := Or.inl ⟨by decide, by decide +kernel, tm6 (List.mem_of_getElem? (i := 83) (by decide +kernel)) (by decide +kernel), by decide +kernel⟩
theorem pk_12_146 : PK 12 146 (8, 0, 0, 1103515245) := ⟨⟨by decide, by decide⟩, tm6 (List.mem_of_getElem? (i := 216) (by decide +kernel)) (by decide +kernel)⟩
theorem pk_12_148 : PK 12 148 (8, 0, 0, 12345) := ⟨⟨by decide, by decide⟩, tm6 (List.mem_of_getElem? (i := 217) (by decide +kernel)) (by decide +kernel)⟩
theorem pk_12_150 : PK 12 150 (8, 0, 0, 2147483648) := ⟨⟨by decide, by decide⟩, tm6 (List.mem_of_getElem? (i := 218) (by decide +kernel)) (by decide +kernel)⟩
theorem pk_12_152 : PK 12 152 (8, 0, 0, 65536) := ⟨⟨by decide, by decide⟩, tm6 (List.mem_of_getElem? (i := 219) (by decide +kernel)) (by decide +kernel)⟩
theorem pk_12_154 : PK 12 154 (8, 0, 0, 4) := ⟨⟨by decide, by decide⟩, tm6 (List.mem_of_getElem? (i := 207) (by decide +kernel)) (by decide +kernel)⟩
theorem pk_12_156 : PK 12 156 (2, 179, 0, 0) := ⟨by decide, Or.inl (tm6 (List.mem_of_getElem? (i := 208) (by decide +kernel)) (by decide +kernel))⟩
theorem pk_12_160 : PK 12 160 (8, 0, 0, 9999) := ⟨⟨by decide, by decide⟩, tm6 (List.mem_of_getElem? (i := 211) (by decide +kernel)) (by decide +kernel)⟩
theorem pk_12_162 : PK 12 162 (1, 12, 1, 0) := Or.inl ⟨by decide, by decide +kernel, tm6 (List.mem_of_getElem? (i := 29) (by decide +kernel)) (by decide +kernel), by decide +kernel⟩
theorem pk_12_165 : PK 12 165 (2, 180, 0, 0) := ⟨by decide, Or.inl (tm6 (List.mem_of_getElem? (i := 212) (by decide +kernel)) (by decide +kernel))⟩
theorem pk_12_169 : PK 12 169 (2, 183, 0, 0) := ⟨by decide, Or.inl (tm6 (List.mem_of_getElem? (i := 228) (by decide +kernel)) (by decide +kernel))⟩
theorem pk_12_173 : PK 12 173 (8, 0, 0, 9) := ⟨⟨by decide, by decide⟩, tm6 (List.mem_of_getElem? (i := 232) (by decide +kernel)) (by decide +kernel)⟩
theorem pk_12_175 : PK 12 175 (2, 182, 0, 0) := ⟨by decide, Or.inl (tm6 (List.mem_of_getElem? (i := 224) (by decide +kernel)) (by decide +kernel))⟩
theorem pk_12_179 : PK 12 179 (8, 0, 0, 5) := ⟨⟨by decide, by decide⟩, tm6 (List.mem_of_getElem? (i := 233) (by decide +kernel)) (by decide +kernel)⟩
theorem pk_12_181 : PK 12 181 (8, 0, 0, 1000) := ⟨⟨by decide, by decide⟩, tm6 (List.mem_of_getElem? (i := 234) (by decide +kernel)) (by decide +kernel)⟩
theorem pk_12_183 : PK 12 183 (8, 0, 0, 7) := ⟨⟨by decide, by decide⟩, tm6 (List.mem_of_getElem? (i := 239) (by decide +kernel)) (by decide +kernel)⟩
theorem pk_12_185 : PK 12 185 (2, 185, 0, 0) := ⟨by decide, Or.inl (tm7 (List.mem_of_getElem? (i := 0) (by decide +kernel)) (by decide +kernel))⟩
theorem pk_12_188 : PK 12 188 (8, 0, 0, 179) := ⟨⟨by decide, by decide⟩, tm7 (List.mem_of_getElem? (i := 28) (by decide +kernel)) (by decide +kernel)⟩
theorem pk_12_190 : PK 12 190 (2, 192, 0, 0) := ⟨by decide, Or.inl (tm7 (List.mem_of_getElem? (i := 24) (by decide +kernel)) (by decide +kernel))⟩
theorem pk_12_194 : PK 12 194 (2, 187, 0, 0) := ⟨by decide, Or.inl (tm7 (List.mem_of_getElem? (i := 7) (by decide +kernel)) (by decide +kernel))⟩
theorem pk_12_198 : PK 12 198 (2, 188, 0, 0) := ⟨by decide, Or.inl (tm7 (List.mem_of_getElem? (i := 10) (by decide +kernel)) (by decide +kernel))⟩
theorem pk_12_201 : PK 12 201 (2, 186, 0, 0) := ⟨by decide, Or.inl (tm7 (List.mem_of_getElem? (i := 4) (by decide +kernel)) (by decide +kernel))⟩
theorem pk_12_204 : PK 12 204 (2, 248, 0, 0) := ⟨by decide, Or.inl (tm8 (List.mem_of_getElem? (i := 38) (by decide +kernel)) (by decide +kernel))⟩
theorem pk_12_208 : PK 12 208 (2, 240, 0, 0) := ⟨by decide, Or.inl (tm8 (List.mem_of_getElem? (i := 10) (by decide +kernel)) (by decide +kernel))⟩
theorem pk_12_211 : PK 12 211 (2, 190, 0, 0) := ⟨by decide, Or.inl (tm7 (List.mem_of_getElem? (i := 16) (by decide +kernel)) (by decide +kernel))⟩
theorem pk_12_214 : PK 12 214 (1, 12, 20, 0) := Or.inl ⟨by decide, by decide +kernel, tm6 (List.mem_of_getElem? (i := 48) (by decide +kernel)) (by decide +kernel), by decide +kernel⟩
theorem pk_12_217 : PK 12 217 (2, 194, 0, 0) := ⟨by decide, Or.inl (tm7 (List.mem_of_getElem? (i := 33) (by decide +kernel)) (by decide +kernel))⟩
theorem pk_12_220 : PK 12 220 (1, 12, 23, 0) := Or.inl ⟨by decide, by decide +kernel, tm6 (List.mem_of_getElem? (i := 51) (by decide +kernel)) (by decide +kernel), by decide +kernel⟩
theorem pk_12_223 : PK 12 223 (2, 217, 0, 0) := ⟨by decide, Or.inl (tm7 (List.mem_of_getElem? (i := 140) (by decide +kernel)) (by decide +kernel))⟩
theorem pk_12_227 : PK 12 227 (2, 218, 0, 0) := ⟨by decide, Or.inl (tm7 (List.mem_of_getElem? (i := 150) (by decide +kernel)) (by decide +kernel))⟩
theorem pk_12_230 : PK 12 230 (9, 19, 0, 0) := ⟨by decide, "x", List.mem_of_getElem? (i := 40) (by decide +kernel)⟩
theorem pk_12_232 : PK 12 232 (9, 20, 0, 0) := ⟨by decide, "y", List.mem_of_getElem? (i := 41) (by decide +kernel)⟩
theorem pk_12_234 : PK 12 234 (9, 25, 0, 0) := ⟨by decide, "tick", List.mem_of_getElem? (i := 42) (by decide +kernel)⟩
theorem pk_12_236 : PK 12 236 (9, 21, 0, 0) := ⟨by decide, "wet", List.mem_of_getElem? (i := 43) (by decide +kernel)⟩
theorem pk_12_237 : PK 12 237 (9, 22, 0, 0) := ⟨by decide, "shade", List.mem_of_getElem? (i := 44) (by decide +kernel)⟩
theorem pk_12_238 : PK 12 238 (9, 23, 0, 0) := ⟨by decide, "salt", List.mem_of_getElem? (i := 45) (by decide +kernel)⟩
theorem pk_12_239 : PK 12 239 (9, 24, 0, 0) := ⟨by decide, "way", List.mem_of_getElem? (i := 46) (by decide +kernel)⟩
theorem pk_12_241 : PK 12 241 (9, 26, 0, 0) := ⟨by decide, "rooms", List.mem_of_getElem? (i := 47) (by decide +kernel)⟩
theorem pk_12_243 : PK 12 243 (9, 27, 0, 0) := ⟨by decide, "tees", List.mem_of_getElem? (i := 48) (by decide +kernel)⟩
theorem pk_12_245 : PK 12 245 (9, 28, 0, 0) := ⟨by decide, "crosses", List.mem_of_getElem? (i := 49) (by decide +kernel)⟩
theorem pk_12_247 : PK 12 247 (9, 29, 0, 0) := ⟨by decide, "turns", List.mem_of_getElem? (i := 50) (by decide +kernel)⟩
theorem pk_12_249 : PK 12 249 (9, 30, 0, 0) := ⟨by decide, "ends", List.mem_of_getElem? (i := 51) (by decide +kernel)⟩
theorem pk_12_251 : PK 12 251 (9, 31, 0, 0) := ⟨by decide, "torn", List.mem_of_getElem? (i := 52) (by decide +kernel)⟩
theorem pk_12_253 : PK 12 253 (9, 32, 0, 0) := ⟨by decide, "tears", List.mem_of_getElem? (i := 53) (by decide +kernel)⟩
theorem pk_12_255 : PK 12 255 (9, 33, 0, 0) := ⟨by decide, "sides", List.mem_of_getElem? (i := 54) (by decide +kernel)⟩
theorem pk_12_257 : PK 12 257 (9, 34, 0, 0) := ⟨by decide, "least", List.mem_of_getElem? (i := 55) (by decide +kernel)⟩
theorem pk_12_259 : PK 12 259 (9, 35, 0, 0) := ⟨by decide, "greatest", List.mem_of_getElem? (i := 56) (by decide +kernel)⟩
theorem pk_12_261 : PK 12 261 (9, 14, 0, 0) := ⟨by decide, "want", List.mem_of_getElem? (i := 30) (by decide +kernel)⟩
theorem pk_12_263 : PK 12 263 (9, 15, 0, 0) := ⟨by decide, "not", List.mem_of_getElem? (i := 31) (by decide +kernel)⟩
theorem pk_12_265 : PK 12 265 (9, 12, 0, 0) := ⟨by decide, "dry", List.mem_of_getElem? (i := 32) (by decide +kernel)⟩
theorem pk_12_267 : PK 12 267 (9, 13, 0, 0) := ⟨by decide, "tear", List.mem_of_getElem? (i := 33) (by decide +kernel)⟩
theorem pk_12_269 : PK 12 269 (9, 6, 0, 0) := ⟨by decide, "notch", List.mem_of_getElem? (i := 34) (by decide +kernel)⟩
theorem pk_12_271 : PK 12 271 (9, 7, 0, 0) := ⟨by decide, "heal", List.mem_of_getElem? (i := 35) (by decide +kernel)⟩
theorem pk_12_273 : PK 12 273 (9, 8, 0, 0) := ⟨by decide, "scar", List.mem_of_getElem? (i := 36) (by decide +kernel)⟩
theorem pk_12_275 : PK 12 275 (9, 9, 0, 0) := ⟨by decide, "let", List.mem_of_getElem? (i := 37) (by decide +kernel)⟩
theorem pk_12_277 : PK 12 277 (9, 10, 0, 0) := ⟨by decide, "most", List.mem_of_getElem? (i := 38) (by decide +kernel)⟩
theorem pk_12_279 : PK 12 279 (9, 11, 0, 0) := ⟨by decide, "deepen", List.mem_of_getElem? (i := 39) (by decide +kernel)⟩
theorem pk_12_281 : PK 12 281 (1, 12, 22, 0) := Or.inl ⟨by decide, by decide +kernel, tm6 (List.mem_of_getElem? (i := 50) (by decide +kernel)) (by decide +kernel), by decide +kernel⟩
theorem pk_12_284 : PK 12 284 (1, 12, 21, 0) := Or.inl ⟨by decide, by decide +kernel, tm6 (List.mem_of_getElem? (i := 49) (by decide +kernel)) (by decide +kernel), by decide +kernel⟩
theorem pk_12_287 : PK 12 287 (2, 200, 0, 0) := ⟨by decide, Or.inl (tm7 (List.mem_of_getElem? (i := 57) (by decide +kernel)) (by decide +kernel))⟩
theorem pk_12_291 : PK 12 291 (8, 0, 0, 48) := ⟨⟨by decide, by decide⟩, tm7 (List.mem_of_getElem? (i := 121) (by decide +kernel)) (by decide +kernel)⟩
theorem pk_12_293 : PK 12 293 (8, 0, 0, 57) := ⟨⟨by decide, by decide⟩, tm7 (List.mem_of_getElem? (i := 122) (by decide +kernel)) (by decide +kernel)⟩
theorem pk_12_295 : PK 12 295 (2, 71, 0, 0) := ⟨by decide, Or.inl (tm7 (List.mem_of_getElem? (i := 79) (by decide +kernel)) (by decide +kernel))⟩
theorem pk_12_300 : PK 12 300 (2, 73, 0, 0) := ⟨by decide, Or.inl (tm7 (List.mem_of_getElem? (i := 80) (by decide +kernel)) (by decide +kernel))⟩
theorem pk_12_304 : PK 12 304 (2, 199, 0, 0) := ⟨by decide, Or.inl (tm7 (List.mem_of_getElem? (i := 53) (by decide +kernel)) (by decide +kernel))⟩
theorem pk_12_307 : PK 12 307 (2, 202, 0, 0) := ⟨by decide, Or.inl (tm7 (List.mem_of_getElem? (i := 75) (by decide +kernel)) (by decide +kernel))⟩
theorem pk_12_311 : PK 12 311 (1, 12, 26, 0) := Or.inl ⟨by decide, by decide +kernel, tm6 (List.mem_of_getElem? (i := 54) (by decide +kernel)) (by decide +kernel), by decide +kernel⟩
theorem pk_12_314 : PK 12 314 (1, 12, 28, 0) := Or.inl ⟨by decide, by decide +kernel, tm6 (List.mem_of_getElem? (i := 56) (by decide +kernel)) (by decide +kernel), by decide +kernel⟩
theorem pk_12_317 : PK 12 317 (2, 203, 0, 0) := ⟨by decide, Or.inl (tm7 (List.mem_of_getElem? (i := 81) (by decide +kernel)) (by decide +kernel))⟩
theorem pk_12_321 : PK 12 321 (2, 212, 0, 0) := ⟨by decide, Or.inl (tm7 (List.mem_of_getElem? (i := 117) (by decide +kernel)) (by decide +kernel))⟩
theorem pk_12_324 : PK 12 324 (7, 0, 0, 99999) := ⟨⟨by decide, by decide⟩, tm7 (List.mem_of_getElem? (i := 123) (by decide +kernel)) (by decide +kernel)⟩
theorem pk_12_325 : PK 12 325 (2, 213, 0, 0) := ⟨by decide, Or.inl (tm7 (List.mem_of_getElem? (i := 124) (by decide +kernel)) (by decide +kernel))⟩
theorem pk_12_328 : PK 12 328 (2, 214, 0, 0) := ⟨by decide, Or.inl (tm7 (List.mem_of_getElem? (i := 128) (by decide +kernel)) (by decide +kernel))⟩
theorem pk_12_331 : PK 12 331 (2, 215, 0, 0) := ⟨by decide, Or.inl (tm7 (List.mem_of_getElem? (i := 132) (by decide +kernel)) (by decide +kernel))⟩
theorem pk_12_334 : PK 12 334 (1, 12, 30, 0) := Or.inl ⟨by decide, by decide +kernel, tm6 (List.mem_of_getElem? (i := 58) (by decide +kernel)) (by decide +kernel), by decide +kernel⟩
theorem pk_12_337 : PK 12 337 (2, 216, 0, 0) := ⟨by decide, Or.inl (tm7 (List.mem_of_getElem? (i := 136) (by decide +kernel)) (by decide +kernel))⟩
theorem pk_12_340 : PK 12 340 (2, 211, 0, 0) := ⟨by decide, Or.inl (tm7 (List.mem_of_getElem? (i := 113) (by decide +kernel)) (by decide +kernel))⟩
theorem pk_12_343 : PK 12 343 (2, 210, 0, 0) := ⟨by decide, Or.inl (tm7 (List.mem_of_getElem? (i := 109) (by decide +kernel)) (by decide +kernel))⟩
theorem pk_12_346 : PK 12 346 (2, 209, 0, 0) := ⟨by decide, Or.inl (tm7 (List.mem_of_getElem? (i := 105) (by decide +kernel)) (by decide +kernel))⟩
theorem pk_12_349 : PK 12 349 (1, 12, 29, 0) := Or.inl ⟨by decide, by decide +kernel, tm6 (List.mem_of_getElem? (i := 57) (by decide +kernel)) (by decide +kernel), by decide +kernel⟩
theorem pk_12_352 : PK 12 352 (1, 12, 27, 0) := Or.inl ⟨by decide, by decide +kernel, tm6 (List.mem_of_getElem? (i := 55) (by decide +kernel)) (by decide +kernel), by decide +kernel⟩
theorem pk_12_355 : PK 12 355 (2, 220, 0, 0) := ⟨by decide, Or.inl (tm7 (List.mem_of_getElem? (i := 167) (by decide +kernel)) (by decide +kernel))⟩
theorem pk_12_358 : PK 12 358 (2, 207, 0, 0) := ⟨by decide, Or.inl (tm7 (List.mem_of_getElem? (i := 97) (by decide +kernel)) (by decide +kernel))⟩
theorem pk_12_361 : PK 12 361 (2, 208, 0, 0) := ⟨by decide, Or.inl (tm7 (List.mem_of_getElem? (i := 101) (by decide +kernel)) (by decide +kernel))⟩
theorem pk_12_364 : PK 12 364 (2, 206, 0, 0) := ⟨by decide, Or.inl (tm7 (List.mem_of_getElem? (i := 93) (by decide +kernel)) (by decide +kernel))⟩
theorem pk_12_367 : PK 12 367 (2, 219, 0, 0) := ⟨by decide, Or.inl (tm7 (List.mem_of_getElem? (i := 163) (by decide +kernel)) (by decide +kernel))⟩
theorem pk_12_370 : PK 12 370 (9, 17, 0, 0) := ⟨by decide, "and", List.mem_of_getElem? (i := 57) (by decide +kernel)⟩
theorem pk_12_372 : PK 12 372 (9, 18, 0, 0) := ⟨by decide, "or", List.mem_of_getElem? (i := 58) (by decide +kernel)⟩
theorem pk_12_374 : PK 12 374 (2, 201, 0, 0) := ⟨by decide, Or.inl (tm7 (List.mem_of_getElem? (i := 61) (by decide +kernel)) (by decide +kernel))⟩
theorem pk_12_377 : PK 12 377 (2, 204, 0, 0) := ⟨by decide, Or.inl (tm7 (List.mem_of_getElem? (i := 85) (by decide +kernel)) (by decide +kernel))⟩
theorem pk_12_380 : PK 12 380 (2, 205, 0, 0) := ⟨by decide, Or.inl (tm7 (List.mem_of_getElem? (i := 89) (by decide +kernel)) (by decide +kernel))⟩
theorem pk_12_383 : PK 12 383 (9, 16, 0, 0) := ⟨by decide, "if", List.mem_of_getElem? (i := 59) (by decide +kernel)⟩
theorem pk_12_385 : PK 12 385 (2, 221, 0, 0) := ⟨by decide, Or.inl (tm7 (List.mem_of_getElem? (i := 174) (by decide +kernel)) (by decide +kernel))⟩
theorem pk_12_388 : PK 12 388 (2, 222, 0, 0) := ⟨by decide, Or.inl (tm7 (List.mem_of_getElem? (i := 178) (by decide +kernel)) (by decide +kernel))⟩
theorem pk_12_391 : PK 12 391 (2, 198, 0, 0) := ⟨by decide, Or.inl (tm7 (List.mem_of_getElem? (i := 49) (by decide +kernel)) (by decide +kernel))⟩
theorem pk_12_394 : PK 12 394 (1, 12, 24, 0) := Or.inl ⟨by decide, by decide +kernel, tm6 (List.mem_of_getElem? (i := 52) (by decide +kernel)) (by decide +kernel), by decide +kernel⟩
theorem pk_12_397 : PK 12 397 (2, 197, 0, 0) := ⟨by decide, Or.inl (tm7 (List.mem_of_getElem? (i := 45) (by decide +kernel)) (by decide +kernel))⟩
theorem pk_12_400 : PK 12 400 (1, 12, 25, 0) := Or.inl ⟨by decide, by decide +kernel, tm6 (List.mem_of_getElem? (i := 53) (by decide +kernel)) (by decide +kernel), by decide +kernel⟩
theorem pk_12_403 : PK 12 403 (2, 230, 0, 0) := ⟨by decide, Or.inl (tm7 (List.mem_of_getElem? (i := 209) (by decide +kernel)) (by decide +kernel))⟩
theorem pk_12_407 : PK 12 407 (2, 229, 0, 0) := ⟨by decide, Or.inl (tm7 (List.mem_of_getElem? (i := 206) (by decide +kernel)) (by decide +kernel))⟩
theorem pk_12_411 : PK 12 411 (2, 228, 0, 0) := ⟨by decide, Or.inl (tm7 (List.mem_of_getElem? (i := 202) (by decide +kernel)) (by decide +kernel))⟩
theorem pk_12_415 : PK 12 415 (2, 189, 0, 0) := ⟨by decide, Or.inl (tm7 (List.mem_of_getElem? (i := 13) (by decide +kernel)) (by decide +kernel))⟩
theorem pk_12_418 : PK 12 418 (2, 227, 0, 0) := ⟨by decide, Or.inl (tm7 (List.mem_of_getElem? (i := 198) (by decide +kernel)) (by decide +kernel))⟩
theorem pk_12_422 : PK 12 422 (8, 0, 0, (-9999)) := ⟨⟨by decide, by decide⟩, tm7 (List.mem_of_getElem? (i := 212) (by decide +kernel)) (by decide +kernel)⟩
theorem pk_12_424 : PK 12 424 (2, 231, 0, 0) := ⟨by decide, Or.inl (tm7 (List.mem_of_getElem? (i := 213) (by decide +kernel)) (by decide +kernel))⟩
theorem pk_12_428 : PK 12 428 (2, 232, 0, 0) := ⟨by decide, Or.inl (tm7 (List.mem_of_getElem? (i := 216) (by decide +kernel)) (by decide +kernel))⟩
theorem pk_12_432 : PK 12 432 (2, 233, 0, 0) := ⟨by decide, Or.inl (tm7 (List.mem_of_getElem? (i := 220) (by decide +kernel)) (by decide +kernel))⟩
theorem pk_12_436 : PK 12 436 (8, 0, 0, 99999) := ⟨⟨by decide, by decide⟩, tm7 (List.mem_of_getElem? (i := 223) (by decide +kernel)) (by decide +kernel)⟩
theorem pk_12_438 : PK 12 438 (2, 235, 0, 0) := ⟨by decide, Or.inl (tm7 (List.mem_of_getElem? (i := 228) (by decide +kernel)) (by decide +kernel))⟩
theorem pk_12_442 : PK 12 442 (8, 0, 0, 2) := ⟨⟨by decide, by decide⟩, tm7 (List.mem_of_getElem? (i := 232) (by decide +kernel)) (by decide +kernel)⟩
theorem pk_12_444 : PK 12 444 (2, 225, 0, 0) := ⟨by decide, Or.inl (tm7 (List.mem_of_getElem? (i := 190) (by decide +kernel)) (by decide +kernel))⟩
theorem pk_12_447 : PK 12 447 (2, 226, 0, 0) := ⟨by decide, Or.inl (tm7 (List.mem_of_getElem? (i := 194) (by decide +kernel)) (by decide +kernel))⟩
theorem pk_12_450 : PK 12 450 (2, 234, 0, 0) := ⟨by decide, Or.inl (tm7 (List.mem_of_getElem? (i := 224) (by decide +kernel)) (by decide +kernel))⟩
theorem pk_12_453 : PK 12 453 (2, 244, 0, 0) := ⟨by decide, Or.inl (tm8 (List.mem_of_getElem? (i := 24) (by decide +kernel)) (by decide +kernel))⟩
theorem pk_12_456 : PK 12 456 (2, 245, 0, 0) := ⟨by decide, Or.inl (tm8 (List.mem_of_getElem? (i := 27) (by decide +kernel)) (by decide +kernel))⟩
theorem pk_12_459 : PK 12 459 (2, 241, 0, 0) := ⟨by decide, Or.inl (tm8 (List.mem_of_getElem? (i := 13) (by decide +kernel)) (by decide +kernel))⟩
theorem pk_12_461 : PK 12 461 (2, 242, 0, 0) := ⟨by decide, Or.inl (tm8 (List.mem_of_getElem? (i := 17) (by decide +kernel)) (by decide +kernel))⟩
theorem pk_12_464 : PK 12 464 (2, 243, 0, 0) := ⟨by decide, Or.inl (tm8 (List.mem_of_getElem? (i := 20) (by decide +kernel)) (by decide +kernel))⟩
theorem pk_12_466 : PK 12 466 (2, 247, 0, 0) := ⟨by decide, Or.inl (tm8 (List.mem_of_getElem? (i := 35) (by decide +kernel)) (by decide +kernel))⟩
theorem pk_12_469 : PK 12 469 (2, 249, 0, 0) := ⟨by decide, Or.inl (tm8 (List.mem_of_getElem? (i := 41) (by decide +kernel)) (by decide +kernel))⟩
theorem pk_12_472 : PK 12 472 (2, 238, 0, 0) := ⟨by decide, Or.inl (tm8 (List.mem_of_getElem? (i := 2) (by decide +kernel)) (by decide +kernel))⟩
theorem pk_12_475 : PK 12 475 (2, 239, 0, 0) := ⟨by decide, Or.inl (tm8 (List.mem_of_getElem? (i := 6) (by decide +kernel)) (by decide +kernel))⟩
theorem pk_12_478 : PK 12 478 (2, 246, 0, 0) := ⟨by decide, Or.inl (tm8 (List.mem_of_getElem? (i := 31) (by decide +kernel)) (by decide +kernel))⟩
theorem pk_12_481 : PK 12 481 (8, 0, 0, 60) := ⟨⟨by decide, by decide⟩, tm7 (List.mem_of_getElem? (i := 237) (by decide +kernel)) (by decide +kernel)⟩
theorem pk_12_483 : PK 12 483 (2, 237, 0, 0) := ⟨by decide, Or.inl (tm7 (List.mem_of_getElem? (i := 238) (by decide +kernel)) (by decide +kernel))⟩
theorem pk_12_486 : PK 12 486 (2, 252, 0, 0) := ⟨by decide, Or.inl (tm8 (List.mem_of_getElem? (i := 52) (by decide +kernel)) (by decide +kernel))⟩
theorem pk_12_489 : PK 12 489 (2, 251, 0, 0) := ⟨by decide, Or.inl (tm8 (List.mem_of_getElem? (i := 48) (by decide +kernel)) (by decide +kernel))⟩
theorem pk_12_492 : PK 12 492 (2, 254, 0, 0) := ⟨by decide, Or.inl (tm8 (List.mem_of_getElem? (i := 60) (by decide +kernel)) (by decide +kernel))⟩
theorem pk_12_495 : PK 12 495 (2, 258, 0, 0) := ⟨by decide, Or.inl (tm8 (List.mem_of_getElem? (i := 78) (by decide +kernel)) (by decide +kernel))⟩
theorem pk_12_498 : PK 12 498 (8, 0, 0, 99) := ⟨⟨by decide, by decide⟩, tm8 (List.mem_of_getElem? (i := 68) (by decide +kernel)) (by decide +kernel)⟩
theorem pk_12_500 : PK 12 500 (8, 0, 0, 17) := ⟨⟨by decide, by decide⟩, tm8 (List.mem_of_getElem? (i := 73) (by decide +kernel)) (by decide +kernel)⟩
theorem pk_12_502 : PK 12 502 (2, 257, 0, 0) := ⟨by decide, Or.inl (tm8 (List.mem_of_getElem? (i := 74) (by decide +kernel)) (by decide +kernel))⟩
theorem pk_12_505 : PK 12 505 (2, 260, 0, 0) := ⟨by decide, Or.inl (tm8 (List.mem_of_getElem? (i := 86) (by decide +kernel)) (by decide +kernel))⟩
theorem pk_12_508 : PK 12 508 (2, 261, 0, 0) := ⟨by decide, Or.inl (tm8 (List.mem_of_getElem? (i := 90) (by decide +kernel)) (by decide +kernel))⟩
theorem pk_12_511 : PK 12 511 (2, 264, 0, 0) := ⟨by decide, Or.inl (tm8 (List.mem_of_getElem? (i := 102) (by decide +kernel)) (by decide +kernel))⟩
theorem pk_12_514 : PK 12 514 (2, 265, 0, 0) := ⟨by decide, Or.inl (tm8 (List.mem_of_getElem? (i := 106) (by decide +kernel)) (by decide +kernel))⟩
theorem pk_12_517 : PK 12 517 (2, 267, 0, 0) := ⟨by decide, Or.inl (tm8 (List.mem_of_getElem? (i := 113) (by decide +kernel)) (by decide +kernel))⟩
theorem pk_12_520 : PK 12 520 (2, 271, 0, 0) := ⟨by decide, Or.inl (tm8 (List.mem_of_getElem? (i := 129) (by decide +kernel)) (by decide +kernel))⟩
theorem pk_12_523 : PK 12 523 (2, 270, 0, 0) := ⟨by decide, Or.inl (tm8 (List.mem_of_getElem? (i := 125) (by decide +kernel)) (by decide +kernel))⟩
theorem pk_12_526 : PK 12 526 (2, 269, 0, 0) := ⟨by decide, Or.inl (tm8 (List.mem_of_getElem? (i := 121) (by decide +kernel)) (by decide +kernel))⟩
theorem pk_12_529 : PK 12 529 (1, 12, 57, 1) := Or.inl ⟨by decide, by decide +kernel, tm6 (List.mem_of_getElem? (i := 85) (by decide +kernel)) (by decide +kernel), by decide +kernel⟩
theorem pk_12_533 : PK 12 533 (1, 12, 56, 0) := Or.inl ⟨by decide, by decide +kernel, tm6 (List.mem_of_getElem? (i := 84) (by decide +kernel)) (by decide +kernel), by decide +kernel⟩
theorem pk_12_536 : PK 12 536 (2, 277, 0, 0) := ⟨by decide, Or.inl (tm8 (List.mem_of_getElem? (i := 154) (by decide +kernel)) (by decide +kernel))⟩
theorem pk_12_540 : PK 12 540 (8, 0, 0, 3) := ⟨⟨by decide, by decide⟩, tm8 (List.mem_of_getElem? (i := 149) (by decide +kernel)) (by decide +kernel)⟩
theorem pk_12_542 : PK 12 542 (2, 276, 0, 0) := ⟨by decide, Or.inl (tm8 (List.mem_of_getElem? (i := 150) (by decide +kernel)) (by decide +kernel))⟩
theorem pk_12_546 : PK 12 546 (2, 280, 0, 0) := ⟨by decide, Or.inl (tm8 (List.mem_of_getElem? (i := 166) (by decide +kernel)) (by decide +kernel))⟩
theorem pk_12_549 : PK 12 549 (2, 281, 0, 0) := ⟨by decide, Or.inl (tm8 (List.mem_of_getElem? (i := 170) (by decide +kernel)) (by decide +kernel))⟩
theorem pk_12_552 : PK 12 552 (2, 282, 0, 0) := ⟨by decide, Or.inl (tm8 (List.mem_of_getElem? (i := 174) (by decide +kernel)) (by decide +kernel))⟩
theorem pk_12_555 : PK 12 555 (2, 285, 0, 0) := ⟨by decide, Or.inl (tm8 (List.mem_of_getElem? (i := 186) (by decide +kernel)) (by decide +kernel))⟩
theorem pk_12_558 : PK 12 558 (2, 286, 0, 0) := ⟨by decide, Or.inl (tm8 (List.mem_of_getElem? (i := 190) (by decide +kernel)) (by decide +kernel))⟩
theorem pk_12_561 : PK 12 561 (8, 0, 0, 20) := ⟨⟨by decide, by decide⟩, tm8 (List.mem_of_getElem? (i := 206) (by decide +kernel)) (by decide +kernel)⟩
theorem pk_12_563 : PK 12 563 (2, 290, 0, 0) := ⟨by decide, Or.inl (tm8 (List.mem_of_getElem? (i := 207) (by decide +kernel)) (by decide +kernel))⟩
theorem pk_12_566 : PK 12 566 (2, 291, 0, 0) := ⟨by decide, Or.inl (tm8 (List.mem_of_getElem? (i := 210) (by decide +kernel)) (by decide +kernel))⟩
theorem pk_12_570 : PK 12 570 (8, 0, 0, 180) := ⟨⟨by decide, by decide⟩, tm8 (List.mem_of_getElem? (i := 226) (by decide +kernel)) (by decide +kernel)⟩
set_option maxRecDepth 100000 in
theorem pks_12 : ∀ q ∈ pl_12, PK 12 q.1 q.2 := List.forall_mem_cons.mpr ⟨pk_12_1, List.forall_mem_cons.mpr ⟨pk_12_7, List.forall_mem_cons.mpr ⟨pk_12_13, List.forall_mem_cons.mpr ⟨pk_12_16, List.forall_mem_cons.mpr ⟨pk_12_19, List.forall_mem_cons.mpr ⟨pk_12_22, List.forall_mem_cons.mpr ⟨pk_12_25, List.forall_mem_cons.mpr ⟨pk_12_28, List.forall_mem_cons.mpr ⟨pk_12_31, List.forall_mem_cons.mpr ⟨pk_12_34, List.forall_mem_cons.mpr ⟨pk_12_37, List.forall_mem_cons.mpr ⟨pk_12_40, List.forall_mem_cons.mpr ⟨pk_12_43, List.forall_mem_cons.mpr ⟨pk_12_46, List.forall_mem_cons.mpr ⟨pk_12_49, List.forall_mem_cons.mpr ⟨pk_12_52, List.forall_mem_cons.mpr ⟨pk_12_55, List.forall_mem_cons.mpr ⟨pk_12_58, List.forall_mem_cons.mpr ⟨pk_12_61, List.forall_mem_cons.mpr ⟨pk_12_64, List.forall_mem_cons.mpr ⟨pk_12_68, List.forall_mem_cons.mpr ⟨pk_12_71, List.forall_mem_cons.mpr ⟨pk_12_74, List.forall_mem_cons.mpr ⟨pk_12_77, List.forall_mem_cons.mpr ⟨pk_12_80, List.forall_mem_cons.mpr ⟨pk_12_83, List.forall_mem_cons.mpr ⟨pk_12_86, List.forall_mem_cons.mpr ⟨pk_12_89, List.forall_mem_cons.mpr ⟨pk_12_92, List.forall_mem_cons.mpr ⟨pk_12_95, List.forall_mem_cons.mpr ⟨pk_12_99, List.forall_mem_cons.mpr ⟨pk_12_102, List.forall_mem_cons.mpr ⟨pk_12_105, List.forall_mem_cons.mpr ⟨pk_12_108, List.forall_mem_cons.mpr ⟨pk_12_111, List.forall_mem_cons.mpr ⟨pk_12_114, List.forall_mem_cons.mpr ⟨pk_12_117, List.forall_mem_cons.mpr ⟨pk_12_121, List.forall_mem_cons.mpr ⟨pk_12_124, List.forall_mem_cons.mpr ⟨pk_12_127, List.forall_mem_cons.mpr ⟨pk_12_130, List.forall_mem_cons.mpr ⟨pk_12_133, List.forall_mem_cons.mpr ⟨pk_12_136, List.forall_mem_cons.mpr ⟨pk_12_139, List.forall_mem_cons.mpr ⟨pk_12_146, List.forall_mem_cons.mpr ⟨pk_12_148, List.forall_mem_cons.mpr ⟨pk_12_150, List.forall_mem_cons.mpr ⟨pk_12_152, List.forall_mem_cons.mpr ⟨pk_12_154, List.forall_mem_cons.mpr ⟨pk_12_156, List.forall_mem_cons.mpr ⟨pk_12_160, List.forall_mem_cons.mpr ⟨pk_12_162, List.forall_mem_cons.mpr ⟨pk_12_165, List.forall_mem_cons.mpr ⟨pk_12_169, List.forall_mem_cons.mpr ⟨pk_12_173, List.forall_mem_cons.mpr ⟨pk_12_175, List.forall_mem_cons.mpr ⟨pk_12_179, List.forall_mem_cons.mpr ⟨pk_12_181, List.forall_mem_cons.mpr ⟨pk_12_183, List.forall_mem_cons.mpr ⟨pk_12_185, List.forall_mem_cons.mpr ⟨pk_12_188, List.forall_mem_cons.mpr ⟨pk_12_190, List.forall_mem_cons.mpr ⟨pk_12_194, List.forall_mem_cons.mpr ⟨pk_12_198, List.forall_mem_cons.mpr ⟨pk_12_201, List.forall_mem_cons.mpr ⟨pk_12_204, List.forall_mem_cons.mpr ⟨pk_12_208, List.forall_mem_cons.mpr ⟨pk_12_211, List.forall_mem_cons.mpr ⟨pk_12_214, List.forall_mem_cons.mpr ⟨pk_12_217, List.forall_mem_cons.mpr ⟨pk_12_220, List.forall_mem_cons.mpr ⟨pk_12_223, List.forall_mem_cons.mpr ⟨pk_12_227, List.forall_mem_cons.mpr ⟨pk_12_230, List.forall_mem_cons.mpr ⟨pk_12_232, List.forall_mem_cons.mpr ⟨pk_12_234, List.forall_mem_cons.mpr ⟨pk_12_236, List.forall_mem_cons.mpr ⟨pk_12_237, List.forall_mem_cons.mpr ⟨pk_12_238, List.forall_mem_cons.mpr ⟨pk_12_239, List.forall_mem_cons.mpr ⟨pk_12_241, List.forall_mem_cons.mpr ⟨pk_12_243, List.forall_mem_cons.mpr ⟨pk_12_245, List.forall_mem_cons.mpr ⟨pk_12_247, List.forall_mem_cons.mpr ⟨pk_12_249, List.forall_mem_cons.mpr ⟨pk_12_251, List.forall_mem_cons.mpr ⟨pk_12_253, List.forall_mem_cons.mpr ⟨pk_12_255, List.forall_mem_cons.mpr ⟨pk_12_257, List.forall_mem_cons.mpr ⟨pk_12_259, List.forall_mem_cons.mpr ⟨pk_12_261, List.forall_mem_cons.mpr ⟨pk_12_263, List.forall_mem_cons.mpr ⟨pk_12_265, List.forall_mem_cons.mpr ⟨pk_12_267, List.forall_mem_cons.mpr ⟨pk_12_269, List.forall_mem_cons.mpr ⟨pk_12_271, List.forall_mem_cons.mpr ⟨pk_12_273, List.forall_mem_cons.mpr ⟨pk_12_275, List.forall_mem_cons.mpr ⟨pk_12_277, List.forall_mem_cons.mpr ⟨pk_12_279, List.forall_mem_cons.mpr ⟨pk_12_281, List.forall_mem_cons.mpr ⟨pk_12_284, List.forall_mem_cons.mpr ⟨pk_12_287, List.forall_mem_cons.mpr ⟨pk_12_291, List.forall_mem_cons.mpr ⟨pk_12_293, List.forall_mem_cons.mpr ⟨pk_12_295, List.forall_mem_cons.mpr ⟨pk_12_300, List.forall_mem_cons.mpr ⟨pk_12_304, List.forall_mem_cons.mpr ⟨pk_12_307, List.forall_mem_cons.mpr ⟨pk_12_311, List.forall_mem_cons.mpr ⟨pk_12_314, List.forall_mem_cons.mpr ⟨pk_12_317, List.forall_mem_cons.mpr ⟨pk_12_321, List.forall_mem_cons.mpr ⟨pk_12_324, List.forall_mem_cons.mpr ⟨pk_12_325, List.forall_mem_cons.mpr ⟨pk_12_328, List.forall_mem_cons.mpr ⟨pk_12_331, List.forall_mem_cons.mpr ⟨pk_12_334, List.forall_mem_cons.mpr ⟨pk_12_337, List.forall_mem_cons.mpr ⟨pk_12_340, List.forall_mem_cons.mpr ⟨pk_12_343, List.forall_mem_cons.mpr ⟨pk_12_346, List.forall_mem_cons.mpr ⟨pk_12_349, List.forall_mem_cons.mpr ⟨pk_12_352, List.forall_mem_cons.mpr ⟨pk_12_355, List.forall_mem_cons.mpr ⟨pk_12_358, List.forall_mem_cons.mpr ⟨pk_12_361, List.forall_mem_cons.mpr ⟨pk_12_364, List.forall_mem_cons.mpr ⟨pk_12_367, List.forall_mem_cons.mpr ⟨pk_12_370, List.forall_mem_cons.mpr ⟨pk_12_372, List.forall_mem_cons.mpr ⟨pk_12_374, List.forall_mem_cons.mpr ⟨pk_12_377, List.forall_mem_cons.mpr ⟨pk_12_380, List.forall_mem_cons.mpr ⟨pk_12_383, List.forall_mem_cons.mpr ⟨pk_12_385, List.forall_mem_cons.mpr ⟨pk_12_388, List.forall_mem_cons.mpr ⟨pk_12_391, List.forall_mem_cons.mpr ⟨pk_12_394, List.forall_mem_cons.mpr ⟨pk_12_397, List.forall_mem_cons.mpr ⟨pk_12_400, List.forall_mem_cons.mpr ⟨pk_12_403, List.forall_mem_cons.mpr ⟨pk_12_407, List.forall_mem_cons.mpr ⟨pk_12_411, List.forall_mem_cons.mpr ⟨pk_12_415, List.forall_mem_cons.mpr ⟨pk_12_418, List.forall_mem_cons.mpr ⟨pk_12_422, List.forall_mem_cons.mpr ⟨pk_12_424, List.forall_mem_cons.mpr ⟨pk_12_428, List.forall_mem_cons.mpr ⟨pk_12_432, List.forall_mem_cons.mpr ⟨pk_12_436, List.forall_mem_cons.mpr ⟨pk_12_438, List.forall_mem_cons.mpr ⟨pk_12_442, List.forall_mem_cons.mpr ⟨pk_12_444, List.forall_mem_cons.mpr ⟨pk_12_447, List.forall_mem_cons.mpr ⟨pk_12_450, List.forall_mem_cons.mpr ⟨pk_12_453, List.forall_mem_cons.mpr ⟨pk_12_456, List.forall_mem_cons.mpr ⟨pk_12_459, List.forall_mem_cons.mpr ⟨pk_12_461, List.forall_mem_cons.mpr ⟨pk_12_464, List.forall_mem_cons.mpr ⟨pk_12_466, List.forall_mem_cons.mpr ⟨pk_12_469, List.forall_mem_cons.mpr ⟨pk_12_472, List.forall_mem_cons.mpr ⟨pk_12_475, List.forall_mem_cons.mpr ⟨pk_12_478, List.forall_mem_cons.mpr ⟨pk_12_481, List.forall_mem_cons.mpr ⟨pk_12_483, List.forall_mem_cons.mpr ⟨pk_12_486, List.forall_mem_cons.mpr ⟨pk_12_489, List.forall_mem_cons.mpr ⟨pk_12_492, List.forall_mem_cons.mpr ⟨pk_12_495, List.forall_mem_cons.mpr ⟨pk_12_498, List.forall_mem_cons.mpr ⟨pk_12_500, List.forall_mem_cons.mpr ⟨pk_12_502, List.forall_mem_cons.mpr ⟨pk_12_505, List.forall_mem_cons.mpr ⟨pk_12_508, List.forall_mem_cons.mpr ⟨pk_12_511, List.forall_mem_cons.mpr ⟨pk_12_514, List.forall_mem_cons.mpr ⟨pk_12_517, List.forall_mem_cons.mpr ⟨pk_12_520, List.forall_mem_cons.mpr ⟨pk_12_523, List.forall_mem_cons.mpr ⟨pk_12_526, List.forall_mem_cons.mpr ⟨pk_12_529, List.forall_mem_cons.mpr ⟨pk_12_533, List.forall_mem_cons.mpr ⟨pk_12_536, List.forall_mem_cons.mpr ⟨pk_12_540, List.forall_mem_cons.mpr ⟨pk_12_542, List.forall_mem_cons.mpr ⟨pk_12_546, List.forall_mem_cons.mpr ⟨pk_12_549, List.forall_mem_cons.mpr ⟨pk_12_552, List.forall_mem_cons.mpr ⟨pk_12_555, List.forall_mem_cons.mpr ⟨pk_12_558, List.forall_mem_cons.mpr ⟨pk_12_561, List.forall_mem_cons.mpr ⟨pk_12_563, List.forall_mem_cons.mpr ⟨pk_12_566, List.forall_mem_cons.mpr ⟨pk_12_570, fun _ h => absurd h List.not_mem_nil⟩⟩⟩⟩⟩⟩⟩⟩⟩⟩⟩⟩⟩⟩⟩⟩⟩⟩⟩⟩⟩⟩⟩⟩⟩⟩⟩⟩⟩⟩⟩⟩⟩⟩⟩⟩⟩⟩⟩⟩⟩⟩⟩⟩⟩⟩⟩⟩⟩⟩⟩⟩⟩⟩⟩⟩⟩⟩⟩⟩⟩⟩⟩⟩⟩⟩⟩⟩⟩⟩⟩⟩⟩⟩⟩⟩⟩⟩⟩⟩⟩⟩⟩⟩⟩⟩⟩⟩⟩⟩⟩⟩⟩⟩⟩⟩⟩⟩⟩⟩⟩⟩⟩⟩⟩⟩⟩⟩⟩⟩⟩⟩⟩⟩⟩⟩⟩⟩⟩⟩⟩⟩⟩⟩⟩⟩⟩⟩⟩⟩⟩⟩⟩⟩⟩⟩⟩⟩⟩⟩⟩⟩⟩⟩⟩⟩⟩⟩⟩⟩⟩⟩⟩⟩⟩⟩⟩⟩⟩⟩⟩⟩⟩⟩⟩⟩⟩⟩⟩⟩⟩⟩⟩⟩⟩⟩⟩⟩⟩⟩⟩⟩⟩⟩⟩⟩⟩⟩⟩⟩⟩⟩⟩⟩⟩⟩⟩
theorem pk_13_9 : PK 13 9 (1, 13, 0, 2) := Or.inr ⟨rfl, Or.inl ⟨rfl, tm8 (List.mem_of_getElem? (i := 231) (by decide +kernel)) (by decide +kernel)⟩⟩
theorem pk_13_15 : PK 13 15 (1, 13, 1, 4) := Or.inr ⟨rfl, Or.inr ⟨rfl, tm8 (List.mem_of_getElem? (i := 232) (by decide +kernel)) (by decide +kernel)⟩⟩
theorem pk_13_38 : PK 13 38 (10, 0, 0, 1) := ⟨rfl, tm4 (List.mem_of_getElem? (i := 48) (by decide +kernel)) (by decide +kernel)⟩
theorem pk_13_335 : PK 13 335 (2, 72, 0, 0) := ⟨by decide, Or.inl (tm4 (List.mem_of_getElem? (i := 44) (by decide +kernel)) (by decide +kernel))⟩
theorem pk_13_492 : PK 13 492 (2, 74, 0, 0) := ⟨by decide, Or.inl (tm4 (List.mem_of_getElem? (i := 54) (by decide +kernel)) (by decide +kernel))⟩
theorem pk_13_495 : PK 13 495 (2, 75, 0, 0) := ⟨by decide, Or.inl (tm4 (List.mem_of_getElem? (i := 58) (by decide +kernel)) (by decide +kernel))⟩
theorem pk_13_498 : PK 13 498 (2, 78, 0, 0) := ⟨by decide, Or.inl (tm4 (List.mem_of_getElem? (i := 69) (by decide +kernel)) (by decide +kernel))⟩
theorem pk_13_1053 : PK 13 1053 (12, 0, 0, 0) := tm4 (List.mem_of_getElem? (i := 64) (by decide +kernel)) (by decide +kernel)
theorem pk_13_1059 : PK 13 1059 (2, 77, 0, 0) := ⟨by decide, Or.inl (tm4 (List.mem_of_getElem? (i := 66) (by decide +kernel)) (by decide +kernel))⟩
set_option maxRecDepth 100000 in
theorem pks_13 : ∀ q ∈ pl_13, PK 13 q.1 q.2 := List.forall_mem_cons.mpr ⟨pk_13_9, List.forall_mem_cons.mpr ⟨pk_13_15, List.forall_mem_cons.mpr ⟨pk_13_38, List.forall_mem_cons.mpr ⟨pk_13_335, List.forall_mem_cons.mpr ⟨pk_13_492, List.forall_mem_cons.mpr ⟨pk_13_495, List.forall_mem_cons.mpr ⟨pk_13_498, List.forall_mem_cons.mpr ⟨pk_13_1053, List.forall_mem_cons.mpr ⟨pk_13_1059, fun _ h => absurd h List.not_mem_nil⟩⟩⟩⟩⟩⟩⟩⟩⟩
theorem pk_14_7 : PK 14 7 (6, 11, 0, 0) := Or.inl ⟨by decide, tm1 (List.mem_of_getElem? (i := 23) (by decide +kernel)) (by decide +kernel)⟩
theorem pk_14_9 : PK 14 9 (2, 0, 0, 0) := ⟨by decide, Or.inl (tm1 (List.mem_of_getElem? (i := 25) (by decide +kernel)) (by decide +kernel))⟩
theorem pk_14_10 : PK 14 10 (6, 12, 0, 0) := Or.inl ⟨by decide, tm6 (List.mem_of_getElem? (i := 23) (by decide +kernel)) (by decide +kernel)⟩
theorem pk_14_12 : PK 14 12 (2, 177, 0, 0) := ⟨by decide, Or.inl (tm6 (List.mem_of_getElem? (i := 25) (by decide +kernel)) (by decide +kernel))⟩
theorem pk_14_13 : PK 14 13 (2, 13, 0, 0) := ⟨by decide, Or.inl (tm3 (List.mem_of_getElem? (i := 17) (by decide +kernel)) (by decide +kernel))⟩
theorem pk_14_17 : PK 14 17 (2, 178, 0, 0) := ⟨by decide, Or.inl (tm6 (List.mem_of_getElem? (i := 203) (by decide +kernel)) (by decide +kernel))⟩
theorem pk_14_18 : PK 14 18 (2, 19, 0, 0) := ⟨by decide, Or.inl (tm3 (List.mem_of_getElem? (i := 44) (by decide +kernel)) (by decide +kernel))⟩
theorem pk_14_22 : PK 14 22 (2, 181, 0, 0) := ⟨by decide, Or.inl (tm6 (List.mem_of_getElem? (i := 220) (by decide +kernel)) (by decide +kernel))⟩
theorem pk_14_23 : PK 14 23 (2, 24, 0, 0) := ⟨by decide, Or.inl (tm3 (List.mem_of_getElem? (i := 62) (by decide +kernel)) (by decide +kernel))⟩
theorem pk_14_27 : PK 14 27 (2, 184, 0, 0) := ⟨by decide, Or.inl (tm6 (List.mem_of_getElem? (i := 235) (by decide +kernel)) (by decide +kernel))⟩
theorem pk_14_28 : PK 14 28 (2, 43, 0, 0) := ⟨by decide, Or.inl (tm3 (List.mem_of_getElem? (i := 137) (by decide +kernel)) (by decide +kernel))⟩
theorem pk_14_32 : PK 14 32 (2, 191, 0, 0) := ⟨by decide, Or.inl (tm7 (List.mem_of_getElem? (i := 20) (by decide +kernel)) (by decide +kernel))⟩
theorem pk_14_33 : PK 14 33 (2, 45, 0, 0) := ⟨by decide, Or.inl (tm3 (List.mem_of_getElem? (i := 144) (by decide +kernel)) (by decide +kernel))⟩
theorem pk_14_36 : PK 14 36 (2, 224, 0, 0) := ⟨by decide, Or.inl (tm7 (List.mem_of_getElem? (i := 186) (by decide +kernel)) (by decide +kernel))⟩
theorem pk_14_37 : PK 14 37 (2, 58, 0, 0) := ⟨by decide, Or.inl (tm3 (List.mem_of_getElem? (i := 197) (by decide +kernel)) (by decide +kernel))⟩
theorem pk_14_41 : PK 14 41 (2, 193, 0, 0) := ⟨by decide, Or.inl (tm7 (List.mem_of_getElem? (i := 29) (by decide +kernel)) (by decide +kernel))⟩
theorem pk_14_42 : PK 14 42 (2, 60, 0, 0) := ⟨by decide, Or.inl (tm3 (List.mem_of_getElem? (i := 205) (by decide +kernel)) (by decide +kernel))⟩
theorem pk_14_46 : PK 14 46 (2, 195, 0, 0) := ⟨by decide, Or.inl (tm7 (List.mem_of_getElem? (i := 37) (by decide +kernel)) (by decide +kernel))⟩
theorem pk_14_47 : PK 14 47 (2, 61, 0, 0) := ⟨by decide, Or.inl (tm3 (List.mem_of_getElem? (i := 209) (by decide +kernel)) (by decide +kernel))⟩
theorem pk_14_51 : PK 14 51 (2, 196, 0, 0) := ⟨by decide, Or.inl (tm7 (List.mem_of_getElem? (i := 41) (by decide +kernel)) (by decide +kernel))⟩
theorem pk_14_52 : PK 14 52 (2, 102, 0, 0) := ⟨by decide, Or.inl (tm4 (List.mem_of_getElem? (i := 185) (by decide +kernel)) (by decide +kernel))⟩
theorem pk_14_55 : PK 14 55 (2, 223, 0, 0) := ⟨by decide, Or.inl (tm7 (List.mem_of_getElem? (i := 182) (by decide +kernel)) (by decide +kernel))⟩
theorem pk_14_56 : PK 14 56 (2, 103, 0, 0) := ⟨by decide, Or.inl (tm4 (List.mem_of_getElem? (i := 189) (by decide +kernel)) (by decide +kernel))⟩
theorem pk_14_59 : PK 14 59 (2, 236, 0, 0) := ⟨by decide, Or.inl (tm7 (List.mem_of_getElem? (i := 233) (by decide +kernel)) (by decide +kernel))⟩
theorem pk_14_60 : PK 14 60 (2, 119, 0, 0) := ⟨by decide, Or.inl (tm5 (List.mem_of_getElem? (i := 21) (by decide +kernel)) (by decide +kernel))⟩
theorem pk_14_63 : PK 14 63 (2, 250, 0, 0) := ⟨by decide, Or.inl (tm8 (List.mem_of_getElem? (i := 44) (by decide +kernel)) (by decide +kernel))⟩
theorem pk_14_64 : PK 14 64 (2, 124, 0, 0) := ⟨by decide, Or.inl (tm5 (List.mem_of_getElem? (i := 41) (by decide +kernel)) (by decide +kernel))⟩
theorem pk_14_67 : PK 14 67 (2, 253, 0, 0) := ⟨by decide, Or.inl (tm8 (List.mem_of_getElem? (i := 56) (by decide +kernel)) (by decide +kernel))⟩
theorem pk_14_68 : PK 14 68 (2, 126, 0, 0) := ⟨by decide, Or.inl (tm5 (List.mem_of_getElem? (i := 50) (by decide +kernel)) (by decide +kernel))⟩
theorem pk_14_71 : PK 14 71 (2, 255, 0, 0) := ⟨by decide, Or.inl (tm8 (List.mem_of_getElem? (i := 64) (by decide +kernel)) (by decide +kernel))⟩
theorem pk_14_72 : PK 14 72 (2, 127, 0, 0) := ⟨by decide, Or.inl (tm5 (List.mem_of_getElem? (i := 55) (by decide +kernel)) (by decide +kernel))⟩
theorem pk_14_75 : PK 14 75 (2, 256, 0, 0) := ⟨by decide, Or.inl (tm8 (List.mem_of_getElem? (i := 69) (by decide +kernel)) (by decide +kernel))⟩
theorem pk_14_76 : PK 14 76 (2, 130, 0, 0) := ⟨by decide, Or.inl (tm5 (List.mem_of_getElem? (i := 67) (by decide +kernel)) (by decide +kernel))⟩
theorem pk_14_79 : PK 14 79 (2, 259, 0, 0) := ⟨by decide, Or.inl (tm8 (List.mem_of_getElem? (i := 82) (by decide +kernel)) (by decide +kernel))⟩
theorem pk_14_80 : PK 14 80 (2, 134, 0, 0) := ⟨by decide, Or.inl (tm5 (List.mem_of_getElem? (i := 83) (by decide +kernel)) (by decide +kernel))⟩
theorem pk_14_83 : PK 14 83 (2, 262, 0, 0) := ⟨by decide, Or.inl (tm8 (List.mem_of_getElem? (i := 94) (by decide +kernel)) (by decide +kernel))⟩
theorem pk_14_84 : PK 14 84 (2, 136, 0, 0) := ⟨by decide, Or.inl (tm5 (List.mem_of_getElem? (i := 91) (by decide +kernel)) (by decide +kernel))⟩
theorem pk_14_87 : PK 14 87 (2, 263, 0, 0) := ⟨by decide, Or.inl (tm8 (List.mem_of_getElem? (i := 98) (by decide +kernel)) (by decide +kernel))⟩
theorem pk_14_88 : PK 14 88 (2, 139, 0, 0) := ⟨by decide, Or.inl (tm5 (List.mem_of_getElem? (i := 102) (by decide +kernel)) (by decide +kernel))⟩
theorem pk_14_91 : PK 14 91 (2, 266, 0, 0) := ⟨by decide, Or.inl (tm8 (List.mem_of_getElem? (i := 109) (by decide +kernel)) (by decide +kernel))⟩
theorem pk_14_92 : PK 14 92 (2, 142, 0, 0) := ⟨by decide, Or.inl (tm5 (List.mem_of_getElem? (i := 114) (by decide +kernel)) (by decide +kernel))⟩
theorem pk_14_95 : PK 14 95 (2, 268, 0, 0) := ⟨by decide, Or.inl (tm8 (List.mem_of_getElem? (i := 117) (by decide +kernel)) (by decide +kernel))⟩
theorem pk_14_96 : PK 14 96 (2, 147, 0, 0) := ⟨by decide, Or.inl (tm5 (List.mem_of_getElem? (i := 135) (by decide +kernel)) (by decide +kernel))⟩
theorem pk_14_99 : PK 14 99 (2, 272, 0, 0) := ⟨by decide, Or.inl (tm8 (List.mem_of_getElem? (i := 133) (by decide +kernel)) (by decide +kernel))⟩
theorem pk_14_100 : PK 14 100 (2, 150, 0, 0) := ⟨by decide, Or.inl (tm5 (List.mem_of_getElem? (i := 147) (by decide +kernel)) (by decide +kernel))⟩
theorem pk_14_103 : PK 14 103 (2, 273, 0, 0) := ⟨by decide, Or.inl (tm8 (List.mem_of_getElem? (i := 137) (by decide +kernel)) (by decide +kernel))⟩
theorem pk_14_104 : PK 14 104 (2, 152, 0, 0) := ⟨by decide, Or.inl (tm5 (List.mem_of_getElem? (i := 156) (by decide +kernel)) (by decide +kernel))⟩
theorem pk_14_107 : PK 14 107 (2, 274, 0, 0) := ⟨by decide, Or.inl (tm8 (List.mem_of_getElem? (i := 141) (by decide +kernel)) (by decide +kernel))⟩
theorem pk_14_108 : PK 14 108 (2, 153, 0, 0) := ⟨by decide, Or.inl (tm5 (List.mem_of_getElem? (i := 160) (by decide +kernel)) (by decide +kernel))⟩
theorem pk_14_111 : PK 14 111 (2, 279, 0, 0) := ⟨by decide, Or.inl (tm8 (List.mem_of_getElem? (i := 162) (by decide +kernel)) (by decide +kernel))⟩
theorem pk_14_112 : PK 14 112 (2, 156, 0, 0) := ⟨by decide, Or.inl (tm5 (List.mem_of_getElem? (i := 175) (by decide +kernel)) (by decide +kernel))⟩
theorem pk_14_115 : PK 14 115 (2, 283, 0, 0) := ⟨by decide, Or.inl (tm8 (List.mem_of_getElem? (i := 178) (by decide +kernel)) (by decide +kernel))⟩
theorem pk_14_116 : PK 14 116 (2, 157, 0, 0) := ⟨by decide, Or.inl (tm5 (List.mem_of_getElem? (i := 179) (by decide +kernel)) (by decide +kernel))⟩
theorem pk_14_119 : PK 14 119 (2, 284, 0, 0) := ⟨by decide, Or.inl (tm8 (List.mem_of_getElem? (i := 182) (by decide +kernel)) (by decide +kernel))⟩
theorem pk_14_120 : PK 14 120 (2, 161, 0, 0) := ⟨by decide, Or.inl (tm5 (List.mem_of_getElem? (i := 195) (by decide +kernel)) (by decide +kernel))⟩
theorem pk_14_123 : PK 14 123 (2, 287, 0, 0) := ⟨by decide, Or.inl (tm8 (List.mem_of_getElem? (i := 194) (by decide +kernel)) (by decide +kernel))⟩
theorem pk_14_124 : PK 14 124 (2, 162, 0, 0) := ⟨by decide, Or.inl (tm5 (List.mem_of_getElem? (i := 199) (by decide +kernel)) (by decide +kernel))⟩
theorem pk_14_128 : PK 14 128 (2, 288, 0, 0) := ⟨by decide, Or.inl (tm8 (List.mem_of_getElem? (i := 198) (by decide +kernel)) (by decide +kernel))⟩
theorem pk_14_129 : PK 14 129 (2, 163, 0, 0) := ⟨by decide, Or.inl (tm5 (List.mem_of_getElem? (i := 203) (by decide +kernel)) (by decide +kernel))⟩
theorem pk_14_132 : PK 14 132 (2, 289, 0, 0) := ⟨by decide, Or.inl (tm8 (List.mem_of_getElem? (i := 202) (by decide +kernel)) (by decide +kernel))⟩
theorem pk_14_133 : PK 14 133 (2, 167, 0, 0) := ⟨by decide, Or.inl (tm5 (List.mem_of_getElem? (i := 221) (by decide +kernel)) (by decide +kernel))⟩
theorem pk_14_136 : PK 14 136 (2, 292, 0, 0) := ⟨by decide, Or.inl (tm8 (List.mem_of_getElem? (i := 214) (by decide +kernel)) (by decide +kernel))⟩
theorem pk_14_137 : PK 14 137 (2, 169, 0, 0) := ⟨by decide, Or.inl (tm5 (List.mem_of_getElem? (i := 230) (by decide +kernel)) (by decide +kernel))⟩
theorem pk_14_140 : PK 14 140 (2, 293, 0, 0) := ⟨by decide, Or.inl (tm8 (List.mem_of_getElem? (i := 218) (by decide +kernel)) (by decide +kernel))⟩
theorem pk_14_141 : PK 14 141 (2, 170, 0, 0) := ⟨by decide, Or.inl (tm5 (List.mem_of_getElem? (i := 234) (by decide +kernel)) (by decide +kernel))⟩
theorem pk_14_144 : PK 14 144 (2, 294, 0, 0) := ⟨by decide, Or.inl (tm8 (List.mem_of_getElem? (i := 222) (by decide +kernel)) (by decide +kernel))⟩
theorem pk_14_145 : PK 14 145 (2, 172, 0, 0) := ⟨by decide, Or.inl (tm6 (List.mem_of_getElem? (i := 2) (by decide +kernel)) (by decide +kernel))⟩
theorem pk_14_148 : PK 14 148 (2, 295, 0, 0) := ⟨by decide, Or.inl (tm8 (List.mem_of_getElem? (i := 227) (by decide +kernel)) (by decide +kernel))⟩
theorem pk_14_149 : PK 14 149 (2, 174, 0, 0) := ⟨by decide, Or.inl (tm6 (List.mem_of_getElem? (i := 10) (by decide +kernel)) (by decide +kernel))⟩
theorem pk_14_152 : PK 14 152 (2, 275, 0, 0) := ⟨by decide, Or.inl (tm8 (List.mem_of_getElem? (i := 145) (by decide +kernel)) (by decide +kernel))⟩
theorem pk_14_153 : PK 14 153 (2, 176, 0, 0) := ⟨by decide, Or.inl (tm6 (List.mem_of_getElem? (i := 19) (by decide +kernel)) (by decide +kernel))⟩
theorem pk_14_156 : PK 14 156 (2, 278, 0, 0) := ⟨by decide, Or.inl (tm8 (List.mem_of_getElem? (i := 158) (by decide +kernel)) (by decide +kernel))⟩
set_option maxRecDepth 100000 in
theorem pks_14 : ∀ q ∈ pl_14, PK 14 q.1 q.2 := List.forall_mem_cons.mpr ⟨pk_14_7, List.forall_mem_cons.mpr ⟨pk_14_9, List.forall_mem_cons.mpr ⟨pk_14_10, List.forall_mem_cons.mpr ⟨pk_14_12, List.forall_mem_cons.mpr ⟨pk_14_13, List.forall_mem_cons.mpr ⟨pk_14_17, List.forall_mem_cons.mpr ⟨pk_14_18, List.forall_mem_cons.mpr ⟨pk_14_22, List.forall_mem_cons.mpr ⟨pk_14_23, List.forall_mem_cons.mpr ⟨pk_14_27, List.forall_mem_cons.mpr ⟨pk_14_28, List.forall_mem_cons.mpr ⟨pk_14_32, List.forall_mem_cons.mpr ⟨pk_14_33, List.forall_mem_cons.mpr ⟨pk_14_36, List.forall_mem_cons.mpr ⟨pk_14_37, List.forall_mem_cons.mpr ⟨pk_14_41, List.forall_mem_cons.mpr ⟨pk_14_42, List.forall_mem_cons.mpr ⟨pk_14_46, List.forall_mem_cons.mpr ⟨pk_14_47, List.forall_mem_cons.mpr ⟨pk_14_51, List.forall_mem_cons.mpr ⟨pk_14_52, List.forall_mem_cons.mpr ⟨pk_14_55, List.forall_mem_cons.mpr ⟨pk_14_56, List.forall_mem_cons.mpr ⟨pk_14_59, List.forall_mem_cons.mpr ⟨pk_14_60, List.forall_mem_cons.mpr ⟨pk_14_63, List.forall_mem_cons.mpr ⟨pk_14_64, List.forall_mem_cons.mpr ⟨pk_14_67, List.forall_mem_cons.mpr ⟨pk_14_68, List.forall_mem_cons.mpr ⟨pk_14_71, List.forall_mem_cons.mpr ⟨pk_14_72, List.forall_mem_cons.mpr ⟨pk_14_75, List.forall_mem_cons.mpr ⟨pk_14_76, List.forall_mem_cons.mpr ⟨pk_14_79, List.forall_mem_cons.mpr ⟨pk_14_80, List.forall_mem_cons.mpr ⟨pk_14_83, List.forall_mem_cons.mpr ⟨pk_14_84, List.forall_mem_cons.mpr ⟨pk_14_87, List.forall_mem_cons.mpr ⟨pk_14_88, List.forall_mem_cons.mpr ⟨pk_14_91, List.forall_mem_cons.mpr ⟨pk_14_92, List.forall_mem_cons.mpr ⟨pk_14_95, List.forall_mem_cons.mpr ⟨pk_14_96, List.forall_mem_cons.mpr ⟨pk_14_99, List.forall_mem_cons.mpr ⟨pk_14_100, List.forall_mem_cons.mpr ⟨pk_14_103, List.forall_mem_cons.mpr ⟨pk_14_104, List.forall_mem_cons.mpr ⟨pk_14_107, List.forall_mem_cons.mpr ⟨pk_14_108, List.forall_mem_cons.mpr ⟨pk_14_111, List.forall_mem_cons.mpr ⟨pk_14_112, List.forall_mem_cons.mpr ⟨pk_14_115, List.forall_mem_cons.mpr ⟨pk_14_116, List.forall_mem_cons.mpr ⟨pk_14_119, List.forall_mem_cons.mpr ⟨pk_14_120, List.forall_mem_cons.mpr ⟨pk_14_123, List.forall_mem_cons.mpr ⟨pk_14_124, List.forall_mem_cons.mpr ⟨pk_14_128, List.forall_mem_cons.mpr ⟨pk_14_129, List.forall_mem_cons.mpr ⟨pk_14_132, List.forall_mem_cons.mpr ⟨pk_14_133, List.forall_mem_cons.mpr ⟨pk_14_136, List.forall_mem_cons.mpr ⟨pk_14_137, List.forall_mem_cons.mpr ⟨pk_14_140, List.forall_mem_cons.mpr ⟨pk_14_141, List.forall_mem_cons.mpr ⟨pk_14_144, List.forall_mem_cons.mpr ⟨pk_14_145, List.forall_mem_cons.mpr ⟨pk_14_148, List.forall_mem_cons.mpr ⟨pk_14_149, List.forall_mem_cons.mpr ⟨pk_14_152, List.forall_mem_cons.mpr ⟨pk_14_153, List.forall_mem_cons.mpr ⟨pk_14_156, fun _ h => absurd h List.not_mem_nil⟩⟩⟩⟩⟩⟩⟩⟩⟩⟩⟩⟩⟩⟩⟩⟩⟩⟩⟩⟩⟩⟩⟩⟩⟩⟩⟩⟩⟩⟩⟩⟩⟩⟩⟩⟩⟩⟩⟩⟩⟩⟩⟩⟩⟩⟩⟩⟩⟩⟩⟩⟩⟩⟩⟩⟩⟩⟩⟩⟩⟩⟩⟩⟩⟩⟩⟩⟩⟩⟩⟩⟩
theorem pk_15_265 : PK 15 265 (7, 0, 0, 1431655765) := ⟨⟨by decide, by decide⟩, tm5 (List.mem_of_getElem? (i := 214) (by decide +kernel)) (by decide +kernel)⟩
theorem pk_15_266 : PK 15 266 (7, 0, 0, 858993459) := ⟨⟨by decide, by decide⟩, tm5 (List.mem_of_getElem? (i := 215) (by decide +kernel)) (by decide +kernel)⟩
theorem pk_15_267 : PK 15 267 (7, 0, 0, 252645135) := ⟨⟨by decide, by decide⟩, tm5 (List.mem_of_getElem? (i := 216) (by decide +kernel)) (by decide +kernel)⟩
set_option maxRecDepth 100000 in
theorem pks_15 : ∀ q ∈ pl_15, PK 15 q.1 q.2 := List.forall_mem_cons.mpr ⟨pk_15_265, List.forall_mem_cons.mpr ⟨pk_15_266, List.forall_mem_cons.mpr ⟨pk_15_267, fun _ h => absurd h List.not_mem_nil⟩⟩⟩
theorem pk_16_314 : PK 16 314 (8, 0, 0, 6148914691236517205) := ⟨⟨by decide, by decide⟩, tm3 (List.mem_of_getElem? (i := 107) (by decide +kernel)) (by decide +kernel)⟩
theorem pk_16_316 : PK 16 316 (8, 0, 0, 3689348814741910323) := ⟨⟨by decide, by decide⟩, tm3 (List.mem_of_getElem? (i := 108) (by decide +kernel)) (by decide +kernel)⟩
theorem pk_16_318 : PK 16 318 (8, 0, 0, 1085102592571150095) := ⟨⟨by decide, by decide⟩, tm3 (List.mem_of_getElem? (i := 109) (by decide +kernel)) (by decide +kernel)⟩
set_option maxRecDepth 100000 in
theorem pks_16 : ∀ q ∈ pl_16, PK 16 q.1 q.2 := List.forall_mem_cons.mpr ⟨pk_16_314, List.forall_mem_cons.mpr ⟨pk_16_316, List.forall_mem_cons.mpr ⟨pk_16_318, fun _ h => absurd h List.not_mem_nil⟩⟩⟩
set_option maxRecDepth 100000 in
theorem pks_17 : ∀ q ∈ pl_17, PK 17 q.1 q.2 := fun _ h => absurd h List.not_mem_nil
theorem pk_18_9 : PK 18 9 (2, 76, 0, 0) := ⟨by decide, Or.inl (tm4 (List.mem_of_getElem? (i := 61) (by decide +kernel)) (by decide +kernel))⟩
set_option maxRecDepth 100000 in
theorem pks_18 : ∀ q ∈ pl_18, PK 18 q.1 q.2 := List.forall_mem_cons.mpr ⟨pk_18_9, fun _ h => absurd h List.not_mem_nil⟩
theorem pk_19_48 : PK 19 48 (2, 80, 0, 0) := ⟨by decide, Or.inl (tm4 (List.mem_of_getElem? (i := 75) (by decide +kernel)) (by decide +kernel))⟩
theorem pk_19_67 : PK 19 67 (2, 79, 0, 0) := ⟨by decide, Or.inl (tm4 (List.mem_of_getElem? (i := 72) (by decide +kernel)) (by decide +kernel))⟩
theorem pk_19_71 : PK 19 71 (2, 81, 0, 0) := ⟨by decide, Or.inl (tm4 (List.mem_of_getElem? (i := 79) (by decide +kernel)) (by decide +kernel))⟩
theorem pk_19_414 : PK 19 414 (2, 76, 0, 0) := ⟨by decide, Or.inl (tm4 (List.mem_of_getElem? (i := 78) (by decide +kernel)) (by decide +kernel))⟩
set_option maxRecDepth 100000 in
theorem pks_19 : ∀ q ∈ pl_19, PK 19 q.1 q.2 := List.forall_mem_cons.mpr ⟨pk_19_48, List.forall_mem_cons.mpr ⟨pk_19_67, List.forall_mem_cons.mpr ⟨pk_19_71, List.forall_mem_cons.mpr ⟨pk_19_414, fun _ h => absurd h List.not_mem_nil⟩⟩⟩⟩
theorem pk_20_150 : PK 20 150 (4, 0, 0, 0) := tm4 (List.mem_of_getElem? (i := 179) (by decide +kernel)) (by decide +kernel)
theorem pk_20_304 : PK 20 304 (2, 36, 0, 0) := ⟨by decide, Or.inl (tm4 (List.mem_of_getElem? (i := 178) (by decide +kernel)) (by decide +kernel))⟩
theorem pk_20_316 : PK 20 316 (5, 0, 0, 0) := tm4 (List.mem_of_getElem? (i := 176) (by decide +kernel)) (by decide +kernel)
theorem pk_20_317 : PK 20 317 (6, 100, 0, 0) := Or.inr ⟨rfl, tm4 (List.mem_of_getElem? (i := 177) (by decide +kernel)) (by decide +kernel)⟩
set_option maxRecDepth 100000 in
theorem pks_20 : ∀ q ∈ pl_20, PK 20 q.1 q.2 := List.forall_mem_cons.mpr ⟨pk_20_150, List.forall_mem_cons.mpr ⟨pk_20_304, List.forall_mem_cons.mpr ⟨pk_20_316, List.forall_mem_cons.mpr ⟨pk_20_317, fun _ h => absurd h List.not_mem_nil⟩⟩⟩⟩
set_option maxRecDepth 100000 in
theorem pks_21 : ∀ q ∈ pl_21, PK 21 q.1 q.2 := fun _ h => absurd h List.not_mem_nil
