theorem tb1 {w : Cond} (h : w ∈ tables_1_1) : w ∈ lw_tbl := List.mem_append_right _ (show w ∈ tables_1 from List.mem_append_left _ h)
theorem tb2 {w : Cond} (h : w ∈ tables_1_2) : w ∈ lw_tbl := List.mem_append_right _ (show w ∈ tables_1 from List.mem_append_right _ (List.mem_append_left _ h))
theorem tb3 {w : Cond} (h : w ∈ tables_1_3) : w ∈ lw_tbl := List.mem_append_right _ (show w ∈ tables_1 from List.mem_append_right _ (List.mem_append_right _ (List.mem_append_left _ h)))
theorem tb4 {w : Cond} (h : w ∈ tables_1_4) : w ∈ lw_tbl := List.mem_append_right _ (show w ∈ tables_1 from List.mem_append_right _ (List.mem_append_right _ (List.mem_append_right _ (List.mem_append_left _ h))))
theorem tb5 {w : Cond} (h : w ∈ tables_1_5) : w ∈ lw_tbl := List.mem_append_right _ (show w ∈ tables_1 from List.mem_append_right _ (List.mem_append_right _ (List.mem_append_right _ (List.mem_append_right _ (List.mem_append_left _ h)))))
theorem tb6 {w : Cond} (h : w ∈ tables_1_6) : w ∈ lw_tbl := List.mem_append_right _ (show w ∈ tables_1 from List.mem_append_right _ (List.mem_append_right _ (List.mem_append_right _ (List.mem_append_right _ (List.mem_append_right _ (List.mem_append_left _ h))))))
theorem tb7 {w : Cond} (h : w ∈ tables_1_7) : w ∈ lw_tbl := List.mem_append_right _ (show w ∈ tables_1 from List.mem_append_right _ (List.mem_append_right _ (List.mem_append_right _ (List.mem_append_right _ (List.mem_append_right _ (List.mem_append_right _ (List.mem_append_left _ h)))))))
theorem tb8 {w : Cond} (h : w ∈ tables_1_8) : w ∈ lw_tbl := List.mem_append_right _ (show w ∈ tables_1 from List.mem_append_right _ (List.mem_append_right _ (List.mem_append_right _ (List.mem_append_right _ (List.mem_append_right _ (List.mem_append_right _ (List.mem_append_right _ (h))))))))
def fzi : List (List Int) := [[1000, 1000, 1000, 3, 1, 0], [0, 0, 0, 1, 0, 0], [1000, 1000, 1000, 9, 9, 1000], [0, 0, 5, 5, 6, 6, 4, 4, 4, 4, 4, 2, 1, 3, 0], [0, 3, 1]]
def fzb : List (List Int) := [[110, 111, 116, 99, 104], [104, 101, 97, 108], [115, 99, 97, 114], [108, 101, 116], [109, 111, 115, 116], [100, 101, 101, 112, 101, 110], [100, 114, 121], [116, 101, 97, 114], [119, 97, 110, 116], [110, 111, 116], [105, 102], [97, 110, 100], [111, 114], [120], [121], [119, 101, 116], [115, 104, 97, 100, 101], [115, 97, 108, 116], [119, 97, 121], [116, 105, 99, 107], [114, 111, 111, 109, 115], [116, 101, 101, 115], [99, 114, 111, 115, 115, 101, 115], [116, 117, 114, 110, 115], [101, 110, 100, 115], [116, 111, 114, 110], [116, 101, 97, 114, 115], [115, 105, 100, 101, 115], [108, 101, 97, 115, 116], [103, 114, 101, 97, 116, 101, 115, 116]]
def frz (L : Nat) (xs : Nat → Int32) (k : Nat) : AE :=
  if k = 0 then ea 0 L (fun j => (xs j).toInt)
  else if k < 6 then ea 0 (fzi.getD (k - 1) []).length (fun j => (fzi.getD (k - 1) []).getD j 0)
  else if k < 36 then eo 13 [vr (k + 30), vi 0]
  else if k < 66 then ea 1 (fzb.getD (k - 36) []).length (fun j => (fzb.getD (k - 36) []).getD j 0)
  else ea 9 0 (fun _ => 0)
theorem getD_in {P : Int → Prop} (h0 : P 0) {l : List Int} (h : ∀ z ∈ l, P z) (j : Nat) : P (l.getD j 0) := by
  rw [List.getD_eq_getElem?_getD]
  cases hj : l[j]? with
  | none => exact h0
  | some z => exact h z (List.mem_of_getElem? hj)
theorem getD2_in {P : Int → Prop} {ll : List (List Int)} (h : ∀ l ∈ ll, l.length ≤ 20 ∧ ∀ z ∈ l, P z) (i : Nat) : (ll.getD i []).length ≤ 20 ∧ ∀ z ∈ ll.getD i [], P z := by
  rw [List.getD_eq_getElem?_getD]
  cases hj : ll[i]? with
  | none => exact ⟨Nat.zero_le _, fun z hz => absurd hz List.not_mem_nil⟩
  | some l => exact h l (List.mem_of_getElem? hj)
theorem fzi_in (i : Nat) : (fzi.getD i []).length ≤ 20 ∧ ∀ z ∈ fzi.getD i [], in32 z := getD2_in (P := in32) (by
  have h : ∀ l ∈ fzi, l.length ≤ 20 ∧ ∀ z ∈ l, -2147483648 ≤ z ∧ z < 2147483648 := by decide +kernel
  exact h) i
theorem fzb_in (i : Nat) : (fzb.getD i []).length ≤ 20 ∧ ∀ z ∈ fzb.getD i [], okt 1 z := getD2_in (P := okt 1) (by
  have h : ∀ l ∈ fzb, l.length ≤ 20 ∧ ∀ z ∈ l, -128 ≤ z ∧ z < 128 := by decide +kernel
  exact h) i
theorem frz_0 {L : Nat} {xs : Nat → Int32} : frz L xs 0 = ea 0 L (fun j => (xs j).toInt) := rfl
theorem frz_i {L : Nat} {xs : Nat → Int32} {k : Nat} (h : k ≠ 0) (h2 : k < 6) : frz L xs k = ea 0 (fzi.getD (k - 1) []).length (fun j => (fzi.getD (k - 1) []).getD j 0) := by
  unfold frz
  rw [if_neg h, if_pos h2]
theorem frz_s {L : Nat} {xs : Nat → Int32} {k : Nat} (h : 6 ≤ k) (h2 : k < 36) : frz L xs k = eo 13 [vr (k + 30), vi 0] := by
  unfold frz
  rw [if_neg (by omega), if_neg (by omega), if_pos h2]
theorem frz_b {L : Nat} {xs : Nat → Int32} {k : Nat} (h : 36 ≤ k) (h2 : k < 66) : frz L xs k = ea 1 (fzb.getD (k - 36) []).length (fun j => (fzb.getD (k - 36) []).getD j 0) := by
  unfold frz
  rw [if_neg (by omega), if_neg (by omega), if_neg (by omega), if_pos h2]
theorem frz_ok {L : Nat} {xs : Nat → Int32} (hL : L ≤ 3072) : FOK (frz L xs) := by
  refine ⟨fun k hk => ?_, fun k h1 h2 => frz_s h1 h2, fun k h1 h2 => ?_, rfl⟩
  · by_cases h : k = 0
    · subst h
      exact ⟨L, _, frz_0, by omega, fun j => i32_i _⟩
    · exact ⟨_, _, frz_i h hk, by have := (fzi_in (k - 1)).1; omega, fun j => getD_in i32_z (fzi_in (k - 1)).2 j⟩
  · exact ⟨_, _, frz_b h1 h2, by have := (fzb_in (k - 36)).1; omega, fun j => getD_in ok1z (fzb_in (k - 36)).2 j⟩
theorem len_sz {args : Array Value} {s : State} {t : Term} {v : Value} {a : Nat} (h : (Term.length t).eval args s none [] s = some v) (ht : t.eval args s none [] s = some (.ref a)) : ∃ cell : Cell, s.heap[a]? = some cell ∧ cell.slots.size < 2 ^ 31 ∧ v = .int cell.slots.size.toInt32 := by
  simp only [Term.eval, ht, Option.bind_eq_bind, Option.bind_some] at h
  cases ha : s.arrayAt? a with
  | none => simp [ha] at h
  | some cell =>
    simp only [ha, Option.bind_some] at h
    split at h
    · next hs => exact ⟨cell, (State.arrayAt?_spec ha).1, hs, (Option.some.inj h).symm⟩
    · cases h
theorem st_of {args : Array Value} {s : State} {C n : String} {l : List Int} {A : Nat → Prop} (hA : ∀ a : Nat, a < s.heap.size → ¬ A a) (hll : l.length < 2 ^ 31) (hl : (Cond.laysStatic C n "[I").before args s = true) (hini : (Cond.initialized C).before args s = true) (harr : (Cond.arrayOf (.static C n "[I") .int).before args s = true)
    (hlen : (Cond.eq (.length (.static C n "[I")) (.int (Int32.ofNat l.length))).before args s = true) (hel : ∀ j : Nat, j < l.length → (Cond.eq (.elem (.static C n "[I") (.int (Int32.ofNat j))) (.int (Int32.ofInt (l.getD j 0)))).before args s = true) (hex : (Cond.exactly (.static C n "[I") "[I").before args s = true) :
    ∃ t : Nat, va_T .int t l.length (fun j => .int (Int32.ofInt (l.getD j 0))) A s s.heap ∧ va_Z C n "[I" (.ref t) A s s.heap ∧ va_O "[I" t A s s.heap ∧ va_C t l.length A s.heap := by
  obtain ⟨t, ht, hT⟩ := va_Tof (f := fun j => .int (Int32.ofInt (l.getD j 0))) (A := A) hll harr (va_eqt hlen) (fun j hj => va_eqt (hel j hj)) hA
  obtain ⟨a, c, cA, kA, q1, q2, q3, q4, q5, q6, -⟩ := Cond.exactly_spec (args := args) (first := s) (o := none) (s := s) (idx := []) hex
  have e1 : a = t := by
    have := q1.symm.trans ht
    cases this
    rfl
  subst e1
  obtain ⟨cell, g1, g2, g3⟩ := len_sz (va_eqt hlen) ht
  refine ⟨a, hT, va_Zref hl hini ht hA, ⟨cA, q3, q5, by rw [q6]; exact q2, hA a (Array.getElem?_eq_some_iff.mp q3).1⟩, ⟨cell, g1, ?_, hA a (Array.getElem?_eq_some_iff.mp g1).1⟩⟩
  have g4 : Int32.ofNat l.length = cell.slots.size.toInt32 := Value.int.inj g3
  have g5 : (Int32.ofNat l.length).toInt = (cell.slots.size.toInt32).toInt := by rw [g4]
  rw [Int32.toInt_ofNat_small hll, show cell.slots.size.toInt32 = Int32.ofNat cell.slots.size from rfl, Int32.toInt_ofNat_small g2] at g5
  omega
theorem str_of {args : Array Value} {s : State} {tm : Term} {l : List Int} {A : Nat → Prop} (hA : ∀ a : Nat, a < s.heap.size → ¬ A a) (hll : l.length < 2 ^ 31) (hex : (Cond.exactly tm "java/lang/String").before args s = true) (hco : (Cond.eq (.field tm "java/lang/String" "coder" "B") (.int 0)).before args s = true) (har : (Cond.arrayOf (.field tm "java/lang/String" "value" "[B") .byte).before args s = true)
    (hle : (Cond.eq (.length (.field tm "java/lang/String" "value" "[B")) (.int (Int32.ofNat l.length))).before args s = true) (hel : ∀ j : Nat, j < l.length → (Cond.eq (.elem (.field tm "java/lang/String" "value" "[B") (.int (Int32.ofNat j))) (.int (Int32.ofInt (l.getD j 0)))).before args s = true) :
    ∃ q : Nat × Nat, tm.eval args s none [] s = some (.ref q.1) ∧ va_O "java/lang/String" q.1 A s s.heap ∧ va_OF "java/lang/String" "coder" "B" (.int 0) q.1 A s s.heap ∧ va_OF "java/lang/String" "value" "[B" (.ref q.2) q.1 A s s.heap ∧ va_T .byte q.2 l.length (fun j => .int (Int32.ofInt (l.getD j 0))) A s s.heap := by
  obtain ⟨a, c, cA, kA, q1, q2, q3, q4, q5, q6, -⟩ := Cond.exactly_spec (args := args) (first := s) (o := none) (s := s) (idx := []) hex
  obtain ⟨t, ht, hT⟩ := va_Tof (f := fun j => .int (Int32.ofInt (l.getD j 0))) (A := A) hll har (va_eqt hle) (fun j hj => va_eqt (hel j hj)) hA
  exact ⟨(a, t), q1, ⟨cA, q3, q5, by rw [q6]; exact q2, hA a (Array.getElem?_eq_some_iff.mp q3).1⟩, vk_OFof q1 (va_eqt hco) hA, vk_OFof q1 ht hA, hT⟩
def flA : Cond → List Cond → List Cond
  | .and a b, acc => flA a (flA b acc)
  | c, acc => c :: acc
theorem flA_eq (T : Cond) : ∀ acc : List Cond, flA T acc = flatC T ++ acc := by
  induction T with
  | and a b iha ihb =>
    intro acc
    rw [flA, iha, ihb, flatC, List.append_assoc]
  | _ => intro acc; rfl
abbrev flt : List Cond := flA (Jvm.Cond.and given_1 narrow_1) []
theorem flt_before {args : Array Value} {s : State} (h : (Jvm.Cond.and given_1 narrow_1).before args s = true) {c : Cond} {i : Nat} (hc : flt[i]? = some c) : c.before args s = true := by
  have hm : c ∈ flt := List.mem_of_getElem? hc
  rw [flt, flA_eq, List.append_nil] at hm
  exact flat_of_before _ h c hm
def snl : List String := ["USUAL", "SMALLEST", "LARGEST", "RANKS", "STRAIGHT_LEFT_RIGHT"]
def ps_a : List Nat := [5, 19, 28, 37, 55]
def ps_l : List Nat := [6, 20, 29, 38, 56]
def ps_e : List Nat := [614, 615, 616, 617, 618]
def ps_0 : List Nat := [7, 21, 30, 39, 57]
theorem sw_1 : ∀ i, i < 5 → flt[ps_a.getD i 0]? = some (Cond.arrayOf (.static "CrackedMud" (snl.getD i "") "[I") .int) ∧ flt[ps_l.getD i 0]? = some (Cond.eq (.length (.static "CrackedMud" (snl.getD i "") "[I")) (.int (Int32.ofNat (fzi.getD i []).length))) ∧ flt[ps_e.getD i 0]? = some (Cond.exactly (.static "CrackedMud" (snl.getD i "") "[I") "[I") := by decide +kernel
theorem sw_2 : ∀ i, i < 5 → ∀ j, j < (fzi.getD i []).length → flt[ps_0.getD i 0 + j]? = some (Cond.eq (.elem (.static "CrackedMud" (snl.getD i "") "[I") (.int (Int32.ofNat j))) (.int (Int32.ofInt ((fzi.getD i []).getD j 0)))) := by decide +kernel
theorem sl_0 : Cond.laysStatic "CrackedMud" (snl.getD 0 "") "[I" ∈ lw_tbl := tb2 (List.mem_of_getElem? (i := 96) (by decide +kernel))
theorem sl_1 : Cond.laysStatic "CrackedMud" (snl.getD 1 "") "[I" ∈ lw_tbl := tb4 (List.mem_of_getElem? (i := 110) (by decide +kernel))
theorem sl_2 : Cond.laysStatic "CrackedMud" (snl.getD 2 "") "[I" ∈ lw_tbl := tb4 (List.mem_of_getElem? (i := 112) (by decide +kernel))
theorem sl_3 : Cond.laysStatic "CrackedMud" (snl.getD 3 "") "[I" ∈ lw_tbl := tb4 (List.mem_of_getElem? (i := 150) (by decide +kernel))
theorem sl_4 : Cond.laysStatic "CrackedMud" (snl.getD 4 "") "[I" ∈ lw_tbl := tb4 (List.mem_of_getElem? (i := 217) (by decide +kernel))
theorem sl_all (i : Nat) (h : i < 5) : Cond.laysStatic "CrackedMud" (snl.getD i "") "[I" ∈ lw_tbl := by
  match i, h with
  | 0, _ => exact sl_0
  | 1, _ => exact sl_1
  | 2, _ => exact sl_2
  | 3, _ => exact sl_3
  | 4, _ => exact sl_4
  | i + 5, h => exact absurd h (by omega)
theorem wn_0 : Cond.initialized "CrackedMud" ∈ lw_tbl := tb1 (List.mem_of_getElem? (i := 1) (by decide +kernel))
theorem wn_1 : Cond.initialized "java/lang/String" ∈ lw_tbl := tb1 (List.mem_of_getElem? (i := 17) (by decide +kernel))
theorem wn_2 : Cond.laysStatic "java/lang/String" "COMPACT_STRINGS" "Z" ∈ lw_tbl := tb4 (List.mem_of_getElem? (i := 49) (by decide +kernel))
theorem wn_3 : Cond.initialized "jdk/internal/util/Preconditions" ∈ lw_tbl := tb1 (List.mem_of_getElem? (i := 19) (by decide +kernel))
theorem wn_4 : Cond.laysStatic "jdk/internal/util/Preconditions" "SIOOBE_FORMATTER" "Ljava/util/function/BiFunction;" ∈ lw_tbl := tb4 (List.mem_of_getElem? (i := 65) (by decide +kernel))
def scl : List (String × Nat) := [("CrackedMud$TextCutter", 70), ("CrackedMud$TextCutter", 72), ("CrackedMud$TextCutter", 74), ("CrackedMud$TextCutter", 76), ("CrackedMud$TextCutter", 78), ("CrackedMud$TextCutter", 80), ("CrackedMud$TextCutter", 82), ("CrackedMud$TextCutter", 84), ("CrackedMud$TextCutter", 86), ("CrackedMud$TextCutter", 88), ("CrackedMud$TextCutter", 90), ("CrackedMud$TextCutter", 92), ("CrackedMud$TextCutter", 94), ("CrackedMud$TextCutter", 96), ("CrackedMud$TextCutter", 98), ("CrackedMud$TextCutter", 100), ("CrackedMud$TextCutter", 102), ("CrackedMud$TextCutter", 104), ("CrackedMud$TextCutter", 106), ("CrackedMud$TextCutter", 108), ("CrackedMud$TextCutter", 110), ("CrackedMud$TextCutter", 112), ("CrackedMud$TextCutter", 114), ("CrackedMud$TextCutter", 116), ("CrackedMud$TextCutter", 118), ("CrackedMud$TextCutter", 120), ("CrackedMud$TextCutter", 122), ("CrackedMud$TextCutter", 124), ("CrackedMud$TextCutter", 126), ("CrackedMud$TextCutter", 128)]
def pk_x : List Nat := [99, 108, 116, 124, 131, 139, 149, 156, 164, 172, 179, 185, 192, 198, 203, 208, 215, 224, 232, 239, 247, 256, 264, 275, 284, 292, 300, 309, 318, 327]
def pk_c : List Nat := [100, 109, 117, 125, 132, 140, 150, 157, 165, 173, 180, 186, 193, 199, 204, 209, 216, 225, 233, 240, 248, 257, 265, 276, 285, 293, 301, 310, 319, 328]
def pk_a : List Nat := [101, 110, 118, 126, 133, 141, 151, 158, 166, 174, 181, 187, 194, 200, 205, 210, 217, 226, 234, 241, 249, 258, 266, 277, 286, 294, 302, 311, 320, 329]
def pk_l : List Nat := [102, 111, 119, 127, 134, 142, 152, 159, 167, 175, 182, 188, 195, 201, 206, 211, 218, 227, 235, 242, 250, 259, 267, 278, 287, 295, 303, 312, 321, 330]
def pk_0 : List Nat := [103, 112, 120, 128, 135, 143, 153, 160, 168, 176, 183, 189, 196, 202, 207, 212, 219, 228, 236, 243, 251, 260, 268, 279, 288, 296, 304, 313, 322, 331]
def stm (i : Nat) : Term := .string (scl.getD i ("", 0)).1 (scl.getD i ("", 0)).2
theorem sx_1 : ∀ i, i < 30 → flt[pk_x.getD i 0]? = some (Cond.exactly (stm i) "java/lang/String") ∧ flt[pk_c.getD i 0]? = some (Cond.eq (.field (stm i) "java/lang/String" "coder" "B") (.int 0)) ∧ flt[pk_a.getD i 0]? = some (Cond.arrayOf (.field (stm i) "java/lang/String" "value" "[B") .byte) ∧ flt[pk_l.getD i 0]? = some (Cond.eq (.length (.field (stm i) "java/lang/String" "value" "[B")) (.int (Int32.ofNat (fzb.getD i []).length))) := by decide +kernel
theorem sx2_0 : ∀ j, j < (fzb.getD 0 []).length → flt[pk_0.getD 0 0 + j]? = some (Cond.eq (.elem (.field (stm 0) "java/lang/String" "value" "[B") (.int (Int32.ofNat j))) (.int (Int32.ofInt ((fzb.getD 0 []).getD j 0)))) := by decide +kernel
theorem sx2_1 : ∀ j, j < (fzb.getD 1 []).length → flt[pk_0.getD 1 0 + j]? = some (Cond.eq (.elem (.field (stm 1) "java/lang/String" "value" "[B") (.int (Int32.ofNat j))) (.int (Int32.ofInt ((fzb.getD 1 []).getD j 0)))) := by decide +kernel
theorem sx2_2 : ∀ j, j < (fzb.getD 2 []).length → flt[pk_0.getD 2 0 + j]? = some (Cond.eq (.elem (.field (stm 2) "java/lang/String" "value" "[B") (.int (Int32.ofNat j))) (.int (Int32.ofInt ((fzb.getD 2 []).getD j 0)))) := by decide +kernel
theorem sx2_3 : ∀ j, j < (fzb.getD 3 []).length → flt[pk_0.getD 3 0 + j]? = some (Cond.eq (.elem (.field (stm 3) "java/lang/String" "value" "[B") (.int (Int32.ofNat j))) (.int (Int32.ofInt ((fzb.getD 3 []).getD j 0)))) := by decide +kernel
theorem sx2_4 : ∀ j, j < (fzb.getD 4 []).length → flt[pk_0.getD 4 0 + j]? = some (Cond.eq (.elem (.field (stm 4) "java/lang/String" "value" "[B") (.int (Int32.ofNat j))) (.int (Int32.ofInt ((fzb.getD 4 []).getD j 0)))) := by decide +kernel
theorem sx2_5 : ∀ j, j < (fzb.getD 5 []).length → flt[pk_0.getD 5 0 + j]? = some (Cond.eq (.elem (.field (stm 5) "java/lang/String" "value" "[B") (.int (Int32.ofNat j))) (.int (Int32.ofInt ((fzb.getD 5 []).getD j 0)))) := by decide +kernel
theorem sx2_6 : ∀ j, j < (fzb.getD 6 []).length → flt[pk_0.getD 6 0 + j]? = some (Cond.eq (.elem (.field (stm 6) "java/lang/String" "value" "[B") (.int (Int32.ofNat j))) (.int (Int32.ofInt ((fzb.getD 6 []).getD j 0)))) := by decide +kernel
theorem sx2_7 : ∀ j, j < (fzb.getD 7 []).length → flt[pk_0.getD 7 0 + j]? = some (Cond.eq (.elem (.field (stm 7) "java/lang/String" "value" "[B") (.int (Int32.ofNat j))) (.int (Int32.ofInt ((fzb.getD 7 []).getD j 0)))) := by decide +kernel
theorem sx2_8 : ∀ j, j < (fzb.getD 8 []).length → flt[pk_0.getD 8 0 + j]? = some (Cond.eq (.elem (.field (stm 8) "java/lang/String" "value" "[B") (.int (Int32.ofNat j))) (.int (Int32.ofInt ((fzb.getD 8 []).getD j 0)))) := by decide +kernel
theorem sx2_9 : ∀ j, j < (fzb.getD 9 []).length → flt[pk_0.getD 9 0 + j]? = some (Cond.eq (.elem (.field (stm 9) "java/lang/String" "value" "[B") (.int (Int32.ofNat j))) (.int (Int32.ofInt ((fzb.getD 9 []).getD j 0)))) := by decide +kernel
theorem sx2_10 : ∀ j, j < (fzb.getD 10 []).length → flt[pk_0.getD 10 0 + j]? = some (Cond.eq (.elem (.field (stm 10) "java/lang/String" "value" "[B") (.int (Int32.ofNat j))) (.int (Int32.ofInt ((fzb.getD 10 []).getD j 0)))) := by decide +kernel
theorem sx2_11 : ∀ j, j < (fzb.getD 11 []).length → flt[pk_0.getD 11 0 + j]? = some (Cond.eq (.elem (.field (stm 11) "java/lang/String" "value" "[B") (.int (Int32.ofNat j))) (.int (Int32.ofInt ((fzb.getD 11 []).getD j 0)))) := by decide +kernel
theorem sx2_12 : ∀ j, j < (fzb.getD 12 []).length → flt[pk_0.getD 12 0 + j]? = some (Cond.eq (.elem (.field (stm 12) "java/lang/String" "value" "[B") (.int (Int32.ofNat j))) (.int (Int32.ofInt ((fzb.getD 12 []).getD j 0)))) := by decide +kernel
theorem sx2_13 : ∀ j, j < (fzb.getD 13 []).length → flt[pk_0.getD 13 0 + j]? = some (Cond.eq (.elem (.field (stm 13) "java/lang/String" "value" "[B") (.int (Int32.ofNat j))) (.int (Int32.ofInt ((fzb.getD 13 []).getD j 0)))) := by decide +kernel
theorem sx2_14 : ∀ j, j < (fzb.getD 14 []).length → flt[pk_0.getD 14 0 + j]? = some (Cond.eq (.elem (.field (stm 14) "java/lang/String" "value" "[B") (.int (Int32.ofNat j))) (.int (Int32.ofInt ((fzb.getD 14 []).getD j 0)))) := by decide +kernel
theorem sx2_15 : ∀ j, j < (fzb.getD 15 []).length → flt[pk_0.getD 15 0 + j]? = some (Cond.eq (.elem (.field (stm 15) "java/lang/String" "value" "[B") (.int (Int32.ofNat j))) (.int (Int32.ofInt ((fzb.getD 15 []).getD j 0)))) := by decide +kernel
theorem sx2_16 : ∀ j, j < (fzb.getD 16 []).length → flt[pk_0.getD 16 0 + j]? = some (Cond.eq (.elem (.field (stm 16) "java/lang/String" "value" "[B") (.int (Int32.ofNat j))) (.int (Int32.ofInt ((fzb.getD 16 []).getD j 0)))) := by decide +kernel
theorem sx2_17 : ∀ j, j < (fzb.getD 17 []).length → flt[pk_0.getD 17 0 + j]? = some (Cond.eq (.elem (.field (stm 17) "java/lang/String" "value" "[B") (.int (Int32.ofNat j))) (.int (Int32.ofInt ((fzb.getD 17 []).getD j 0)))) := by decide +kernel
theorem sx2_18 : ∀ j, j < (fzb.getD 18 []).length → flt[pk_0.getD 18 0 + j]? = some (Cond.eq (.elem (.field (stm 18) "java/lang/String" "value" "[B") (.int (Int32.ofNat j))) (.int (Int32.ofInt ((fzb.getD 18 []).getD j 0)))) := by decide +kernel
theorem sx2_19 : ∀ j, j < (fzb.getD 19 []).length → flt[pk_0.getD 19 0 + j]? = some (Cond.eq (.elem (.field (stm 19) "java/lang/String" "value" "[B") (.int (Int32.ofNat j))) (.int (Int32.ofInt ((fzb.getD 19 []).getD j 0)))) := by decide +kernel
theorem sx2_20 : ∀ j, j < (fzb.getD 20 []).length → flt[pk_0.getD 20 0 + j]? = some (Cond.eq (.elem (.field (stm 20) "java/lang/String" "value" "[B") (.int (Int32.ofNat j))) (.int (Int32.ofInt ((fzb.getD 20 []).getD j 0)))) := by decide +kernel
theorem sx2_21 : ∀ j, j < (fzb.getD 21 []).length → flt[pk_0.getD 21 0 + j]? = some (Cond.eq (.elem (.field (stm 21) "java/lang/String" "value" "[B") (.int (Int32.ofNat j))) (.int (Int32.ofInt ((fzb.getD 21 []).getD j 0)))) := by decide +kernel
theorem sx2_22 : ∀ j, j < (fzb.getD 22 []).length → flt[pk_0.getD 22 0 + j]? = some (Cond.eq (.elem (.field (stm 22) "java/lang/String" "value" "[B") (.int (Int32.ofNat j))) (.int (Int32.ofInt ((fzb.getD 22 []).getD j 0)))) := by decide +kernel
theorem sx2_23 : ∀ j, j < (fzb.getD 23 []).length → flt[pk_0.getD 23 0 + j]? = some (Cond.eq (.elem (.field (stm 23) "java/lang/String" "value" "[B") (.int (Int32.ofNat j))) (.int (Int32.ofInt ((fzb.getD 23 []).getD j 0)))) := by decide +kernel
theorem sx2_24 : ∀ j, j < (fzb.getD 24 []).length → flt[pk_0.getD 24 0 + j]? = some (Cond.eq (.elem (.field (stm 24) "java/lang/String" "value" "[B") (.int (Int32.ofNat j))) (.int (Int32.ofInt ((fzb.getD 24 []).getD j 0)))) := by decide +kernel
theorem sx2_25 : ∀ j, j < (fzb.getD 25 []).length → flt[pk_0.getD 25 0 + j]? = some (Cond.eq (.elem (.field (stm 25) "java/lang/String" "value" "[B") (.int (Int32.ofNat j))) (.int (Int32.ofInt ((fzb.getD 25 []).getD j 0)))) := by decide +kernel
theorem sx2_26 : ∀ j, j < (fzb.getD 26 []).length → flt[pk_0.getD 26 0 + j]? = some (Cond.eq (.elem (.field (stm 26) "java/lang/String" "value" "[B") (.int (Int32.ofNat j))) (.int (Int32.ofInt ((fzb.getD 26 []).getD j 0)))) := by decide +kernel
theorem sx2_27 : ∀ j, j < (fzb.getD 27 []).length → flt[pk_0.getD 27 0 + j]? = some (Cond.eq (.elem (.field (stm 27) "java/lang/String" "value" "[B") (.int (Int32.ofNat j))) (.int (Int32.ofInt ((fzb.getD 27 []).getD j 0)))) := by decide +kernel
theorem sx2_28 : ∀ j, j < (fzb.getD 28 []).length → flt[pk_0.getD 28 0 + j]? = some (Cond.eq (.elem (.field (stm 28) "java/lang/String" "value" "[B") (.int (Int32.ofNat j))) (.int (Int32.ofInt ((fzb.getD 28 []).getD j 0)))) := by decide +kernel
theorem sx2_29 : ∀ j, j < (fzb.getD 29 []).length → flt[pk_0.getD 29 0 + j]? = some (Cond.eq (.elem (.field (stm 29) "java/lang/String" "value" "[B") (.int (Int32.ofNat j))) (.int (Int32.ofInt ((fzb.getD 29 []).getD j 0)))) := by decide +kernel
theorem sx_2 (i : Nat) (h : i < 30) : ∀ j, j < (fzb.getD i []).length → flt[pk_0.getD i 0 + j]? = some (Cond.eq (.elem (.field (stm i) "java/lang/String" "value" "[B") (.int (Int32.ofNat j))) (.int (Int32.ofInt ((fzb.getD i []).getD j 0)))) := by
  match i, h with
  | 0, _ => exact sx2_0
  | 1, _ => exact sx2_1
  | 2, _ => exact sx2_2
  | 3, _ => exact sx2_3
  | 4, _ => exact sx2_4
  | 5, _ => exact sx2_5
  | 6, _ => exact sx2_6
  | 7, _ => exact sx2_7
  | 8, _ => exact sx2_8
  | 9, _ => exact sx2_9
  | 10, _ => exact sx2_10
  | 11, _ => exact sx2_11
  | 12, _ => exact sx2_12
  | 13, _ => exact sx2_13
  | 14, _ => exact sx2_14
  | 15, _ => exact sx2_15
  | 16, _ => exact sx2_16
  | 17, _ => exact sx2_17
  | 18, _ => exact sx2_18
  | 19, _ => exact sx2_19
  | 20, _ => exact sx2_20
  | 21, _ => exact sx2_21
  | 22, _ => exact sx2_22
  | 23, _ => exact sx2_23
  | 24, _ => exact sx2_24
  | 25, _ => exact sx2_25
  | 26, _ => exact sx2_26
  | 27, _ => exact sx2_27
  | 28, _ => exact sx2_28
  | 29, _ => exact sx2_29
  | i + 30, h => exact absurd h (by omega)
def pk_e : List Nat := [0, 0, 0, 0, 0, 0, 0, 0, 0, 0, 0, 0, 0, 0, 0, 0, 0, 0, 0, 0, 0, 0, 0, 0, 0, 0, 0, 0, 0, 0, 347, 355, 363, 372, 382, 391, 400, 408, 417, 428, 434, 440, 449, 457, 467, 476, 484, 494, 503, 515, 525, 534, 543, 553, 563, 573, 586, 594, 601, 608]
def sx3b (i : Nat) : Bool := match strl[i]? with
  | some q => decide (6 ≤ q.2.2.2) && decide (q.2.2.2 < 36) && (decide (stm (q.2.2.2 - 6) = .string q.1 q.2.1) || decide (flt[pk_e.getD i 0]? = some (Cond.eq (stm (q.2.2.2 - 6)) (.string q.1 q.2.1))))
  | none => false
theorem sx_3 : ∀ i, i < 60 → ∀ q, strl[i]? = some q → 6 ≤ q.2.2.2 ∧ q.2.2.2 < 36 ∧ (stm (q.2.2.2 - 6) = .string q.1 q.2.1 ∨ flt[pk_e.getD i 0]? = some (Cond.eq (stm (q.2.2.2 - 6)) (.string q.1 q.2.1))) := by
  have h : ∀ i, i < 60 → sx3b i = true := by decide +kernel
  intro i hi q hq
  have h2 := h i hi
  unfold sx3b at h2
  rw [hq] at h2
  simp only [Bool.and_eq_true, Bool.or_eq_true, decide_eq_true_eq] at h2
  exact ⟨h2.1.1, h2.1.2, h2.2⟩
theorem sx_4 : flt[13]? = some (Cond.eq (.static "java/lang/String" "COMPACT_STRINGS" "Z") (.int 1)) ∧ flt[14]? = some (Cond.isRef (.static "jdk/internal/util/Preconditions" "SIOOBE_FORMATTER" "Ljava/util/function/BiFunction;")) := by decide +kernel
theorem sr_0 : Cond.stringRef "CrackedMud$TextCutter" 70 "notch" ∈ lw_tbl := tb4 (List.mem_of_getElem? (i := 6) (by decide +kernel))
theorem sr_1 : Cond.stringRef "CrackedMud$TextCutter" 72 "heal" ∈ lw_tbl := tb4 (List.mem_of_getElem? (i := 7) (by decide +kernel))
theorem sr_2 : Cond.stringRef "CrackedMud$TextCutter" 74 "scar" ∈ lw_tbl := tb4 (List.mem_of_getElem? (i := 8) (by decide +kernel))
theorem sr_3 : Cond.stringRef "CrackedMud$TextCutter" 76 "let" ∈ lw_tbl := tb4 (List.mem_of_getElem? (i := 9) (by decide +kernel))
theorem sr_4 : Cond.stringRef "CrackedMud$TextCutter" 78 "most" ∈ lw_tbl := tb4 (List.mem_of_getElem? (i := 10) (by decide +kernel))
theorem sr_5 : Cond.stringRef "CrackedMud$TextCutter" 80 "deepen" ∈ lw_tbl := tb4 (List.mem_of_getElem? (i := 11) (by decide +kernel))
theorem sr_6 : Cond.stringRef "CrackedMud$TextCutter" 82 "dry" ∈ lw_tbl := tb4 (List.mem_of_getElem? (i := 12) (by decide +kernel))
theorem sr_7 : Cond.stringRef "CrackedMud$TextCutter" 84 "tear" ∈ lw_tbl := tb4 (List.mem_of_getElem? (i := 13) (by decide +kernel))
theorem sr_8 : Cond.stringRef "CrackedMud$TextCutter" 86 "want" ∈ lw_tbl := tb4 (List.mem_of_getElem? (i := 14) (by decide +kernel))
theorem sr_9 : Cond.stringRef "CrackedMud$TextCutter" 88 "not" ∈ lw_tbl := tb4 (List.mem_of_getElem? (i := 15) (by decide +kernel))
theorem sr_10 : Cond.stringRef "CrackedMud$TextCutter" 90 "if" ∈ lw_tbl := tb4 (List.mem_of_getElem? (i := 16) (by decide +kernel))
theorem sr_11 : Cond.stringRef "CrackedMud$TextCutter" 92 "and" ∈ lw_tbl := tb4 (List.mem_of_getElem? (i := 17) (by decide +kernel))
theorem sr_12 : Cond.stringRef "CrackedMud$TextCutter" 94 "or" ∈ lw_tbl := tb4 (List.mem_of_getElem? (i := 18) (by decide +kernel))
theorem sr_13 : Cond.stringRef "CrackedMud$TextCutter" 96 "x" ∈ lw_tbl := tb4 (List.mem_of_getElem? (i := 19) (by decide +kernel))
theorem sr_14 : Cond.stringRef "CrackedMud$TextCutter" 98 "y" ∈ lw_tbl := tb4 (List.mem_of_getElem? (i := 20) (by decide +kernel))
theorem sr_15 : Cond.stringRef "CrackedMud$TextCutter" 100 "wet" ∈ lw_tbl := tb4 (List.mem_of_getElem? (i := 21) (by decide +kernel))
theorem sr_16 : Cond.stringRef "CrackedMud$TextCutter" 102 "shade" ∈ lw_tbl := tb4 (List.mem_of_getElem? (i := 22) (by decide +kernel))
theorem sr_17 : Cond.stringRef "CrackedMud$TextCutter" 104 "salt" ∈ lw_tbl := tb4 (List.mem_of_getElem? (i := 23) (by decide +kernel))
theorem sr_18 : Cond.stringRef "CrackedMud$TextCutter" 106 "way" ∈ lw_tbl := tb4 (List.mem_of_getElem? (i := 24) (by decide +kernel))
theorem sr_19 : Cond.stringRef "CrackedMud$TextCutter" 108 "tick" ∈ lw_tbl := tb4 (List.mem_of_getElem? (i := 25) (by decide +kernel))
theorem sr_20 : Cond.stringRef "CrackedMud$TextCutter" 110 "rooms" ∈ lw_tbl := tb4 (List.mem_of_getElem? (i := 26) (by decide +kernel))
theorem sr_21 : Cond.stringRef "CrackedMud$TextCutter" 112 "tees" ∈ lw_tbl := tb4 (List.mem_of_getElem? (i := 27) (by decide +kernel))
theorem sr_22 : Cond.stringRef "CrackedMud$TextCutter" 114 "crosses" ∈ lw_tbl := tb4 (List.mem_of_getElem? (i := 28) (by decide +kernel))
theorem sr_23 : Cond.stringRef "CrackedMud$TextCutter" 116 "turns" ∈ lw_tbl := tb4 (List.mem_of_getElem? (i := 29) (by decide +kernel))
theorem sr_24 : Cond.stringRef "CrackedMud$TextCutter" 118 "ends" ∈ lw_tbl := tb4 (List.mem_of_getElem? (i := 30) (by decide +kernel))
theorem sr_25 : Cond.stringRef "CrackedMud$TextCutter" 120 "torn" ∈ lw_tbl := tb4 (List.mem_of_getElem? (i := 31) (by decide +kernel))
theorem sr_26 : Cond.stringRef "CrackedMud$TextCutter" 122 "tears" ∈ lw_tbl := tb4 (List.mem_of_getElem? (i := 32) (by decide +kernel))
theorem sr_27 : Cond.stringRef "CrackedMud$TextCutter" 124 "sides" ∈ lw_tbl := tb4 (List.mem_of_getElem? (i := 33) (by decide +kernel))
theorem sr_28 : Cond.stringRef "CrackedMud$TextCutter" 126 "least" ∈ lw_tbl := tb4 (List.mem_of_getElem? (i := 34) (by decide +kernel))
theorem sr_29 : Cond.stringRef "CrackedMud$TextCutter" 128 "greatest" ∈ lw_tbl := tb4 (List.mem_of_getElem? (i := 35) (by decide +kernel))
theorem sr_30 : Cond.stringRef "CrackedMudModel" 261 "want" ∈ lw_tbl := tb7 (List.mem_of_getElem? (i := 65) (by decide +kernel))
theorem sr_31 : Cond.stringRef "CrackedMudModel" 263 "not" ∈ lw_tbl := tb7 (List.mem_of_getElem? (i := 66) (by decide +kernel))
theorem sr_32 : Cond.stringRef "CrackedMudModel" 265 "dry" ∈ lw_tbl := tb7 (List.mem_of_getElem? (i := 67) (by decide +kernel))
theorem sr_33 : Cond.stringRef "CrackedMudModel" 267 "tear" ∈ lw_tbl := tb7 (List.mem_of_getElem? (i := 68) (by decide +kernel))
theorem sr_34 : Cond.stringRef "CrackedMudModel" 269 "notch" ∈ lw_tbl := tb7 (List.mem_of_getElem? (i := 69) (by decide +kernel))
theorem sr_35 : Cond.stringRef "CrackedMudModel" 271 "heal" ∈ lw_tbl := tb7 (List.mem_of_getElem? (i := 70) (by decide +kernel))
theorem sr_36 : Cond.stringRef "CrackedMudModel" 273 "scar" ∈ lw_tbl := tb7 (List.mem_of_getElem? (i := 71) (by decide +kernel))
theorem sr_37 : Cond.stringRef "CrackedMudModel" 275 "let" ∈ lw_tbl := tb7 (List.mem_of_getElem? (i := 72) (by decide +kernel))
theorem sr_38 : Cond.stringRef "CrackedMudModel" 277 "most" ∈ lw_tbl := tb7 (List.mem_of_getElem? (i := 73) (by decide +kernel))
theorem sr_39 : Cond.stringRef "CrackedMudModel" 279 "deepen" ∈ lw_tbl := tb7 (List.mem_of_getElem? (i := 74) (by decide +kernel))
theorem sr_40 : Cond.stringRef "CrackedMudModel" 230 "x" ∈ lw_tbl := tb7 (List.mem_of_getElem? (i := 143) (by decide +kernel))
theorem sr_41 : Cond.stringRef "CrackedMudModel" 232 "y" ∈ lw_tbl := tb7 (List.mem_of_getElem? (i := 144) (by decide +kernel))
theorem sr_42 : Cond.stringRef "CrackedMudModel" 234 "tick" ∈ lw_tbl := tb7 (List.mem_of_getElem? (i := 145) (by decide +kernel))
theorem sr_43 : Cond.stringRef "CrackedMudModel" 236 "wet" ∈ lw_tbl := tb7 (List.mem_of_getElem? (i := 146) (by decide +kernel))
theorem sr_44 : Cond.stringRef "CrackedMudModel" 237 "shade" ∈ lw_tbl := tb7 (List.mem_of_getElem? (i := 147) (by decide +kernel))
theorem sr_45 : Cond.stringRef "CrackedMudModel" 238 "salt" ∈ lw_tbl := tb7 (List.mem_of_getElem? (i := 148) (by decide +kernel))
theorem sr_46 : Cond.stringRef "CrackedMudModel" 239 "way" ∈ lw_tbl := tb7 (List.mem_of_getElem? (i := 149) (by decide +kernel))
theorem sr_47 : Cond.stringRef "CrackedMudModel" 241 "rooms" ∈ lw_tbl := tb7 (List.mem_of_getElem? (i := 153) (by decide +kernel))
theorem sr_48 : Cond.stringRef "CrackedMudModel" 243 "tees" ∈ lw_tbl := tb7 (List.mem_of_getElem? (i := 154) (by decide +kernel))
theorem sr_49 : Cond.stringRef "CrackedMudModel" 245 "crosses" ∈ lw_tbl := tb7 (List.mem_of_getElem? (i := 155) (by decide +kernel))
theorem sr_50 : Cond.stringRef "CrackedMudModel" 247 "turns" ∈ lw_tbl := tb7 (List.mem_of_getElem? (i := 156) (by decide +kernel))
theorem sr_51 : Cond.stringRef "CrackedMudModel" 249 "ends" ∈ lw_tbl := tb7 (List.mem_of_getElem? (i := 157) (by decide +kernel))
theorem sr_52 : Cond.stringRef "CrackedMudModel" 251 "torn" ∈ lw_tbl := tb7 (List.mem_of_getElem? (i := 158) (by decide +kernel))
theorem sr_53 : Cond.stringRef "CrackedMudModel" 253 "tears" ∈ lw_tbl := tb7 (List.mem_of_getElem? (i := 159) (by decide +kernel))
theorem sr_54 : Cond.stringRef "CrackedMudModel" 255 "sides" ∈ lw_tbl := tb7 (List.mem_of_getElem? (i := 160) (by decide +kernel))
theorem sr_55 : Cond.stringRef "CrackedMudModel" 257 "least" ∈ lw_tbl := tb7 (List.mem_of_getElem? (i := 161) (by decide +kernel))
theorem sr_56 : Cond.stringRef "CrackedMudModel" 259 "greatest" ∈ lw_tbl := tb7 (List.mem_of_getElem? (i := 162) (by decide +kernel))
theorem sr_57 : Cond.stringRef "CrackedMudModel" 370 "and" ∈ lw_tbl := tb7 (List.mem_of_getElem? (i := 171) (by decide +kernel))
theorem sr_58 : Cond.stringRef "CrackedMudModel" 372 "or" ∈ lw_tbl := tb7 (List.mem_of_getElem? (i := 172) (by decide +kernel))
theorem sr_59 : Cond.stringRef "CrackedMudModel" 383 "if" ∈ lw_tbl := tb7 (List.mem_of_getElem? (i := 173) (by decide +kernel))
set_option maxRecDepth 100000 in
theorem sr_all : ∀ q ∈ strl, Cond.stringRef q.1 q.2.1 q.2.2.1 ∈ lw_tbl := List.forall_mem_cons.mpr ⟨sr_0, List.forall_mem_cons.mpr ⟨sr_1, List.forall_mem_cons.mpr ⟨sr_2, List.forall_mem_cons.mpr ⟨sr_3, List.forall_mem_cons.mpr ⟨sr_4, List.forall_mem_cons.mpr ⟨sr_5, List.forall_mem_cons.mpr ⟨sr_6, List.forall_mem_cons.mpr ⟨sr_7, List.forall_mem_cons.mpr ⟨sr_8, List.forall_mem_cons.mpr ⟨sr_9, List.forall_mem_cons.mpr ⟨sr_10, List.forall_mem_cons.mpr ⟨sr_11, List.forall_mem_cons.mpr ⟨sr_12, List.forall_mem_cons.mpr ⟨sr_13, List.forall_mem_cons.mpr ⟨sr_14, List.forall_mem_cons.mpr ⟨sr_15, List.forall_mem_cons.mpr ⟨sr_16, List.forall_mem_cons.mpr ⟨sr_17, List.forall_mem_cons.mpr ⟨sr_18, List.forall_mem_cons.mpr ⟨sr_19, List.forall_mem_cons.mpr ⟨sr_20, List.forall_mem_cons.mpr ⟨sr_21, List.forall_mem_cons.mpr ⟨sr_22, List.forall_mem_cons.mpr ⟨sr_23, List.forall_mem_cons.mpr ⟨sr_24, List.forall_mem_cons.mpr ⟨sr_25, List.forall_mem_cons.mpr ⟨sr_26, List.forall_mem_cons.mpr ⟨sr_27, List.forall_mem_cons.mpr ⟨sr_28, List.forall_mem_cons.mpr ⟨sr_29, List.forall_mem_cons.mpr ⟨sr_30, List.forall_mem_cons.mpr ⟨sr_31, List.forall_mem_cons.mpr ⟨sr_32, List.forall_mem_cons.mpr ⟨sr_33, List.forall_mem_cons.mpr ⟨sr_34, List.forall_mem_cons.mpr ⟨sr_35, List.forall_mem_cons.mpr ⟨sr_36, List.forall_mem_cons.mpr ⟨sr_37, List.forall_mem_cons.mpr ⟨sr_38, List.forall_mem_cons.mpr ⟨sr_39, List.forall_mem_cons.mpr ⟨sr_40, List.forall_mem_cons.mpr ⟨sr_41, List.forall_mem_cons.mpr ⟨sr_42, List.forall_mem_cons.mpr ⟨sr_43, List.forall_mem_cons.mpr ⟨sr_44, List.forall_mem_cons.mpr ⟨sr_45, List.forall_mem_cons.mpr ⟨sr_46, List.forall_mem_cons.mpr ⟨sr_47, List.forall_mem_cons.mpr ⟨sr_48, List.forall_mem_cons.mpr ⟨sr_49, List.forall_mem_cons.mpr ⟨sr_50, List.forall_mem_cons.mpr ⟨sr_51, List.forall_mem_cons.mpr ⟨sr_52, List.forall_mem_cons.mpr ⟨sr_53, List.forall_mem_cons.mpr ⟨sr_54, List.forall_mem_cons.mpr ⟨sr_55, List.forall_mem_cons.mpr ⟨sr_56, List.forall_mem_cons.mpr ⟨sr_57, List.forall_mem_cons.mpr ⟨sr_58, List.forall_mem_cons.mpr ⟨sr_59, fun _ h => absurd h List.not_mem_nil⟩⟩⟩⟩⟩⟩⟩⟩⟩⟩⟩⟩⟩⟩⟩⟩⟩⟩⟩⟩⟩⟩⟩⟩⟩⟩⟩⟩⟩⟩⟩⟩⟩⟩⟩⟩⟩⟩⟩⟩⟩⟩⟩⟩⟩⟩⟩⟩⟩⟩⟩⟩⟩⟩⟩⟩⟩⟩⟩⟩
theorem nf_all : ∀ q ∈ nestF, Cond.fieldLinkNest q.1 q.2.1 q.2.2.1 q.2.2.2.1 q.2.2.2.2.1 q.2.2.2.2.2 ∈ lw_tbl := List.forall_mem_cons.mpr ⟨tb2 (List.mem_of_getElem? (i := 95) (by decide +kernel)), List.forall_mem_cons.mpr ⟨tb4 (List.mem_of_getElem? (i := 109) (by decide +kernel)), List.forall_mem_cons.mpr ⟨tb4 (List.mem_of_getElem? (i := 111) (by decide +kernel)), List.forall_mem_cons.mpr ⟨tb4 (List.mem_of_getElem? (i := 149) (by decide +kernel)), List.forall_mem_cons.mpr ⟨tb4 (List.mem_of_getElem? (i := 171) (by decide +kernel)), List.forall_mem_cons.mpr ⟨tb4 (List.mem_of_getElem? (i := 216) (by decide +kernel)), fun _ h => absurd h List.not_mem_nil⟩⟩⟩⟩⟩⟩
theorem nm_all : ∀ q ∈ nestM, Cond.methodLinkNest q.1 q.2.1 q.2.2.1 q.2.2.2 ∈ lw_tbl := List.forall_mem_cons.mpr ⟨tb1 (List.mem_of_getElem? (i := 75) (by decide +kernel)), List.forall_mem_cons.mpr ⟨tb1 (List.mem_of_getElem? (i := 81) (by decide +kernel)), List.forall_mem_cons.mpr ⟨tb2 (List.mem_of_getElem? (i := 73) (by decide +kernel)), List.forall_mem_cons.mpr ⟨tb2 (List.mem_of_getElem? (i := 194) (by decide +kernel)), List.forall_mem_cons.mpr ⟨tb4 (List.mem_of_getElem? (i := 100) (by decide +kernel)), fun _ h => absurd h List.not_mem_nil⟩⟩⟩⟩⟩
theorem ao_2 : Cond.arrayOver (.object (cnm 2)) ∈ lw_tbl := tb1 (List.mem_of_getElem? (i := 222) (by decide +kernel))
theorem ao_4 : Cond.arrayOver (.object (cnm 4)) ∈ lw_tbl := tb1 (List.mem_of_getElem? (i := 223) (by decide +kernel))
theorem ao_6 : Cond.arrayOver (.object (cnm 6)) ∈ lw_tbl := tb1 (List.mem_of_getElem? (i := 225) (by decide +kernel))
theorem wn_5 : Cond.castable "[I" "java/lang/Cloneable" ∈ lw_tbl := tb2 (List.mem_of_getElem? (i := 102) (by decide +kernel))
theorem wsu_tbl {w : Cond} (h : w ∈ wsu) : w ∈ lw_tbl := (List.mem_filter.mp h).1
theorem arr_cl {args : Array Value} {s : State} {ty : FieldType} (h : (Cond.arrayClass ty).before args s = true) : ∃ c : ClassId, ArrOfT s c ty ∧ s.vm.findClass ("[" ++ ty.toString) = some c := by
  obtain ⟨c, k, comp, h1, h2, h3⟩ := Cond.arrayClass_spec h
  exact ⟨c, fun n z => ⟨fun k h => (by cases h), k, h2, comp, h3⟩, h1⟩
theorem arr_ov {args : Array Value} {s : State} {C : String} (h : (Cond.arrayOver (.object C)).before args s = true) : ∃ c : ClassId, ArrOfT s c (.object C) ∧ va_RA s c (.object C) := by
  obtain ⟨comp, c, k, h1, h2, h3, h4, h5⟩ := Cond.arrayOver_spec h
  exact ⟨c, fun n z => ⟨fun k h => (by cases h), k, h3, comp, h4⟩, k, comp, h3, h4, h1, h5⟩
theorem know {args : Array Value} {s : State} (hts : ∀ w ∈ lw_tbl, w.before args s = true) : ∃ (D : va_G) (cy cr : Nat → ClassId), va_K D vwCl (tyl cy cr) s := by
  obtain ⟨c0, a0, b0⟩ := arr_cl (hts _ (wsu_tbl wd_ai))
  obtain ⟨c1, a1, b1⟩ := arr_cl (hts _ (wsu_tbl wd_ab))
  obtain ⟨c2, a2, b2⟩ := arr_cl (hts _ (wsu_tbl wd_az))
  obtain ⟨c3, a3, b3⟩ := arr_cl (hts _ (wsu_tbl wd_al))
  obtain ⟨r2, x2, y2⟩ := arr_ov (hts _ ao_2)
  obtain ⟨r4, x4, y4⟩ := arr_ov (hts _ ao_4)
  obtain ⟨r6, x6, y6⟩ := arr_ov (hts _ ao_6)
  have hD : ∀ c : Nat, ∃ q : ClassId × (Nat → Nat), ∀ r : vw_C, vwCl[c]? = some r → u_Kn s r.1 r.2.1 r.2.2 q.1 q.2 := by
    intro c
    by_cases h : c < 13
    · obtain ⟨T, N, ty, c1, c2, c3, c4, c5, -⟩ := (co_all c h).1
      obtain ⟨cC, iS, hK⟩ := u_known (ws := wsu) (fun w hw => hts w (wsu_tbl hw)) c2 (hts _ (wsu_tbl c5))
      exact ⟨(cC, iS), fun r hr => by cases c1.symm.trans hr; exact hK⟩
    · exact ⟨(0, fun _ => 0), fun r hr => by rw [List.getElem?_eq_none (by simpa using h)] at hr; cases hr⟩
  obtain ⟨D, hD⟩ := Classical.axiomOfChoice hD
  refine ⟨(fun c => (D c).1, fun c => (D c).2), fun t => match t with | 0 => c0 | 1 => c1 | 2 => c2 | _ => c3, fun t => match t with | 2 => r2 | 4 => r4 | _ => r6, fun c q hq => hD c q hq, fun k q hq => ?_⟩
  match k, hq with
  | 0, hq => cases hq; exact ⟨a0, b0⟩
  | 1, hq => cases hq; exact ⟨a1, b1⟩
  | 2, hq => cases hq; exact ⟨a2, b2⟩
  | 3, hq => cases hq; exact ⟨a3, b3⟩
  | 4, hq => cases hq; exact ⟨x2, y2⟩
  | 5, hq => cases hq; exact ⟨x4, y4⟩
  | 6, hq => cases hq; exact ⟨x6, y6⟩
  | k + 7, hq => cases hq
def R_law : String := "CrackedMudLaw"
def lw_P (b : Addr) (xs : List Int32) (args : Array Value) (s : State) : Prop := args = #[.ref b] ∧ s.IntsAt b xs ∧ xs.length ≤ 6 ∧ (Jvm.Cond.and given_1 narrow_1).before args s = true
def lw_Q (_ : Array Value) (s : State) (o : Outcome) (t : State) : Prop := o = .returned (some (.int 1)) ∧ Framed s o t [] 600000 7302250
def lw_Z (below : List Frame) (a : Array Value) (s : State) : State → Prop := fun t => ∃ o, t.status = .running ∧ Ended t below o ∧ lw_Q a s o t
def lw_At (p : Program) (s : State) (m : MethodId) (meth : Method) (c : Code) (b L : Nat) (xs : Nat → Int32) : Prop :=
  p.tables.exec = Jvm.exec ∧ c.code = code ∧ meth.sig.returnType = ret ∧ c.maxLocals = 4 ∧ s.vm.findClass R_law = some m.cls ∧ (∀ w ∈ lw_tbl, w.before #[Value.ref b] s = true) ∧ va_X b L xs s s.heap ∧ b < s.heap.size ∧ meth.locks = false ∧ (Jvm.Cond.and given_1 narrow_1).before #[Value.ref b] s = true ∧ meth.name = "law"
theorem bytes_ext {b b2 : ByteArray} (h : b.data.toList = b2.data.toList) : b = b2 := by
  obtain ⟨⟨d⟩⟩ := b
  obtain ⟨⟨d2⟩⟩ := b2
  have : d = d2 := h
  rw [this]
theorem l_by : byt 296 = code := bytes_ext (by decide +kernel)
theorem l_fx : mxl 296 = 4 ∧ rty 296 = ret ∧ (nmy 296).name = "law" ∧ (nmy 296).cls = R_law ∧ rfy 296 ≤ 17 ∧ rly 296 ≤ 658 ∧ mcy 296 ≤ 600000 ∧ msy 296 ≤ 7302250 := by decide +kernel
theorem not_base {s : State} {a i : Nat} {L : List Loc} (ha : a < s.heap.size) (hL : ∀ q ∈ L, s.heap.size ≤ q.base) : (⟨a, i⟩ : Loc) ∉ L := fun h => by
  have : s.heap.size ≤ a := hL _ h
  omega
theorem go_start {p : Program} {e : Env} {s : State} {m : MethodId} {below : List Frame} {meth : Method} {c : Code} (l : Launch) {b L : Nat} {xs : Nat → Int32} (hL : L ≤ 3072) (C0 : lw_At p s m meth c b L xs) (hG : Gm 296 [vr 0] (67, frz L xs) (fun r _ => r = some (vi 1))) :
    W p l e room_1 s m #[Value.ref b] below meth c s.heap [] 0 0 (lw_Z below #[Value.ref b] s) (entryFrame m ([Value.ref b] : List Value).toArray 4) := by
  obtain ⟨hx, hb, hr, hml, hown, hts, hX, hbl, hlk, hgv, hnm⟩ := C0
  have hfl : ∀ {c : Cond} {i : Nat}, flt[i]? = some c → c.before #[Value.ref b] s = true := fun hc => flt_before hgv hc
  obtain ⟨D, cy, cr, hK⟩ := know hts
  have hA : ∀ a : Nat, a < s.heap.size → ¬ (fun q => s.heap.size ≤ q) a := fun a h1 h2 => absurd h2 (Nat.not_le.mpr h1)
  have hst : ∀ i : Nat, ∃ t : Nat, i < 5 → va_T .int t (fzi.getD i []).length (fun j => .int (Int32.ofInt ((fzi.getD i []).getD j 0))) (fun q => s.heap.size ≤ q) s s.heap ∧ va_Z "CrackedMud" (snl.getD i "") "[I" (.ref t) (fun q => s.heap.size ≤ q) s s.heap ∧ va_O "[I" t (fun q => s.heap.size ≤ q) s s.heap ∧ va_C t (fzi.getD i []).length (fun q => s.heap.size ≤ q) s.heap := by
    intro i
    by_cases h : i < 5
    · obtain ⟨w1, w2, w3⟩ := sw_1 i h
      obtain ⟨t, ht⟩ := st_of hA (by have := (fzi_in i).1; omega) (hts _ (sl_all i h)) (hts _ wn_0) (hfl w1) (hfl w2) (fun j hj => hfl (sw_2 i h j hj)) (hfl w3)
      exact ⟨t, fun _ => ht⟩
    · exact ⟨0, fun h2 => absurd h2 h⟩
  obtain ⟨aS, hS⟩ := Classical.axiomOfChoice hst
  have hsk : ∀ i : Nat, ∃ q : Nat × Nat, i < 30 → (stm i).eval #[Value.ref b] s none [] s = some (.ref q.1) ∧ va_O "java/lang/String" q.1 (fun q => s.heap.size ≤ q) s s.heap ∧ va_OF "java/lang/String" "coder" "B" (.int 0) q.1 (fun q => s.heap.size ≤ q) s s.heap ∧ va_OF "java/lang/String" "value" "[B" (.ref q.2) q.1 (fun q => s.heap.size ≤ q) s s.heap ∧ va_T .byte q.2 (fzb.getD i []).length (fun j => .int (Int32.ofInt ((fzb.getD i []).getD j 0))) (fun q => s.heap.size ≤ q) s s.heap := by
    intro i
    by_cases h : i < 30
    · obtain ⟨w1, w2, w3, w4⟩ := sx_1 i h
      obtain ⟨q, hq⟩ := str_of hA (by have := (fzb_in i).1; omega) (hfl w1) (hfl w2) (hfl w3) (hfl w4) (fun j hj => hfl (sx_2 i h j hj))
      exact ⟨q, fun _ => hq⟩
    · exact ⟨(0, 0), fun h2 => absurd h2 h⟩
  obtain ⟨aK, hKs⟩ := Classical.axiomOfChoice hsk
  obtain ⟨v, hv, hvr⟩ := Cond.isRef_spec (hfl sx_4.2)
  have hZp : va_Z "jdk/internal/util/Preconditions" "SIOOBE_FORMATTER" "Ljava/util/function/BiFunction;" v (fun q => s.heap.size ≤ q) s s.heap := va_Zof (hts _ wn_4) (hts _ wn_3) hv hA
  obtain ⟨zz, hzz⟩ : ∃ zz : Nat, v = .null ∨ v = .ref zz := by
    cases v <;> first | exact ⟨0, Or.inl rfl⟩ | exact ⟨_, Or.inr rfl⟩ | cases hvr
  let ad0 : Nat → Nat := fun k => if k = 0 then b else if k < 6 then aS (k - 1) else if k < 36 then (aK (k - 6)).1 else if k < 66 then (aK (k - 36)).2 else zz
  have ad_i : ∀ k, k ≠ 0 → k < 6 → ad0 k = aS (k - 1) := fun k h1 h2 => by show (if k = 0 then b else _) = _; rw [if_neg h1, if_pos h2]
  have ad_s : ∀ k, 6 ≤ k → k < 36 → ad0 k = (aK (k - 6)).1 := fun k h1 h2 => by show (if k = 0 then b else _) = _; rw [if_neg (by omega), if_neg (by omega), if_pos h2]
  have ad_b : ∀ k, 36 ≤ k → k < 66 → ad0 k = (aK (k - 36)).2 := fun k h1 h2 => by show (if k = 0 then b else _) = _; rw [if_neg (by omega), if_neg (by omega), if_neg (by omega), if_pos h2]
  have ad_z : ad0 66 = zz := rfl
  have hFR : FR (frz L xs) ad0 (fun q => s.heap.size ≤ q) s s.heap := by
    refine ⟨fun k n f hk hf => ?_, fun k h1 h2 => ?_, fun k n f h1 h2 hf => ?_, ?_, va_Zof (hts _ wn_2) (hts _ wn_1) (va_eqt (hfl sx_4.1)) hA, ?_⟩
    · by_cases h0 : k = 0
      · subst h0
        rw [frz_0] at hf
        cases hf
        obtain ⟨scr, g1, g2, g3, g4, g5⟩ := hX
        exact ⟨scr, g1, g2, g3, Nat.le_of_eq g4.symm, by rw [g4], fun j hj => by show scr.slots[j]? = some (.int (Int32.ofInt (xs j).toInt)); rw [g5 j hj, i32_o], hA _ hbl⟩
      · rw [frz_i h0 hk] at hf
        cases hf
        rw [ad_i k h0 hk]
        exact (hS (k - 1) (by have q2 : fz0 = 6 := rfl; omega)).1
    · have q2 : fz0 = 6 := rfl
      have q3 : fz1 = 36 := rfl
      have hh := hKs (k - 6) (by omega)
      rw [ad_s k (by omega) (by omega), ad_b (k + (fz1 - fz0)) (by omega) (by omega), show k + (fz1 - fz0) - 36 = k - 6 by omega]
      exact ⟨hh.2.1, hh.2.2.1, hh.2.2.2.1⟩
    · have q1 : nfz = 67 := rfl
      have q3 : fz1 = 36 := rfl
      rw [frz_b (by omega) (by omega)] at hf
      cases hf
      rw [ad_b k (by omega) (by omega)]
      exact (hKs (k - 36) (by omega)).2.2.2.2
    · have key : ∀ i, i < 5 → va_Z "CrackedMud" (snl.getD i "") "[I" (.ref (ad0 (i + 1))) (fun q => s.heap.size ≤ q) s s.heap ∧ va_O "[I" (ad0 (i + 1)) (fun q => s.heap.size ≤ q) s s.heap ∧ ∀ n f, frz L xs (i + 1) = ea 0 n f → va_C (ad0 (i + 1)) n (fun q => s.heap.size ≤ q) s.heap := fun i hi => by
        rw [ad_i (i + 1) (by omega) (by omega), Nat.add_sub_cancel]
        refine ⟨(hS i hi).2.1, (hS i hi).2.2.1, fun n f hf => ?_⟩
        rw [frz_i (by omega) (by omega), Nat.add_sub_cancel] at hf
        cases hf
        exact (hS i hi).2.2.2
      exact List.forall_mem_cons.mpr ⟨key 0 (by decide), List.forall_mem_cons.mpr ⟨key 1 (by decide), List.forall_mem_cons.mpr ⟨key 2 (by decide), List.forall_mem_cons.mpr ⟨key 3 (by decide), List.forall_mem_cons.mpr ⟨key 4 (by decide), fun _ h => absurd h List.not_mem_nil⟩⟩⟩⟩⟩
    · show _ ∨ va_Z _ _ _ (.ref (ad0 66)) _ _ _
      rw [ad_z]
      rcases hzz with h | h
      · rw [h] at hZp; exact Or.inl hZp
      · rw [h] at hZp; exact Or.inr hZp
  have hFV : FV ad0 s := by
    refine ⟨fun q hq => ?_, fun q hq => va_Nw.of rfl (hts _ (nf_all q hq)), fun q hq => va_Nw.of rfl (hts _ (nm_all q hq)), fun c hc => ?_, va_Nw.of rfl (hts _ wn_5)⟩
    · obtain ⟨i, hi⟩ := List.mem_iff_getElem?.mp hq
      obtain ⟨h1, h2, h3⟩ := sx_3 i ((List.getElem?_eq_some_iff.mp hi).1) q hi
      rw [ad_s _ h1 h2]
      have he := (hKs (q.2.2.2 - 6) (by omega)).1
      have he2 : (Term.string q.1 q.2.1).eval #[Value.ref b] s none [] s = some (.ref (aK (q.2.2.2 - 6)).1) := by
        rcases h3 with h3 | h3
        · rw [← h3]; exact he
        · exact va_eqR (hfl h3) he
      exact vk_R.of (hts _ (sr_all q hq)) he2
    · rcases hc with rfl | rfl | rfl
      · exact va_AO.of (hts _ ao_2)
      · exact va_AO.of (hts _ ao_4)
      · exact va_AO.of (hts _ ao_6)
  obtain ⟨f2, f3, f4, f5, f6, f7, f8, f9⟩ := l_fx
  have f1 := l_by
  have hFx : Fx (frz L xs) D cy cr ad0 p room_1 s m #[Value.ref b] meth c (fun q => s.heap.size ≤ q) 600000 7302250 296 :=
    ⟨hx, hb.trans f1.symm, hml.trans f2.symm, by rw [f5]; exact hown, fun w hw => hts w (wsu_tbl hw), hlk, hr.trans f3.symm, hnm.trans f4.symm, f6, f7, Nat.le_refl _, Nat.le_refl _, frz_ok hL, hFR, hFV, fun _ h => h, hK⟩
  have hle : (lay1 [vr 0]).length ≤ mxl 296 := Nat.le_trans (by decide : (lay1 [vr 0]).length ≤ 4) (Nat.le_of_eq f2.symm)
  have hconc : conc cy cr ad0 (67, frz L xs) = [] := rfl
  have hP0 : va_P D vwCl (conc cy cr ad0 (67, frz L xs)) s.heap := by rw [hconc]; intro k q h; simp at h
  have hD0 : va_D (fun q => s.heap.size ≤ q) (conc cy cr ad0 (67, frz L xs)) := by rw [hconc]; exact ⟨fun i j p q h => by simp at h, fun k q h => by simp at h⟩
  have hl := lv_entry ([vr 0].map (cv ad0)) (n := mxl 296) (by rw [lay1_len]; exact hle)
  rw [lg_entry_eq]
  rw [f2] at hl
  have hRun := snd_of (l := l) (F := frz L xs) (D := D) (cy := cy) (cr := cr) (ad0 := ad0) hG p e room_1 s m #[Value.ref b] below meth c (fun q => s.heap.size ≤ q) 600000 7302250 hFx
    s.heap [] 0 0 ad0 _ (fun _ _ o _ => o = .returned (some (.int 1))) (fun _ _ => rfl) hP0 hD0 va_S.rf
    ⟨Nat.le_refl _, fun k h1 h2 => absurd h1 (Nat.not_le.mpr h2), fun _ _ => rfl⟩ (fun _ h => by cases h) (okl_lay [vr 0] (fun v hv => by rw [List.mem_singleton.mp hv]; exact (by decide : 0 < 67))) (by rw [f2]; exact lv_fewer hl (prs_lay [vr 0] 0)) (ent_len hle) (by rw [Nat.zero_add]; exact f8) (by rw [Nat.zero_add]; exact f9)
    (fun r w' ad' t locs' q1 _ _ _ _ _ _ _ _ => by rw [q1]; rfl)
  intro T hT X
  obtain ⟨t, a1, o, b1, b2, hq, Lc, ⟨g1, g2, g3⟩, hfree⟩ := hRun T hT X
  refine ⟨t, a1, o, b1, b2, hq, g1, g2, g3.1, g3.2.1, g3.2.2.1, g3.2.2.2.1, g3.2.2.2.2.1, fun a c hc => ?_⟩
  obtain ⟨c', k1, k2, k3, k4⟩ := g3.2.2.2.2.2 a c hc
  exact ⟨c', k1, k2, k3, fun i _ => k4 i (not_base (Array.getElem?_eq_some_iff.mp hc).1 hfree)⟩
