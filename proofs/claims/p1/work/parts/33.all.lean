theorem cky_all (y : Nat) (h : y < 297) : cky y = true := by
  have hm : y ∈ List.range 297 := List.mem_range.mpr h
  rw [show List.range 297 = [0, 1, 2, 3, 4, 5, 6, 7, 8, 9, 10, 11, 12, 13, 14, 15, 16, 17, 18, 19, 20, 21, 22, 23, 24, 25, 26, 27, 28, 29, 30, 31, 32, 33, 34, 35, 36, 37, 38, 39, 40, 41, 42, 43, 44, 45, 46, 47, 48, 49] ++ ([50, 51, 52, 53, 54, 55, 56, 57, 58, 59, 60, 61, 62, 63, 64, 65, 66, 67, 68, 69, 70, 71, 72, 73, 74, 75, 76, 77, 78, 79, 80, 81, 82, 83, 84, 85, 86, 87, 88, 89, 90, 91, 92, 93, 94, 95, 96, 97, 98, 99] ++ ([100, 101, 102, 103, 104, 105, 106, 107, 108, 109, 110, 111, 112, 113, 114, 115, 116, 117, 118, 119, 120, 121, 122, 123, 124, 125, 126, 127, 128, 129, 130, 131, 132, 133, 134, 135, 136, 137, 138, 139, 140, 141, 142, 143, 144, 145, 146, 147, 148, 149] ++ ([150, 151, 152, 153, 154, 155, 156, 157, 158, 159, 160, 161, 162, 163, 164, 165, 166, 167, 168, 169, 170, 171, 172, 173, 174, 175, 176, 177, 178, 179, 180, 181, 182, 183, 184, 185, 186, 187, 188, 189, 190, 191, 192, 193, 194, 195, 196, 197, 198, 199] ++ ([200, 201, 202, 203, 204, 205, 206, 207, 208, 209, 210, 211, 212, 213, 214, 215, 216, 217, 218, 219, 220, 221, 222, 223, 224, 225, 226, 227, 228, 229, 230, 231, 232, 233, 234, 235, 236, 237, 238, 239, 240, 241, 242, 243, 244, 245, 246, 247, 248, 249] ++ ([250, 251, 252, 253, 254, 255, 256, 257, 258, 259, 260, 261, 262, 263, 264, 265, 266, 267, 268, 269, 270, 271, 272, 273, 274, 275, 276, 277, 278, 279, 280, 281, 282, 283, 284, 285, 286, 287, 288, 289, 290, 291, 292, 293, 294, 295, 296]))))) from by decide +kernel] at hm
  rcases List.mem_append.mp hm with hm | hm
  · exact cks_0 y hm
  rcases List.mem_append.mp hm with hm | hm
  · exact cks_1 y hm
  rcases List.mem_append.mp hm with hm | hm
  · exact cks_2 y hm
  rcases List.mem_append.mp hm with hm | hm
  · exact cks_3 y hm
  rcases List.mem_append.mp hm with hm | hm
  · exact cks_4 y hm
  exact cks_5 y hm
theorem mk_all (y : Nat) (h : y < 296) : MK y := by
  have hm : y ∈ List.range 296 := List.mem_range.mpr h
  rw [show List.range 296 = [0, 1, 2, 3, 4, 5, 6, 7, 8, 9, 10, 11, 12, 13, 14, 15, 16, 17, 18, 19, 20, 21, 22, 23, 24, 25, 26, 27, 28, 29, 30, 31, 32, 33, 34, 35, 36, 37, 38, 39, 40, 41, 42, 43, 44, 45, 46, 47, 48, 49] ++ ([50, 51, 52, 53, 54, 55, 56, 57, 58, 59, 60, 61, 62, 63, 64, 65, 66, 67, 68, 69, 70, 71, 72, 73, 74, 75, 76, 77, 78, 79, 80, 81, 82, 83, 84, 85, 86, 87, 88, 89, 90, 91, 92, 93, 94, 95, 96, 97, 98, 99] ++ ([100, 101, 102, 103, 104, 105, 106, 107, 108, 109, 110, 111, 112, 113, 114, 115, 116, 117, 118, 119, 120, 121, 122, 123, 124, 125, 126, 127, 128, 129, 130, 131, 132, 133, 134, 135, 136, 137, 138, 139, 140, 141, 142, 143, 144, 145, 146, 147, 148, 149] ++ ([150, 151, 152, 153, 154, 155, 156, 157, 158, 159, 160, 161, 162, 163, 164, 165, 166, 167, 168, 169, 170, 171, 172, 173, 174, 175, 176, 177, 178, 179, 180, 181, 182, 183, 184, 185, 186, 187, 188, 189, 190, 191, 192, 193, 194, 195, 196, 197, 198, 199] ++ ([200, 201, 202, 203, 204, 205, 206, 207, 208, 209, 210, 211, 212, 213, 214, 215, 216, 217, 218, 219, 220, 221, 222, 223, 224, 225, 226, 227, 228, 229, 230, 231, 232, 233, 234, 235, 236, 237, 238, 239, 240, 241, 242, 243, 244, 245, 246, 247, 248, 249] ++ ([250, 251, 252, 253, 254, 255, 256, 257, 258, 259, 260, 261, 262, 263, 264, 265, 266, 267, 268, 269, 270, 271, 272, 273, 274, 275, 276, 277, 278, 279, 280, 281, 282, 283, 284, 285, 286, 287, 288, 289, 290, 291, 292, 293, 294, 295]))))) from by decide +kernel] at hm
  rcases List.mem_append.mp hm with hm | hm
  · exact mks_0 y hm
  rcases List.mem_append.mp hm with hm | hm
  · exact mks_1 y hm
  rcases List.mem_append.mp hm with hm | hm
  · exact mks_2 y hm
  rcases List.mem_append.mp hm with hm | hm
  · exact mks_3 y hm
  rcases List.mem_append.mp hm with hm | hm
  · exact mks_4 y hm
  exact mks_5 y hm
theorem own_law : (nmy 296).cls = cnm (mi 296).1 := by decide +kernel
theorem own_all (y : Nat) (h : y < 297) : (nmy y).cls = cnm (mi y).1 := by
  by_cases h2 : y < 296
  · exact (mk_all y h2).2.1
  · have : y = 296 := by omega
    subst this
    exact own_law
theorem look_mem {α : Type} {d : α} : ∀ (l : List (Nat × α)) (x : Nat), look d l x = d ∨ (x, look d l x) ∈ l
  | [], _ => Or.inl rfl
  | (k, v) :: r, x => by
    unfold look
    by_cases h : x = k
    · rw [if_pos h, h]
      exact Or.inr List.mem_cons_self
    · rw [if_neg h]
      exact (look_mem r x).imp id (List.mem_cons_of_mem _)
theorem mtab_len : mtab.length = 297 := by decide +kernel
theorem row_of (y pc : Nat) : cd y pc = ai0 ∨ (y < 297 ∧ ∃ i len, decode (byt y) pc = .ok (i, len) ∧ ab (mi y).1 pc i len = cd y pc ∧ ckx y (cd y pc) = true) := by
  by_cases hy : y < 297
  · rcases look_mem (d := ((0, 0, 0, 0, []) : AI)) (mtr y).2.2 pc with h | h
    · exact Or.inl h
    · have hc := cky_all y hy
      unfold cky at hc
      rw [Bool.and_eq_true] at hc
      have h2 := List.all_eq_true.mp hc.2 _ h
      rw [Bool.and_eq_true] at h2
      obtain ⟨i, len, e1, e2⟩ := ckr_spec h2.1
      exact Or.inr ⟨hy, i, len, e1, e2, h2.2⟩
  · left
    have e : mtr y = ((⟨"", "", ""⟩, ⟨#[]⟩, none), (99, 0, 0, 9, 0, 0, 0, 0), []) := by
      unfold mtr
      rw [List.getD_eq_getElem?_getD, List.getElem?_eq_none (by rw [mtab_len]; omega)]
      rfl
    show look (0, 0, 0, 0, []) (mtr y).2.2 pc = ai0
    rw [e]
    rfl
theorem pk_all (o x : Nat) : PK o x (pl o x) := by
  rcases look_mem (d := ((0, 0, 0, 0) : AR)) (plt.getD o []) x with h | h
  · show PK o x (look (0, 0, 0, 0) (plt.getD o []) x)
    rw [h]
    exact trivial
  · match o, h with
    | 0, h => exact pks_0 _ h
    | 1, h => exact pks_1 _ h
    | 2, h => exact pks_2 _ h
    | 3, h => exact pks_3 _ h
    | 4, h => exact pks_4 _ h
    | 5, h => exact pks_5 _ h
    | 6, h => exact pks_6 _ h
    | 7, h => exact pks_7 _ h
    | 8, h => exact pks_8 _ h
    | 9, h => exact pks_9 _ h
    | 10, h => exact pks_10 _ h
    | 11, h => exact pks_11 _ h
    | 12, h => exact pks_12 _ h
    | 13, h => exact pks_13 _ h
    | 14, h => exact pks_14 _ h
    | 15, h => exact pks_15 _ h
    | 16, h => exact pks_16 _ h
    | 17, h => exact pks_17 _ h
    | 18, h => exact pks_18 _ h
    | 19, h => exact pks_19 _ h
    | 20, h => exact pks_20 _ h
    | 21, h => exact pks_21 _ h
    | o + 22, h => exact absurd h (by rw [show plt.getD (o + 22) [] = [] from rfl]; exact List.not_mem_nil)
