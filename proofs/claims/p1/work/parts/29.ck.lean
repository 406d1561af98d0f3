def kdl : List Nat := [2, 2, 0, 2, 2, 2, 2, 2, 2, 2, 2, 2, 2, 1, 0, 1, 1, 0, 1, 1, 1, 1, 0, 0, 1, 1, 0, 1, 0, 0, 1, 1, 1, 1, 1, 0, 0, 1, 0, 1, 0, 1, 1, 1, 0, 1, 1, 1, 1, 1, 1, 1, 1, 0, 0, 0, 0, 1, 1, 1, 1, 1, 1, 1, 1, 1, 1, 1, 1, 0, 1, 1, 1, 1, 1, 0, 0, 0, 0, 0, 0, 0, 1, 1, 1, 1, 1, 1, 1, 1, 1, 1, 1, 1, 1, 1, 1, 1, 1, 1, 1, 0, 1, 1, 1, 1, 1, 1, 1, 1, 1, 1, 1, 1, 1, 1, 1, 1, 1, 1, 1, 1, 1, 1, 1, 1, 1, 1, 1, 1, 1, 1, 1, 1, 1, 1, 1, 1, 0, 1, 1, 0, 1, 1, 1, 1, 1, 1, 1, 1, 1, 1, 1, 1, 1, 1, 1, 1, 1, 1, 1, 1, 1, 1, 1, 0, 1, 1, 1, 1, 1, 1, 1, 1, 1, 1, 1, 2, 1, 0, 1, 1, 1, 1, 1, 1, 0, 0, 0, 0, 1, 1, 1, 1, 1, 1, 1, 1, 1, 1, 1, 1, 1, 1, 1, 1, 1, 1, 1, 1, 1, 1, 1, 1, 1, 1, 1, 0, 0, 1, 1, 1, 1, 1, 1, 1, 1, 1, 1, 0, 0, 0, 1, 0, 1, 1, 1, 1, 1, 1, 0, 1, 0, 1, 0, 1, 1, 0, 0, 0, 1, 1, 1, 1, 1, 1, 1, 1, 1, 1, 1, 1, 1, 1, 1, 0, 1, 1, 1, 1, 1, 1, 1, 1, 1, 1, 1, 1, 1, 1, 1, 1, 1, 1, 1, 1, 1, 1, 1, 1, 0, 1, 1, 1, 1, 1, 0]
def kdz (z : Nat) : Nat := kdl.getD z 9
def tcl : List (u_T × Nat) := [(TX0, 1), (TX1, 7), (TX2, 15), (TX3, 9), (TX4, 4), (TX5, 2), (TX6, 5), (TX7, 8), (TX8, 6), (TX9, 16), (TX10, 7), (TX11, 18), (TX12, 58)]
def tcx (c : Nat) : u_T × Nat := tcl.getD c (TX0, 0)
def rkb : Nat → Option FieldType → Bool
  | 0, some .int => true
  | 1, some .boolean => true
  | 2, some .char => true
  | 3, some .byte => true
  | 4, some .long => true
  | 5, some (.object _) => true
  | 5, some (.array _) => true
  | 6, none => true
  | _, _ => false
def ckx (y : Nat) (q : AI) : Bool := match q with
  | (63, z, _, _, _) => kdz z == 1 && decide (z < 296) && decide ((mi z).1 < 14) && decide (rfy z + 1 ≤ rfy y) && decide (8 + (mxl z + 11) + rly z ≤ rly y)
  | (64, z, _, _, _) => kdz z == 0 && decide (z < 296) && decide (rfy z + 1 ≤ rfy y) && decide (8 + (mxl z + 11) + rly z ≤ rly y)
  | (65, z, _, _, _) => kdz z == 2 && decide (z < 296) && decide (rfy z + 1 ≤ rfy y) && decide (8 + (mxl z + 11) + rly z ≤ rly y)
  | (66, _, _, _, _) => decide (1 ≤ rfy y) && decide (20 ≤ rly y)
  | (67, _, _, _, _) => decide (1 ≤ rfy y) && decide (26 ≤ rly y)
  | (68, _, _, _, _) => decide (1 ≤ rfy y) && decide (22 ≤ rly y)
  | (59, c, _, _, _) => c == 2 || c == 4 || c == 6
  | (62, c, k, _, _) => decide (c < 13) && (!((tcx c).1 k).2.2.2 || ((nmy y).name == "<init>" && (mi y).1 == c))
  | _ => true
def cky (y : Nat) : Bool := rkb (mi y).2.2.2.1 (rty y) && (mtr y).2.2.all (fun q => ckr (byt y) (mi y).1 q && ckx y q.2)
def ckh (y i : Nat) : Bool := (((mtr y).2.2.drop (40 * i)).take 40).all (fun q => ckr (byt y) (mi y).1 q && ckx y q.2)
theorem all_cut {α : Type} (p : α → Bool) : ∀ (m : Nat) (l : List α), l.length ≤ 40 * m → (∀ i, i < m → ((l.drop (40 * i)).take 40).all p = true) → l.all p = true
  | 0, l, h, _ => by
    have : l = [] := List.length_eq_zero_iff.mp (by omega)
    rw [this]; rfl
  | m + 1, l, h, hp => by
    rw [← List.take_append_drop 40 l, List.all_append, Bool.and_eq_true]
    refine ⟨by simpa using hp 0 (by omega), all_cut p m _ (by rw [List.length_drop]; omega) (fun i hi => ?_)⟩
    have := hp (i + 1) (by omega)
    rwa [show 40 * (i + 1) = 40 + 40 * i by omega, ← List.drop_drop] at this
theorem cky_of {y : Nat} (m : Nat) (h1 : rkb (mi y).2.2.2.1 (rty y) = true) (h2 : (mtr y).2.2.length ≤ 40 * m) (h3 : ∀ i, i < m → ckh y i = true) : cky y = true := by
  unfold cky
  rw [Bool.and_eq_true]
  exact ⟨h1, all_cut _ m _ h2 h3⟩
theorem ck_0 : cky 0 = true := by decide +kernel
theorem ckh_1_0 : ckh 1 0 = true := by decide +kernel
theorem ckh_1_1 : ckh 1 1 = true := by decide +kernel
theorem ckh_1_2 : ckh 1 2 = true := by decide +kernel
theorem ckh_1_3 : ckh 1 3 = true := by decide +kernel
theorem ckh_1_4 : ckh 1 4 = true := by decide +kernel
theorem ck_1 : cky 1 = true := cky_of 5 (by decide +kernel) (by decide +kernel) (fun i hi => match i, hi with
  | 0, _ => ckh_1_0
  | 1, _ => ckh_1_1
  | 2, _ => ckh_1_2
  | 3, _ => ckh_1_3
  | 4, _ => ckh_1_4
  | i + 5, hi => by omega)
theorem ck_2 : cky 2 = true := by decide +kernel
theorem ck_3 : cky 3 = true := by decide +kernel
theorem ck_4 : cky 4 = true := by decide +kernel
theorem ck_5 : cky 5 = true := by decide +kernel
theorem ck_6 : cky 6 = true := by decide +kernel
theorem ck_7 : cky 7 = true := by decide +kernel
theorem ck_8 : cky 8 = true := by decide +kernel
theorem ck_9 : cky 9 = true := by decide +kernel
theorem ck_10 : cky 10 = true := by decide +kernel
theorem ck_11 : cky 11 = true := by decide +kernel
theorem ck_12 : cky 12 = true := by decide +kernel
theorem ck_13 : cky 13 = true := by decide +kernel
theorem ck_14 : cky 14 = true := by decide +kernel
theorem ck_15 : cky 15 = true := by decide +kernel
theorem ck_16 : cky 16 = true := by decide +kernel
theorem ck_17 : cky 17 = true := by decide +kernel
theorem ck_18 : cky 18 = true := by decide +kernel
theorem ck_19 : cky 19 = true := by decide +kernel
theorem ck_20 : cky 20 = true := by decide +kernel
theorem ck_21 : cky 21 = true := by decide +kernel
theorem ck_22 : cky 22 = true := by decide +kernel
theorem ck_23 : cky 23 = true := by decide +kernel
theorem ck_24 : cky 24 = true := by decide +kernel
theorem ck_25 : cky 25 = true := by decide +kernel
theorem ck_26 : cky 26 = true := by decide +kernel
theorem ck_27 : cky 27 = true := by decide +kernel
theorem ck_28 : cky 28 = true := by decide +kernel
theorem ck_29 : cky 29 = true := by decide +kernel
theorem ck_30 : cky 30 = true := by decide +kernel
theorem ck_31 : cky 31 = true := by decide +kernel
theorem ck_32 : cky 32 = true := by decide +kernel
theorem ckh_33_0 : ckh 33 0 = true := by decide +kernel
theorem ckh_33_1 : ckh 33 1 = true := by decide +kernel
theorem ckh_33_2 : ckh 33 2 = true := by decide +kernel
theorem ck_33 : cky 33 = true := cky_of 3 (by decide +kernel) (by decide +kernel) (fun i hi => match i, hi with
  | 0, _ => ckh_33_0
  | 1, _ => ckh_33_1
  | 2, _ => ckh_33_2
  | i + 3, hi => by omega)
theorem ck_34 : cky 34 = true := by decide +kernel
theorem ck_35 : cky 35 = true := by decide +kernel
theorem ck_36 : cky 36 = true := by decide +kernel
theorem ck_37 : cky 37 = true := by decide +kernel
theorem ck_38 : cky 38 = true := by decide +kernel
theorem ck_39 : cky 39 = true := by decide +kernel
theorem ck_40 : cky 40 = true := by decide +kernel
theorem ck_41 : cky 41 = true := by decide +kernel
theorem ck_42 : cky 42 = true := by decide +kernel
theorem ck_43 : cky 43 = true := by decide +kernel
theorem ck_44 : cky 44 = true := by decide +kernel
theorem ck_45 : cky 45 = true := by decide +kernel
theorem ck_46 : cky 46 = true := by decide +kernel
theorem ck_47 : cky 47 = true := by decide +kernel
theorem ck_48 : cky 48 = true := by decide +kernel
theorem ckh_49_0 : ckh 49 0 = true := by decide +kernel
theorem ckh_49_1 : ckh 49 1 = true := by decide +kernel
theorem ckh_49_2 : ckh 49 2 = true := by decide +kernel
theorem ck_49 : cky 49 = true := cky_of 3 (by decide +kernel) (by decide +kernel) (fun i hi => match i, hi with
  | 0, _ => ckh_49_0
  | 1, _ => ckh_49_1
  | 2, _ => ckh_49_2
  | i + 3, hi => by omega)
theorem ck_50 : cky 50 = true := by decide +kernel
theorem ck_51 : cky 51 = true := by decide +kernel
theorem ckh_52_0 : ckh 52 0 = true := by decide +kernel
theorem ckh_52_1 : ckh 52 1 = true := by decide +kernel
theorem ckh_52_2 : ckh 52 2 = true := by decide +kernel
theorem ck_52 : cky 52 = true := cky_of 3 (by decide +kernel) (by decide +kernel) (fun i hi => match i, hi with
  | 0, _ => ckh_52_0
  | 1, _ => ckh_52_1
  | 2, _ => ckh_52_2
  | i + 3, hi => by omega)
theorem ck_53 : cky 53 = true := by decide +kernel
theorem ck_54 : cky 54 = true := by decide +kernel
theorem ck_55 : cky 55 = true := by decide +kernel
theorem ck_56 : cky 56 = true := by decide +kernel
theorem ck_57 : cky 57 = true := by decide +kernel
theorem ck_58 : cky 58 = true := by decide +kernel
theorem ck_59 : cky 59 = true := by decide +kernel
theorem ck_60 : cky 60 = true := by decide +kernel
theorem ck_61 : cky 61 = true := by decide +kernel
theorem ck_62 : cky 62 = true := by decide +kernel
theorem ck_63 : cky 63 = true := by decide +kernel
theorem ck_64 : cky 64 = true := by decide +kernel
theorem ck_65 : cky 65 = true := by decide +kernel
theorem ck_66 : cky 66 = true := by decide +kernel
theorem ck_67 : cky 67 = true := by decide +kernel
theorem ck_68 : cky 68 = true := by decide +kernel
theorem ck_69 : cky 69 = true := by decide +kernel
theorem ck_70 : cky 70 = true := by decide +kernel
theorem ck_71 : cky 71 = true := by decide +kernel
theorem ck_72 : cky 72 = true := by decide +kernel
theorem ck_73 : cky 73 = true := by decide +kernel
theorem ck_74 : cky 74 = true := by decide +kernel
theorem ck_75 : cky 75 = true := by decide +kernel
theorem ck_76 : cky 76 = true := by decide +kernel
theorem ck_77 : cky 77 = true := by decide +kernel
theorem ck_78 : cky 78 = true := by decide +kernel
theorem ck_79 : cky 79 = true := by decide +kernel
theorem ck_80 : cky 80 = true := by decide +kernel
theorem ck_81 : cky 81 = true := by decide +kernel
theorem ck_82 : cky 82 = true := by decide +kernel
theorem ck_83 : cky 83 = true := by decide +kernel
theorem ck_84 : cky 84 = true := by decide +kernel
theorem ck_85 : cky 85 = true := by decide +kernel
theorem ck_86 : cky 86 = true := by decide +kernel
theorem ck_87 : cky 87 = true := by decide +kernel
theorem ck_88 : cky 88 = true := by decide +kernel
theorem ck_89 : cky 89 = true := by decide +kernel
theorem ck_90 : cky 90 = true := by decide +kernel
theorem ck_91 : cky 91 = true := by decide +kernel
theorem ck_92 : cky 92 = true := by decide +kernel
theorem ck_93 : cky 93 = true := by decide +kernel
theorem ck_94 : cky 94 = true := by decide +kernel
theorem ck_95 : cky 95 = true := by decide +kernel
theorem ck_96 : cky 96 = true := by decide +kernel
theorem ck_97 : cky 97 = true := by decide +kernel
theorem ck_98 : cky 98 = true := by decide +kernel
theorem ck_99 : cky 99 = true := by decide +kernel
theorem ck_100 : cky 100 = true := by decide +kernel
theorem ck_101 : cky 101 = true := by decide +kernel
theorem ck_102 : cky 102 = true := by decide +kernel
theorem ck_103 : cky 103 = true := by decide +kernel
theorem ck_104 : cky 104 = true := by decide +kernel
theorem ck_105 : cky 105 = true := by decide +kernel
theorem ck_106 : cky 106 = true := by decide +kernel
theorem ck_107 : cky 107 = true := by decide +kernel
theorem ckh_108_0 : ckh 108 0 = true := by decide +kernel
theorem ckh_108_1 : ckh 108 1 = true := by decide +kernel
theorem ckh_108_2 : ckh 108 2 = true := by decide +kernel
theorem ck_108 : cky 108 = true := cky_of 3 (by decide +kernel) (by decide +kernel) (fun i hi => match i, hi with
  | 0, _ => ckh_108_0
  | 1, _ => ckh_108_1
  | 2, _ => ckh_108_2
  | i + 3, hi => by omega)
theorem ck_109 : cky 109 = true := by decide +kernel
theorem ck_110 : cky 110 = true := by decide +kernel
theorem ck_111 : cky 111 = true := by decide +kernel
theorem ck_112 : cky 112 = true := by decide +kernel
theorem ck_113 : cky 113 = true := by decide +kernel
theorem ck_114 : cky 114 = true := by decide +kernel
theorem ck_115 : cky 115 = true := by decide +kernel
theorem ck_116 : cky 116 = true := by decide +kernel
theorem ck_117 : cky 117 = true := by decide +kernel
theorem ck_118 : cky 118 = true := by decide +kernel
theorem ck_119 : cky 119 = true := by decide +kernel
theorem ck_120 : cky 120 = true := by decide +kernel
theorem ck_121 : cky 121 = true := by decide +kernel
theorem ck_122 : cky 122 = true := by decide +kernel
theorem ck_123 : cky 123 = true := by decide +kernel
theorem ck_124 : cky 124 = true := by decide +kernel
theorem ck_125 : cky 125 = true := by decide +kernel
theorem ck_126 : cky 126 = true := by decide +kernel
theorem ck_127 : cky 127 = true := by decide +kernel
theorem ck_128 : cky 128 = true := by decide +kernel
theorem ck_129 : cky 129 = true := by decide +kernel
theorem ck_130 : cky 130 = true := by decide +kernel
theorem ck_131 : cky 131 = true := by decide +kernel
theorem ck_132 : cky 132 = true := by decide +kernel
theorem ck_133 : cky 133 = true := by decide +kernel
theorem ck_134 : cky 134 = true := by decide +kernel
theorem ck_135 : cky 135 = true := by decide +kernel
theorem ck_136 : cky 136 = true := by decide +kernel
theorem ck_137 : cky 137 = true := by decide +kernel
theorem ck_138 : cky 138 = true := by decide +kernel
theorem ck_139 : cky 139 = true := by decide +kernel
theorem ck_140 : cky 140 = true := by decide +kernel
theorem ck_141 : cky 141 = true := by decide +kernel
theorem ck_142 : cky 142 = true := by decide +kernel
theorem ck_143 : cky 143 = true := by decide +kernel
theorem ck_144 : cky 144 = true := by decide +kernel
theorem ck_145 : cky 145 = true := by decide +kernel
theorem ck_146 : cky 146 = true := by decide +kernel
theorem ck_147 : cky 147 = true := by decide +kernel
theorem ck_148 : cky 148 = true := by decide +kernel
theorem ck_149 : cky 149 = true := by decide +kernel
theorem ck_150 : cky 150 = true := by decide +kernel
theorem ck_151 : cky 151 = true := by decide +kernel
theorem ck_152 : cky 152 = true := by decide +kernel
theorem ck_153 : cky 153 = true := by decide +kernel
theorem ck_154 : cky 154 = true := by decide +kernel
theorem ck_155 : cky 155 = true := by decide +kernel
theorem ck_156 : cky 156 = true := by decide +kernel
theorem ck_157 : cky 157 = true := by decide +kernel
theorem ck_158 : cky 158 = true := by decide +kernel
theorem ck_159 : cky 159 = true := by decide +kernel
theorem ck_160 : cky 160 = true := by decide +kernel
theorem ck_161 : cky 161 = true := by decide +kernel
theorem ck_162 : cky 162 = true := by decide +kernel
theorem ck_163 : cky 163 = true := by decide +kernel
theorem ck_164 : cky 164 = true := by decide +kernel
theorem ck_165 : cky 165 = true := by decide +kernel
theorem ck_166 : cky 166 = true := by decide +kernel
theorem ck_167 : cky 167 = true := by decide +kernel
theorem ck_168 : cky 168 = true := by decide +kernel
theorem ck_169 : cky 169 = true := by decide +kernel
theorem ck_170 : cky 170 = true := by decide +kernel
theorem ck_171 : cky 171 = true := by decide +kernel
theorem ck_172 : cky 172 = true := by decide +kernel
theorem ck_173 : cky 173 = true := by decide +kernel
theorem ck_174 : cky 174 = true := by decide +kernel
theorem ck_175 : cky 175 = true := by decide +kernel
theorem ck_176 : cky 176 = true := by decide +kernel
theorem ckh_177_0 : ckh 177 0 = true := by decide +kernel
theorem ckh_177_1 : ckh 177 1 = true := by decide +kernel
theorem ckh_177_2 : ckh 177 2 = true := by decide +kernel
theorem ckh_177_3 : ckh 177 3 = true := by decide +kernel
theorem ckh_177_4 : ckh 177 4 = true := by decide +kernel
theorem ck_177 : cky 177 = true := cky_of 5 (by decide +kernel) (by decide +kernel) (fun i hi => match i, hi with
  | 0, _ => ckh_177_0
  | 1, _ => ckh_177_1
  | 2, _ => ckh_177_2
  | 3, _ => ckh_177_3
  | 4, _ => ckh_177_4
  | i + 5, hi => by omega)
theorem ck_178 : cky 178 = true := by decide +kernel
theorem ck_179 : cky 179 = true := by decide +kernel
theorem ckh_180_0 : ckh 180 0 = true := by decide +kernel
theorem ckh_180_1 : ckh 180 1 = true := by decide +kernel
theorem ckh_180_2 : ckh 180 2 = true := by decide +kernel
theorem ck_180 : cky 180 = true := cky_of 3 (by decide +kernel) (by decide +kernel) (fun i hi => match i, hi with
  | 0, _ => ckh_180_0
  | 1, _ => ckh_180_1
  | 2, _ => ckh_180_2
  | i + 3, hi => by omega)
theorem ck_181 : cky 181 = true := by decide +kernel
theorem ck_182 : cky 182 = true := by decide +kernel
theorem ck_183 : cky 183 = true := by decide +kernel
theorem ck_184 : cky 184 = true := by decide +kernel
theorem ckh_185_0 : ckh 185 0 = true := by decide +kernel
theorem ckh_185_1 : ckh 185 1 = true := by decide +kernel
theorem ckh_185_2 : ckh 185 2 = true := by decide +kernel
theorem ckh_185_3 : ckh 185 3 = true := by decide +kernel
theorem ckh_185_4 : ckh 185 4 = true := by decide +kernel
theorem ckh_185_5 : ckh 185 5 = true := by decide +kernel
theorem ck_185 : cky 185 = true := cky_of 6 (by decide +kernel) (by decide +kernel) (fun i hi => match i, hi with
  | 0, _ => ckh_185_0
  | 1, _ => ckh_185_1
  | 2, _ => ckh_185_2
  | 3, _ => ckh_185_3
  | 4, _ => ckh_185_4
  | 5, _ => ckh_185_5
  | i + 6, hi => by omega)
theorem ck_186 : cky 186 = true := by decide +kernel
theorem ck_187 : cky 187 = true := by decide +kernel
theorem ck_188 : cky 188 = true := by decide +kernel
theorem ck_189 : cky 189 = true := by decide +kernel
theorem ck_190 : cky 190 = true := by decide +kernel
theorem ck_191 : cky 191 = true := by decide +kernel
theorem ck_192 : cky 192 = true := by decide +kernel
theorem ck_193 : cky 193 = true := by decide +kernel
theorem ck_194 : cky 194 = true := by decide +kernel
theorem ck_195 : cky 195 = true := by decide +kernel
theorem ck_196 : cky 196 = true := by decide +kernel
theorem ck_197 : cky 197 = true := by decide +kernel
theorem ckh_198_0 : ckh 198 0 = true := by decide +kernel
theorem ckh_198_1 : ckh 198 1 = true := by decide +kernel
theorem ckh_198_2 : ckh 198 2 = true := by decide +kernel
theorem ckh_198_3 : ckh 198 3 = true := by decide +kernel
theorem ck_198 : cky 198 = true := cky_of 4 (by decide +kernel) (by decide +kernel) (fun i hi => match i, hi with
  | 0, _ => ckh_198_0
  | 1, _ => ckh_198_1
  | 2, _ => ckh_198_2
  | 3, _ => ckh_198_3
  | i + 4, hi => by omega)
theorem ck_199 : cky 199 = true := by decide +kernel
theorem ck_200 : cky 200 = true := by decide +kernel
theorem ck_201 : cky 201 = true := by decide +kernel
theorem ck_202 : cky 202 = true := by decide +kernel
theorem ck_203 : cky 203 = true := by decide +kernel
theorem ck_204 : cky 204 = true := by decide +kernel
theorem ckh_205_0 : ckh 205 0 = true := by decide +kernel
theorem ckh_205_1 : ckh 205 1 = true := by decide +kernel
theorem ckh_205_2 : ckh 205 2 = true := by decide +kernel
theorem ck_205 : cky 205 = true := cky_of 3 (by decide +kernel) (by decide +kernel) (fun i hi => match i, hi with
  | 0, _ => ckh_205_0
  | 1, _ => ckh_205_1
  | 2, _ => ckh_205_2
  | i + 3, hi => by omega)
theorem ck_206 : cky 206 = true := by decide +kernel
theorem ck_207 : cky 207 = true := by decide +kernel
theorem ck_208 : cky 208 = true := by decide +kernel
theorem ck_209 : cky 209 = true := by decide +kernel
theorem ck_210 : cky 210 = true := by decide +kernel
theorem ck_211 : cky 211 = true := by decide +kernel
theorem ck_212 : cky 212 = true := by decide +kernel
theorem ck_213 : cky 213 = true := by decide +kernel
theorem ck_214 : cky 214 = true := by decide +kernel
theorem ck_215 : cky 215 = true := by decide +kernel
theorem ck_216 : cky 216 = true := by decide +kernel
theorem ck_217 : cky 217 = true := by decide +kernel
theorem ck_218 : cky 218 = true := by decide +kernel
theorem ck_219 : cky 219 = true := by decide +kernel
theorem ck_220 : cky 220 = true := by decide +kernel
theorem ck_221 : cky 221 = true := by decide +kernel
theorem ck_222 : cky 222 = true := by decide +kernel
theorem ck_223 : cky 223 = true := by decide +kernel
theorem ck_224 : cky 224 = true := by decide +kernel
theorem ck_225 : cky 225 = true := by decide +kernel
theorem ckh_226_0 : ckh 226 0 = true := by decide +kernel
theorem ckh_226_1 : ckh 226 1 = true := by decide +kernel
theorem ckh_226_2 : ckh 226 2 = true := by decide +kernel
theorem ckh_226_3 : ckh 226 3 = true := by decide +kernel
theorem ck_226 : cky 226 = true := cky_of 4 (by decide +kernel) (by decide +kernel) (fun i hi => match i, hi with
  | 0, _ => ckh_226_0
  | 1, _ => ckh_226_1
  | 2, _ => ckh_226_2
  | 3, _ => ckh_226_3
  | i + 4, hi => by omega)
theorem ck_227 : cky 227 = true := by decide +kernel
theorem ck_228 : cky 228 = true := by decide +kernel
theorem ck_229 : cky 229 = true := by decide +kernel
theorem ck_230 : cky 230 = true := by decide +kernel
theorem ck_231 : cky 231 = true := by decide +kernel
theorem ck_232 : cky 232 = true := by decide +kernel
theorem ck_233 : cky 233 = true := by decide +kernel
theorem ck_234 : cky 234 = true := by decide +kernel
theorem ck_235 : cky 235 = true := by decide +kernel
theorem ck_236 : cky 236 = true := by decide +kernel
theorem ckh_237_0 : ckh 237 0 = true := by decide +kernel
theorem ckh_237_1 : ckh 237 1 = true := by decide +kernel
theorem ckh_237_2 : ckh 237 2 = true := by decide +kernel
theorem ckh_237_3 : ckh 237 3 = true := by decide +kernel
theorem ck_237 : cky 237 = true := cky_of 4 (by decide +kernel) (by decide +kernel) (fun i hi => match i, hi with
  | 0, _ => ckh_237_0
  | 1, _ => ckh_237_1
  | 2, _ => ckh_237_2
  | 3, _ => ckh_237_3
  | i + 4, hi => by omega)
theorem ckh_238_0 : ckh 238 0 = true := by decide +kernel
theorem ckh_238_1 : ckh 238 1 = true := by decide +kernel
theorem ckh_238_2 : ckh 238 2 = true := by decide +kernel
theorem ckh_238_3 : ckh 238 3 = true := by decide +kernel
theorem ckh_238_4 : ckh 238 4 = true := by decide +kernel
theorem ck_238 : cky 238 = true := cky_of 5 (by decide +kernel) (by decide +kernel) (fun i hi => match i, hi with
  | 0, _ => ckh_238_0
  | 1, _ => ckh_238_1
  | 2, _ => ckh_238_2
  | 3, _ => ckh_238_3
  | 4, _ => ckh_238_4
  | i + 5, hi => by omega)
theorem ckh_239_0 : ckh 239 0 = true := by decide +kernel
theorem ckh_239_1 : ckh 239 1 = true := by decide +kernel
theorem ckh_239_2 : ckh 239 2 = true := by decide +kernel
theorem ckh_239_3 : ckh 239 3 = true := by decide +kernel
theorem ck_239 : cky 239 = true := cky_of 4 (by decide +kernel) (by decide +kernel) (fun i hi => match i, hi with
  | 0, _ => ckh_239_0
  | 1, _ => ckh_239_1
  | 2, _ => ckh_239_2
  | 3, _ => ckh_239_3
  | i + 4, hi => by omega)
theorem ck_240 : cky 240 = true := by decide +kernel
theorem ck_241 : cky 241 = true := by decide +kernel
theorem ck_242 : cky 242 = true := by decide +kernel
theorem ck_243 : cky 243 = true := by decide +kernel
theorem ck_244 : cky 244 = true := by decide +kernel
theorem ck_245 : cky 245 = true := by decide +kernel
theorem ckh_246_0 : ckh 246 0 = true := by decide +kernel
theorem ckh_246_1 : ckh 246 1 = true := by decide +kernel
theorem ckh_246_2 : ckh 246 2 = true := by decide +kernel
theorem ckh_246_3 : ckh 246 3 = true := by decide +kernel
theorem ckh_246_4 : ckh 246 4 = true := by decide +kernel
theorem ck_246 : cky 246 = true := cky_of 5 (by decide +kernel) (by decide +kernel) (fun i hi => match i, hi with
  | 0, _ => ckh_246_0
  | 1, _ => ckh_246_1
  | 2, _ => ckh_246_2
  | 3, _ => ckh_246_3
  | 4, _ => ckh_246_4
  | i + 5, hi => by omega)
theorem ck_247 : cky 247 = true := by decide +kernel
theorem ck_248 : cky 248 = true := by decide +kernel
theorem ck_249 : cky 249 = true := by decide +kernel
theorem ck_250 : cky 250 = true := by decide +kernel
theorem ckh_251_0 : ckh 251 0 = true := by decide +kernel
theorem ckh_251_1 : ckh 251 1 = true := by decide +kernel
theorem ckh_251_2 : ckh 251 2 = true := by decide +kernel
theorem ckh_251_3 : ckh 251 3 = true := by decide +kernel
theorem ck_251 : cky 251 = true := cky_of 4 (by decide +kernel) (by decide +kernel) (fun i hi => match i, hi with
  | 0, _ => ckh_251_0
  | 1, _ => ckh_251_1
  | 2, _ => ckh_251_2
  | 3, _ => ckh_251_3
  | i + 4, hi => by omega)
theorem ck_252 : cky 252 = true := by decide +kernel
theorem ck_253 : cky 253 = true := by decide +kernel
theorem ck_254 : cky 254 = true := by decide +kernel
theorem ck_255 : cky 255 = true := by decide +kernel
theorem ck_256 : cky 256 = true := by decide +kernel
theorem ckh_257_0 : ckh 257 0 = true := by decide +kernel
theorem ckh_257_1 : ckh 257 1 = true := by decide +kernel
theorem ckh_257_2 : ckh 257 2 = true := by decide +kernel
theorem ckh_257_3 : ckh 257 3 = true := by decide +kernel
theorem ckh_257_4 : ckh 257 4 = true := by decide +kernel
theorem ckh_257_5 : ckh 257 5 = true := by decide +kernel
theorem ckh_257_6 : ckh 257 6 = true := by decide +kernel
theorem ck_257 : cky 257 = true := cky_of 7 (by decide +kernel) (by decide +kernel) (fun i hi => match i, hi with
  | 0, _ => ckh_257_0
  | 1, _ => ckh_257_1
  | 2, _ => ckh_257_2
  | 3, _ => ckh_257_3
  | 4, _ => ckh_257_4
  | 5, _ => ckh_257_5
  | 6, _ => ckh_257_6
  | i + 7, hi => by omega)
theorem ck_258 : cky 258 = true := by decide +kernel
theorem ck_259 : cky 259 = true := by decide +kernel
theorem ck_260 : cky 260 = true := by decide +kernel
theorem ck_261 : cky 261 = true := by decide +kernel
theorem ckh_262_0 : ckh 262 0 = true := by decide +kernel
theorem ckh_262_1 : ckh 262 1 = true := by decide +kernel
theorem ckh_262_2 : ckh 262 2 = true := by decide +kernel
theorem ck_262 : cky 262 = true := cky_of 3 (by decide +kernel) (by decide +kernel) (fun i hi => match i, hi with
  | 0, _ => ckh_262_0
  | 1, _ => ckh_262_1
  | 2, _ => ckh_262_2
  | i + 3, hi => by omega)
theorem ck_263 : cky 263 = true := by decide +kernel
theorem ck_264 : cky 264 = true := by decide +kernel
theorem ck_265 : cky 265 = true := by decide +kernel
theorem ck_266 : cky 266 = true := by decide +kernel
theorem ck_267 : cky 267 = true := by decide +kernel
theorem ck_268 : cky 268 = true := by decide +kernel
theorem ck_269 : cky 269 = true := by decide +kernel
theorem ck_270 : cky 270 = true := by decide +kernel
theorem ck_271 : cky 271 = true := by decide +kernel
theorem ck_272 : cky 272 = true := by decide +kernel
theorem ck_273 : cky 273 = true := by decide +kernel
theorem ck_274 : cky 274 = true := by decide +kernel
theorem ck_275 : cky 275 = true := by decide +kernel
theorem ck_276 : cky 276 = true := by decide +kernel
theorem ck_277 : cky 277 = true := by decide +kernel
theorem ck_278 : cky 278 = true := by decide +kernel
theorem ck_279 : cky 279 = true := by decide +kernel
theorem ck_280 : cky 280 = true := by decide +kernel
theorem ck_281 : cky 281 = true := by decide +kernel
theorem ck_282 : cky 282 = true := by decide +kernel
theorem ck_283 : cky 283 = true := by decide +kernel
theorem ck_284 : cky 284 = true := by decide +kernel
theorem ck_285 : cky 285 = true := by decide +kernel
theorem ck_286 : cky 286 = true := by decide +kernel
theorem ck_287 : cky 287 = true := by decide +kernel
theorem ck_288 : cky 288 = true := by decide +kernel
theorem ck_289 : cky 289 = true := by decide +kernel
theorem ck_290 : cky 290 = true := by decide +kernel
theorem ck_291 : cky 291 = true := by decide +kernel
theorem ck_292 : cky 292 = true := by decide +kernel
theorem ck_293 : cky 293 = true := by decide +kernel
theorem ck_294 : cky 294 = true := by decide +kernel
theorem ck_295 : cky 295 = true := by decide +kernel
theorem ckh_296_0 : ckh 296 0 = true := by decide +kernel
theorem ckh_296_1 : ckh 296 1 = true := by decide +kernel
theorem ckh_296_2 : ckh 296 2 = true := by decide +kernel
theorem ckh_296_3 : ckh 296 3 = true := by decide +kernel
theorem ckh_296_4 : ckh 296 4 = true := by decide +kernel
theorem ckh_296_5 : ckh 296 5 = true := by decide +kernel
theorem ckh_296_6 : ckh 296 6 = true := by decide +kernel
theorem ckh_296_7 : ckh 296 7 = true := by decide +kernel
theorem ckh_296_8 : ckh 296 8 = true := by decide +kernel
theorem ckh_296_9 : ckh 296 9 = true := by decide +kernel
theorem ckh_296_10 : ckh 296 10 = true := by decide +kernel
theorem ckh_296_11 : ckh 296 11 = true := by decide +kernel
theorem ckh_296_12 : ckh 296 12 = true := by decide +kernel
theorem ckh_296_13 : ckh 296 13 = true := by decide +kernel
theorem ckh_296_14 : ckh 296 14 = true := by decide +kernel
theorem ckh_296_15 : ckh 296 15 = true := by decide +kernel
theorem ckh_296_16 : ckh 296 16 = true := by decide +kernel
theorem ckh_296_17 : ckh 296 17 = true := by decide +kernel
theorem ckh_296_18 : ckh 296 18 = true := by decide +kernel
theorem ckh_296_19 : ckh 296 19 = true := by decide +kernel
theorem ckh_296_20 : ckh 296 20 = true := by decide +kernel
theorem ckh_296_21 : ckh 296 21 = true := by decide +kernel
theorem ckh_296_22 : ckh 296 22 = true := by decide +kernel
theorem ck_296 : cky 296 = true := cky_of 23 (by decide +kernel) (by decide +kernel) (fun i hi => match i, hi with
  | 0, _ => ckh_296_0
  | 1, _ => ckh_296_1
  | 2, _ => ckh_296_2
  | 3, _ => ckh_296_3
  | 4, _ => ckh_296_4
  | 5, _ => ckh_296_5
  | 6, _ => ckh_296_6
  | 7, _ => ckh_296_7
  | 8, _ => ckh_296_8
  | 9, _ => ckh_296_9
  | 10, _ => ckh_296_10
  | 11, _ => ckh_296_11
  | 12, _ => ckh_296_12
  | 13, _ => ckh_296_13
  | 14, _ => ckh_296_14
  | 15, _ => ckh_296_15
  | 16, _ => ckh_296_16
  | 17, _ => ckh_296_17
  | 18, _ => ckh_296_18
  | 19, _ => ckh_296_19
  | 20, _ => ckh_296_20
  | 21, _ => ckh_296_21
  | 22, _ => ckh_296_22
  | i + 23, hi => by omega)
theorem cks_0 : ∀ y ∈ [0, 1, 2, 3, 4, 5, 6, 7, 8, 9, 10, 11, 12, 13, 14, 15, 16, 17, 18, 19, 20, 21, 22, 23, 24, 25, 26, 27, 28, 29, 30, 31, 32, 33, 34, 35, 36, 37, 38, 39, 40, 41, 42, 43, 44, 45, 46, 47, 48, 49], cky y = true := by
  simp only [List.forall_mem_cons, List.not_mem_nil, false_implies, implies_true, and_true]
  exact ⟨ck_0, ck_1, ck_2, ck_3, ck_4, ck_5, ck_6, ck_7, ck_8, ck_9, ck_10, ck_11, ck_12, ck_13, ck_14, ck_15, ck_16, ck_17, ck_18, ck_19, ck_20, ck_21, ck_22, ck_23, ck_24, ck_25, ck_26, ck_27, ck_28, ck_29, ck_30, ck_31, ck_32, ck_33, ck_34, ck_35, ck_36, ck_37, ck_38, ck_39, ck_40, ck_41, ck_42, ck_43, ck_44, ck_45, ck_46, ck_47, ck_48, ck_49⟩
theorem cks_1 : ∀ y ∈ [50, 51, 52, 53, 54, 55, 56, 57, 58, 59, 60, 61, 62, 63, 64, 65, 66, 67, 68, 69, 70, 71, 72, 73, 74, 75, 76, 77, 78, 79, 80, 81, 82, 83, 84, 85, 86, 87, 88, 89, 90, 91, 92, 93, 94, 95, 96, 97, 98, 99], cky y = true := by
  simp only [List.forall_mem_cons, List.not_mem_nil, false_implies, implies_true, and_true]
  exact ⟨ck_50, ck_51, ck_52, ck_53, ck_54, ck_55, ck_56, ck_57, ck_58, ck_59, ck_60, ck_61, ck_62, ck_63, ck_64, ck_65, ck_66, ck_67, ck_68, ck_69, ck_70, ck_71, ck_72, ck_73, ck_74, ck_75, ck_76, ck_77, ck_78, ck_79, ck_80, ck_81, ck_82, ck_83, ck_84, ck_85, ck_86, ck_87, ck_88, ck_89, ck_90, ck_91, ck_92, ck_93, ck_94, ck_95, ck_96, ck_97, ck_98, ck_99⟩
theorem cks_2 : ∀ y ∈ [100, 101, 102, 103, 104, 105, 106, 107, 108, 109, 110, 111, 112, 113, 114, 115, 116, 117, 118, 119, 120, 121, 122, 123, 124, 125, 126, 127, 128, 129, 130, 131, 132, 133, 134, 135, 136, 137, 138, 139, 140, 141, 142, 143, 144, 145, 146, 147, 148, 149], cky y = true := by
  simp only [List.forall_mem_cons, List.not_mem_nil, false_implies, implies_true, and_true]
  exact ⟨ck_100, ck_101, ck_102, ck_103, ck_104, ck_105, ck_106, ck_107, ck_108, ck_109, ck_110, ck_111, ck_112, ck_113, ck_114, ck_115, ck_116, ck_117, ck_118, ck_119, ck_120, ck_121, ck_122, ck_123, ck_124, ck_125, ck_126, ck_127, ck_128, ck_129, ck_130, ck_131, ck_132, ck_133, ck_134, ck_135, ck_136, ck_137, ck_138, ck_139, ck_140, ck_141, ck_142, ck_143, ck_144, ck_145, ck_146, ck_147, ck_148, ck_149⟩
theorem cks_3 : ∀ y ∈ [150, 151, 152, 153, 154, 155, 156, 157, 158, 159, 160, 161, 162, 163, 164, 165, 166, 167, 168, 169, 170, 171, 172, 173, 174, 175, 176, 177, 178, 179, 180, 181, 182, 183, 184, 185, 186, 187, 188, 189, 190, 191, 192, 193, 194, 195, 196, 197, 198, 199], cky y = true := by
  simp only [List.forall_mem_cons, List.not_mem_nil, false_implies, implies_true, and_true]
  exact ⟨ck_150, ck_151, ck_152, ck_153, ck_154, ck_155, ck_156, ck_157, ck_158, ck_159, ck_160, ck_161, ck_162, ck_163, ck_164, ck_165, ck_166, ck_167, ck_168, ck_169, ck_170, ck_171, ck_172, ck_173, ck_174, ck_175, ck_176, ck_177, ck_178, ck_179, ck_180, ck_181, ck_182, ck_183, ck_184, ck_185, ck_186, ck_187, ck_188, ck_189, ck_190, ck_191, ck_192, ck_193, ck_194, ck_195, ck_196, ck_197, ck_198, ck_199⟩
theorem cks_4 : ∀ y ∈ [200, 201, 202, 203, 204, 205, 206, 207, 208, 209, 210, 211, 212, 213, 214, 215, 216, 217, 218, 219, 220, 221, 222, 223, 224, 225, 226, 227, 228, 229, 230, 231, 232, 233, 234, 235, 236, 237, 238, 239, 240, 241, 242, 243, 244, 245, 246, 247, 248, 249], cky y = true := by
  simp only [List.forall_mem_cons, List.not_mem_nil, false_implies, implies_true, and_true]
  exact ⟨ck_200, ck_201, ck_202, ck_203, ck_204, ck_205, ck_206, ck_207, ck_208, ck_209, ck_210, ck_211, ck_212, ck_213, ck_214, ck_215, ck_216, ck_217, ck_218, ck_219, ck_220, ck_221, ck_222, ck_223, ck_224, ck_225, ck_226, ck_227, ck_228, ck_229, ck_230, ck_231, ck_232, ck_233, ck_234, ck_235, ck_236, ck_237, ck_238, ck_239, ck_240, ck_241, ck_242, ck_243, ck_244, ck_245, ck_246, ck_247, ck_248, ck_249⟩
theorem cks_5 : ∀ y ∈ [250, 251, 252, 253, 254, 255, 256, 257, 258, 259, 260, 261, 262, 263, 264, 265, 266, 267, 268, 269, 270, 271, 272, 273, 274, 275, 276, 277, 278, 279, 280, 281, 282, 283, 284, 285, 286, 287, 288, 289, 290, 291, 292, 293, 294, 295, 296], cky y = true := by
  simp only [List.forall_mem_cons, List.not_mem_nil, false_implies, implies_true, and_true]
  exact ⟨ck_250, ck_251, ck_252, ck_253, ck_254, ck_255, ck_256, ck_257, ck_258, ck_259, ck_260, ck_261, ck_262, ck_263, ck_264, ck_265, ck_266, ck_267, ck_268, ck_269, ck_270, ck_271, ck_272, ck_273, ck_274, ck_275, ck_276, ck_277, ck_278, ck_279, ck_280, ck_281, ck_282, ck_283, ck_284, ck_285, ck_286, ck_287, ck_288, ck_289, ck_290, ck_291, ck_292, ck_293, ck_294, ck_295, ck_296⟩
