-- THE START
theorem ea_q {W : AW} {k t n : Nat} {f : Nat → Int} (h : W.2 k = ea t n f) : W.2 k = ea t n (ar W k) := by rw [ar_ea h]; exact h
theorem er_q {W : AW} {k t n : Nat} {f : Nat → Option Nat} (h : W.2 k = er t n f) : W.2 k = er t n (rr W k) := by rw [rr_er h]; exact h
section ST0
variable {L : Nat} {xs : Nat → Int32}
theorem wi_149 : (wI L xs).2 149 = ea 0 8 (z0) := rfl
theorem wr_149 : ar (wI L xs) 149 = z0 := ar_ea wi_149
theorem wi_150 : (wI L xs).2 150 = ea 0 400 (z0) := rfl
theorem wr_150 : ar (wI L xs) 150 = z0 := ar_ea wi_150
theorem wi_151 : (wI L xs).2 151 = ea 0 100 (z0) := rfl
theorem wr_151 : ar (wI L xs) 151 = z0 := ar_ea wi_151
theorem wi_152 : (wI L xs).2 152 = ea 0 100 (z0) := rfl
theorem wr_152 : ar (wI L xs) 152 = z0 := ar_ea wi_152
theorem wi_153 : (wI L xs).2 153 = ea 0 180 (z0) := rfl
theorem wr_153 : ar (wI L xs) 153 = z0 := ar_ea wi_153
theorem wi_154 : (wI L xs).2 154 = ea 0 180 (z0) := rfl
theorem wr_154 : ar (wI L xs) 154 = z0 := ar_ea wi_154
theorem wi_155 : (wI L xs).2 155 = ea 0 180 (z0) := rfl
theorem wr_155 : ar (wI L xs) 155 = z0 := ar_ea wi_155
theorem wi_156 : (wI L xs).2 156 = ea 0 180 (z0) := rfl
theorem wr_156 : ar (wI L xs) 156 = z0 := ar_ea wi_156
theorem wi_157 : (wI L xs).2 157 = ea 0 180 (z0) := rfl
theorem wr_157 : ar (wI L xs) 157 = z0 := ar_ea wi_157
theorem wi_158 : (wI L xs).2 158 = ea 0 200 (z0) := rfl
theorem wr_158 : ar (wI L xs) 158 = z0 := ar_ea wi_158
theorem wi_159 : (wI L xs).2 159 = ea 0 200 (z0) := rfl
theorem wr_159 : ar (wI L xs) 159 = z0 := ar_ea wi_159
theorem wi_160 : (wI L xs).2 160 = ea 0 200 (z0) := rfl
theorem wr_160 : ar (wI L xs) 160 = z0 := ar_ea wi_160
theorem wi_161 : (wI L xs).2 161 = ea 0 400 (z0) := rfl
theorem wr_161 : ar (wI L xs) 161 = z0 := ar_ea wi_161
theorem wi_162 : (wI L xs).2 162 = ea 0 400 (z0) := rfl
theorem wr_162 : ar (wI L xs) 162 = z0 := ar_ea wi_162
theorem wi_163 : (wI L xs).2 163 = ea 0 400 (z0) := rfl
theorem wr_163 : ar (wI L xs) 163 = z0 := ar_ea wi_163
theorem wi_164 : (wI L xs).2 164 = ea 0 420 (z0) := rfl
theorem wr_164 : ar (wI L xs) 164 = z0 := ar_ea wi_164
theorem wi_165 : (wI L xs).2 165 = ea 0 6 (flf z0 6 (-1)) := rfl
theorem wr_165 : ar (wI L xs) 165 = flf z0 6 (-1) := ar_ea wi_165
theorem wi_166 : (wI L xs).2 166 = ea 0 6 (z0) := rfl
theorem wr_166 : ar (wI L xs) 166 = z0 := ar_ea wi_166
theorem wi_167 : (wI L xs).2 167 = ea 1 400 (z0) := rfl
theorem wr_167 : ar (wI L xs) 167 = z0 := ar_ea wi_167
theorem wi_168 : (wI L xs).2 168 = ea 0 4800 (z0) := rfl
theorem wr_168 : ar (wI L xs) 168 = z0 := ar_ea wi_168
theorem wi_169 : (wI L xs).2 169 = ea 0 4800 (z0) := rfl
theorem wr_169 : ar (wI L xs) 169 = z0 := ar_ea wi_169
theorem wi_170 : (wI L xs).2 170 = ea 0 16 (z0) := rfl
theorem wr_170 : ar (wI L xs) 170 = z0 := ar_ea wi_170
theorem wi_171 : (wI L xs).2 171 = ea 0 192 (z0) := rfl
theorem wr_171 : ar (wI L xs) 171 = z0 := ar_ea wi_171
theorem wi_172 : (wI L xs).2 172 = ea 0 192 (z0) := rfl
theorem wr_172 : ar (wI L xs) 172 = z0 := ar_ea wi_172
theorem wi_173 : (wI L xs).2 173 = ea 0 192 (z0) := rfl
theorem wr_173 : ar (wI L xs) 173 = z0 := ar_ea wi_173
theorem wi_174 : (wI L xs).2 174 = ea 0 192 (z0) := rfl
theorem wr_174 : ar (wI L xs) 174 = z0 := ar_ea wi_174
theorem wi_175 : (wI L xs).2 175 = ea 0 192 (z0) := rfl
theorem wr_175 : ar (wI L xs) 175 = z0 := ar_ea wi_175
theorem wi_176 : (wI L xs).2 176 = ea 0 402 (z0) := rfl
theorem wr_176 : ar (wI L xs) 176 = z0 := ar_ea wi_176
theorem wi_177 : (wI L xs).2 177 = ea 3 11 (z0) := rfl
theorem wr_177 : ar (wI L xs) 177 = z0 := ar_ea wi_177
theorem wi_178 : (wI L xs).2 178 = ea 3 300 (z0) := rfl
theorem wr_178 : ar (wI L xs) 178 = z0 := ar_ea wi_178
theorem wi_179 : (wI L xs).2 179 = ea 0 100 (z0) := rfl
theorem wr_179 : ar (wI L xs) 179 = z0 := ar_ea wi_179
theorem wi_180 : (wI L xs).2 180 = ea 0 100 (z0) := rfl
theorem wr_180 : ar (wI L xs) 180 = z0 := ar_ea wi_180
theorem wi_181 : (wI L xs).2 181 = ea 0 100 (z0) := rfl
theorem wr_181 : ar (wI L xs) 181 = z0 := ar_ea wi_181
theorem wi_182 : (wI L xs).2 182 = ea 0 100 (z0) := rfl
theorem wr_182 : ar (wI L xs) 182 = z0 := ar_ea wi_182
theorem wi_183 : (wI L xs).2 183 = ea 0 12 (z0) := rfl
theorem wr_183 : ar (wI L xs) 183 = z0 := ar_ea wi_183
theorem wi_184 : (wI L xs).2 184 = ea 2 100 (z0) := rfl
theorem wr_184 : ar (wI L xs) 184 = z0 := ar_ea wi_184
theorem wi_185 : (wI L xs).2 185 = ea 2 10000 (z0) := rfl
theorem wr_185 : ar (wI L xs) 185 = z0 := ar_ea wi_185
theorem wi_186 : (wI L xs).2 186 = ea 2 200 (z0) := rfl
theorem wr_186 : ar (wI L xs) 186 = z0 := ar_ea wi_186
theorem wi_187 : (wI L xs).2 187 = ea 0 200 (z0) := rfl
theorem wr_187 : ar (wI L xs) 187 = z0 := ar_ea wi_187
theorem wi_188 : (wI L xs).2 188 = ea 0 18800 (z0) := rfl
theorem wr_188 : ar (wI L xs) 188 = z0 := ar_ea wi_188
theorem wi_189 : (wI L xs).2 189 = ea 0 180 (z0) := rfl
theorem wr_189 : ar (wI L xs) 189 = z0 := ar_ea wi_189
theorem wi_190 : (wI L xs).2 190 = ea 0 180 (z0) := rfl
theorem wr_190 : ar (wI L xs) 190 = z0 := ar_ea wi_190
theorem wi_191 : (wI L xs).2 191 = ea 2 5 (z0) := rfl
theorem wr_191 : ar (wI L xs) 191 = z0 := ar_ea wi_191
theorem wi_111 : (wI L xs).2 111 = ea 0 420 (z0) := rfl
theorem wr_111 : ar (wI L xs) 111 = z0 := ar_ea wi_111
theorem wi_112 : (wI L xs).2 112 = ea 0 6 (flf z0 6 (-1)) := rfl
theorem wr_112 : ar (wI L xs) 112 = flf z0 6 (-1) := ar_ea wi_112
theorem wi_113 : (wI L xs).2 113 = ea 0 6 (z0) := rfl
theorem wr_113 : ar (wI L xs) 113 = z0 := ar_ea wi_113
theorem wi_118 : (wI L xs).2 118 = ea 1 400 (z0) := rfl
theorem wr_118 : ar (wI L xs) 118 = z0 := ar_ea wi_118
theorem wi_120 : (wI L xs).2 120 = ea 0 400 (z0) := rfl
theorem wr_120 : ar (wI L xs) 120 = z0 := ar_ea wi_120
theorem wi_121 : (wI L xs).2 121 = ea 0 64 (z0) := rfl
theorem wr_121 : ar (wI L xs) 121 = z0 := ar_ea wi_121
theorem wi_122 : (wI L xs).2 122 = ea 0 12 (z0) := rfl
theorem wr_122 : ar (wI L xs) 122 = z0 := ar_ea wi_122
theorem wi_123 : (wI L xs).2 123 = ea 0 12 (z0) := rfl
theorem wr_123 : ar (wI L xs) 123 = z0 := ar_ea wi_123
theorem wi_124 : (wI L xs).2 124 = ea 0 12 (z0) := rfl
theorem wr_124 : ar (wI L xs) 124 = z0 := ar_ea wi_124
theorem wi_125 : (wI L xs).2 125 = ea 0 6 (z0) := rfl
theorem wr_125 : ar (wI L xs) 125 = z0 := ar_ea wi_125
theorem wi_128 : (wI L xs).2 128 = ea 3 12 (z0) := rfl
theorem wr_128 : ar (wI L xs) 128 = z0 := ar_ea wi_128
theorem wi_129 : (wI L xs).2 129 = ea 3 60 (z0) := rfl
theorem wr_129 : ar (wI L xs) 129 = z0 := ar_ea wi_129
theorem wi_131 : (wI L xs).2 131 = ea 0 180 (z0) := rfl
theorem wr_131 : ar (wI L xs) 131 = z0 := ar_ea wi_131
theorem wi_132 : (wI L xs).2 132 = ea 0 180 (z0) := rfl
theorem wr_132 : ar (wI L xs) 132 = z0 := ar_ea wi_132
theorem wi_140 : (wI L xs).2 140 = ea 0 100 (z0) := rfl
theorem wr_140 : ar (wI L xs) 140 = z0 := ar_ea wi_140
theorem wi_141 : (wI L xs).2 141 = ea 0 100 (z0) := rfl
theorem wr_141 : ar (wI L xs) 141 = z0 := ar_ea wi_141
theorem wi_142 : (wI L xs).2 142 = ea 2 100 (z0) := rfl
theorem wr_142 : ar (wI L xs) 142 = z0 := ar_ea wi_142
theorem wi_143 : (wI L xs).2 143 = ea 0 12 (z0) := rfl
theorem wr_143 : ar (wI L xs) 143 = z0 := ar_ea wi_143
theorem wi_144 : (wI L xs).2 144 = ea 3 200 (z0) := rfl
theorem wr_144 : ar (wI L xs) 144 = z0 := ar_ea wi_144
theorem wi_145 : (wI L xs).2 145 = ea 0 100 (z0) := rfl
theorem wr_145 : ar (wI L xs) 145 = z0 := ar_ea wi_145
theorem wi_147 : (wI L xs).2 147 = ea 3 800 (z0) := rfl
theorem wr_147 : ar (wI L xs) 147 = z0 := ar_ea wi_147
theorem wi_77 : (wI L xs).2 77 = ea 0 400 (z0) := rfl
theorem wr_77 : ar (wI L xs) 77 = z0 := ar_ea wi_77
theorem wi_78 : (wI L xs).2 78 = ea 0 100 (z0) := rfl
theorem wr_78 : ar (wI L xs) 78 = z0 := ar_ea wi_78
theorem wi_79 : (wI L xs).2 79 = ea 0 100 (z0) := rfl
theorem wr_79 : ar (wI L xs) 79 = z0 := ar_ea wi_79
theorem wi_80 : (wI L xs).2 80 = ea 0 180 (z0) := rfl
theorem wr_80 : ar (wI L xs) 80 = z0 := ar_ea wi_80
theorem wi_81 : (wI L xs).2 81 = ea 0 180 (z0) := rfl
theorem wr_81 : ar (wI L xs) 81 = z0 := ar_ea wi_81
theorem wi_82 : (wI L xs).2 82 = ea 0 180 (z0) := rfl
theorem wr_82 : ar (wI L xs) 82 = z0 := ar_ea wi_82
theorem wi_83 : (wI L xs).2 83 = ea 0 180 (z0) := rfl
theorem wr_83 : ar (wI L xs) 83 = z0 := ar_ea wi_83
theorem wi_84 : (wI L xs).2 84 = ea 0 180 (z0) := rfl
theorem wr_84 : ar (wI L xs) 84 = z0 := ar_ea wi_84
theorem wi_86 : (wI L xs).2 86 = ea 0 200 (z0) := rfl
theorem wr_86 : ar (wI L xs) 86 = z0 := ar_ea wi_86
theorem wi_87 : (wI L xs).2 87 = ea 0 200 (z0) := rfl
theorem wr_87 : ar (wI L xs) 87 = z0 := ar_ea wi_87
theorem wi_88 : (wI L xs).2 88 = ea 0 200 (z0) := rfl
theorem wr_88 : ar (wI L xs) 88 = z0 := ar_ea wi_88
theorem wi_89 : (wI L xs).2 89 = ea 0 200 (z0) := rfl
theorem wr_89 : ar (wI L xs) 89 = z0 := ar_ea wi_89
theorem wi_90 : (wI L xs).2 90 = ea 0 400 (z0) := rfl
theorem wr_90 : ar (wI L xs) 90 = z0 := ar_ea wi_90
theorem wi_91 : (wI L xs).2 91 = ea 0 400 (z0) := rfl
theorem wr_91 : ar (wI L xs) 91 = z0 := ar_ea wi_91
theorem wi_92 : (wI L xs).2 92 = ea 0 400 (z0) := rfl
theorem wr_92 : ar (wI L xs) 92 = z0 := ar_ea wi_92
theorem wi_94 : (wI L xs).2 94 = ea 0 400 (z0) := rfl
theorem wr_94 : ar (wI L xs) 94 = z0 := ar_ea wi_94
theorem wi_95 : (wI L xs).2 95 = ea 0 100 (z0) := rfl
theorem wr_95 : ar (wI L xs) 95 = z0 := ar_ea wi_95
theorem wi_96 : (wI L xs).2 96 = ea 0 100 (z0) := rfl
theorem wr_96 : ar (wI L xs) 96 = z0 := ar_ea wi_96
theorem wi_97 : (wI L xs).2 97 = ea 0 180 (z0) := rfl
theorem wr_97 : ar (wI L xs) 97 = z0 := ar_ea wi_97
theorem wi_98 : (wI L xs).2 98 = ea 0 180 (z0) := rfl
theorem wr_98 : ar (wI L xs) 98 = z0 := ar_ea wi_98
theorem wi_99 : (wI L xs).2 99 = ea 0 180 (z0) := rfl
theorem wr_99 : ar (wI L xs) 99 = z0 := ar_ea wi_99
theorem wi_100 : (wI L xs).2 100 = ea 0 180 (z0) := rfl
theorem wr_100 : ar (wI L xs) 100 = z0 := ar_ea wi_100
theorem wi_101 : (wI L xs).2 101 = ea 0 180 (z0) := rfl
theorem wr_101 : ar (wI L xs) 101 = z0 := ar_ea wi_101
theorem wi_103 : (wI L xs).2 103 = ea 0 200 (z0) := rfl
theorem wr_103 : ar (wI L xs) 103 = z0 := ar_ea wi_103
theorem wi_104 : (wI L xs).2 104 = ea 0 200 (z0) := rfl
theorem wr_104 : ar (wI L xs) 104 = z0 := ar_ea wi_104
theorem wi_105 : (wI L xs).2 105 = ea 0 200 (z0) := rfl
theorem wr_105 : ar (wI L xs) 105 = z0 := ar_ea wi_105
theorem wi_106 : (wI L xs).2 106 = ea 0 200 (z0) := rfl
theorem wr_106 : ar (wI L xs) 106 = z0 := ar_ea wi_106
theorem wi_107 : (wI L xs).2 107 = ea 0 400 (z0) := rfl
theorem wr_107 : ar (wI L xs) 107 = z0 := ar_ea wi_107
theorem wi_108 : (wI L xs).2 108 = ea 0 400 (z0) := rfl
theorem wr_108 : ar (wI L xs) 108 = z0 := ar_ea wi_108
theorem wi_109 : (wI L xs).2 109 = ea 0 400 (z0) := rfl
theorem wr_109 : ar (wI L xs) 109 = z0 := ar_ea wi_109
set_option maxRecDepth 100000 in
theorem st_1 : (wI L xs).1 = 192 := rfl
set_option maxRecDepth 100000 in
theorem st_148 : (wI L xs).2 148 = o12 (ob (wI L xs) 148) := q12 (g := z0) rfl
theorem st_rt : Tb rtab (wI L xs) := by
  intro p hp
  simp only [rtab, List.mem_cons, List.not_mem_nil, or_false] at hp
  rcases hp with rfl | rfl | rfl | rfl | rfl | rfl | rfl | rfl | rfl | rfl | rfl | rfl | rfl | rfl | rfl | rfl | rfl | rfl | rfl | rfl | rfl | rfl | rfl | rfl | rfl | rfl | rfl | rfl | rfl | rfl | rfl | rfl | rfl | rfl | rfl | rfl | rfl | rfl | rfl | rfl | rfl | rfl | rfl
  · exact ea_q wi_149
  · exact ea_q wi_150
  · exact ea_q wi_151
  · exact ea_q wi_152
  · exact ea_q wi_153
  · exact ea_q wi_154
  · exact ea_q wi_155
  · exact ea_q wi_156
  · exact ea_q wi_157
  · exact ea_q wi_158
  · exact ea_q wi_159
  · exact ea_q wi_160
  · exact ea_q wi_161
  · exact ea_q wi_162
  · exact ea_q wi_163
  · exact ea_q wi_164
  · exact ea_q wi_165
  · exact ea_q wi_166
  · exact ea_q wi_167
  · exact ea_q wi_168
  · exact ea_q wi_169
  · exact ea_q wi_170
  · exact ea_q wi_171
  · exact ea_q wi_172
  · exact ea_q wi_173
  · exact ea_q wi_174
  · exact ea_q wi_175
  · exact ea_q wi_176
  · exact ea_q wi_177
  · exact ea_q wi_178
  · exact ea_q wi_179
  · exact ea_q wi_180
  · exact ea_q wi_181
  · exact ea_q wi_182
  · exact ea_q wi_183
  · exact ea_q wi_184
  · exact ea_q wi_185
  · exact ea_q wi_186
  · exact ea_q wi_187
  · exact ea_q wi_188
  · exact ea_q wi_189
  · exact ea_q wi_190
  · exact ea_q wi_191
theorem st_ct : Tb ctab (wI L xs) := by
  intro p hp
  simp only [ctab, List.mem_cons, List.not_mem_nil, or_false] at hp
  rcases hp with rfl | rfl | rfl | rfl | rfl | rfl | rfl | rfl | rfl | rfl | rfl | rfl | rfl | rfl | rfl | rfl | rfl | rfl | rfl | rfl | rfl
  · exact ea_q wi_111
  · exact ea_q wi_112
  · exact ea_q wi_113
  · exact ea_q wi_118
  · exact ea_q wi_120
  · exact ea_q wi_121
  · exact ea_q wi_122
  · exact ea_q wi_123
  · exact ea_q wi_124
  · exact ea_q wi_125
  · exact ea_q wi_128
  · exact ea_q wi_129
  · exact ea_q wi_131
  · exact ea_q wi_132
  · exact ea_q wi_140
  · exact ea_q wi_141
  · exact ea_q wi_142
  · exact ea_q wi_143
  · exact ea_q wi_144
  · exact ea_q wi_145
  · exact ea_q wi_147
theorem st_RS : RS (wI L xs) := ⟨Nat.le_of_eq st_1.symm, st_148, st_rt⟩
theorem st_FZ : FZ (wI L xs) := fun k h1 h2 => by
  rw [show (wI L xs).2 k = frz L xs k from wx_o h2]
  have h0 : ¬ k = 0 := by omega
  unfold frz
  rw [if_neg h0, if_neg h0]
set_option maxRecDepth 100000 in
theorem st_gt : gtab (wI L xs) := ⟨rfl, rfl, rfl, rfl, rfl, rfl, rfl, rfl⟩
set_option maxRecDepth 100000 in
theorem st_CS : CS (wI L xs) := ⟨Nat.le_of_eq st_1.symm, q11 (g := z0) rfl, st_gt, q4 (g := z0) rfl, q9 (g := z0) rfl, q8 (g := fun k => if k = 2 then -1 else 0) rfl, rfl, q3 (g := z0) rfl, rfl, st_ct, st_FZ⟩
set_option maxRecDepth 100000 in
theorem st_M76 : MS (wI L xs) 76 := ⟨q2 (g := z0) rfl, q7 (g := z0) rfl, ea_q wi_77, ea_q wi_78, ea_q wi_79, ea_q wi_80, ea_q wi_81, ea_q wi_82, ea_q wi_83, ea_q wi_84, ea_q wi_86, ea_q wi_87, ea_q wi_88, ea_q wi_89, ea_q wi_90, ea_q wi_91, ea_q wi_92⟩
set_option maxRecDepth 100000 in
theorem st_M93 : MS (wI L xs) 93 := ⟨q2 (g := z0) rfl, q7 (g := z0) rfl, ea_q wi_94, ea_q wi_95, ea_q wi_96, ea_q wi_97, ea_q wi_98, ea_q wi_99, ea_q wi_100, ea_q wi_101, ea_q wi_103, ea_q wi_104, ea_q wi_105, ea_q wi_106, ea_q wi_107, ea_q wi_108, ea_q wi_109⟩
set_option maxRecDepth 100000 in
theorem st_CH : CH (wI L xs) := ⟨st_CS, st_M76, st_M93, ⟨76, 133, q10 (g := z0) rfl⟩, er_q (f := nn) rfl, er_q (f := nn) rfl, er_q (f := nn) rfl, er_q (f := nn) rfl⟩
def s0 (W : AW) : ST := (rF W, z0, z0, fun _ => (fun _ _ => 0, fun _ => 1), fun _ => (0, z0, fun _ _ => 0), fun _ => none)
theorem st_r (j : Nat) (h : j ≠ 16) : rF (wI L xs) j = z0 := by
  by_cases c : j < 18
  · rcases (show j = 0 ∨ j = 1 ∨ j = 2 ∨ j = 3 ∨ j = 4 ∨ j = 5 ∨ j = 6 ∨ j = 7 ∨ j = 8 ∨ j = 9 ∨ j = 10 ∨ j = 11 ∨ j = 12 ∨ j = 13 ∨ j = 14 ∨ j = 15 ∨ j = 17 by omega) with rfl | rfl | rfl | rfl | rfl | rfl | rfl | rfl | rfl | rfl | rfl | rfl | rfl | rfl | rfl | rfl | rfl
    · show ar (wI L xs) 149 = z0
      exact wr_149
    · show ar (wI L xs) 150 = z0
      exact wr_150
    · show ar (wI L xs) 151 = z0
      exact wr_151
    · show ar (wI L xs) 152 = z0
      exact wr_152
    · show ar (wI L xs) 153 = z0
      exact wr_153
    · show ar (wI L xs) 154 = z0
      exact wr_154
    · show ar (wI L xs) 155 = z0
      exact wr_155
    · show ar (wI L xs) 156 = z0
      exact wr_156
    · show ar (wI L xs) 157 = z0
      exact wr_157
    · show ar (wI L xs) 158 = z0
      exact wr_158
    · show ar (wI L xs) 159 = z0
      exact wr_159
    · show ar (wI L xs) 160 = z0
      exact wr_160
    · show ar (wI L xs) 161 = z0
      exact wr_161
    · show ar (wI L xs) 162 = z0
      exact wr_162
    · show ar (wI L xs) 163 = z0
      exact wr_163
    · show ar (wI L xs) 164 = z0
      exact wr_164
    · show ar (wI L xs) 166 = z0
      exact wr_166
  · exact if_neg c
theorem st_16 : rF (wI L xs) 16 = flf z0 6 (-1) := by
  show ar (wI L xs) 165 = _
  exact wr_165
set_option maxRecDepth 100000 in
theorem st_nu : ob (wI L xs) 148 24 = 0 ∧ ob (wI L xs) 148 25 = 0 ∧ ob (wI L xs) 148 20 = 0 ∧ ob (wI L xs) 148 1 = 0 := ⟨d12_24 (g := z0) rfl, d12_25 (g := z0) rfl, d12_20 (g := z0) rfl, d12_1 (g := z0) rfl⟩
theorem st_KR : KR (wI L xs) (s0 (wI L xs)) := ⟨st_RS, st_FZ, rfl, st_nu, wr_167, fun k h => absurd (show (k : Int) < 0 from h) (by omega), fun k h => absurd (show (k : Int) < 0 from h) (by omega), fun k _ => by
  show ar (wI L xs) 191 k = 0
  rw [wr_191]⟩
set_option maxRecDepth 100000 in
theorem st_cn (j : Nat) (hj : j ≠ 16) (h8 : j ≤ 8 ∨ j = 15 ∨ j = 17) : cN (wI L xs) 76 110 j = z0 := by
  rcases (show j = 0 ∨ j = 1 ∨ j = 2 ∨ j = 3 ∨ j = 4 ∨ j = 5 ∨ j = 6 ∨ j = 7 ∨ j = 8 ∨ j = 15 ∨ j = 17 by omega) with rfl | rfl | rfl | rfl | rfl | rfl | rfl | rfl | rfl | rfl | rfl
  · funext i
    show fu (cF (wI L xs) 76 0) 6 (ob (wI L xs) 110 0) i = 0
    have e1 : ob (wI L xs) 110 0 = 0 := d4_0 (W := wI L xs) (a := 110) (g := z0) (m := 110) rfl
    rw [e1]
    unfold fu
    split
    · rfl
    · match i with
      | 0 => exact d2_0 (W := wI L xs) (a := 76) (g := z0) (m := 76) rfl
      | 1 => exact d2_1 (W := wI L xs) (a := 76) (g := z0) (m := 76) rfl
      | 2 => exact d2_2 (W := wI L xs) (a := 76) (g := z0) (m := 76) rfl
      | 3 => exact d2_3 (W := wI L xs) (a := 76) (g := z0) (m := 76) rfl
      | 4 => exact d2_5 (W := wI L xs) (a := 76) (g := z0) (m := 76) rfl
      | 5 => exact d7_0 (W := wI L xs) (a := 85) (g := z0) (m := 85) rfl
      | 6 => rfl
      | 7 => exact d2_4 (W := wI L xs) (a := 76) (g := z0) (m := 76) rfl
      | n + 8 => rfl
  · show ar (wI L xs) 77 = z0
    exact wr_77
  · show ar (wI L xs) 78 = z0
    exact wr_78
  · show ar (wI L xs) 79 = z0
    exact wr_79
  · show ar (wI L xs) 80 = z0
    exact wr_80
  · show ar (wI L xs) 81 = z0
    exact wr_81
  · show ar (wI L xs) 82 = z0
    exact wr_82
  · show ar (wI L xs) 83 = z0
    exact wr_83
  · show ar (wI L xs) 84 = z0
    exact wr_84
  · show ar (wI L xs) 111 = z0
    exact wr_111
  · show ar (wI L xs) 113 = z0
    exact wr_113
set_option maxRecDepth 100000 in
theorem st_CC : CC (wI L xs) (s0 (wI L xs)) := by
  have c0 : cN (wI L xs) 76 110 0 = z0 := st_cn 0 (by decide) (by decide)
  have r0 : rF (wI L xs) 0 = z0 := st_r 0 (by decide)
  refine ⟨⟨⟨?_, ?_, fun t h => ?_, fun t h => ?_⟩, ?_, fun i h => ?_, ?_, ?_⟩, fun t h => ?_, ⟨d11_14 (g := z0) rfl, d11_15 (g := z0) rfl, d11_16 (g := z0) rfl, d11_17 (g := z0) rfl⟩, wr_118, fun _ => 0, fun k h => absurd (show (k : Int) < 0 from h) (by omega), fun k h => absurd (show (k : Int) < 0 from h) (by omega), fun k _ => ⟨?_, ?_⟩⟩
  · show cN (wI L xs) 76 110 0 0 = rF (wI L xs) 0 0 ∧ cN (wI L xs) 76 110 0 1 = rF (wI L xs) 0 1 ∧ cN (wI L xs) 76 110 0 2 = rF (wI L xs) 0 2 ∧ cN (wI L xs) 76 110 0 3 = rF (wI L xs) 0 3 ∧ cN (wI L xs) 76 110 0 4 = rF (wI L xs) 0 4 ∧ cN (wI L xs) 76 110 0 5 = rF (wI L xs) 0 5 ∧ cN (wI L xs) 76 110 0 7 = rF (wI L xs) 0 7
    rw [c0, r0]
    exact ⟨rfl, rfl, rfl, rfl, rfl, rfl, rfl⟩
  · exact ⟨(show cN (wI L xs) 76 110 1 = rF (wI L xs) 1 by rw [st_cn 1 (by decide) (by decide), st_r 1 (by decide)]), (show cN (wI L xs) 76 110 2 = rF (wI L xs) 2 by rw [st_cn 2 (by decide) (by decide), st_r 2 (by decide)]), (show cN (wI L xs) 76 110 3 = rF (wI L xs) 3 by rw [st_cn 3 (by decide) (by decide), st_r 3 (by decide)]), (show cN (wI L xs) 76 110 4 = rF (wI L xs) 4 by rw [st_cn 4 (by decide) (by decide), st_r 4 (by decide)]), (show cN (wI L xs) 76 110 5 = rF (wI L xs) 5 by rw [st_cn 5 (by decide) (by decide), st_r 5 (by decide)]), (show cN (wI L xs) 76 110 6 = rF (wI L xs) 6 by rw [st_cn 6 (by decide) (by decide), st_r 6 (by decide)]), (show cN (wI L xs) 76 110 7 = rF (wI L xs) 7 by rw [st_cn 7 (by decide) (by decide), st_r 7 (by decide)]), (show cN (wI L xs) 76 110 8 = rF (wI L xs) 8 by rw [st_cn 8 (by decide) (by decide), st_r 8 (by decide)])⟩
  · rw [c0] at h
    exact absurd (show (t : Int) < 0 from h) (by omega)
  · rw [c0] at h
    exact absurd (show (t : Int) < 2 * 0 from h) (by omega)
  · show cN (wI L xs) 76 110 0 6 = rF (wI L xs) 0 6
    rw [c0, r0]
  · rw [c0] at h
    exact absurd (show (i : Int) < 7 * 0 from h) (by omega)
  · show ar (wI L xs) 112 = rF (wI L xs) 16
    rw [st_16]
    exact wr_112
  · show cN (wI L xs) 76 110 17 = rF (wI L xs) 17
    rw [st_cn 17 (by decide) (by decide), st_r 17 (by decide)]
  · have e : ob (wI L xs) (76 + 9) 0 = 0 := d7_0 (W := wI L xs) (a := 85) (g := z0) (m := 85) rfl
    rw [e] at h
    exact absurd (show (t : Int) < 0 from h) (by omega)
  · rw [rr_er (f := nn) (W := wI L xs) (k := 114) rfl]
  · rw [rr_er (f := nn) (W := wI L xs) (k := 115) rfl]
theorem st_SOK : SOK ((0 : Nat) : Int) (s0 (wI L xs)) := by
  have e : ∀ j, j ≠ 16 → sF (s0 (wI L xs)) j = z0 := st_r
  refine ⟨Or.inl ⟨?_, ?_, ?_, ?_, ?_, ?_, ?_, ?_, ?_, ?_, ?_⟩, ⟨Int.le_refl _, by show (0 : Int) ≤ 8; decide⟩, ⟨Int.le_refl _, by show (0 : Int) ≤ 8; decide⟩, ⟨Int.le_refl _, by show (0 : Int) ≤ 400; decide⟩, ⟨Int.le_refl _, Int.le_refl _⟩, fun i => by show (-128 : Int) ≤ 0 ∧ (0 : Int) < 128; decide, fun k h => absurd (show (k : Int) < 0 from h) (by omega), fun k h => absurd (show (k : Int) < 0 from h) (by omega), fun k σ h => (by have h2 : (none : Option SG) = some σ := h; cases h2), fun _ k => rfl⟩
  · rw [e 0 (by decide)]
  · rw [e 0 (by decide)]
  · rw [e 0 (by decide)]
  · rw [e 0 (by decide)]
  · rw [e 17 (by decide)]; exact fun _ => by show (0 : Int) ≤ 0 ∧ (0 : Int) ≤ 9999; decide
  · rw [e 1 (by decide)]; exact fun _ => by show (0 : Int) ≤ 0 ∧ (0 : Int) ≤ 1000; decide
  · rw [e 2 (by decide)]; exact fun _ => by show (0 : Int) ≤ 0 ∧ (0 : Int) ≤ 9; decide
  · rw [e 3 (by decide)]; exact fun _ => by show (0 : Int) ≤ 0 ∧ (0 : Int) ≤ 9; decide
  · rw [e 4 (by decide)]; exact fun _ => by show (0 : Int) ≤ 0 ∧ (0 : Int) ≤ 9999; decide
  · rw [e 5 (by decide)]; exact fun _ => by show (0 : Int) ≤ 0 ∧ (0 : Int) ≤ 9999; decide
  · rw [e 8 (by decide)]; exact fun _ => Or.inl rfl
-- behind the ends all is zero
theorem gsp_z : ∀ e : Nat, e ≤ 180 → ∀ i, 484 ≤ i → gsp e i = 0
  | 0, _, i, h => if_neg (by omega)
  | e + 1, he, i, h => by
    have hb : ∀ e, e < 180 → (4 * gfr e + (if e < 90 then 2 else 1)).toNat < 484 ∧ (4 * gto e + (if e < 90 then 0 else 3)).toNat < 484 := by decide +kernel
    have h1 := hb e (by omega)
    show fu (fu (gsp e) (4 * gfr e + (if e < 90 then 2 else 1)).toNat (e : Int)) (4 * gto e + (if e < 90 then 0 else 3)).toNat (e : Int) i = 0
    rw [fu_ne _ _ (by omega), fu_ne _ _ (by omega)]
    exact gsp_z e (by omega) i h
theorem getD_z {l : List Int} {j : Nat} (h : l.length ≤ j) : l.getD j 0 = 0 := by
  rw [List.getD_eq_getElem?_getD, List.getElem?_eq_none h]
  rfl
theorem xget_all {P : AE → Prop} {d : AE} (hd : P d) : ∀ {l : List AE} {k : Nat}, (∀ e ∈ l, P e) → P (xget l k d)
  | [], _, _ => hd
  | e :: _, 0, h => h e (List.mem_cons_self ..)
  | _ :: l, k + 1, h => xget_all (l := l) (k := k) hd (fun e he => h e (List.mem_cons_of_mem _ he))
theorem xget_al2 {P : AE → Prop} {d : AE} : ∀ {l : List AE} {k : Nat}, k < l.length → (∀ e ∈ l, P e) → P (xget l k d)
  | [], _, h, _ => by cases h
  | e :: _, 0, _, h => h e (List.mem_cons_self ..)
  | _ :: l, k + 1, hk, h => xget_al2 (l := l) (k := k) (Nat.lt_of_succ_lt_succ hk) (fun e he => h e (List.mem_cons_of_mem _ he))
theorem ze_z {t n : Nat} : zE (ea t n z0) := fun _ _ => rfl
theorem ze_n {t n : Nat} : zE (er t n nn) := fun _ _ => rfl
theorem ze_t {n : Nat} {f : Nat → Int} : zE (ea 0 n (tll f n)) := fun i h => if_neg (by omega)
theorem ze_f : zE (ea 0 6 (flf z0 6 (-1))) := fun i h => if_neg (by omega)
theorem ze_g : zE (ea 0 484 (gsp 180)) := fun i h => gsp_z 180 (Nat.le_refl _) i h
theorem ze_u : zE (ea 0 6 ush) := fun i h => getD_z (l := fzi.getD 0 []) h
set_option maxRecDepth 100000 in
theorem st_lz : ∀ e ∈ (o_CM 68 :: (l_CM 68 ush ++ (o_RM 149 :: l_RM))), zE e := by
  intro e he
  simp only [List.mem_cons, List.mem_append, List.cons_append, List.nil_append, List.not_mem_nil, or_false] at he
  repeat' (rcases he with rfl | he)
  all_goals first
    | exact trivial
    | exact ze_z
    | exact ze_n
    | exact ze_t
    | exact ze_f
    | exact ze_g
    | exact ze_u
    | (subst he; exact ze_z)
set_option maxRecDepth 100000 in
theorem st_Zw : Zw (wI L xs) := fun k h1 hk => by
  have hk2 : k < 192 := hk
  by_cases c : k < 67
  · rw [show (wI L xs).2 k = frz L xs k from wx_o c]
    by_cases c1 : k < 6
    · rw [frz_i (by omega) c1]
      exact fun i hi => getD_z hi
    · by_cases c2 : k < 36
      · rw [frz_s (by omega) c2]
        trivial
      · by_cases c3 : k < 66
        · rw [frz_b (by omega) c3]
          exact fun i hi => getD_z hi
        · rw [show k = 66 by omega]
          exact fun i hi => rfl
  · show zE (if 67 ≤ k then xget _ (k - 67) (frz L xs k) else frz L xs k)
    rw [if_pos (by omega)]
    exact xget_al2 (by show k - 67 < 125; omega) st_lz
set_option maxRecDepth 100000 in
theorem st_lc : ∀ e ∈ (o_CM 68 :: l_CM 68 ush), roke B1 e := by
  intro e he
  simp only [List.mem_cons, List.mem_append, List.cons_append, List.nil_append, List.not_mem_nil, or_false] at he
  repeat' (rcases he with rfl | he)
  all_goals first
    | exact trivial
    | exact nwo
    | (simp only [roke_o, List.forall_mem_cons, List.not_mem_nil, false_implies, implies_true, rokv_i, rokv_r, B1, Nat.reduceLeDiff, Nat.reduceLT, Nat.reduceAdd, and_self, true_or, or_true]; done)
    | (subst he; exact trivial)
set_option maxRecDepth 100000 in
theorem st_Cl : Cl B1 (wI L xs) := fun k hk hb => by
  have hk2 : k < 192 := hk
  have hb2 : k < 148 ∨ 192 ≤ k := hb
  by_cases c : k < 67
  · rw [show (wI L xs).2 k = frz L xs k from wx_o c]
    exact frz_rok (fun j hj => Or.inl (by omega)) c
  · show roke B1 (if 67 ≤ k then xget ((o_CM 68 :: l_CM 68 ush) ++ (o_RM 149 :: l_RM)) (k - 67) (frz L xs k) else frz L xs k)
    rw [if_pos (by omega), xget_cat1 (by show k - 67 < 81; omega)]
    exact xget_al2 (by show k - 67 < 81; omega) st_lc
set_option maxRecDepth 100000 in
theorem st_Inv : Inv L (Xs xs) 0 (wI L xs) := ⟨rfl, st_Zw, st_Cl, s0 (wI L xs), st_SOK, st_CH, st_CC, st_KR⟩
end ST0

theorem all_ok {L : Nat} {xs : Nat → Int32} {c : Nat} {W : AW} (hL : L ≤ 3072) (h7 : ∀ c W, c ≤ 511 → Inv L (Xs xs) c W → CallOK (Inv L (Xs xs) (c + 1)) W 61 196 []) (h8 : ∀ c W, c ≤ 511 → Inv L (Xs xs) c W → CallOK (Inv L (Xs xs) (c + 1)) W 102 223 []) (hc : 6 * c + 6 ≤ L) (hI : Inv L (Xs xs) c W) : ∀ k, k < 34 → CallOK (Inv L (Xs xs) (c + 1)) W (opc.getD k 0) (opr.getD k 0) (opa (Xs xs) (6 * c) (opn.getD k 0)) := by
  have hcc : c ≤ 511 := by omega
  intro k hk
  match k, hk with
  | 0, _ => exact ok0 hI hcc (xs _).toInt_lt
  | 1, _ => exact ok1 hI
  | 2, _ => exact ok2 hI
  | 3, _ => exact ok3 hI
  | 4, _ => exact ok4 hI
  | 5, _ => exact ok5 hI
  | 6, _ => exact ok6 hI
  | 7, _ => exact h7 c W hcc hI
  | 8, _ => exact h8 c W hcc hI
  | 9, _ => exact ok9 hI hcc
  | 10, _ => exact ok10 hI
  | 11, _ => exact ok11 hI hcc
  | 12, _ => exact ok12 hI
  | 13, _ => exact ok13 hI
  | 14, _ => exact ok14 hI
  | 15, _ => exact ok15 hI hcc
  | 16, _ => exact ok16 hI
  | 17, _ => exact ok17 hI
  | 18, _ => exact ok18 hI
  | 19, _ => exact ok19 hI
  | 20, _ => exact ok20 hI
  | 21, _ => exact ok21 hI
  | 22, _ => exact ok22 hI hcc
  | 23, _ => exact ok23 hI hcc
  | 24, _ => exact ok24 hI hcc
  | 25, _ => exact ok25 hI hcc
  | 26, _ => exact ok26 hI
  | 27, _ => exact ok27 hI hcc
  | 28, _ => exact ok28 hI hcc
  | 29, _ => exact ok29 hI hcc
  | 30, _ => exact ok30 hI
  | 31, _ => exact ok31 hI
  | 32, _ => exact ok32 hI
  | 33, _ => exact ok33 hI
  | k + 34, h => exact absurd h (by omega)
theorem of_texts (h7 : ∀ (L : Nat) (xs : Nat → Int32) c W, c ≤ 511 → Inv L (Xs xs) c W → CallOK (Inv L (Xs xs) (c + 1)) W 61 196 []) (h8 : ∀ (L : Nat) (xs : Nat → Int32) c W, c ≤ 511 → Inv L (Xs xs) c W → CallOK (Inv L (Xs xs) (c + 1)) W 102 223 []) : Claimed_1_1 ∧ Claimed_1_2 := by
  refine claim_of (fun L xs hL => law_of hL (fun c W => Inv L (Xs xs) c W) st_Inv (fun c W h => ?_) (fun c W h => ?_) (fun c W hc hI => all_ok hL (h7 L xs) (h8 L xs) hc hI))
  · obtain ⟨h0, -, -, s, -, hH, -⟩ := h
    refine ⟨h0, ?_, hH.1.1⟩
    rw [ca_67 hH.1]
    exact rfl
  · obtain ⟨h0, h1, h2, s, hS, h3⟩ := h
    exact ⟨h0, h1, h2, s, hS.mono (by omega), h3⟩
