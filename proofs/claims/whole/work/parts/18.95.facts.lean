/-! The facts on all rows and methods. -/
theorem bd_row_ok {mi : Nat} {l : List (Nat × Instr × Nat × Nat)} (hl : cdM mi = l) (h : l.all (bd_row mi) = true) : ∀ pc raw res, fe mi pc = some (raw, res) → bd_ok mi pc raw res := by
  intro pc raw res hfe
  unfold fe at hfe
  rw [hl] at hfe
  obtain ⟨q, hq, e1⟩ := Option.map_eq_some_iff.mp hfe
  have hm := List.mem_of_find?_eq_some hq
  have hp : q.1 = pc := by simpa using List.find?_some hq
  have hr := List.all_eq_true.mp h q hm
  unfold bd_row at hr
  rw [Bool.and_eq_true] at hr
  obtain ⟨r1, r2⟩ := hr
  have e2 : q.2.1 = raw := congrArg Prod.fst e1
  have e3 : q.2.2.1 = res := congrArg Prod.snd e1
  rw [hp] at r1
  rw [e2, e3] at r2
  refine ⟨?_, _, r2⟩
  split at r1
  · rename_i i n hd
    simp only [Bool.and_eq_true, decide_eq_true_eq, Bool.or_eq_true] at r1
    rw [hd, r1.1, e2]
    refine ⟨n, rfl, ?_⟩
    rw [← e2, ← r1.1]
    exact r1.2
  · cases r1
theorem bd_all_chunks {α : Type} {f : α → Bool} (k : Nat) (hk : 0 < k) : ∀ (n : Nat) (l : List α), l.length ≤ n * k → (∀ j, j < n → ((l.drop (k * j)).take k).all f = true) → l.all f = true := by
  intro n
  induction n with
  | zero => intro l hl _; have : l = [] := List.length_eq_zero_iff.mp (by omega); subst this; rfl
  | succ n ih =>
    intro l hl hj
    rw [← List.take_append_drop k l, List.all_append, Bool.and_eq_true]
    refine ⟨by have := hj 0 (by omega); simpa using this, ih (l.drop k) (by rw [List.length_drop, Nat.succ_mul] at *; omega) (fun j hj2 => ?_)⟩
    have := hj (j + 1) (by omega)
    rw [List.drop_drop]
    rw [Nat.mul_succ, Nat.add_comm] at this
    exact this
set_option maxRecDepth 100000 in
theorem zr_308 : cd_308.all (bd_row 308) = true := bd_all_chunks 60 (by decide) 13 cd_308 (by decide) (fun j hj => by
  rcases (show j = 0 ∨ j = 1 ∨ j = 2 ∨ j = 3 ∨ j = 4 ∨ j = 5 ∨ j = 6 ∨ j = 7 ∨ j = 8 ∨ j = 9 ∨ j = 10 ∨ j = 11 ∨ j = 12 by omega) with z | z | z | z | z | z | z | z | z | z | z | z | z <;> subst z
  · exact zl_0
  · exact zl_1
  · exact zl_2
  · exact zl_3
  · exact zl_4
  · exact zl_5
  · exact zl_6
  · exact zl_7
  · exact zl_8
  · exact zl_9
  · exact zl_10
  · exact zl_11
  · exact zl_12)
set_option maxRecDepth 100000 in
theorem zg_0 (mi : Nat) (h1 : mi / 20 = 0) : ∀ pc raw res, fe mi pc = some (raw, res) → bd_ok mi pc raw res := by
  rcases (show mi = 0 ∨ mi = 1 ∨ mi = 2 ∨ mi = 3 ∨ mi = 4 ∨ mi = 5 ∨ mi = 6 ∨ mi = 7 ∨ mi = 8 ∨ mi = 9 ∨ mi = 10 ∨ mi = 11 ∨ mi = 12 ∨ mi = 13 ∨ mi = 14 ∨ mi = 15 ∨ mi = 16 ∨ mi = 17 ∨ mi = 18 ∨ mi = 19 by omega) with z | z | z | z | z | z | z | z | z | z | z | z | z | z | z | z | z | z | z | z <;> subst z
  · exact bd_row_ok (l := cd_0) rfl zr_0
  · exact bd_row_ok (l := cd_1) rfl zr_1
  · exact bd_row_ok (l := cd_2) rfl zr_2
  · exact bd_row_ok (l := cd_3) rfl zr_3
  · exact bd_row_ok (l := cd_4) rfl zr_4
  · exact bd_row_ok (l := cd_5) rfl zr_5
  · exact bd_row_ok (l := cd_6) rfl zr_6
  · exact bd_row_ok (l := cd_7) rfl zr_7
  · exact bd_row_ok (l := cd_8) rfl zr_8
  · exact bd_row_ok (l := cd_9) rfl zr_9
  · exact bd_row_ok (l := cd_10) rfl zr_10
  · exact bd_row_ok (l := cd_11) rfl zr_11
  · exact bd_row_ok (l := cd_12) rfl zr_12
  · exact bd_row_ok (l := cd_13) rfl zr_13
  · exact bd_row_ok (l := cd_14) rfl zr_14
  · exact bd_row_ok (l := cd_15) rfl zr_15
  · exact bd_row_ok (l := cd_16) rfl zr_16
  · exact bd_row_ok (l := cd_17) rfl zr_17
  · exact bd_row_ok (l := cd_18) rfl zr_18
  · exact bd_row_ok (l := cd_19) rfl zr_19
set_option maxRecDepth 100000 in
theorem zg_1 (mi : Nat) (h1 : mi / 20 = 1) : ∀ pc raw res, fe mi pc = some (raw, res) → bd_ok mi pc raw res := by
  rcases (show mi = 20 ∨ mi = 21 ∨ mi = 22 ∨ mi = 23 ∨ mi = 24 ∨ mi = 25 ∨ mi = 26 ∨ mi = 27 ∨ mi = 28 ∨ mi = 29 ∨ mi = 30 ∨ mi = 31 ∨ mi = 32 ∨ mi = 33 ∨ mi = 34 ∨ mi = 35 ∨ mi = 36 ∨ mi = 37 ∨ mi = 38 ∨ mi = 39 by omega) with z | z | z | z | z | z | z | z | z | z | z | z | z | z | z | z | z | z | z | z <;> subst z
  · exact bd_row_ok (l := cd_20) rfl zr_20
  · exact bd_row_ok (l := cd_21) rfl zr_21
  · exact bd_row_ok (l := cd_22) rfl zr_22
  · exact bd_row_ok (l := cd_23) rfl zr_23
  · exact bd_row_ok (l := cd_24) rfl zr_24
  · exact bd_row_ok (l := cd_25) rfl zr_25
  · exact bd_row_ok (l := cd_26) rfl zr_26
  · exact bd_row_ok (l := cd_27) rfl zr_27
  · exact bd_row_ok (l := cd_28) rfl zr_28
  · exact bd_row_ok (l := cd_29) rfl zr_29
  · exact bd_row_ok (l := cd_30) rfl zr_30
  · exact bd_row_ok (l := cd_31) rfl zr_31
  · exact bd_row_ok (l := cd_32) rfl zr_32
  · exact bd_row_ok (l := cd_33) rfl zr_33
  · exact bd_row_ok (l := cd_34) rfl zr_34
  · exact bd_row_ok (l := cd_35) rfl zr_35
  · exact bd_row_ok (l := cd_36) rfl zr_36
  · exact bd_row_ok (l := cd_37) rfl zr_37
  · exact bd_row_ok (l := cd_38) rfl zr_38
  · exact bd_row_ok (l := cd_39) rfl zr_39
set_option maxRecDepth 100000 in
theorem zg_2 (mi : Nat) (h1 : mi / 20 = 2) : ∀ pc raw res, fe mi pc = some (raw, res) → bd_ok mi pc raw res := by
  rcases (show mi = 40 ∨ mi = 41 ∨ mi = 42 ∨ mi = 43 ∨ mi = 44 ∨ mi = 45 ∨ mi = 46 ∨ mi = 47 ∨ mi = 48 ∨ mi = 49 ∨ mi = 50 ∨ mi = 51 ∨ mi = 52 ∨ mi = 53 ∨ mi = 54 ∨ mi = 55 ∨ mi = 56 ∨ mi = 57 ∨ mi = 58 ∨ mi = 59 by omega) with z | z | z | z | z | z | z | z | z | z | z | z | z | z | z | z | z | z | z | z <;> subst z
  · exact bd_row_ok (l := cd_40) rfl zr_40
  · exact bd_row_ok (l := cd_41) rfl zr_41
  · exact bd_row_ok (l := cd_42) rfl zr_42
  · exact bd_row_ok (l := cd_43) rfl zr_43
  · exact bd_row_ok (l := cd_44) rfl zr_44
  · exact bd_row_ok (l := cd_45) rfl zr_45
  · exact bd_row_ok (l := cd_46) rfl zr_46
  · exact bd_row_ok (l := cd_47) rfl zr_47
  · exact bd_row_ok (l := cd_48) rfl zr_48
  · exact bd_row_ok (l := cd_49) rfl zr_49
  · exact bd_row_ok (l := cd_50) rfl zr_50
  · exact bd_row_ok (l := cd_51) rfl zr_51
  · exact bd_row_ok (l := cd_52) rfl zr_52
  · exact bd_row_ok (l := cd_53) rfl zr_53
  · exact bd_row_ok (l := cd_54) rfl zr_54
  · exact bd_row_ok (l := cd_55) rfl zr_55
  · exact bd_row_ok (l := cd_56) rfl zr_56
  · exact bd_row_ok (l := cd_57) rfl zr_57
  · exact bd_row_ok (l := cd_58) rfl zr_58
  · exact bd_row_ok (l := cd_59) rfl zr_59
set_option maxRecDepth 100000 in
theorem zg_3 (mi : Nat) (h1 : mi / 20 = 3) : ∀ pc raw res, fe mi pc = some (raw, res) → bd_ok mi pc raw res := by
  rcases (show mi = 60 ∨ mi = 61 ∨ mi = 62 ∨ mi = 63 ∨ mi = 64 ∨ mi = 65 ∨ mi = 66 ∨ mi = 67 ∨ mi = 68 ∨ mi = 69 ∨ mi = 70 ∨ mi = 71 ∨ mi = 72 ∨ mi = 73 ∨ mi = 74 ∨ mi = 75 ∨ mi = 76 ∨ mi = 77 ∨ mi = 78 ∨ mi = 79 by omega) with z | z | z | z | z | z | z | z | z | z | z | z | z | z | z | z | z | z | z | z <;> subst z
  · exact bd_row_ok (l := cd_60) rfl zr_60
  · exact bd_row_ok (l := cd_61) rfl zr_61
  · exact bd_row_ok (l := cd_62) rfl zr_62
  · exact bd_row_ok (l := cd_63) rfl zr_63
  · exact bd_row_ok (l := cd_64) rfl zr_64
  · exact bd_row_ok (l := cd_65) rfl zr_65
  · exact bd_row_ok (l := cd_66) rfl zr_66
  · exact bd_row_ok (l := cd_67) rfl zr_67
  · exact bd_row_ok (l := cd_68) rfl zr_68
  · exact bd_row_ok (l := cd_69) rfl zr_69
  · exact bd_row_ok (l := cd_70) rfl zr_70
  · exact bd_row_ok (l := cd_71) rfl zr_71
  · exact bd_row_ok (l := cd_72) rfl zr_72
  · exact bd_row_ok (l := cd_73) rfl zr_73
  · exact bd_row_ok (l := cd_74) rfl zr_74
  · exact bd_row_ok (l := cd_75) rfl zr_75
  · exact bd_row_ok (l := cd_76) rfl zr_76
  · exact bd_row_ok (l := cd_77) rfl zr_77
  · exact bd_row_ok (l := cd_78) rfl zr_78
  · exact bd_row_ok (l := cd_79) rfl zr_79
set_option maxRecDepth 100000 in
theorem zg_4 (mi : Nat) (h1 : mi / 20 = 4) : ∀ pc raw res, fe mi pc = some (raw, res) → bd_ok mi pc raw res := by
  rcases (show mi = 80 ∨ mi = 81 ∨ mi = 82 ∨ mi = 83 ∨ mi = 84 ∨ mi = 85 ∨ mi = 86 ∨ mi = 87 ∨ mi = 88 ∨ mi = 89 ∨ mi = 90 ∨ mi = 91 ∨ mi = 92 ∨ mi = 93 ∨ mi = 94 ∨ mi = 95 ∨ mi = 96 ∨ mi = 97 ∨ mi = 98 ∨ mi = 99 by omega) with z | z | z | z | z | z | z | z | z | z | z | z | z | z | z | z | z | z | z | z <;> subst z
  · exact bd_row_ok (l := cd_80) rfl zr_80
  · exact bd_row_ok (l := cd_81) rfl zr_81
  · exact bd_row_ok (l := cd_82) rfl zr_82
  · exact bd_row_ok (l := cd_83) rfl zr_83
  · exact bd_row_ok (l := cd_84) rfl zr_84
  · exact bd_row_ok (l := cd_85) rfl zr_85
  · exact bd_row_ok (l := cd_86) rfl zr_86
  · exact bd_row_ok (l := cd_87) rfl zr_87
  · exact bd_row_ok (l := cd_88) rfl zr_88
  · exact bd_row_ok (l := cd_89) rfl zr_89
  · exact bd_row_ok (l := cd_90) rfl zr_90
  · exact bd_row_ok (l := cd_91) rfl zr_91
  · exact bd_row_ok (l := cd_92) rfl zr_92
  · exact bd_row_ok (l := cd_93) rfl zr_93
  · exact bd_row_ok (l := cd_94) rfl zr_94
  · exact bd_row_ok (l := cd_95) rfl zr_95
  · exact bd_row_ok (l := cd_96) rfl zr_96
  · exact bd_row_ok (l := cd_97) rfl zr_97
  · exact bd_row_ok (l := cd_98) rfl zr_98
  · exact bd_row_ok (l := cd_99) rfl zr_99
set_option maxRecDepth 100000 in
theorem zg_5 (mi : Nat) (h1 : mi / 20 = 5) : ∀ pc raw res, fe mi pc = some (raw, res) → bd_ok mi pc raw res := by
  rcases (show mi = 100 ∨ mi = 101 ∨ mi = 102 ∨ mi = 103 ∨ mi = 104 ∨ mi = 105 ∨ mi = 106 ∨ mi = 107 ∨ mi = 108 ∨ mi = 109 ∨ mi = 110 ∨ mi = 111 ∨ mi = 112 ∨ mi = 113 ∨ mi = 114 ∨ mi = 115 ∨ mi = 116 ∨ mi = 117 ∨ mi = 118 ∨ mi = 119 by omega) with z | z | z | z | z | z | z | z | z | z | z | z | z | z | z | z | z | z | z | z <;> subst z
  · exact bd_row_ok (l := cd_100) rfl zr_100
  · exact bd_row_ok (l := cd_101) rfl zr_101
  · exact bd_row_ok (l := cd_102) rfl zr_102
  · exact bd_row_ok (l := cd_103) rfl zr_103
  · exact bd_row_ok (l := cd_104) rfl zr_104
  · exact bd_row_ok (l := cd_105) rfl zr_105
  · exact bd_row_ok (l := cd_106) rfl zr_106
  · exact bd_row_ok (l := cd_107) rfl zr_107
  · exact bd_row_ok (l := cd_108) rfl zr_108
  · exact bd_row_ok (l := cd_109) rfl zr_109
  · exact bd_row_ok (l := cd_110) rfl zr_110
  · exact bd_row_ok (l := cd_111) rfl zr_111
  · exact bd_row_ok (l := cd_112) rfl zr_112
  · exact bd_row_ok (l := cd_113) rfl zr_113
  · exact bd_row_ok (l := cd_114) rfl zr_114
  · exact bd_row_ok (l := cd_115) rfl zr_115
  · exact bd_row_ok (l := cd_116) rfl zr_116
  · exact bd_row_ok (l := cd_117) rfl zr_117
  · exact bd_row_ok (l := cd_118) rfl zr_118
  · exact bd_row_ok (l := cd_119) rfl zr_119
set_option maxRecDepth 100000 in
theorem zg_6 (mi : Nat) (h1 : mi / 20 = 6) : ∀ pc raw res, fe mi pc = some (raw, res) → bd_ok mi pc raw res := by
  rcases (show mi = 120 ∨ mi = 121 ∨ mi = 122 ∨ mi = 123 ∨ mi = 124 ∨ mi = 125 ∨ mi = 126 ∨ mi = 127 ∨ mi = 128 ∨ mi = 129 ∨ mi = 130 ∨ mi = 131 ∨ mi = 132 ∨ mi = 133 ∨ mi = 134 ∨ mi = 135 ∨ mi = 136 ∨ mi = 137 ∨ mi = 138 ∨ mi = 139 by omega) with z | z | z | z | z | z | z | z | z | z | z | z | z | z | z | z | z | z | z | z <;> subst z
  · exact bd_row_ok (l := cd_120) rfl zr_120
  · exact bd_row_ok (l := cd_121) rfl zr_121
  · exact bd_row_ok (l := cd_122) rfl zr_122
  · exact bd_row_ok (l := cd_123) rfl zr_123
  · exact bd_row_ok (l := cd_124) rfl zr_124
  · exact bd_row_ok (l := cd_125) rfl zr_125
  · exact bd_row_ok (l := cd_126) rfl zr_126
  · exact bd_row_ok (l := cd_127) rfl zr_127
  · exact bd_row_ok (l := cd_128) rfl zr_128
  · exact bd_row_ok (l := cd_129) rfl zr_129
  · exact bd_row_ok (l := cd_130) rfl zr_130
  · exact bd_row_ok (l := cd_131) rfl zr_131
  · exact bd_row_ok (l := cd_132) rfl zr_132
  · exact bd_row_ok (l := cd_133) rfl zr_133
  · exact bd_row_ok (l := cd_134) rfl zr_134
  · exact bd_row_ok (l := cd_135) rfl zr_135
  · exact bd_row_ok (l := cd_136) rfl zr_136
  · exact bd_row_ok (l := cd_137) rfl zr_137
  · exact bd_row_ok (l := cd_138) rfl zr_138
  · exact bd_row_ok (l := cd_139) rfl zr_139
set_option maxRecDepth 100000 in
theorem zg_7 (mi : Nat) (h1 : mi / 20 = 7) : ∀ pc raw res, fe mi pc = some (raw, res) → bd_ok mi pc raw res := by
  rcases (show mi = 140 ∨ mi = 141 ∨ mi = 142 ∨ mi = 143 ∨ mi = 144 ∨ mi = 145 ∨ mi = 146 ∨ mi = 147 ∨ mi = 148 ∨ mi = 149 ∨ mi = 150 ∨ mi = 151 ∨ mi = 152 ∨ mi = 153 ∨ mi = 154 ∨ mi = 155 ∨ mi = 156 ∨ mi = 157 ∨ mi = 158 ∨ mi = 159 by omega) with z | z | z | z | z | z | z | z | z | z | z | z | z | z | z | z | z | z | z | z <;> subst z
  · exact bd_row_ok (l := cd_140) rfl zr_140
  · exact bd_row_ok (l := cd_141) rfl zr_141
  · exact bd_row_ok (l := cd_142) rfl zr_142
  · exact bd_row_ok (l := cd_143) rfl zr_143
  · exact bd_row_ok (l := cd_144) rfl zr_144
  · exact bd_row_ok (l := cd_145) rfl zr_145
  · exact bd_row_ok (l := cd_146) rfl zr_146
  · exact bd_row_ok (l := cd_147) rfl zr_147
  · exact bd_row_ok (l := cd_148) rfl zr_148
  · exact bd_row_ok (l := cd_149) rfl zr_149
  · exact bd_row_ok (l := cd_150) rfl zr_150
  · exact bd_row_ok (l := cd_151) rfl zr_151
  · exact bd_row_ok (l := cd_152) rfl zr_152
  · exact bd_row_ok (l := cd_153) rfl zr_153
  · exact bd_row_ok (l := cd_154) rfl zr_154
  · exact bd_row_ok (l := cd_155) rfl zr_155
  · exact bd_row_ok (l := cd_156) rfl zr_156
  · exact bd_row_ok (l := cd_157) rfl zr_157
  · exact bd_row_ok (l := cd_158) rfl zr_158
  · exact bd_row_ok (l := cd_159) rfl zr_159
set_option maxRecDepth 100000 in
theorem zg_8 (mi : Nat) (h1 : mi / 20 = 8) : ∀ pc raw res, fe mi pc = some (raw, res) → bd_ok mi pc raw res := by
  rcases (show mi = 160 ∨ mi = 161 ∨ mi = 162 ∨ mi = 163 ∨ mi = 164 ∨ mi = 165 ∨ mi = 166 ∨ mi = 167 ∨ mi = 168 ∨ mi = 169 ∨ mi = 170 ∨ mi = 171 ∨ mi = 172 ∨ mi = 173 ∨ mi = 174 ∨ mi = 175 ∨ mi = 176 ∨ mi = 177 ∨ mi = 178 ∨ mi = 179 by omega) with z | z | z | z | z | z | z | z | z | z | z | z | z | z | z | z | z | z | z | z <;> subst z
  · exact bd_row_ok (l := cd_160) rfl zr_160
  · exact bd_row_ok (l := cd_161) rfl zr_161
  · exact bd_row_ok (l := cd_162) rfl zr_162
  · exact bd_row_ok (l := cd_163) rfl zr_163
  · exact bd_row_ok (l := cd_164) rfl zr_164
  · exact bd_row_ok (l := cd_165) rfl zr_165
  · exact bd_row_ok (l := cd_166) rfl zr_166
  · exact bd_row_ok (l := cd_167) rfl zr_167
  · exact bd_row_ok (l := cd_168) rfl zr_168
  · exact bd_row_ok (l := cd_169) rfl zr_169
  · exact bd_row_ok (l := cd_170) rfl zr_170
  · exact bd_row_ok (l := cd_171) rfl zr_171
  · exact bd_row_ok (l := cd_172) rfl zr_172
  · exact bd_row_ok (l := cd_173) rfl zr_173
  · exact bd_row_ok (l := cd_174) rfl zr_174
  · exact bd_row_ok (l := cd_175) rfl zr_175
  · exact bd_row_ok (l := cd_176) rfl zr_176
  · exact bd_row_ok (l := cd_177) rfl zr_177
  · exact bd_row_ok (l := cd_178) rfl zr_178
  · exact bd_row_ok (l := cd_179) rfl zr_179
set_option maxRecDepth 100000 in
theorem zg_9 (mi : Nat) (h1 : mi / 20 = 9) : ∀ pc raw res, fe mi pc = some (raw, res) → bd_ok mi pc raw res := by
  rcases (show mi = 180 ∨ mi = 181 ∨ mi = 182 ∨ mi = 183 ∨ mi = 184 ∨ mi = 185 ∨ mi = 186 ∨ mi = 187 ∨ mi = 188 ∨ mi = 189 ∨ mi = 190 ∨ mi = 191 ∨ mi = 192 ∨ mi = 193 ∨ mi = 194 ∨ mi = 195 ∨ mi = 196 ∨ mi = 197 ∨ mi = 198 ∨ mi = 199 by omega) with z | z | z | z | z | z | z | z | z | z | z | z | z | z | z | z | z | z | z | z <;> subst z
  · exact bd_row_ok (l := cd_180) rfl zr_180
  · exact bd_row_ok (l := cd_181) rfl zr_181
  · exact bd_row_ok (l := cd_182) rfl zr_182
  · exact bd_row_ok (l := cd_183) rfl zr_183
  · exact bd_row_ok (l := cd_184) rfl zr_184
  · exact bd_row_ok (l := cd_185) rfl zr_185
  · exact bd_row_ok (l := cd_186) rfl zr_186
  · exact bd_row_ok (l := cd_187) rfl zr_187
  · exact bd_row_ok (l := cd_188) rfl zr_188
  · exact bd_row_ok (l := cd_189) rfl zr_189
  · exact bd_row_ok (l := cd_190) rfl zr_190
  · exact bd_row_ok (l := cd_191) rfl zr_191
  · exact bd_row_ok (l := cd_192) rfl zr_192
  · exact bd_row_ok (l := cd_193) rfl zr_193
  · exact bd_row_ok (l := cd_194) rfl zr_194
  · exact bd_row_ok (l := cd_195) rfl zr_195
  · exact bd_row_ok (l := cd_196) rfl zr_196
  · exact bd_row_ok (l := cd_197) rfl zr_197
  · exact bd_row_ok (l := cd_198) rfl zr_198
  · exact bd_row_ok (l := cd_199) rfl zr_199
set_option maxRecDepth 100000 in
theorem zg_10 (mi : Nat) (h1 : mi / 20 = 10) : ∀ pc raw res, fe mi pc = some (raw, res) → bd_ok mi pc raw res := by
  rcases (show mi = 200 ∨ mi = 201 ∨ mi = 202 ∨ mi = 203 ∨ mi = 204 ∨ mi = 205 ∨ mi = 206 ∨ mi = 207 ∨ mi = 208 ∨ mi = 209 ∨ mi = 210 ∨ mi = 211 ∨ mi = 212 ∨ mi = 213 ∨ mi = 214 ∨ mi = 215 ∨ mi = 216 ∨ mi = 217 ∨ mi = 218 ∨ mi = 219 by omega) with z | z | z | z | z | z | z | z | z | z | z | z | z | z | z | z | z | z | z | z <;> subst z
  · exact bd_row_ok (l := cd_200) rfl zr_200
  · exact bd_row_ok (l := cd_201) rfl zr_201
  · exact bd_row_ok (l := cd_202) rfl zr_202
  · exact bd_row_ok (l := cd_203) rfl zr_203
  · exact bd_row_ok (l := cd_204) rfl zr_204
  · exact bd_row_ok (l := cd_205) rfl zr_205
  · exact bd_row_ok (l := cd_206) rfl zr_206
  · exact bd_row_ok (l := cd_207) rfl zr_207
  · exact bd_row_ok (l := cd_208) rfl zr_208
  · exact bd_row_ok (l := cd_209) rfl zr_209
  · exact bd_row_ok (l := cd_210) rfl zr_210
  · exact bd_row_ok (l := cd_211) rfl zr_211
  · exact bd_row_ok (l := cd_212) rfl zr_212
  · exact bd_row_ok (l := cd_213) rfl zr_213
  · exact bd_row_ok (l := cd_214) rfl zr_214
  · exact bd_row_ok (l := cd_215) rfl zr_215
  · exact bd_row_ok (l := cd_216) rfl zr_216
  · exact bd_row_ok (l := cd_217) rfl zr_217
  · exact bd_row_ok (l := cd_218) rfl zr_218
  · exact bd_row_ok (l := cd_219) rfl zr_219
set_option maxRecDepth 100000 in
theorem zg_11 (mi : Nat) (h1 : mi / 20 = 11) : ∀ pc raw res, fe mi pc = some (raw, res) → bd_ok mi pc raw res := by
  rcases (show mi = 220 ∨ mi = 221 ∨ mi = 222 ∨ mi = 223 ∨ mi = 224 ∨ mi = 225 ∨ mi = 226 ∨ mi = 227 ∨ mi = 228 ∨ mi = 229 ∨ mi = 230 ∨ mi = 231 ∨ mi = 232 ∨ mi = 233 ∨ mi = 234 ∨ mi = 235 ∨ mi = 236 ∨ mi = 237 ∨ mi = 238 ∨ mi = 239 by omega) with z | z | z | z | z | z | z | z | z | z | z | z | z | z | z | z | z | z | z | z <;> subst z
  · exact bd_row_ok (l := cd_220) rfl zr_220
  · exact bd_row_ok (l := cd_221) rfl zr_221
  · exact bd_row_ok (l := cd_222) rfl zr_222
  · exact bd_row_ok (l := cd_223) rfl zr_223
  · exact bd_row_ok (l := cd_224) rfl zr_224
  · exact bd_row_ok (l := cd_225) rfl zr_225
  · exact bd_row_ok (l := cd_226) rfl zr_226
  · exact bd_row_ok (l := cd_227) rfl zr_227
  · exact bd_row_ok (l := cd_228) rfl zr_228
  · exact bd_row_ok (l := cd_229) rfl zr_229
  · exact bd_row_ok (l := cd_230) rfl zr_230
  · exact bd_row_ok (l := cd_231) rfl zr_231
  · exact bd_row_ok (l := cd_232) rfl zr_232
  · exact bd_row_ok (l := cd_233) rfl zr_233
  · exact bd_row_ok (l := cd_234) rfl zr_234
  · exact bd_row_ok (l := cd_235) rfl zr_235
  · exact bd_row_ok (l := cd_236) rfl zr_236
  · exact bd_row_ok (l := cd_237) rfl zr_237
  · exact bd_row_ok (l := cd_238) rfl zr_238
  · exact bd_row_ok (l := cd_239) rfl zr_239
set_option maxRecDepth 100000 in
theorem zg_12 (mi : Nat) (h1 : mi / 20 = 12) : ∀ pc raw res, fe mi pc = some (raw, res) → bd_ok mi pc raw res := by
  rcases (show mi = 240 ∨ mi = 241 ∨ mi = 242 ∨ mi = 243 ∨ mi = 244 ∨ mi = 245 ∨ mi = 246 ∨ mi = 247 ∨ mi = 248 ∨ mi = 249 ∨ mi = 250 ∨ mi = 251 ∨ mi = 252 ∨ mi = 253 ∨ mi = 254 ∨ mi = 255 ∨ mi = 256 ∨ mi = 257 ∨ mi = 258 ∨ mi = 259 by omega) with z | z | z | z | z | z | z | z | z | z | z | z | z | z | z | z | z | z | z | z <;> subst z
  · exact bd_row_ok (l := cd_240) rfl zr_240
  · exact bd_row_ok (l := cd_241) rfl zr_241
  · exact bd_row_ok (l := cd_242) rfl zr_242
  · exact bd_row_ok (l := cd_243) rfl zr_243
  · exact bd_row_ok (l := cd_244) rfl zr_244
  · exact bd_row_ok (l := cd_245) rfl zr_245
  · exact bd_row_ok (l := cd_246) rfl zr_246
  · exact bd_row_ok (l := cd_247) rfl zr_247
  · exact bd_row_ok (l := cd_248) rfl zr_248
  · exact bd_row_ok (l := cd_249) rfl zr_249
  · exact bd_row_ok (l := cd_250) rfl zr_250
  · exact bd_row_ok (l := cd_251) rfl zr_251
  · exact bd_row_ok (l := cd_252) rfl zr_252
  · exact bd_row_ok (l := cd_253) rfl zr_253
  · exact bd_row_ok (l := cd_254) rfl zr_254
  · exact bd_row_ok (l := cd_255) rfl zr_255
  · exact bd_row_ok (l := cd_256) rfl zr_256
  · exact bd_row_ok (l := cd_257) rfl zr_257
  · exact bd_row_ok (l := cd_258) rfl zr_258
  · exact bd_row_ok (l := cd_259) rfl zr_259
set_option maxRecDepth 100000 in
theorem zg_13 (mi : Nat) (h1 : mi / 20 = 13) : ∀ pc raw res, fe mi pc = some (raw, res) → bd_ok mi pc raw res := by
  rcases (show mi = 260 ∨ mi = 261 ∨ mi = 262 ∨ mi = 263 ∨ mi = 264 ∨ mi = 265 ∨ mi = 266 ∨ mi = 267 ∨ mi = 268 ∨ mi = 269 ∨ mi = 270 ∨ mi = 271 ∨ mi = 272 ∨ mi = 273 ∨ mi = 274 ∨ mi = 275 ∨ mi = 276 ∨ mi = 277 ∨ mi = 278 ∨ mi = 279 by omega) with z | z | z | z | z | z | z | z | z | z | z | z | z | z | z | z | z | z | z | z <;> subst z
  · exact bd_row_ok (l := cd_260) rfl zr_260
  · exact bd_row_ok (l := cd_261) rfl zr_261
  · exact bd_row_ok (l := cd_262) rfl zr_262
  · exact bd_row_ok (l := cd_263) rfl zr_263
  · exact bd_row_ok (l := cd_264) rfl zr_264
  · exact bd_row_ok (l := cd_265) rfl zr_265
  · exact bd_row_ok (l := cd_266) rfl zr_266
  · exact bd_row_ok (l := cd_267) rfl zr_267
  · exact bd_row_ok (l := cd_268) rfl zr_268
  · exact bd_row_ok (l := cd_269) rfl zr_269
  · exact bd_row_ok (l := cd_270) rfl zr_270
  · exact bd_row_ok (l := cd_271) rfl zr_271
  · exact bd_row_ok (l := cd_272) rfl zr_272
  · exact bd_row_ok (l := cd_273) rfl zr_273
  · exact bd_row_ok (l := cd_274) rfl zr_274
  · exact bd_row_ok (l := cd_275) rfl zr_275
  · exact bd_row_ok (l := cd_276) rfl zr_276
  · exact bd_row_ok (l := cd_277) rfl zr_277
  · exact bd_row_ok (l := cd_278) rfl zr_278
  · exact bd_row_ok (l := cd_279) rfl zr_279
set_option maxRecDepth 100000 in
theorem zg_14 (mi : Nat) (h1 : mi / 20 = 14) : ∀ pc raw res, fe mi pc = some (raw, res) → bd_ok mi pc raw res := by
  rcases (show mi = 280 ∨ mi = 281 ∨ mi = 282 ∨ mi = 283 ∨ mi = 284 ∨ mi = 285 ∨ mi = 286 ∨ mi = 287 ∨ mi = 288 ∨ mi = 289 ∨ mi = 290 ∨ mi = 291 ∨ mi = 292 ∨ mi = 293 ∨ mi = 294 ∨ mi = 295 ∨ mi = 296 ∨ mi = 297 ∨ mi = 298 ∨ mi = 299 by omega) with z | z | z | z | z | z | z | z | z | z | z | z | z | z | z | z | z | z | z | z <;> subst z
  · exact bd_row_ok (l := cd_280) rfl zr_280
  · exact bd_row_ok (l := cd_281) rfl zr_281
  · exact bd_row_ok (l := cd_282) rfl zr_282
  · exact bd_row_ok (l := cd_283) rfl zr_283
  · exact bd_row_ok (l := cd_284) rfl zr_284
  · exact bd_row_ok (l := cd_285) rfl zr_285
  · exact bd_row_ok (l := cd_286) rfl zr_286
  · exact bd_row_ok (l := cd_287) rfl zr_287
  · exact bd_row_ok (l := cd_288) rfl zr_288
  · exact bd_row_ok (l := cd_289) rfl zr_289
  · exact bd_row_ok (l := cd_290) rfl zr_290
  · exact bd_row_ok (l := cd_291) rfl zr_291
  · exact bd_row_ok (l := cd_292) rfl zr_292
  · exact bd_row_ok (l := cd_293) rfl zr_293
  · exact bd_row_ok (l := cd_294) rfl zr_294
  · exact bd_row_ok (l := cd_295) rfl zr_295
  · exact bd_row_ok (l := cd_296) rfl zr_296
  · exact bd_row_ok (l := cd_297) rfl zr_297
  · exact bd_row_ok (l := cd_298) rfl zr_298
  · exact bd_row_ok (l := cd_299) rfl zr_299
set_option maxRecDepth 100000 in
theorem zg_15 (mi : Nat) (h1 : mi / 20 = 15) : ∀ pc raw res, fe mi pc = some (raw, res) → bd_ok mi pc raw res := by
  rcases (show mi = 300 ∨ mi = 301 ∨ mi = 302 ∨ mi = 303 ∨ mi = 304 ∨ mi = 305 ∨ mi = 306 ∨ mi = 307 ∨ mi = 308 ∨ 309 ≤ mi by omega) with z | z | z | z | z | z | z | z | z | z
  · subst z; exact bd_row_ok (l := cd_300) rfl zr_300
  · subst z; exact bd_row_ok (l := cd_301) rfl zr_301
  · subst z; exact bd_row_ok (l := cd_302) rfl zr_302
  · subst z; exact bd_row_ok (l := cd_303) rfl zr_303
  · subst z; exact bd_row_ok (l := cd_304) rfl zr_304
  · subst z; exact bd_row_ok (l := cd_305) rfl zr_305
  · subst z; exact bd_row_ok (l := cd_306) rfl zr_306
  · subst z; exact bd_row_ok (l := cd_307) rfl zr_307
  · subst z; exact bd_row_ok (l := cd_308) rfl zr_308
  · intro pc raw res hfe
    have e1 : cdM mi = [] := by
      unfold cdM
      rw [h1]
      show cdG_15.getD (mi % 20) [] = []
      rw [List.getD_eq_getElem?_getD, List.getElem?_eq_none (by show 9 ≤ mi % 20; omega)]
      rfl
    unfold fe at hfe
    rw [e1] at hfe
    cases hfe
theorem bd_AOK : ∀ mi pc raw res, fe mi pc = some (raw, res) → bd_ok mi pc raw res := by
  intro mi
  rcases (show mi / 20 = 0 ∨ mi / 20 = 1 ∨ mi / 20 = 2 ∨ mi / 20 = 3 ∨ mi / 20 = 4 ∨ mi / 20 = 5 ∨ mi / 20 = 6 ∨ mi / 20 = 7 ∨ mi / 20 = 8 ∨ mi / 20 = 9 ∨ mi / 20 = 10 ∨ mi / 20 = 11 ∨ mi / 20 = 12 ∨ mi / 20 = 13 ∨ mi / 20 = 14 ∨ mi / 20 = 15 ∨ 16 ≤ mi / 20 by omega) with z | z | z | z | z | z | z | z | z | z | z | z | z | z | z | z | z
  · exact zg_0 mi z
  · exact zg_1 mi z
  · exact zg_2 mi z
  · exact zg_3 mi z
  · exact zg_4 mi z
  · exact zg_5 mi z
  · exact zg_6 mi z
  · exact zg_7 mi z
  · exact zg_8 mi z
  · exact zg_9 mi z
  · exact zg_10 mi z
  · exact zg_11 mi z
  · exact zg_12 mi z
  · exact zg_13 mi z
  · exact zg_14 mi z
  · exact zg_15 mi z
  · intro pc raw res hfe
    have e1 : cdM mi = [] := by
      unfold cdM
      rw [List.getD_eq_getElem?_getD (l := cdA), List.getElem?_eq_none (by show 16 ≤ mi / 20; omega)]
      rfl
    unfold fe at hfe
    rw [e1] at hfe
    cases hfe
set_option maxRecDepth 100000 in
theorem zh_0 (mi : Nat) (h1 : mi / 20 = 0) (h2 : mi < 307) (h3 : mi ≠ 304) (h4 : mi ≠ 305) : bd_mok mi := by
  rcases (show mi = 0 ∨ mi = 1 ∨ mi = 2 ∨ mi = 3 ∨ mi = 4 ∨ mi = 5 ∨ mi = 6 ∨ mi = 7 ∨ mi = 8 ∨ mi = 9 ∨ mi = 10 ∨ mi = 11 ∨ mi = 12 ∨ mi = 13 ∨ mi = 14 ∨ mi = 15 ∨ mi = 16 ∨ mi = 17 ∨ mi = 18 ∨ mi = 19 by omega) with z | z | z | z | z | z | z | z | z | z | z | z | z | z | z | z | z | z | z | z <;> subst z
  · exact ⟨zm_0, tbl_in zc_0 rfl⟩
  · exact ⟨zm_1, tbl_in zc_1 rfl⟩
  · exact ⟨zm_2, tbl_in zc_2 rfl⟩
  · exact ⟨zm_3, tbl_in zc_3 rfl⟩
  · exact ⟨zm_4, tbl_in zc_4 rfl⟩
  · exact ⟨zm_5, tbl_in zc_5 rfl⟩
  · exact ⟨zm_6, tbl_in zc_6 rfl⟩
  · exact ⟨zm_7, tbl_in zc_7 rfl⟩
  · exact ⟨zm_8, tbl_in zc_8 rfl⟩
  · exact ⟨zm_9, tbl_in zc_9 rfl⟩
  · exact ⟨zm_10, tbl_in zc_10 rfl⟩
  · exact ⟨zm_11, tbl_in zc_11 rfl⟩
  · exact ⟨zm_12, tbl_in zc_12 rfl⟩
  · exact ⟨zm_13, tbl_in zc_13 rfl⟩
  · exact ⟨zm_14, tbl_in zc_14 rfl⟩
  · exact ⟨zm_15, tbl_in zc_15 rfl⟩
  · exact ⟨zm_16, tbl_in zc_16 rfl⟩
  · exact ⟨zm_17, tbl_in zc_17 rfl⟩
  · exact ⟨zm_18, tbl_in zc_18 rfl⟩
  · exact ⟨zm_19, tbl_in zc_19 rfl⟩
set_option maxRecDepth 100000 in
theorem zh_1 (mi : Nat) (h1 : mi / 20 = 1) (h2 : mi < 307) (h3 : mi ≠ 304) (h4 : mi ≠ 305) : bd_mok mi := by
  rcases (show mi = 20 ∨ mi = 21 ∨ mi = 22 ∨ mi = 23 ∨ mi = 24 ∨ mi = 25 ∨ mi = 26 ∨ mi = 27 ∨ mi = 28 ∨ mi = 29 ∨ mi = 30 ∨ mi = 31 ∨ mi = 32 ∨ mi = 33 ∨ mi = 34 ∨ mi = 35 ∨ mi = 36 ∨ mi = 37 ∨ mi = 38 ∨ mi = 39 by omega) with z | z | z | z | z | z | z | z | z | z | z | z | z | z | z | z | z | z | z | z <;> subst z
  · exact ⟨zm_20, tbl_in zc_20 rfl⟩
  · exact ⟨zm_21, tbl_in zc_21 rfl⟩
  · exact ⟨zm_22, tbl_in zc_22 rfl⟩
  · exact ⟨zm_23, tbl_in zc_23 rfl⟩
  · exact ⟨zm_24, tbl_in zc_24 rfl⟩
  · exact ⟨zm_25, tbl_in zc_25 rfl⟩
  · exact ⟨zm_26, tbl_in zc_26 rfl⟩
  · exact ⟨zm_27, tbl_in zc_27 rfl⟩
  · exact ⟨zm_28, tbl_in zc_28 rfl⟩
  · exact ⟨zm_29, tbl_in zc_29 rfl⟩
  · exact ⟨zm_30, tbl_in zc_30 rfl⟩
  · exact ⟨zm_31, tbl_in zc_31 rfl⟩
  · exact ⟨zm_32, tbl_in zc_32 rfl⟩
  · exact ⟨zm_33, tbl_in zc_33 rfl⟩
  · exact ⟨zm_34, tbl_in zc_34 rfl⟩
  · exact ⟨zm_35, tbl_in zc_35 rfl⟩
  · exact ⟨zm_36, tbl_in zc_36 rfl⟩
  · exact ⟨zm_37, tbl_in zc_37 rfl⟩
  · exact ⟨zm_38, tbl_in zc_38 rfl⟩
  · exact ⟨zm_39, tbl_in zc_39 rfl⟩
set_option maxRecDepth 100000 in
theorem zh_2 (mi : Nat) (h1 : mi / 20 = 2) (h2 : mi < 307) (h3 : mi ≠ 304) (h4 : mi ≠ 305) : bd_mok mi := by
  rcases (show mi = 40 ∨ mi = 41 ∨ mi = 42 ∨ mi = 43 ∨ mi = 44 ∨ mi = 45 ∨ mi = 46 ∨ mi = 47 ∨ mi = 48 ∨ mi = 49 ∨ mi = 50 ∨ mi = 51 ∨ mi = 52 ∨ mi = 53 ∨ mi = 54 ∨ mi = 55 ∨ mi = 56 ∨ mi = 57 ∨ mi = 58 ∨ mi = 59 by omega) with z | z | z | z | z | z | z | z | z | z | z | z | z | z | z | z | z | z | z | z <;> subst z
  · exact ⟨zm_40, tbl_in zc_40 rfl⟩
  · exact ⟨zm_41, tbl_in zc_41 rfl⟩
  · exact ⟨zm_42, tbl_in zc_42 rfl⟩
  · exact ⟨zm_43, tbl_in zc_43 rfl⟩
  · exact ⟨zm_44, tbl_in zc_44 rfl⟩
  · exact ⟨zm_45, tbl_in zc_45 rfl⟩
  · exact ⟨zm_46, tbl_in zc_46 rfl⟩
  · exact ⟨zm_47, tbl_in zc_47 rfl⟩
  · exact ⟨zm_48, tbl_in zc_48 rfl⟩
  · exact ⟨zm_49, tbl_in zc_49 rfl⟩
  · exact ⟨zm_50, tbl_in zc_50 rfl⟩
  · exact ⟨zm_51, tbl_in zc_51 rfl⟩
  · exact ⟨zm_52, tbl_in zc_52 rfl⟩
  · exact ⟨zm_53, tbl_in zc_53 rfl⟩
  · exact ⟨zm_54, tbl_in zc_54 rfl⟩
  · exact ⟨zm_55, tbl_in zc_55 rfl⟩
  · exact ⟨zm_56, tbl_in zc_56 rfl⟩
  · exact ⟨zm_57, tbl_in zc_57 rfl⟩
  · exact ⟨zm_58, tbl_in zc_58 rfl⟩
  · exact ⟨zm_59, tbl_in zc_59 rfl⟩
set_option maxRecDepth 100000 in
theorem zh_3 (mi : Nat) (h1 : mi / 20 = 3) (h2 : mi < 307) (h3 : mi ≠ 304) (h4 : mi ≠ 305) : bd_mok mi := by
  rcases (show mi = 60 ∨ mi = 61 ∨ mi = 62 ∨ mi = 63 ∨ mi = 64 ∨ mi = 65 ∨ mi = 66 ∨ mi = 67 ∨ mi = 68 ∨ mi = 69 ∨ mi = 70 ∨ mi = 71 ∨ mi = 72 ∨ mi = 73 ∨ mi = 74 ∨ mi = 75 ∨ mi = 76 ∨ mi = 77 ∨ mi = 78 ∨ mi = 79 by omega) with z | z | z | z | z | z | z | z | z | z | z | z | z | z | z | z | z | z | z | z <;> subst z
  · exact ⟨zm_60, tbl_in zc_60 rfl⟩
  · exact ⟨zm_61, tbl_in zc_61 rfl⟩
  · exact ⟨zm_62, tbl_in zc_62 rfl⟩
  · exact ⟨zm_63, tbl_in zc_63 rfl⟩
  · exact ⟨zm_64, tbl_in zc_64 rfl⟩
  · exact ⟨zm_65, tbl_in zc_65 rfl⟩
  · exact ⟨zm_66, tbl_in zc_66 rfl⟩
  · exact ⟨zm_67, tbl_in zc_67 rfl⟩
  · exact ⟨zm_68, tbl_in zc_68 rfl⟩
  · exact ⟨zm_69, tbl_in zc_69 rfl⟩
  · exact ⟨zm_70, tbl_in zc_70 rfl⟩
  · exact ⟨zm_71, tbl_in zc_71 rfl⟩
  · exact ⟨zm_72, tbl_in zc_72 rfl⟩
  · exact ⟨zm_73, tbl_in zc_73 rfl⟩
  · exact ⟨zm_74, tbl_in zc_74 rfl⟩
  · exact ⟨zm_75, tbl_in zc_75 rfl⟩
  · exact ⟨zm_76, tbl_in zc_76 rfl⟩
  · exact ⟨zm_77, tbl_in zc_77 rfl⟩
  · exact ⟨zm_78, tbl_in zc_78 rfl⟩
  · exact ⟨zm_79, tbl_in zc_79 rfl⟩
set_option maxRecDepth 100000 in
theorem zh_4 (mi : Nat) (h1 : mi / 20 = 4) (h2 : mi < 307) (h3 : mi ≠ 304) (h4 : mi ≠ 305) : bd_mok mi := by
  rcases (show mi = 80 ∨ mi = 81 ∨ mi = 82 ∨ mi = 83 ∨ mi = 84 ∨ mi = 85 ∨ mi = 86 ∨ mi = 87 ∨ mi = 88 ∨ mi = 89 ∨ mi = 90 ∨ mi = 91 ∨ mi = 92 ∨ mi = 93 ∨ mi = 94 ∨ mi = 95 ∨ mi = 96 ∨ mi = 97 ∨ mi = 98 ∨ mi = 99 by omega) with z | z | z | z | z | z | z | z | z | z | z | z | z | z | z | z | z | z | z | z <;> subst z
  · exact ⟨zm_80, tbl_in zc_80 rfl⟩
  · exact ⟨zm_81, tbl_in zc_81 rfl⟩
  · exact ⟨zm_82, tbl_in zc_82 rfl⟩
  · exact ⟨zm_83, tbl_in zc_83 rfl⟩
  · exact ⟨zm_84, tbl_in zc_84 rfl⟩
  · exact ⟨zm_85, tbl_in zc_85 rfl⟩
  · exact ⟨zm_86, tbl_in zc_86 rfl⟩
  · exact ⟨zm_87, tbl_in zc_87 rfl⟩
  · exact ⟨zm_88, tbl_in zc_88 rfl⟩
  · exact ⟨zm_89, tbl_in zc_89 rfl⟩
  · exact ⟨zm_90, tbl_in zc_90 rfl⟩
  · exact ⟨zm_91, tbl_in zc_91 rfl⟩
  · exact ⟨zm_92, tbl_in zc_92 rfl⟩
  · exact ⟨zm_93, tbl_in zc_93 rfl⟩
  · exact ⟨zm_94, tbl_in zc_94 rfl⟩
  · exact ⟨zm_95, tbl_in zc_95 rfl⟩
  · exact ⟨zm_96, tbl_in zc_96 rfl⟩
  · exact ⟨zm_97, tbl_in zc_97 rfl⟩
  · exact ⟨zm_98, tbl_in zc_98 rfl⟩
  · exact ⟨zm_99, tbl_in zc_99 rfl⟩
set_option maxRecDepth 100000 in
theorem zh_5 (mi : Nat) (h1 : mi / 20 = 5) (h2 : mi < 307) (h3 : mi ≠ 304) (h4 : mi ≠ 305) : bd_mok mi := by
  rcases (show mi = 100 ∨ mi = 101 ∨ mi = 102 ∨ mi = 103 ∨ mi = 104 ∨ mi = 105 ∨ mi = 106 ∨ mi = 107 ∨ mi = 108 ∨ mi = 109 ∨ mi = 110 ∨ mi = 111 ∨ mi = 112 ∨ mi = 113 ∨ mi = 114 ∨ mi = 115 ∨ mi = 116 ∨ mi = 117 ∨ mi = 118 ∨ mi = 119 by omega) with z | z | z | z | z | z | z | z | z | z | z | z | z | z | z | z | z | z | z | z <;> subst z
  · exact ⟨zm_100, tbl_in zc_100 rfl⟩
  · exact ⟨zm_101, tbl_in zc_101 rfl⟩
  · exact ⟨zm_102, tbl_in zc_102 rfl⟩
  · exact ⟨zm_103, tbl_in zc_103 rfl⟩
  · exact ⟨zm_104, tbl_in zc_104 rfl⟩
  · exact ⟨zm_105, tbl_in zc_105 rfl⟩
  · exact ⟨zm_106, tbl_in zc_106 rfl⟩
  · exact ⟨zm_107, tbl_in zc_107 rfl⟩
  · exact ⟨zm_108, tbl_in zc_108 rfl⟩
  · exact ⟨zm_109, tbl_in zc_109 rfl⟩
  · exact ⟨zm_110, tbl_in zc_110 rfl⟩
  · exact ⟨zm_111, tbl_in zc_111 rfl⟩
  · exact ⟨zm_112, tbl_in zc_112 rfl⟩
  · exact ⟨zm_113, tbl_in zc_113 rfl⟩
  · exact ⟨zm_114, tbl_in zc_114 rfl⟩
  · exact ⟨zm_115, tbl_in zc_115 rfl⟩
  · exact ⟨zm_116, tbl_in zc_116 rfl⟩
  · exact ⟨zm_117, tbl_in zc_117 rfl⟩
  · exact ⟨zm_118, tbl_in zc_118 rfl⟩
  · exact ⟨zm_119, tbl_in zc_119 rfl⟩
set_option maxRecDepth 100000 in
theorem zh_6 (mi : Nat) (h1 : mi / 20 = 6) (h2 : mi < 307) (h3 : mi ≠ 304) (h4 : mi ≠ 305) : bd_mok mi := by
  rcases (show mi = 120 ∨ mi = 121 ∨ mi = 122 ∨ mi = 123 ∨ mi = 124 ∨ mi = 125 ∨ mi = 126 ∨ mi = 127 ∨ mi = 128 ∨ mi = 129 ∨ mi = 130 ∨ mi = 131 ∨ mi = 132 ∨ mi = 133 ∨ mi = 134 ∨ mi = 135 ∨ mi = 136 ∨ mi = 137 ∨ mi = 138 ∨ mi = 139 by omega) with z | z | z | z | z | z | z | z | z | z | z | z | z | z | z | z | z | z | z | z <;> subst z
  · exact ⟨zm_120, tbl_in zc_120 rfl⟩
  · exact ⟨zm_121, tbl_in zc_121 rfl⟩
  · exact ⟨zm_122, tbl_in zc_122 rfl⟩
  · exact ⟨zm_123, tbl_in zc_123 rfl⟩
  · exact ⟨zm_124, tbl_in zc_124 rfl⟩
  · exact ⟨zm_125, tbl_in zc_125 rfl⟩
  · exact ⟨zm_126, tbl_in zc_126 rfl⟩
  · exact ⟨zm_127, tbl_in zc_127 rfl⟩
  · exact ⟨zm_128, tbl_in zc_128 rfl⟩
  · exact ⟨zm_129, tbl_in zc_129 rfl⟩
  · exact ⟨zm_130, tbl_in zc_130 rfl⟩
  · exact ⟨zm_131, tbl_in zc_131 rfl⟩
  · exact ⟨zm_132, tbl_in zc_132 rfl⟩
  · exact ⟨zm_133, tbl_in zc_133 rfl⟩
  · exact ⟨zm_134, tbl_in zc_134 rfl⟩
  · exact ⟨zm_135, tbl_in zc_135 rfl⟩
  · exact ⟨zm_136, tbl_in zc_136 rfl⟩
  · exact ⟨zm_137, tbl_in zc_137 rfl⟩
  · exact ⟨zm_138, tbl_in zc_138 rfl⟩
  · exact ⟨zm_139, tbl_in zc_139 rfl⟩
set_option maxRecDepth 100000 in
theorem zh_7 (mi : Nat) (h1 : mi / 20 = 7) (h2 : mi < 307) (h3 : mi ≠ 304) (h4 : mi ≠ 305) : bd_mok mi := by
  rcases (show mi = 140 ∨ mi = 141 ∨ mi = 142 ∨ mi = 143 ∨ mi = 144 ∨ mi = 145 ∨ mi = 146 ∨ mi = 147 ∨ mi = 148 ∨ mi = 149 ∨ mi = 150 ∨ mi = 151 ∨ mi = 152 ∨ mi = 153 ∨ mi = 154 ∨ mi = 155 ∨ mi = 156 ∨ mi = 157 ∨ mi = 158 ∨ mi = 159 by omega) with z | z | z | z | z | z | z | z | z | z | z | z | z | z | z | z | z | z | z | z <;> subst z
  · exact ⟨zm_140, tbl_in zc_140 rfl⟩
  · exact ⟨zm_141, tbl_in zc_141 rfl⟩
  · exact ⟨zm_142, tbl_in zc_142 rfl⟩
  · exact ⟨zm_143, tbl_in zc_143 rfl⟩
  · exact ⟨zm_144, tbl_in zc_144 rfl⟩
  · exact ⟨zm_145, tbl_in zc_145 rfl⟩
  · exact ⟨zm_146, tbl_in zc_146 rfl⟩
  · exact ⟨zm_147, tbl_in zc_147 rfl⟩
  · exact ⟨zm_148, tbl_in zc_148 rfl⟩
  · exact ⟨zm_149, tbl_in zc_149 rfl⟩
  · exact ⟨zm_150, tbl_in zc_150 rfl⟩
  · exact ⟨zm_151, tbl_in zc_151 rfl⟩
  · exact ⟨zm_152, tbl_in zc_152 rfl⟩
  · exact ⟨zm_153, tbl_in zc_153 rfl⟩
  · exact ⟨zm_154, tbl_in zc_154 rfl⟩
  · exact ⟨zm_155, tbl_in zc_155 rfl⟩
  · exact ⟨zm_156, tbl_in zc_156 rfl⟩
  · exact ⟨zm_157, tbl_in zc_157 rfl⟩
  · exact ⟨zm_158, tbl_in zc_158 rfl⟩
  · exact ⟨zm_159, tbl_in zc_159 rfl⟩
set_option maxRecDepth 100000 in
theorem zh_8 (mi : Nat) (h1 : mi / 20 = 8) (h2 : mi < 307) (h3 : mi ≠ 304) (h4 : mi ≠ 305) : bd_mok mi := by
  rcases (show mi = 160 ∨ mi = 161 ∨ mi = 162 ∨ mi = 163 ∨ mi = 164 ∨ mi = 165 ∨ mi = 166 ∨ mi = 167 ∨ mi = 168 ∨ mi = 169 ∨ mi = 170 ∨ mi = 171 ∨ mi = 172 ∨ mi = 173 ∨ mi = 174 ∨ mi = 175 ∨ mi = 176 ∨ mi = 177 ∨ mi = 178 ∨ mi = 179 by omega) with z | z | z | z | z | z | z | z | z | z | z | z | z | z | z | z | z | z | z | z <;> subst z
  · exact ⟨zm_160, tbl_in zc_160 rfl⟩
  · exact ⟨zm_161, tbl_in zc_161 rfl⟩
  · exact ⟨zm_162, tbl_in zc_162 rfl⟩
  · exact ⟨zm_163, tbl_in zc_163 rfl⟩
  · exact ⟨zm_164, tbl_in zc_164 rfl⟩
  · exact ⟨zm_165, tbl_in zc_165 rfl⟩
  · exact ⟨zm_166, tbl_in zc_166 rfl⟩
  · exact ⟨zm_167, tbl_in zc_167 rfl⟩
  · exact ⟨zm_168, tbl_in zc_168 rfl⟩
  · exact ⟨zm_169, tbl_in zc_169 rfl⟩
  · exact ⟨zm_170, tbl_in zc_170 rfl⟩
  · exact ⟨zm_171, tbl_in zc_171 rfl⟩
  · exact ⟨zm_172, tbl_in zc_172 rfl⟩
  · exact ⟨zm_173, tbl_in zc_173 rfl⟩
  · exact ⟨zm_174, tbl_in zc_174 rfl⟩
  · exact ⟨zm_175, tbl_in zc_175 rfl⟩
  · exact ⟨zm_176, tbl_in zc_176 rfl⟩
  · exact ⟨zm_177, tbl_in zc_177 rfl⟩
  · exact ⟨zm_178, tbl_in zc_178 rfl⟩
  · exact ⟨zm_179, tbl_in zc_179 rfl⟩
set_option maxRecDepth 100000 in
theorem zh_9 (mi : Nat) (h1 : mi / 20 = 9) (h2 : mi < 307) (h3 : mi ≠ 304) (h4 : mi ≠ 305) : bd_mok mi := by
  rcases (show mi = 180 ∨ mi = 181 ∨ mi = 182 ∨ mi = 183 ∨ mi = 184 ∨ mi = 185 ∨ mi = 186 ∨ mi = 187 ∨ mi = 188 ∨ mi = 189 ∨ mi = 190 ∨ mi = 191 ∨ mi = 192 ∨ mi = 193 ∨ mi = 194 ∨ mi = 195 ∨ mi = 196 ∨ mi = 197 ∨ mi = 198 ∨ mi = 199 by omega) with z | z | z | z | z | z | z | z | z | z | z | z | z | z | z | z | z | z | z | z <;> subst z
  · exact ⟨zm_180, tbl_in zc_180 rfl⟩
  · exact ⟨zm_181, tbl_in zc_181 rfl⟩
  · exact ⟨zm_182, tbl_in zc_182 rfl⟩
  · exact ⟨zm_183, tbl_in zc_183 rfl⟩
  · exact ⟨zm_184, tbl_in zc_184 rfl⟩
  · exact ⟨zm_185, tbl_in zc_185 rfl⟩
  · exact ⟨zm_186, tbl_in zc_186 rfl⟩
  · exact ⟨zm_187, tbl_in zc_187 rfl⟩
  · exact ⟨zm_188, tbl_in zc_188 rfl⟩
  · exact ⟨zm_189, tbl_in zc_189 rfl⟩
  · exact ⟨zm_190, tbl_in zc_190 rfl⟩
  · exact ⟨zm_191, tbl_in zc_191 rfl⟩
  · exact ⟨zm_192, tbl_in zc_192 rfl⟩
  · exact ⟨zm_193, tbl_in zc_193 rfl⟩
  · exact ⟨zm_194, tbl_in zc_194 rfl⟩
  · exact ⟨zm_195, tbl_in zc_195 rfl⟩
  · exact ⟨zm_196, tbl_in zc_196 rfl⟩
  · exact ⟨zm_197, tbl_in zc_197 rfl⟩
  · exact ⟨zm_198, tbl_in zc_198 rfl⟩
  · exact ⟨zm_199, tbl_in zc_199 rfl⟩
set_option maxRecDepth 100000 in
theorem zh_10 (mi : Nat) (h1 : mi / 20 = 10) (h2 : mi < 307) (h3 : mi ≠ 304) (h4 : mi ≠ 305) : bd_mok mi := by
  rcases (show mi = 200 ∨ mi = 201 ∨ mi = 202 ∨ mi = 203 ∨ mi = 204 ∨ mi = 205 ∨ mi = 206 ∨ mi = 207 ∨ mi = 208 ∨ mi = 209 ∨ mi = 210 ∨ mi = 211 ∨ mi = 212 ∨ mi = 213 ∨ mi = 214 ∨ mi = 215 ∨ mi = 216 ∨ mi = 217 ∨ mi = 218 ∨ mi = 219 by omega) with z | z | z | z | z | z | z | z | z | z | z | z | z | z | z | z | z | z | z | z <;> subst z
  · exact ⟨zm_200, tbl_in zc_200 rfl⟩
  · exact ⟨zm_201, tbl_in zc_201 rfl⟩
  · exact ⟨zm_202, tbl_in zc_202 rfl⟩
  · exact ⟨zm_203, tbl_in zc_203 rfl⟩
  · exact ⟨zm_204, tbl_in zc_204 rfl⟩
  · exact ⟨zm_205, tbl_in zc_205 rfl⟩
  · exact ⟨zm_206, tbl_in zc_206 rfl⟩
  · exact ⟨zm_207, tbl_in zc_207 rfl⟩
  · exact ⟨zm_208, tbl_in zc_208 rfl⟩
  · exact ⟨zm_209, tbl_in zc_209 rfl⟩
  · exact ⟨zm_210, tbl_in zc_210 rfl⟩
  · exact ⟨zm_211, tbl_in zc_211 rfl⟩
  · exact ⟨zm_212, tbl_in zc_212 rfl⟩
  · exact ⟨zm_213, tbl_in zc_213 rfl⟩
  · exact ⟨zm_214, tbl_in zc_214 rfl⟩
  · exact ⟨zm_215, tbl_in zc_215 rfl⟩
  · exact ⟨zm_216, tbl_in zc_216 rfl⟩
  · exact ⟨zm_217, tbl_in zc_217 rfl⟩
  · exact ⟨zm_218, tbl_in zc_218 rfl⟩
  · exact ⟨zm_219, tbl_in zc_219 rfl⟩
set_option maxRecDepth 100000 in
theorem zh_11 (mi : Nat) (h1 : mi / 20 = 11) (h2 : mi < 307) (h3 : mi ≠ 304) (h4 : mi ≠ 305) : bd_mok mi := by
  rcases (show mi = 220 ∨ mi = 221 ∨ mi = 222 ∨ mi = 223 ∨ mi = 224 ∨ mi = 225 ∨ mi = 226 ∨ mi = 227 ∨ mi = 228 ∨ mi = 229 ∨ mi = 230 ∨ mi = 231 ∨ mi = 232 ∨ mi = 233 ∨ mi = 234 ∨ mi = 235 ∨ mi = 236 ∨ mi = 237 ∨ mi = 238 ∨ mi = 239 by omega) with z | z | z | z | z | z | z | z | z | z | z | z | z | z | z | z | z | z | z | z <;> subst z
  · exact ⟨zm_220, tbl_in zc_220 rfl⟩
  · exact ⟨zm_221, tbl_in zc_221 rfl⟩
  · exact ⟨zm_222, tbl_in zc_222 rfl⟩
  · exact ⟨zm_223, tbl_in zc_223 rfl⟩
  · exact ⟨zm_224, tbl_in zc_224 rfl⟩
  · exact ⟨zm_225, tbl_in zc_225 rfl⟩
  · exact ⟨zm_226, tbl_in zc_226 rfl⟩
  · exact ⟨zm_227, tbl_in zc_227 rfl⟩
  · exact ⟨zm_228, tbl_in zc_228 rfl⟩
  · exact ⟨zm_229, tbl_in zc_229 rfl⟩
  · exact ⟨zm_230, tbl_in zc_230 rfl⟩
  · exact ⟨zm_231, tbl_in zc_231 rfl⟩
  · exact ⟨zm_232, tbl_in zc_232 rfl⟩
  · exact ⟨zm_233, tbl_in zc_233 rfl⟩
  · exact ⟨zm_234, tbl_in zc_234 rfl⟩
  · exact ⟨zm_235, tbl_in zc_235 rfl⟩
  · exact ⟨zm_236, tbl_in zc_236 rfl⟩
  · exact ⟨zm_237, tbl_in zc_237 rfl⟩
  · exact ⟨zm_238, tbl_in zc_238 rfl⟩
  · exact ⟨zm_239, tbl_in zc_239 rfl⟩
set_option maxRecDepth 100000 in
theorem zh_12 (mi : Nat) (h1 : mi / 20 = 12) (h2 : mi < 307) (h3 : mi ≠ 304) (h4 : mi ≠ 305) : bd_mok mi := by
  rcases (show mi = 240 ∨ mi = 241 ∨ mi = 242 ∨ mi = 243 ∨ mi = 244 ∨ mi = 245 ∨ mi = 246 ∨ mi = 247 ∨ mi = 248 ∨ mi = 249 ∨ mi = 250 ∨ mi = 251 ∨ mi = 252 ∨ mi = 253 ∨ mi = 254 ∨ mi = 255 ∨ mi = 256 ∨ mi = 257 ∨ mi = 258 ∨ mi = 259 by omega) with z | z | z | z | z | z | z | z | z | z | z | z | z | z | z | z | z | z | z | z <;> subst z
  · exact ⟨zm_240, tbl_in zc_240 rfl⟩
  · exact ⟨zm_241, tbl_in zc_241 rfl⟩
  · exact ⟨zm_242, tbl_in zc_242 rfl⟩
  · exact ⟨zm_243, tbl_in zc_243 rfl⟩
  · exact ⟨zm_244, tbl_in zc_244 rfl⟩
  · exact ⟨zm_245, tbl_in zc_245 rfl⟩
  · exact ⟨zm_246, tbl_in zc_246 rfl⟩
  · exact ⟨zm_247, tbl_in zc_247 rfl⟩
  · exact ⟨zm_248, tbl_in zc_248 rfl⟩
  · exact ⟨zm_249, tbl_in zc_249 rfl⟩
  · exact ⟨zm_250, tbl_in zc_250 rfl⟩
  · exact ⟨zm_251, tbl_in zc_251 rfl⟩
  · exact ⟨zm_252, tbl_in zc_252 rfl⟩
  · exact ⟨zm_253, tbl_in zc_253 rfl⟩
  · exact ⟨zm_254, tbl_in zc_254 rfl⟩
  · exact ⟨zm_255, tbl_in zc_255 rfl⟩
  · exact ⟨zm_256, tbl_in zc_256 rfl⟩
  · exact ⟨zm_257, tbl_in zc_257 rfl⟩
  · exact ⟨zm_258, tbl_in zc_258 rfl⟩
  · exact ⟨zm_259, tbl_in zc_259 rfl⟩
set_option maxRecDepth 100000 in
theorem zh_13 (mi : Nat) (h1 : mi / 20 = 13) (h2 : mi < 307) (h3 : mi ≠ 304) (h4 : mi ≠ 305) : bd_mok mi := by
  rcases (show mi = 260 ∨ mi = 261 ∨ mi = 262 ∨ mi = 263 ∨ mi = 264 ∨ mi = 265 ∨ mi = 266 ∨ mi = 267 ∨ mi = 268 ∨ mi = 269 ∨ mi = 270 ∨ mi = 271 ∨ mi = 272 ∨ mi = 273 ∨ mi = 274 ∨ mi = 275 ∨ mi = 276 ∨ mi = 277 ∨ mi = 278 ∨ mi = 279 by omega) with z | z | z | z | z | z | z | z | z | z | z | z | z | z | z | z | z | z | z | z <;> subst z
  · exact ⟨zm_260, tbl_in zc_260 rfl⟩
  · exact ⟨zm_261, tbl_in zc_261 rfl⟩
  · exact ⟨zm_262, tbl_in zc_262 rfl⟩
  · exact ⟨zm_263, tbl_in zc_263 rfl⟩
  · exact ⟨zm_264, tbl_in zc_264 rfl⟩
  · exact ⟨zm_265, tbl_in zc_265 rfl⟩
  · exact ⟨zm_266, tbl_in zc_266 rfl⟩
  · exact ⟨zm_267, tbl_in zc_267 rfl⟩
  · exact ⟨zm_268, tbl_in zc_268 rfl⟩
  · exact ⟨zm_269, tbl_in zc_269 rfl⟩
  · exact ⟨zm_270, tbl_in zc_270 rfl⟩
  · exact ⟨zm_271, tbl_in zc_271 rfl⟩
  · exact ⟨zm_272, tbl_in zc_272 rfl⟩
  · exact ⟨zm_273, tbl_in zc_273 rfl⟩
  · exact ⟨zm_274, tbl_in zc_274 rfl⟩
  · exact ⟨zm_275, tbl_in zc_275 rfl⟩
  · exact ⟨zm_276, tbl_in zc_276 rfl⟩
  · exact ⟨zm_277, tbl_in zc_277 rfl⟩
  · exact ⟨zm_278, tbl_in zc_278 rfl⟩
  · exact ⟨zm_279, tbl_in zc_279 rfl⟩
set_option maxRecDepth 100000 in
theorem zh_14 (mi : Nat) (h1 : mi / 20 = 14) (h2 : mi < 307) (h3 : mi ≠ 304) (h4 : mi ≠ 305) : bd_mok mi := by
  rcases (show mi = 280 ∨ mi = 281 ∨ mi = 282 ∨ mi = 283 ∨ mi = 284 ∨ mi = 285 ∨ mi = 286 ∨ mi = 287 ∨ mi = 288 ∨ mi = 289 ∨ mi = 290 ∨ mi = 291 ∨ mi = 292 ∨ mi = 293 ∨ mi = 294 ∨ mi = 295 ∨ mi = 296 ∨ mi = 297 ∨ mi = 298 ∨ mi = 299 by omega) with z | z | z | z | z | z | z | z | z | z | z | z | z | z | z | z | z | z | z | z <;> subst z
  · exact ⟨zm_280, tbl_in zc_280 rfl⟩
  · exact ⟨zm_281, tbl_in zc_281 rfl⟩
  · exact ⟨zm_282, tbl_in zc_282 rfl⟩
  · exact ⟨zm_283, tbl_in zc_283 rfl⟩
  · exact ⟨zm_284, tbl_in zc_284 rfl⟩
  · exact ⟨zm_285, tbl_in zc_285 rfl⟩
  · exact ⟨zm_286, tbl_in zc_286 rfl⟩
  · exact ⟨zm_287, tbl_in zc_287 rfl⟩
  · exact ⟨zm_288, tbl_in zc_288 rfl⟩
  · exact ⟨zm_289, tbl_in zc_289 rfl⟩
  · exact ⟨zm_290, tbl_in zc_290 rfl⟩
  · exact ⟨zm_291, tbl_in zc_291 rfl⟩
  · exact ⟨zm_292, tbl_in zc_292 rfl⟩
  · exact ⟨zm_293, tbl_in zc_293 rfl⟩
  · exact ⟨zm_294, tbl_in zc_294 rfl⟩
  · exact ⟨zm_295, tbl_in zc_295 rfl⟩
  · exact ⟨zm_296, tbl_in zc_296 rfl⟩
  · exact ⟨zm_297, tbl_in zc_297 rfl⟩
  · exact ⟨zm_298, tbl_in zc_298 rfl⟩
  · exact ⟨zm_299, tbl_in zc_299 rfl⟩
set_option maxRecDepth 100000 in
theorem zh_15 (mi : Nat) (h1 : mi / 20 = 15) (h2 : mi < 307) (h3 : mi ≠ 304) (h4 : mi ≠ 305) : bd_mok mi := by
  rcases (show mi = 300 ∨ mi = 301 ∨ mi = 302 ∨ mi = 303 ∨ mi = 306 by omega) with z | z | z | z | z <;> subst z
  · exact ⟨zm_300, tbl_in zc_300 rfl⟩
  · exact ⟨zm_301, tbl_in zc_301 rfl⟩
  · exact ⟨zm_302, tbl_in zc_302 rfl⟩
  · exact ⟨zm_303, tbl_in zc_303 rfl⟩
  · exact ⟨zm_306, tbl_in zc_306 rfl⟩
theorem bd_MOK : ∀ mi, mi < 307 → mi ≠ 304 → mi ≠ 305 → bd_mok mi := by
  intro mi h2 h3 h4
  rcases (show mi / 20 = 0 ∨ mi / 20 = 1 ∨ mi / 20 = 2 ∨ mi / 20 = 3 ∨ mi / 20 = 4 ∨ mi / 20 = 5 ∨ mi / 20 = 6 ∨ mi / 20 = 7 ∨ mi / 20 = 8 ∨ mi / 20 = 9 ∨ mi / 20 = 10 ∨ mi / 20 = 11 ∨ mi / 20 = 12 ∨ mi / 20 = 13 ∨ mi / 20 = 14 ∨ mi / 20 = 15 by omega) with z | z | z | z | z | z | z | z | z | z | z | z | z | z | z | z
  · exact zh_0 mi z h2 h3 h4
  · exact zh_1 mi z h2 h3 h4
  · exact zh_2 mi z h2 h3 h4
  · exact zh_3 mi z h2 h3 h4
  · exact zh_4 mi z h2 h3 h4
  · exact zh_5 mi z h2 h3 h4
  · exact zh_6 mi z h2 h3 h4
  · exact zh_7 mi z h2 h3 h4
  · exact zh_8 mi z h2 h3 h4
  · exact zh_9 mi z h2 h3 h4
  · exact zh_10 mi z h2 h3 h4
  · exact zh_11 mi z h2 h3 h4
  · exact zh_12 mi z h2 h3 h4
  · exact zh_13 mi z h2 h3 h4
  · exact zh_14 mi z h2 h3 h4
  · exact zh_15 mi z h2 h3 h4
