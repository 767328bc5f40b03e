/-! THE WALK UP TO THE LAST VERSION: the pieces put together. -/
section HDS
variable {sv : Nat → Value} {mt : Nat → (Nat → Option ab_I) × Nat} {xs : Nat → Int32} {L : Nat} {J : Nat → Int32} {lam : Nat → Int64} {dd n0 s0 : Nat} {Q : ab_Q}
theorem hD5 (Z : lw_W sv mt xs L lam dd) (nx : lw_P sv mt xs L J lam dd n0 s0 Q 162 l_A6 g_A6 374 3058) : lw_P sv mt xs L J lam dd n0 s0 Q 514 l_D5 g_D5 339 2709 := by
  rcases lx_nf_cases xs L 1 with h | h | h | h
  · by_cases hs : lx_nf xs L 5 = lx_nf xs L 4
    · exact pD5_229 Z h hs nx
    · exact pD5_228 Z h hs nx
  · by_cases hs : lx_nf xs L 5 = lx_nf xs L 4
    · exact pD5_231 Z h hs nx
    · exact pD5_230 Z h hs nx
  · by_cases hs : lx_nf xs L 5 = lx_nf xs L 4
    · exact pD5_233 Z h hs nx
    · exact pD5_232 Z h hs nx
  · by_cases hs : lx_nf xs L 5 = lx_nf xs L 4
    · exact pD5_235 Z h hs nx
    · exact pD5_234 Z h hs nx
theorem hC5_3 (Z : lw_W sv mt xs L lam dd) (nx : lw_P sv mt xs L J lam dd n0 s0 Q 514 l_D5 g_D5 339 2709) : lw_P sv mt xs L J lam dd n0 s0 Q 296 l_C5_3 g_C5_3 339 2709 := pC5_3_227 Z (by have := lx_told_lt xs L 5; omega) nx
theorem hC5_2 (Z : lw_W sv mt xs L lam dd) (nx : lw_P sv mt xs L J lam dd n0 s0 Q 296 l_C5_3 g_C5_3 339 2709) (nd : lw_P sv mt xs L J lam dd n0 s0 Q 514 l_D5 g_D5 339 2709) : lw_P sv mt xs L J lam dd n0 s0 Q 296 l_C5_2 g_C5_2 338 2704 := by
  by_cases hk : 2 < lx_told xs L 5
  · rcases lx_bk_01 xs L 5 2 with hb | hb
    · rcases lx_fld_cases xs L 5 2 with hf | hf | hf | hf
      · exact pC5_2_216 Z hk hb hf nx
      · exact pC5_2_217 Z hk hb hf nx
      · exact pC5_2_218 Z hk hb hf nx
      · exact pC5_2_219 Z hk hb hf nx
    · rcases lx_fld_cases xs L 5 2 with hf | hf | hf | hf
      · exact pC5_2_220 Z hk hb hf nx
      · exact pC5_2_221 Z hk hb hf nx
      · exact pC5_2_222 Z hk hb hf nx
      · exact pC5_2_223 Z hk hb hf nx
  · exact pC5_2_226 Z hk nd
theorem hC5_1 (Z : lw_W sv mt xs L lam dd) (nx : lw_P sv mt xs L J lam dd n0 s0 Q 296 l_C5_2 g_C5_2 338 2704) (nd : lw_P sv mt xs L J lam dd n0 s0 Q 514 l_D5 g_D5 339 2709) : lw_P sv mt xs L J lam dd n0 s0 Q 296 l_C5_1 g_C5_1 337 2699 := by
  by_cases hk : 1 < lx_told xs L 5
  · rcases lx_bk_01 xs L 5 1 with hb | hb
    · rcases lx_fld_cases xs L 5 1 with hf | hf | hf | hf
      · exact pC5_1_208 Z hk hb hf nx
      · exact pC5_1_209 Z hk hb hf nx
      · exact pC5_1_210 Z hk hb hf nx
      · exact pC5_1_211 Z hk hb hf nx
    · rcases lx_fld_cases xs L 5 1 with hf | hf | hf | hf
      · exact pC5_1_212 Z hk hb hf nx
      · exact pC5_1_213 Z hk hb hf nx
      · exact pC5_1_214 Z hk hb hf nx
      · exact pC5_1_215 Z hk hb hf nx
  · exact pC5_1_225 Z hk nd
theorem hC5_0 (Z : lw_W sv mt xs L lam dd) (nx : lw_P sv mt xs L J lam dd n0 s0 Q 296 l_C5_1 g_C5_1 337 2699) (nd : lw_P sv mt xs L J lam dd n0 s0 Q 514 l_D5 g_D5 339 2709) : lw_P sv mt xs L J lam dd n0 s0 Q 296 l_C5_0 g_C5_0 336 2694 := by
  by_cases hk : 0 < lx_told xs L 5
  · rcases lx_bk_01 xs L 5 0 with hb | hb
    · rcases lx_fld_cases xs L 5 0 with hf | hf | hf | hf
      · exact pC5_0_200 Z hk hb hf nx
      · exact pC5_0_201 Z hk hb hf nx
      · exact pC5_0_202 Z hk hb hf nx
      · exact pC5_0_203 Z hk hb hf nx
    · rcases lx_fld_cases xs L 5 0 with hf | hf | hf | hf
      · exact pC5_0_204 Z hk hb hf nx
      · exact pC5_0_205 Z hk hb hf nx
      · exact pC5_0_206 Z hk hb hf nx
      · exact pC5_0_207 Z hk hb hf nx
  · exact pC5_0_224 Z hk nd
theorem hA5 (Z : lw_W sv mt xs L lam dd) (hv : 5 < lx_nv xs L) (nx : lw_P sv mt xs L J lam dd n0 s0 Q 162 l_A6 g_A6 374 3058) : lw_P sv mt xs L J lam dd n0 s0 Q 162 l_A5 g_A5 335 2692 := by
  have hD := hD5 Z nx
  have hC := hC5_0 Z (hC5_1 Z (hC5_2 Z (hC5_3 Z hD) hD) hD) hD
  rcases lx_nf_cases xs L 4 with ha | ha | ha | ha
  · rcases lx_nf_cases xs L 5 with hb | hb | hb | hb
    · exact pA5_184 Z hv ha hb hC
    · exact pA5_185 Z hv ha hb hC
    · exact pA5_186 Z hv ha hb hC
    · exact pA5_187 Z hv ha hb hC
  · rcases lx_nf_cases xs L 5 with hb | hb | hb | hb
    · exact pA5_188 Z hv ha hb hC
    · exact pA5_189 Z hv ha hb hC
    · exact pA5_190 Z hv ha hb hC
    · exact pA5_191 Z hv ha hb hC
  · rcases lx_nf_cases xs L 5 with hb | hb | hb | hb
    · exact pA5_192 Z hv ha hb hC
    · exact pA5_193 Z hv ha hb hC
    · exact pA5_194 Z hv ha hb hC
    · exact pA5_195 Z hv ha hb hC
  · rcases lx_nf_cases xs L 5 with hb | hb | hb | hb
    · exact pA5_196 Z hv ha hb hC
    · exact pA5_197 Z hv ha hb hC
    · exact pA5_198 Z hv ha hb hC
    · exact pA5_199 Z hv ha hb hC
theorem hD4 (Z : lw_W sv mt xs L lam dd) (nx : lw_P sv mt xs L J lam dd n0 s0 Q 162 l_A5 g_A5 335 2692) : lw_P sv mt xs L J lam dd n0 s0 Q 514 l_D4 g_D4 300 2343 := by
  rcases lx_nf_cases xs L 1 with h | h | h | h
  · by_cases hs : lx_nf xs L 4 = lx_nf xs L 3
    · exact pD4_177 Z h hs nx
    · exact pD4_176 Z h hs nx
  · by_cases hs : lx_nf xs L 4 = lx_nf xs L 3
    · exact pD4_179 Z h hs nx
    · exact pD4_178 Z h hs nx
  · by_cases hs : lx_nf xs L 4 = lx_nf xs L 3
    · exact pD4_181 Z h hs nx
    · exact pD4_180 Z h hs nx
  · by_cases hs : lx_nf xs L 4 = lx_nf xs L 3
    · exact pD4_183 Z h hs nx
    · exact pD4_182 Z h hs nx
theorem hC4_3 (Z : lw_W sv mt xs L lam dd) (nx : lw_P sv mt xs L J lam dd n0 s0 Q 514 l_D4 g_D4 300 2343) : lw_P sv mt xs L J lam dd n0 s0 Q 296 l_C4_3 g_C4_3 300 2343 := pC4_3_175 Z (by have := lx_told_lt xs L 4; omega) nx
theorem hC4_2 (Z : lw_W sv mt xs L lam dd) (nx : lw_P sv mt xs L J lam dd n0 s0 Q 296 l_C4_3 g_C4_3 300 2343) (nd : lw_P sv mt xs L J lam dd n0 s0 Q 514 l_D4 g_D4 300 2343) : lw_P sv mt xs L J lam dd n0 s0 Q 296 l_C4_2 g_C4_2 299 2338 := by
  by_cases hk : 2 < lx_told xs L 4
  · rcases lx_bk_01 xs L 4 2 with hb | hb
    · rcases lx_fld_cases xs L 4 2 with hf | hf | hf | hf
      · exact pC4_2_164 Z hk hb hf nx
      · exact pC4_2_165 Z hk hb hf nx
      · exact pC4_2_166 Z hk hb hf nx
      · exact pC4_2_167 Z hk hb hf nx
    · rcases lx_fld_cases xs L 4 2 with hf | hf | hf | hf
      · exact pC4_2_168 Z hk hb hf nx
      · exact pC4_2_169 Z hk hb hf nx
      · exact pC4_2_170 Z hk hb hf nx
      · exact pC4_2_171 Z hk hb hf nx
  · exact pC4_2_174 Z hk nd
theorem hC4_1 (Z : lw_W sv mt xs L lam dd) (nx : lw_P sv mt xs L J lam dd n0 s0 Q 296 l_C4_2 g_C4_2 299 2338) (nd : lw_P sv mt xs L J lam dd n0 s0 Q 514 l_D4 g_D4 300 2343) : lw_P sv mt xs L J lam dd n0 s0 Q 296 l_C4_1 g_C4_1 298 2333 := by
  by_cases hk : 1 < lx_told xs L 4
  · rcases lx_bk_01 xs L 4 1 with hb | hb
    · rcases lx_fld_cases xs L 4 1 with hf | hf | hf | hf
      · exact pC4_1_156 Z hk hb hf nx
      · exact pC4_1_157 Z hk hb hf nx
      · exact pC4_1_158 Z hk hb hf nx
      · exact pC4_1_159 Z hk hb hf nx
    · rcases lx_fld_cases xs L 4 1 with hf | hf | hf | hf
      · exact pC4_1_160 Z hk hb hf nx
      · exact pC4_1_161 Z hk hb hf nx
      · exact pC4_1_162 Z hk hb hf nx
      · exact pC4_1_163 Z hk hb hf nx
  · exact pC4_1_173 Z hk nd
theorem hC4_0 (Z : lw_W sv mt xs L lam dd) (nx : lw_P sv mt xs L J lam dd n0 s0 Q 296 l_C4_1 g_C4_1 298 2333) (nd : lw_P sv mt xs L J lam dd n0 s0 Q 514 l_D4 g_D4 300 2343) : lw_P sv mt xs L J lam dd n0 s0 Q 296 l_C4_0 g_C4_0 297 2328 := by
  by_cases hk : 0 < lx_told xs L 4
  · rcases lx_bk_01 xs L 4 0 with hb | hb
    · rcases lx_fld_cases xs L 4 0 with hf | hf | hf | hf
      · exact pC4_0_148 Z hk hb hf nx
      · exact pC4_0_149 Z hk hb hf nx
      · exact pC4_0_150 Z hk hb hf nx
      · exact pC4_0_151 Z hk hb hf nx
    · rcases lx_fld_cases xs L 4 0 with hf | hf | hf | hf
      · exact pC4_0_152 Z hk hb hf nx
      · exact pC4_0_153 Z hk hb hf nx
      · exact pC4_0_154 Z hk hb hf nx
      · exact pC4_0_155 Z hk hb hf nx
  · exact pC4_0_172 Z hk nd
theorem hA4 (Z : lw_W sv mt xs L lam dd) (hv : 4 < lx_nv xs L) (nx : lw_P sv mt xs L J lam dd n0 s0 Q 162 l_A5 g_A5 335 2692) : lw_P sv mt xs L J lam dd n0 s0 Q 162 l_A4 g_A4 296 2326 := by
  have hD := hD4 Z nx
  have hC := hC4_0 Z (hC4_1 Z (hC4_2 Z (hC4_3 Z hD) hD) hD) hD
  rcases lx_nf_cases xs L 3 with ha | ha | ha | ha
  · rcases lx_nf_cases xs L 4 with hb | hb | hb | hb
    · exact pA4_132 Z hv ha hb hC
    · exact pA4_133 Z hv ha hb hC
    · exact pA4_134 Z hv ha hb hC
    · exact pA4_135 Z hv ha hb hC
  · rcases lx_nf_cases xs L 4 with hb | hb | hb | hb
    · exact pA4_136 Z hv ha hb hC
    · exact pA4_137 Z hv ha hb hC
    · exact pA4_138 Z hv ha hb hC
    · exact pA4_139 Z hv ha hb hC
  · rcases lx_nf_cases xs L 4 with hb | hb | hb | hb
    · exact pA4_140 Z hv ha hb hC
    · exact pA4_141 Z hv ha hb hC
    · exact pA4_142 Z hv ha hb hC
    · exact pA4_143 Z hv ha hb hC
  · rcases lx_nf_cases xs L 4 with hb | hb | hb | hb
    · exact pA4_144 Z hv ha hb hC
    · exact pA4_145 Z hv ha hb hC
    · exact pA4_146 Z hv ha hb hC
    · exact pA4_147 Z hv ha hb hC
theorem hD3 (Z : lw_W sv mt xs L lam dd) (nx : lw_P sv mt xs L J lam dd n0 s0 Q 162 l_A4 g_A4 296 2326) : lw_P sv mt xs L J lam dd n0 s0 Q 514 l_D3 g_D3 261 1977 := by
  rcases lx_nf_cases xs L 1 with h | h | h | h
  · by_cases hs : lx_nf xs L 3 = lx_nf xs L 2
    · exact pD3_125 Z h hs nx
    · exact pD3_124 Z h hs nx
  · by_cases hs : lx_nf xs L 3 = lx_nf xs L 2
    · exact pD3_127 Z h hs nx
    · exact pD3_126 Z h hs nx
  · by_cases hs : lx_nf xs L 3 = lx_nf xs L 2
    · exact pD3_129 Z h hs nx
    · exact pD3_128 Z h hs nx
  · by_cases hs : lx_nf xs L 3 = lx_nf xs L 2
    · exact pD3_131 Z h hs nx
    · exact pD3_130 Z h hs nx
theorem hC3_3 (Z : lw_W sv mt xs L lam dd) (nx : lw_P sv mt xs L J lam dd n0 s0 Q 514 l_D3 g_D3 261 1977) : lw_P sv mt xs L J lam dd n0 s0 Q 296 l_C3_3 g_C3_3 261 1977 := pC3_3_123 Z (by have := lx_told_lt xs L 3; omega) nx
theorem hC3_2 (Z : lw_W sv mt xs L lam dd) (nx : lw_P sv mt xs L J lam dd n0 s0 Q 296 l_C3_3 g_C3_3 261 1977) (nd : lw_P sv mt xs L J lam dd n0 s0 Q 514 l_D3 g_D3 261 1977) : lw_P sv mt xs L J lam dd n0 s0 Q 296 l_C3_2 g_C3_2 260 1972 := by
  by_cases hk : 2 < lx_told xs L 3
  · rcases lx_bk_01 xs L 3 2 with hb | hb
    · rcases lx_fld_cases xs L 3 2 with hf | hf | hf | hf
      · exact pC3_2_112 Z hk hb hf nx
      · exact pC3_2_113 Z hk hb hf nx
      · exact pC3_2_114 Z hk hb hf nx
      · exact pC3_2_115 Z hk hb hf nx
    · rcases lx_fld_cases xs L 3 2 with hf | hf | hf | hf
      · exact pC3_2_116 Z hk hb hf nx
      · exact pC3_2_117 Z hk hb hf nx
      · exact pC3_2_118 Z hk hb hf nx
      · exact pC3_2_119 Z hk hb hf nx
  · exact pC3_2_122 Z hk nd
theorem hC3_1 (Z : lw_W sv mt xs L lam dd) (nx : lw_P sv mt xs L J lam dd n0 s0 Q 296 l_C3_2 g_C3_2 260 1972) (nd : lw_P sv mt xs L J lam dd n0 s0 Q 514 l_D3 g_D3 261 1977) : lw_P sv mt xs L J lam dd n0 s0 Q 296 l_C3_1 g_C3_1 259 1967 := by
  by_cases hk : 1 < lx_told xs L 3
  · rcases lx_bk_01 xs L 3 1 with hb | hb
    · rcases lx_fld_cases xs L 3 1 with hf | hf | hf | hf
      · exact pC3_1_104 Z hk hb hf nx
      · exact pC3_1_105 Z hk hb hf nx
      · exact pC3_1_106 Z hk hb hf nx
      · exact pC3_1_107 Z hk hb hf nx
    · rcases lx_fld_cases xs L 3 1 with hf | hf | hf | hf
      · exact pC3_1_108 Z hk hb hf nx
      · exact pC3_1_109 Z hk hb hf nx
      · exact pC3_1_110 Z hk hb hf nx
      · exact pC3_1_111 Z hk hb hf nx
  · exact pC3_1_121 Z hk nd
theorem hC3_0 (Z : lw_W sv mt xs L lam dd) (nx : lw_P sv mt xs L J lam dd n0 s0 Q 296 l_C3_1 g_C3_1 259 1967) (nd : lw_P sv mt xs L J lam dd n0 s0 Q 514 l_D3 g_D3 261 1977) : lw_P sv mt xs L J lam dd n0 s0 Q 296 l_C3_0 g_C3_0 258 1962 := by
  by_cases hk : 0 < lx_told xs L 3
  · rcases lx_bk_01 xs L 3 0 with hb | hb
    · rcases lx_fld_cases xs L 3 0 with hf | hf | hf | hf
      · exact pC3_0_96 Z hk hb hf nx
      · exact pC3_0_97 Z hk hb hf nx
      · exact pC3_0_98 Z hk hb hf nx
      · exact pC3_0_99 Z hk hb hf nx
    · rcases lx_fld_cases xs L 3 0 with hf | hf | hf | hf
      · exact pC3_0_100 Z hk hb hf nx
      · exact pC3_0_101 Z hk hb hf nx
      · exact pC3_0_102 Z hk hb hf nx
      · exact pC3_0_103 Z hk hb hf nx
  · exact pC3_0_120 Z hk nd
theorem hA3 (Z : lw_W sv mt xs L lam dd) (hv : 3 < lx_nv xs L) (nx : lw_P sv mt xs L J lam dd n0 s0 Q 162 l_A4 g_A4 296 2326) : lw_P sv mt xs L J lam dd n0 s0 Q 162 l_A3 g_A3 257 1960 := by
  have hD := hD3 Z nx
  have hC := hC3_0 Z (hC3_1 Z (hC3_2 Z (hC3_3 Z hD) hD) hD) hD
  rcases lx_nf_cases xs L 2 with ha | ha | ha | ha
  · rcases lx_nf_cases xs L 3 with hb | hb | hb | hb
    · exact pA3_80 Z hv ha hb hC
    · exact pA3_81 Z hv ha hb hC
    · exact pA3_82 Z hv ha hb hC
    · exact pA3_83 Z hv ha hb hC
  · rcases lx_nf_cases xs L 3 with hb | hb | hb | hb
    · exact pA3_84 Z hv ha hb hC
    · exact pA3_85 Z hv ha hb hC
    · exact pA3_86 Z hv ha hb hC
    · exact pA3_87 Z hv ha hb hC
  · rcases lx_nf_cases xs L 3 with hb | hb | hb | hb
    · exact pA3_88 Z hv ha hb hC
    · exact pA3_89 Z hv ha hb hC
    · exact pA3_90 Z hv ha hb hC
    · exact pA3_91 Z hv ha hb hC
  · rcases lx_nf_cases xs L 3 with hb | hb | hb | hb
    · exact pA3_92 Z hv ha hb hC
    · exact pA3_93 Z hv ha hb hC
    · exact pA3_94 Z hv ha hb hC
    · exact pA3_95 Z hv ha hb hC
theorem hD2 (Z : lw_W sv mt xs L lam dd) (nx : lw_P sv mt xs L J lam dd n0 s0 Q 162 l_A3 g_A3 257 1960) : lw_P sv mt xs L J lam dd n0 s0 Q 514 l_D2 g_D2 222 1611 := by
  rcases lx_nf_cases xs L 1 with h | h | h | h
  · by_cases hs : lx_nf xs L 2 = lx_nf xs L 1
    · exact pD2_73 Z h hs nx
    · exact pD2_72 Z h hs nx
  · by_cases hs : lx_nf xs L 2 = lx_nf xs L 1
    · exact pD2_75 Z h hs nx
    · exact pD2_74 Z h hs nx
  · by_cases hs : lx_nf xs L 2 = lx_nf xs L 1
    · exact pD2_77 Z h hs nx
    · exact pD2_76 Z h hs nx
  · by_cases hs : lx_nf xs L 2 = lx_nf xs L 1
    · exact pD2_79 Z h hs nx
    · exact pD2_78 Z h hs nx
theorem hC2_3 (Z : lw_W sv mt xs L lam dd) (nx : lw_P sv mt xs L J lam dd n0 s0 Q 514 l_D2 g_D2 222 1611) : lw_P sv mt xs L J lam dd n0 s0 Q 296 l_C2_3 g_C2_3 222 1611 := pC2_3_71 Z (by have := lx_told_lt xs L 2; omega) nx
theorem hC2_2 (Z : lw_W sv mt xs L lam dd) (nx : lw_P sv mt xs L J lam dd n0 s0 Q 296 l_C2_3 g_C2_3 222 1611) (nd : lw_P sv mt xs L J lam dd n0 s0 Q 514 l_D2 g_D2 222 1611) : lw_P sv mt xs L J lam dd n0 s0 Q 296 l_C2_2 g_C2_2 221 1606 := by
  by_cases hk : 2 < lx_told xs L 2
  · rcases lx_bk_01 xs L 2 2 with hb | hb
    · rcases lx_fld_cases xs L 2 2 with hf | hf | hf | hf
      · exact pC2_2_60 Z hk hb hf nx
      · exact pC2_2_61 Z hk hb hf nx
      · exact pC2_2_62 Z hk hb hf nx
      · exact pC2_2_63 Z hk hb hf nx
    · rcases lx_fld_cases xs L 2 2 with hf | hf | hf | hf
      · exact pC2_2_64 Z hk hb hf nx
      · exact pC2_2_65 Z hk hb hf nx
      · exact pC2_2_66 Z hk hb hf nx
      · exact pC2_2_67 Z hk hb hf nx
  · exact pC2_2_70 Z hk nd
theorem hC2_1 (Z : lw_W sv mt xs L lam dd) (nx : lw_P sv mt xs L J lam dd n0 s0 Q 296 l_C2_2 g_C2_2 221 1606) (nd : lw_P sv mt xs L J lam dd n0 s0 Q 514 l_D2 g_D2 222 1611) : lw_P sv mt xs L J lam dd n0 s0 Q 296 l_C2_1 g_C2_1 220 1601 := by
  by_cases hk : 1 < lx_told xs L 2
  · rcases lx_bk_01 xs L 2 1 with hb | hb
    · rcases lx_fld_cases xs L 2 1 with hf | hf | hf | hf
      · exact pC2_1_52 Z hk hb hf nx
      · exact pC2_1_53 Z hk hb hf nx
      · exact pC2_1_54 Z hk hb hf nx
      · exact pC2_1_55 Z hk hb hf nx
    · rcases lx_fld_cases xs L 2 1 with hf | hf | hf | hf
      · exact pC2_1_56 Z hk hb hf nx
      · exact pC2_1_57 Z hk hb hf nx
      · exact pC2_1_58 Z hk hb hf nx
      · exact pC2_1_59 Z hk hb hf nx
  · exact pC2_1_69 Z hk nd
theorem hC2_0 (Z : lw_W sv mt xs L lam dd) (nx : lw_P sv mt xs L J lam dd n0 s0 Q 296 l_C2_1 g_C2_1 220 1601) (nd : lw_P sv mt xs L J lam dd n0 s0 Q 514 l_D2 g_D2 222 1611) : lw_P sv mt xs L J lam dd n0 s0 Q 296 l_C2_0 g_C2_0 219 1596 := by
  by_cases hk : 0 < lx_told xs L 2
  · rcases lx_bk_01 xs L 2 0 with hb | hb
    · rcases lx_fld_cases xs L 2 0 with hf | hf | hf | hf
      · exact pC2_0_44 Z hk hb hf nx
      · exact pC2_0_45 Z hk hb hf nx
      · exact pC2_0_46 Z hk hb hf nx
      · exact pC2_0_47 Z hk hb hf nx
    · rcases lx_fld_cases xs L 2 0 with hf | hf | hf | hf
      · exact pC2_0_48 Z hk hb hf nx
      · exact pC2_0_49 Z hk hb hf nx
      · exact pC2_0_50 Z hk hb hf nx
      · exact pC2_0_51 Z hk hb hf nx
  · exact pC2_0_68 Z hk nd
theorem hA2 (Z : lw_W sv mt xs L lam dd) (hv : 2 < lx_nv xs L) (nx : lw_P sv mt xs L J lam dd n0 s0 Q 162 l_A3 g_A3 257 1960) : lw_P sv mt xs L J lam dd n0 s0 Q 162 l_A2 g_A2 218 1594 := by
  have hD := hD2 Z nx
  have hC := hC2_0 Z (hC2_1 Z (hC2_2 Z (hC2_3 Z hD) hD) hD) hD
  rcases lx_nf_cases xs L 1 with ha | ha | ha | ha
  · rcases lx_nf_cases xs L 2 with hb | hb | hb | hb
    · exact pA2_28 Z hv ha hb hC
    · exact pA2_29 Z hv ha hb hC
    · exact pA2_30 Z hv ha hb hC
    · exact pA2_31 Z hv ha hb hC
  · rcases lx_nf_cases xs L 2 with hb | hb | hb | hb
    · exact pA2_32 Z hv ha hb hC
    · exact pA2_33 Z hv ha hb hC
    · exact pA2_34 Z hv ha hb hC
    · exact pA2_35 Z hv ha hb hC
  · rcases lx_nf_cases xs L 2 with hb | hb | hb | hb
    · exact pA2_36 Z hv ha hb hC
    · exact pA2_37 Z hv ha hb hC
    · exact pA2_38 Z hv ha hb hC
    · exact pA2_39 Z hv ha hb hC
  · rcases lx_nf_cases xs L 2 with hb | hb | hb | hb
    · exact pA2_40 Z hv ha hb hC
    · exact pA2_41 Z hv ha hb hC
    · exact pA2_42 Z hv ha hb hC
    · exact pA2_43 Z hv ha hb hC
theorem hD1 (Z : lw_W sv mt xs L lam dd) (nx : lw_P sv mt xs L J lam dd n0 s0 Q 162 l_A2 g_A2 218 1594) : lw_P sv mt xs L J lam dd n0 s0 Q 514 l_D1 g_D1 173 1195 := by
  rcases lx_nf_cases xs L 1 with h | h | h | h
  · exact pD1_24 Z h nx
  · exact pD1_25 Z h nx
  · exact pD1_26 Z h nx
  · exact pD1_27 Z h nx
theorem hC1_3 (Z : lw_W sv mt xs L lam dd) (nx : lw_P sv mt xs L J lam dd n0 s0 Q 514 l_D1 g_D1 173 1195) : lw_P sv mt xs L J lam dd n0 s0 Q 296 l_C1_3 g_C1_3 173 1195 := pC1_3_23 Z (by have := lx_told_lt xs L 1; omega) nx
theorem hC1_2 (Z : lw_W sv mt xs L lam dd) (nx : lw_P sv mt xs L J lam dd n0 s0 Q 296 l_C1_3 g_C1_3 173 1195) (nd : lw_P sv mt xs L J lam dd n0 s0 Q 514 l_D1 g_D1 173 1195) : lw_P sv mt xs L J lam dd n0 s0 Q 296 l_C1_2 g_C1_2 172 1190 := by
  by_cases hk : 2 < lx_told xs L 1
  · rcases lx_bk_01 xs L 1 2 with hb | hb
    · rcases lx_fld_cases xs L 1 2 with hf | hf | hf | hf
      · exact pC1_2_15 Z hk hb hf nx
      · exact pC1_2_16 Z hk hb hf nx
      · exact pC1_2_17 Z hk hb hf nx
      · exact pC1_2_18 Z hk hb hf nx
    · rcases lx_fld_cases xs L 1 2 with hf | hf | hf | hf
      · exact pC1_2_19 Z hk hb hf nx
      · exact absurd (lx_fld_lt xs L 1 2) (by rw [out1 hb, hf]; exact (by decide : ¬ 1 < 1))
      · exact absurd (lx_fld_lt xs L 1 2) (by rw [out1 hb, hf]; exact (by decide : ¬ 2 < 1))
      · exact absurd (lx_fld_lt xs L 1 2) (by rw [out1 hb, hf]; exact (by decide : ¬ 3 < 1))
  · exact pC1_2_22 Z hk nd
theorem hC1_1 (Z : lw_W sv mt xs L lam dd) (nx : lw_P sv mt xs L J lam dd n0 s0 Q 296 l_C1_2 g_C1_2 172 1190) (nd : lw_P sv mt xs L J lam dd n0 s0 Q 514 l_D1 g_D1 173 1195) : lw_P sv mt xs L J lam dd n0 s0 Q 296 l_C1_1 g_C1_1 171 1185 := by
  by_cases hk : 1 < lx_told xs L 1
  · rcases lx_bk_01 xs L 1 1 with hb | hb
    · rcases lx_fld_cases xs L 1 1 with hf | hf | hf | hf
      · exact pC1_1_10 Z hk hb hf nx
      · exact pC1_1_11 Z hk hb hf nx
      · exact pC1_1_12 Z hk hb hf nx
      · exact pC1_1_13 Z hk hb hf nx
    · rcases lx_fld_cases xs L 1 1 with hf | hf | hf | hf
      · exact pC1_1_14 Z hk hb hf nx
      · exact absurd (lx_fld_lt xs L 1 1) (by rw [out1 hb, hf]; exact (by decide : ¬ 1 < 1))
      · exact absurd (lx_fld_lt xs L 1 1) (by rw [out1 hb, hf]; exact (by decide : ¬ 2 < 1))
      · exact absurd (lx_fld_lt xs L 1 1) (by rw [out1 hb, hf]; exact (by decide : ¬ 3 < 1))
  · exact pC1_1_21 Z hk nd
theorem hC1_0 (Z : lw_W sv mt xs L lam dd) (nx : lw_P sv mt xs L J lam dd n0 s0 Q 296 l_C1_1 g_C1_1 171 1185) (nd : lw_P sv mt xs L J lam dd n0 s0 Q 514 l_D1 g_D1 173 1195) : lw_P sv mt xs L J lam dd n0 s0 Q 296 l_C1_0 g_C1_0 170 1180 := by
  by_cases hk : 0 < lx_told xs L 1
  · rcases lx_bk_01 xs L 1 0 with hb | hb
    · rcases lx_fld_cases xs L 1 0 with hf | hf | hf | hf
      · exact pC1_0_5 Z hk hb hf nx
      · exact pC1_0_6 Z hk hb hf nx
      · exact pC1_0_7 Z hk hb hf nx
      · exact pC1_0_8 Z hk hb hf nx
    · rcases lx_fld_cases xs L 1 0 with hf | hf | hf | hf
      · exact pC1_0_9 Z hk hb hf nx
      · exact absurd (lx_fld_lt xs L 1 0) (by rw [out1 hb, hf]; exact (by decide : ¬ 1 < 1))
      · exact absurd (lx_fld_lt xs L 1 0) (by rw [out1 hb, hf]; exact (by decide : ¬ 2 < 1))
      · exact absurd (lx_fld_lt xs L 1 0) (by rw [out1 hb, hf]; exact (by decide : ¬ 3 < 1))
  · exact pC1_0_20 Z hk nd
theorem hA1 (Z : lw_W sv mt xs L lam dd) (hv : 1 < lx_nv xs L) (nx : lw_P sv mt xs L J lam dd n0 s0 Q 162 l_A2 g_A2 218 1594) : lw_P sv mt xs L J lam dd n0 s0 Q 162 l_A1 g_A1 169 1178 := by
  have hD := hD1 Z nx
  have hC := hC1_0 Z (hC1_1 Z (hC1_2 Z (hC1_3 Z hD) hD) hD) hD
  rcases lx_nf_cases xs L 1 with hb | hb | hb | hb
  · exact pA1_1 Z hv hb hC
  · exact pA1_2 Z hv hb hC
  · exact pA1_3 Z hv hb hC
  · exact pA1_4 Z hv hb hC
/-- from the law's entry to the end of its first loop -/
theorem hPhaseA (Z : lw_W sv mt xs L lam dd) (x2 : lx_nv xs L = 2 → lw_P sv mt xs L J lam dd n0 s0 Q 737 l_X2 g_X2 218 1594) (x3 : lx_nv xs L = 3 → lw_P sv mt xs L J lam dd n0 s0 Q 737 l_X3 g_X3 257 1960) (x4 : lx_nv xs L = 4 → lw_P sv mt xs L J lam dd n0 s0 Q 737 l_X4 g_X4 296 2326) (x5 : lx_nv xs L = 5 → lw_P sv mt xs L J lam dd n0 s0 Q 737 l_X5 g_X5 335 2692) (x6 : lx_nv xs L = 6 → lw_P sv mt xs L J lam dd n0 s0 Q 737 l_X6 g_X6 374 3058) : lw_P sv mt xs L J lam dd n0 s0 Q 0 l_H g_H 0 0 := by
  have hn := lx_nv_26 xs L
  have a6 : 6 ≤ lx_nv xs L → lw_P sv mt xs L J lam dd n0 s0 Q 162 l_A6 g_A6 374 3058 := fun h => pA6_240 Z (by omega) (x6 (by omega))
  have a5 : 5 ≤ lx_nv xs L → lw_P sv mt xs L J lam dd n0 s0 Q 162 l_A5 g_A5 335 2692 := fun h => by
    by_cases e : lx_nv xs L = 5
    · exact pA5_239 Z e (x5 e)
    · exact hA5 Z (by omega) (a6 (by omega))
  have a4 : 4 ≤ lx_nv xs L → lw_P sv mt xs L J lam dd n0 s0 Q 162 l_A4 g_A4 296 2326 := fun h => by
    by_cases e : lx_nv xs L = 4
    · exact pA4_238 Z e (x4 e)
    · exact hA4 Z (by omega) (a5 (by omega))
  have a3 : 3 ≤ lx_nv xs L → lw_P sv mt xs L J lam dd n0 s0 Q 162 l_A3 g_A3 257 1960 := fun h => by
    by_cases e : lx_nv xs L = 3
    · exact pA3_237 Z e (x3 e)
    · exact hA3 Z (by omega) (a4 (by omega))
  have a2 : 2 ≤ lx_nv xs L → lw_P sv mt xs L J lam dd n0 s0 Q 162 l_A2 g_A2 218 1594 := fun h => by
    by_cases e : lx_nv xs L = 2
    · exact pA2_236 Z e (x2 e)
    · exact hA2 Z (by omega) (a3 (by omega))
  exact pH_0 Z (hA1 Z (by omega) (a2 (by omega)))
end HDS
