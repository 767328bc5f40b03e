/-! THE WALK THROUGH WHAT ALL VERSIONS SHOW: the pieces put together. -/
section HDS
variable {sv : Nat → Value} {mt : Nat → (Nat → Option ab_I) × Nat} {xs : Nat → Int32} {L : Nat} {J : Nat → Int32} {lam : Nat → Int64} {dd n0 s0 : Nat} {Q : ab_Q}
theorem hX2 (Z : lw_W sv mt xs L lam dd) (hn : lx_nv xs L = 2) (hJ : lb_ok xs L J) (hl : lb_l xs L lam) (nx : lw_P sv mt xs L J lam dd n0 s0 Q 1170 l_I2_2 g_I2_2 258 1754) : lw_P sv mt xs L J lam dd n0 s0 Q 737 l_X2 g_X2 218 1594 := by
  have i1 : lw_P sv mt xs L J lam dd n0 s0 Q 1170 l_I2_1 g_I2_1 249 1715 := by
    rcases lx_nf_cases xs L 1 with h | h | h | h
    · exact pI2_1_b8 Z h hJ nx
    · exact pI2_1_b9 Z h hJ nx
    · exact pI2_1_b10 Z h hJ nx
    · exact pI2_1_b11 Z h hJ nx
  have i0 : lw_P sv mt xs L J lam dd n0 s0 Q 1170 l_I2_0 g_I2_0 240 1676 := by
    exact pI2_0_b7 Z hJ i1
  have g2 : lw_P sv mt xs L J lam dd n0 s0 Q 1092 l_G2_2 g_G2_2 240 1676 := pG2_2_b6 Z i0
  have e1 : lw_P sv mt xs L J lam dd n0 s0 Q 740 l_E2_1 g_E2_1 223 1604 := by
    rcases lx_nf_cases xs L 1 with h | h | h | h
    · exact pE2_1_b2 Z h hJ hl g2
    · exact pE2_1_b3 Z h hJ hl g2
    · exact pE2_1_b4 Z h hJ hl g2
    · exact pE2_1_b5 Z h hJ hl g2
  have e0 : lw_P sv mt xs L J lam dd n0 s0 Q 740 l_E2_0 g_E2_0 218 1594 := by
    exact pE2_0_b1 Z e1
  exact pX2_b0 Z hn e0
theorem hX3 (Z : lw_W sv mt xs L lam dd) (hn : lx_nv xs L = 3) (hJ : lb_ok xs L J) (hl : lb_l xs L lam) (nx : lw_P sv mt xs L J lam dd n0 s0 Q 1170 l_I3_3 g_I3_3 312 2173) : lw_P sv mt xs L J lam dd n0 s0 Q 737 l_X3 g_X3 257 1960 := by
  have i2 : lw_P sv mt xs L J lam dd n0 s0 Q 1170 l_I3_2 g_I3_2 303 2134 := by
    rcases lx_nf_cases xs L 2 with h | h | h | h
    · exact pI3_2_b30 Z h hJ nx
    · exact pI3_2_b31 Z h hJ nx
    · exact pI3_2_b32 Z h hJ nx
    · exact pI3_2_b33 Z h hJ nx
  have i1 : lw_P sv mt xs L J lam dd n0 s0 Q 1170 l_I3_1 g_I3_1 294 2095 := by
    rcases lx_nf_cases xs L 1 with h | h | h | h
    · exact pI3_1_b26 Z h hJ i2
    · exact pI3_1_b27 Z h hJ i2
    · exact pI3_1_b28 Z h hJ i2
    · exact pI3_1_b29 Z h hJ i2
  have i0 : lw_P sv mt xs L J lam dd n0 s0 Q 1170 l_I3_0 g_I3_0 285 2056 := by
    exact pI3_0_b25 Z hJ i1
  have g3 : lw_P sv mt xs L J lam dd n0 s0 Q 1092 l_G3_3 g_G3_3 285 2056 := pG3_3_b24 Z i0
  have g2 : lw_P sv mt xs L J lam dd n0 s0 Q 1092 l_G3_2 g_G3_2 284 2052 := by
    rcases lx_nf_cases xs L 2 with h | h | h | h
    · exact pG3_2_b20 Z h hJ g3
    · exact pG3_2_b21 Z h hJ g3
    · exact pG3_2_b22 Z h hJ g3
    · exact pG3_2_b23 Z h hJ g3
  have e2 : lw_P sv mt xs L J lam dd n0 s0 Q 740 l_E3_2 g_E3_2 267 1980 := by
    rcases lx_nf_cases xs L 1 with h | h | h | h
    · exact pE3_2_b16 Z h hJ hl g2
    · exact pE3_2_b17 Z h hJ hl g2
    · exact pE3_2_b18 Z h hJ hl g2
    · exact pE3_2_b19 Z h hJ hl g2
  have e1 : lw_P sv mt xs L J lam dd n0 s0 Q 740 l_E3_1 g_E3_1 262 1970 := by
    by_cases hs : lx_nf xs L 2 = lx_nf xs L 1
    · exact pE3_1_b15 Z hs e2
    · exact pE3_1_b14 Z hs e2
  have e0 : lw_P sv mt xs L J lam dd n0 s0 Q 740 l_E3_0 g_E3_0 257 1960 := by
    exact pE3_0_b13 Z e1
  exact pX3_b12 Z hn e0
theorem hX4 (Z : lw_W sv mt xs L lam dd) (hn : lx_nv xs L = 4) (hJ : lb_ok xs L J) (hl : lb_l xs L lam) (nx : lw_P sv mt xs L J lam dd n0 s0 Q 1170 l_I4_4 g_I4_4 366 2592) : lw_P sv mt xs L J lam dd n0 s0 Q 737 l_X4 g_X4 296 2326 := by
  have i3 : lw_P sv mt xs L J lam dd n0 s0 Q 1170 l_I4_3 g_I4_3 357 2553 := by
    rcases lx_nf_cases xs L 3 with h | h | h | h
    · exact pI4_3_b62 Z h hJ nx
    · exact pI4_3_b63 Z h hJ nx
    · exact pI4_3_b64 Z h hJ nx
    · exact pI4_3_b65 Z h hJ nx
  have i2 : lw_P sv mt xs L J lam dd n0 s0 Q 1170 l_I4_2 g_I4_2 348 2514 := by
    rcases lx_nf_cases xs L 2 with h | h | h | h
    · exact pI4_2_b58 Z h hJ i3
    · exact pI4_2_b59 Z h hJ i3
    · exact pI4_2_b60 Z h hJ i3
    · exact pI4_2_b61 Z h hJ i3
  have i1 : lw_P sv mt xs L J lam dd n0 s0 Q 1170 l_I4_1 g_I4_1 339 2475 := by
    rcases lx_nf_cases xs L 1 with h | h | h | h
    · exact pI4_1_b54 Z h hJ i2
    · exact pI4_1_b55 Z h hJ i2
    · exact pI4_1_b56 Z h hJ i2
    · exact pI4_1_b57 Z h hJ i2
  have i0 : lw_P sv mt xs L J lam dd n0 s0 Q 1170 l_I4_0 g_I4_0 330 2436 := by
    exact pI4_0_b53 Z hJ i1
  have g4 : lw_P sv mt xs L J lam dd n0 s0 Q 1092 l_G4_4 g_G4_4 330 2436 := pG4_4_b52 Z i0
  have g3 : lw_P sv mt xs L J lam dd n0 s0 Q 1092 l_G4_3 g_G4_3 329 2432 := by
    rcases lx_nf_cases xs L 3 with h | h | h | h
    · exact pG4_3_b48 Z h hJ g4
    · exact pG4_3_b49 Z h hJ g4
    · exact pG4_3_b50 Z h hJ g4
    · exact pG4_3_b51 Z h hJ g4
  have g2 : lw_P sv mt xs L J lam dd n0 s0 Q 1092 l_G4_2 g_G4_2 328 2428 := by
    rcases lx_nf_cases xs L 2 with h | h | h | h
    · exact pG4_2_b44 Z h hJ g3
    · exact pG4_2_b45 Z h hJ g3
    · exact pG4_2_b46 Z h hJ g3
    · exact pG4_2_b47 Z h hJ g3
  have e3 : lw_P sv mt xs L J lam dd n0 s0 Q 740 l_E4_3 g_E4_3 311 2356 := by
    rcases lx_nf_cases xs L 1 with h | h | h | h
    · exact pE4_3_b40 Z h hJ hl g2
    · exact pE4_3_b41 Z h hJ hl g2
    · exact pE4_3_b42 Z h hJ hl g2
    · exact pE4_3_b43 Z h hJ hl g2
  have e2 : lw_P sv mt xs L J lam dd n0 s0 Q 740 l_E4_2 g_E4_2 306 2346 := by
    by_cases hs : lx_nf xs L 3 = lx_nf xs L 2
    · exact pE4_2_b39 Z hs e3
    · exact pE4_2_b38 Z hs e3
  have e1 : lw_P sv mt xs L J lam dd n0 s0 Q 740 l_E4_1 g_E4_1 301 2336 := by
    by_cases hs : lx_nf xs L 2 = lx_nf xs L 1
    · exact pE4_1_b37 Z hs e2
    · exact pE4_1_b36 Z hs e2
  have e0 : lw_P sv mt xs L J lam dd n0 s0 Q 740 l_E4_0 g_E4_0 296 2326 := by
    exact pE4_0_b35 Z e1
  exact pX4_b34 Z hn e0
theorem hX5 (Z : lw_W sv mt xs L lam dd) (hn : lx_nv xs L = 5) (hJ : lb_ok xs L J) (hl : lb_l xs L lam) (nx : lw_P sv mt xs L J lam dd n0 s0 Q 1170 l_I5_5 g_I5_5 420 3011) : lw_P sv mt xs L J lam dd n0 s0 Q 737 l_X5 g_X5 335 2692 := by
  have i4 : lw_P sv mt xs L J lam dd n0 s0 Q 1170 l_I5_4 g_I5_4 411 2972 := by
    rcases lx_nf_cases xs L 4 with h | h | h | h
    · exact pI5_4_b104 Z h hJ nx
    · exact pI5_4_b105 Z h hJ nx
    · exact pI5_4_b106 Z h hJ nx
    · exact pI5_4_b107 Z h hJ nx
  have i3 : lw_P sv mt xs L J lam dd n0 s0 Q 1170 l_I5_3 g_I5_3 402 2933 := by
    rcases lx_nf_cases xs L 3 with h | h | h | h
    · exact pI5_3_b100 Z h hJ i4
    · exact pI5_3_b101 Z h hJ i4
    · exact pI5_3_b102 Z h hJ i4
    · exact pI5_3_b103 Z h hJ i4
  have i2 : lw_P sv mt xs L J lam dd n0 s0 Q 1170 l_I5_2 g_I5_2 393 2894 := by
    rcases lx_nf_cases xs L 2 with h | h | h | h
    · exact pI5_2_b96 Z h hJ i3
    · exact pI5_2_b97 Z h hJ i3
    · exact pI5_2_b98 Z h hJ i3
    · exact pI5_2_b99 Z h hJ i3
  have i1 : lw_P sv mt xs L J lam dd n0 s0 Q 1170 l_I5_1 g_I5_1 384 2855 := by
    rcases lx_nf_cases xs L 1 with h | h | h | h
    · exact pI5_1_b92 Z h hJ i2
    · exact pI5_1_b93 Z h hJ i2
    · exact pI5_1_b94 Z h hJ i2
    · exact pI5_1_b95 Z h hJ i2
  have i0 : lw_P sv mt xs L J lam dd n0 s0 Q 1170 l_I5_0 g_I5_0 375 2816 := by
    exact pI5_0_b91 Z hJ i1
  have g5 : lw_P sv mt xs L J lam dd n0 s0 Q 1092 l_G5_5 g_G5_5 375 2816 := pG5_5_b90 Z i0
  have g4 : lw_P sv mt xs L J lam dd n0 s0 Q 1092 l_G5_4 g_G5_4 374 2812 := by
    rcases lx_nf_cases xs L 4 with h | h | h | h
    · exact pG5_4_b86 Z h hJ g5
    · exact pG5_4_b87 Z h hJ g5
    · exact pG5_4_b88 Z h hJ g5
    · exact pG5_4_b89 Z h hJ g5
  have g3 : lw_P sv mt xs L J lam dd n0 s0 Q 1092 l_G5_3 g_G5_3 373 2808 := by
    rcases lx_nf_cases xs L 3 with h | h | h | h
    · exact pG5_3_b82 Z h hJ g4
    · exact pG5_3_b83 Z h hJ g4
    · exact pG5_3_b84 Z h hJ g4
    · exact pG5_3_b85 Z h hJ g4
  have g2 : lw_P sv mt xs L J lam dd n0 s0 Q 1092 l_G5_2 g_G5_2 372 2804 := by
    rcases lx_nf_cases xs L 2 with h | h | h | h
    · exact pG5_2_b78 Z h hJ g3
    · exact pG5_2_b79 Z h hJ g3
    · exact pG5_2_b80 Z h hJ g3
    · exact pG5_2_b81 Z h hJ g3
  have e4 : lw_P sv mt xs L J lam dd n0 s0 Q 740 l_E5_4 g_E5_4 355 2732 := by
    rcases lx_nf_cases xs L 1 with h | h | h | h
    · exact pE5_4_b74 Z h hJ hl g2
    · exact pE5_4_b75 Z h hJ hl g2
    · exact pE5_4_b76 Z h hJ hl g2
    · exact pE5_4_b77 Z h hJ hl g2
  have e3 : lw_P sv mt xs L J lam dd n0 s0 Q 740 l_E5_3 g_E5_3 350 2722 := by
    by_cases hs : lx_nf xs L 4 = lx_nf xs L 3
    · exact pE5_3_b73 Z hs e4
    · exact pE5_3_b72 Z hs e4
  have e2 : lw_P sv mt xs L J lam dd n0 s0 Q 740 l_E5_2 g_E5_2 345 2712 := by
    by_cases hs : lx_nf xs L 3 = lx_nf xs L 2
    · exact pE5_2_b71 Z hs e3
    · exact pE5_2_b70 Z hs e3
  have e1 : lw_P sv mt xs L J lam dd n0 s0 Q 740 l_E5_1 g_E5_1 340 2702 := by
    by_cases hs : lx_nf xs L 2 = lx_nf xs L 1
    · exact pE5_1_b69 Z hs e2
    · exact pE5_1_b68 Z hs e2
  have e0 : lw_P sv mt xs L J lam dd n0 s0 Q 740 l_E5_0 g_E5_0 335 2692 := by
    exact pE5_0_b67 Z e1
  exact pX5_b66 Z hn e0
theorem hX6 (Z : lw_W sv mt xs L lam dd) (hn : lx_nv xs L = 6) (hJ : lb_ok xs L J) (hl : lb_l xs L lam) (nx : lw_P sv mt xs L J lam dd n0 s0 Q 1170 l_I6_6 g_I6_6 474 3430) : lw_P sv mt xs L J lam dd n0 s0 Q 737 l_X6 g_X6 374 3058 := by
  have i5 : lw_P sv mt xs L J lam dd n0 s0 Q 1170 l_I6_5 g_I6_5 465 3391 := by
    rcases lx_nf_cases xs L 5 with h | h | h | h
    · exact pI6_5_b156 Z h hJ nx
    · exact pI6_5_b157 Z h hJ nx
    · exact pI6_5_b158 Z h hJ nx
    · exact pI6_5_b159 Z h hJ nx
  have i4 : lw_P sv mt xs L J lam dd n0 s0 Q 1170 l_I6_4 g_I6_4 456 3352 := by
    rcases lx_nf_cases xs L 4 with h | h | h | h
    · exact pI6_4_b152 Z h hJ i5
    · exact pI6_4_b153 Z h hJ i5
    · exact pI6_4_b154 Z h hJ i5
    · exact pI6_4_b155 Z h hJ i5
  have i3 : lw_P sv mt xs L J lam dd n0 s0 Q 1170 l_I6_3 g_I6_3 447 3313 := by
    rcases lx_nf_cases xs L 3 with h | h | h | h
    · exact pI6_3_b148 Z h hJ i4
    · exact pI6_3_b149 Z h hJ i4
    · exact pI6_3_b150 Z h hJ i4
    · exact pI6_3_b151 Z h hJ i4
  have i2 : lw_P sv mt xs L J lam dd n0 s0 Q 1170 l_I6_2 g_I6_2 438 3274 := by
    rcases lx_nf_cases xs L 2 with h | h | h | h
    · exact pI6_2_b144 Z h hJ i3
    · exact pI6_2_b145 Z h hJ i3
    · exact pI6_2_b146 Z h hJ i3
    · exact pI6_2_b147 Z h hJ i3
  have i1 : lw_P sv mt xs L J lam dd n0 s0 Q 1170 l_I6_1 g_I6_1 429 3235 := by
    rcases lx_nf_cases xs L 1 with h | h | h | h
    · exact pI6_1_b140 Z h hJ i2
    · exact pI6_1_b141 Z h hJ i2
    · exact pI6_1_b142 Z h hJ i2
    · exact pI6_1_b143 Z h hJ i2
  have i0 : lw_P sv mt xs L J lam dd n0 s0 Q 1170 l_I6_0 g_I6_0 420 3196 := by
    exact pI6_0_b139 Z hJ i1
  have g6 : lw_P sv mt xs L J lam dd n0 s0 Q 1092 l_G6_6 g_G6_6 420 3196 := pG6_6_b138 Z i0
  have g5 : lw_P sv mt xs L J lam dd n0 s0 Q 1092 l_G6_5 g_G6_5 419 3192 := by
    rcases lx_nf_cases xs L 5 with h | h | h | h
    · exact pG6_5_b134 Z h hJ g6
    · exact pG6_5_b135 Z h hJ g6
    · exact pG6_5_b136 Z h hJ g6
    · exact pG6_5_b137 Z h hJ g6
  have g4 : lw_P sv mt xs L J lam dd n0 s0 Q 1092 l_G6_4 g_G6_4 418 3188 := by
    rcases lx_nf_cases xs L 4 with h | h | h | h
    · exact pG6_4_b130 Z h hJ g5
    · exact pG6_4_b131 Z h hJ g5
    · exact pG6_4_b132 Z h hJ g5
    · exact pG6_4_b133 Z h hJ g5
  have g3 : lw_P sv mt xs L J lam dd n0 s0 Q 1092 l_G6_3 g_G6_3 417 3184 := by
    rcases lx_nf_cases xs L 3 with h | h | h | h
    · exact pG6_3_b126 Z h hJ g4
    · exact pG6_3_b127 Z h hJ g4
    · exact pG6_3_b128 Z h hJ g4
    · exact pG6_3_b129 Z h hJ g4
  have g2 : lw_P sv mt xs L J lam dd n0 s0 Q 1092 l_G6_2 g_G6_2 416 3180 := by
    rcases lx_nf_cases xs L 2 with h | h | h | h
    · exact pG6_2_b122 Z h hJ g3
    · exact pG6_2_b123 Z h hJ g3
    · exact pG6_2_b124 Z h hJ g3
    · exact pG6_2_b125 Z h hJ g3
  have e5 : lw_P sv mt xs L J lam dd n0 s0 Q 740 l_E6_5 g_E6_5 399 3108 := by
    rcases lx_nf_cases xs L 1 with h | h | h | h
    · exact pE6_5_b118 Z h hJ hl g2
    · exact pE6_5_b119 Z h hJ hl g2
    · exact pE6_5_b120 Z h hJ hl g2
    · exact pE6_5_b121 Z h hJ hl g2
  have e4 : lw_P sv mt xs L J lam dd n0 s0 Q 740 l_E6_4 g_E6_4 394 3098 := by
    by_cases hs : lx_nf xs L 5 = lx_nf xs L 4
    · exact pE6_4_b117 Z hs e5
    · exact pE6_4_b116 Z hs e5
  have e3 : lw_P sv mt xs L J lam dd n0 s0 Q 740 l_E6_3 g_E6_3 389 3088 := by
    by_cases hs : lx_nf xs L 4 = lx_nf xs L 3
    · exact pE6_3_b115 Z hs e4
    · exact pE6_3_b114 Z hs e4
  have e2 : lw_P sv mt xs L J lam dd n0 s0 Q 740 l_E6_2 g_E6_2 384 3078 := by
    by_cases hs : lx_nf xs L 3 = lx_nf xs L 2
    · exact pE6_2_b113 Z hs e3
    · exact pE6_2_b112 Z hs e3
  have e1 : lw_P sv mt xs L J lam dd n0 s0 Q 740 l_E6_1 g_E6_1 379 3068 := by
    by_cases hs : lx_nf xs L 2 = lx_nf xs L 1
    · exact pE6_1_b111 Z hs e2
    · exact pE6_1_b110 Z hs e2
  have e0 : lw_P sv mt xs L J lam dd n0 s0 Q 740 l_E6_0 g_E6_0 374 3058 := by
    exact pE6_0_b109 Z e1
  exact pX6_b108 Z hn e0
end HDS
