/-! ===== made by wip/prog/gen8.py: each operation is sound ===== -/
set_option maxRecDepth 20000 in
theorem zk115_0 (l : Launch) (scr B : Nat) (D : va_G) : z_All l scr B D 115 0 z_c115_0 := by
  refine z_All.c (j := 1) rfl (ok_new (idx := 7) (by decide +kernel) rfl z_i0 z_t0 zw13 zw14 zw1 rfl (zd0 scr B)) ?_
  refine z_All.c (j := 2) rfl ok_bad ?_
  refine z_All.c (j := 3) rfl ok_bad ?_
  refine z_All.c (j := 4) rfl (ok_dup (by decide +kernel)) ?_
  refine z_All.c (j := 5) rfl (ok_ci (idx := 9) (by decide +kernel) zm0 rfl rfl zw15 zw16) ?_
  refine z_All.c (j := 6) rfl ok_bad ?_
  refine z_All.c (j := 7) rfl ok_bad ?_
  refine z_All.c (j := 8) rfl (ok_astore_n (n := 1) (by decide +kernel) rfl (fun _ => rfl)) ?_
  refine z_All.c (j := 9) rfl (ok_new (idx := 10) (by decide +kernel) rfl z_i10 z_t10 zw534 zw535 zw6 rfl (zd10 scr B)) ?_
  refine z_All.c (j := 10) rfl ok_bad ?_
  refine z_All.c (j := 11) rfl ok_bad ?_
  refine z_All.c (j := 12) rfl (ok_dup (by decide +kernel)) ?_
  refine z_All.c (j := 13) rfl (ok_ci (idx := 12) (by decide +kernel) zm70 rfl rfl zw536 zw537) ?_
  refine z_All.c (j := 14) rfl ok_bad ?_
  refine z_All.c (j := 15) rfl ok_bad ?_
  refine z_All.c (j := 16) rfl (ok_astore_n (n := 2) (by decide +kernel) rfl (fun _ => rfl)) ?_
  refine z_All.c (j := 17) rfl (ok_iconst (n := 0) (by decide +kernel) (by decide +kernel)) ?_
  refine z_All.c (j := 18) rfl (ok_istore_n (n := 3) (by decide +kernel) rfl (fun _ => rfl)) ?_
  refine z_All.c (j := 19) rfl (ok_iload_n (n := 3) (by decide +kernel) rfl) ?_
  refine z_All.c (j := 20) rfl (ok_aload_n (n := 0) (by decide +kernel) rfl) ?_
  refine z_All.c (j := 21) rfl (ok_alen (by decide +kernel)) ?_
  refine z_All.c (j := 22) rfl (ok_bipush (n := 6) (by decide +kernel) (by decide +kernel)) ?_
  refine z_All.c (j := 23) rfl ok_bad ?_
  refine z_All.c (j := 24) rfl (ok_isub (by decide +kernel)) ?_
  refine z_All.c (j := 25) rfl (ok_ic_gt (off := 911) (by decide +kernel) (by decide +kernel)) ?_
  refine z_All.c (j := 26) rfl ok_bad ?_
  refine z_All.c (j := 27) rfl ok_bad ?_
  refine z_All.c (j := 28) rfl (ok_aload_n (n := 0) (by decide +kernel) rfl) ?_
  refine z_All.c (j := 29) rfl (ok_iload_n (n := 3) (by decide +kernel) rfl) ?_
  refine z_All.c (j := 30) rfl (ok_sld (by decide +kernel)) ?_
  refine z_All.c (j := 31) rfl (ok_bipush (n := 31) (by decide +kernel) (by decide +kernel)) ?_
  refine z_All.c (j := 32) rfl ok_bad ?_
  refine z_All.c (j := 33) rfl (ok_iand (by decide +kernel)) ?_
  refine z_All.c (j := 34) rfl (ok_tab (dflt := 896) (lo := 0) (hi := 18) (offs := #[91, 140, 173, 206, 269, 312, 407, 440, 453, 466, 491, 516, 527, 540, 605, 680, 745, 830, 853]) (len := 91) (by decide +kernel) (by decide +kernel) (by decide +kernel) (by decide +kernel)) ?_
  refine z_All.c (j := 35) rfl ok_bad ?_
  refine z_All.c (j := 36) rfl ok_bad ?_
  refine z_All.c (j := 37) rfl ok_bad ?_
  refine z_All.c (j := 38) rfl ok_bad ?_
  refine z_All.c (j := 39) rfl ok_bad ?_
  refine z_All.c (j := 40) rfl ok_bad ?_
  refine z_All.c (j := 41) rfl ok_bad ?_
  refine z_All.c (j := 42) rfl ok_bad ?_
  refine z_All.c (j := 43) rfl ok_bad ?_
  refine z_All.c (j := 44) rfl ok_bad ?_
  refine z_All.c (j := 45) rfl ok_bad ?_
  refine z_All.c (j := 46) rfl ok_bad ?_
  refine z_All.c (j := 47) rfl ok_bad ?_
  refine z_All.c (j := 48) rfl ok_bad ?_
  refine z_All.c (j := 49) rfl ok_bad ?_
  refine z_All.c (j := 50) rfl ok_bad ?_
  refine z_All.c (j := 51) rfl ok_bad ?_
  refine z_All.c (j := 52) rfl ok_bad ?_
  refine z_All.c (j := 53) rfl ok_bad ?_
  refine z_All.c (j := 54) rfl ok_bad ?_
  refine z_All.c (j := 55) rfl ok_bad ?_
  refine z_All.c (j := 56) rfl ok_bad ?_
  refine z_All.c (j := 57) rfl ok_bad ?_
  refine z_All.c (j := 58) rfl ok_bad ?_
  refine z_All.c (j := 59) rfl ok_bad ?_
  refine z_All.c (j := 60) rfl ok_bad ?_
  refine z_All.c (j := 61) rfl ok_bad ?_
  refine z_All.c (j := 62) rfl ok_bad ?_
  refine z_All.c (j := 63) rfl ok_bad ?_
  refine z_All.c (j := 64) rfl ok_bad ?_
  exact trivial
set_option maxRecDepth 20000 in
theorem zk115_1 (l : Launch) (scr B : Nat) (D : va_G) : z_All l scr B D 115 64 z_c115_1 := by
  refine z_All.c (j := 65) rfl ok_bad ?_
  refine z_All.c (j := 66) rfl ok_bad ?_
  refine z_All.c (j := 67) rfl ok_bad ?_
  refine z_All.c (j := 68) rfl ok_bad ?_
  refine z_All.c (j := 69) rfl ok_bad ?_
  refine z_All.c (j := 70) rfl ok_bad ?_
  refine z_All.c (j := 71) rfl ok_bad ?_
  refine z_All.c (j := 72) rfl ok_bad ?_
  refine z_All.c (j := 73) rfl ok_bad ?_
  refine z_All.c (j := 74) rfl ok_bad ?_
  refine z_All.c (j := 75) rfl ok_bad ?_
  refine z_All.c (j := 76) rfl ok_bad ?_
  refine z_All.c (j := 77) rfl ok_bad ?_
  refine z_All.c (j := 78) rfl ok_bad ?_
  refine z_All.c (j := 79) rfl ok_bad ?_
  refine z_All.c (j := 80) rfl ok_bad ?_
  refine z_All.c (j := 81) rfl ok_bad ?_
  refine z_All.c (j := 82) rfl ok_bad ?_
  refine z_All.c (j := 83) rfl ok_bad ?_
  refine z_All.c (j := 84) rfl ok_bad ?_
  refine z_All.c (j := 85) rfl ok_bad ?_
  refine z_All.c (j := 86) rfl ok_bad ?_
  refine z_All.c (j := 87) rfl ok_bad ?_
  refine z_All.c (j := 88) rfl ok_bad ?_
  refine z_All.c (j := 89) rfl ok_bad ?_
  refine z_All.c (j := 90) rfl ok_bad ?_
  refine z_All.c (j := 91) rfl ok_bad ?_
  refine z_All.c (j := 92) rfl ok_bad ?_
  refine z_All.c (j := 93) rfl ok_bad ?_
  refine z_All.c (j := 94) rfl ok_bad ?_
  refine z_All.c (j := 95) rfl ok_bad ?_
  refine z_All.c (j := 96) rfl ok_bad ?_
  refine z_All.c (j := 97) rfl ok_bad ?_
  refine z_All.c (j := 98) rfl ok_bad ?_
  refine z_All.c (j := 99) rfl ok_bad ?_
  refine z_All.c (j := 100) rfl ok_bad ?_
  refine z_All.c (j := 101) rfl ok_bad ?_
  refine z_All.c (j := 102) rfl ok_bad ?_
  refine z_All.c (j := 103) rfl ok_bad ?_
  refine z_All.c (j := 104) rfl ok_bad ?_
  refine z_All.c (j := 105) rfl ok_bad ?_
  refine z_All.c (j := 106) rfl ok_bad ?_
  refine z_All.c (j := 107) rfl ok_bad ?_
  refine z_All.c (j := 108) rfl ok_bad ?_
  refine z_All.c (j := 109) rfl ok_bad ?_
  refine z_All.c (j := 110) rfl ok_bad ?_
  refine z_All.c (j := 111) rfl ok_bad ?_
  refine z_All.c (j := 112) rfl ok_bad ?_
  refine z_All.c (j := 113) rfl ok_bad ?_
  refine z_All.c (j := 114) rfl ok_bad ?_
  refine z_All.c (j := 115) rfl ok_bad ?_
  refine z_All.c (j := 116) rfl ok_bad ?_
  refine z_All.c (j := 117) rfl ok_bad ?_
  refine z_All.c (j := 118) rfl ok_bad ?_
  refine z_All.c (j := 119) rfl ok_bad ?_
  refine z_All.c (j := 120) rfl ok_bad ?_
  refine z_All.c (j := 121) rfl ok_bad ?_
  refine z_All.c (j := 122) rfl ok_bad ?_
  refine z_All.c (j := 123) rfl ok_bad ?_
  refine z_All.c (j := 124) rfl ok_bad ?_
  refine z_All.c (j := 125) rfl (ok_aload_n (n := 1) (by decide +kernel) rfl) ?_
  refine z_All.c (j := 126) rfl (ok_aload_n (n := 0) (by decide +kernel) rfl) ?_
  refine z_All.c (j := 127) rfl (ok_iload_n (n := 3) (by decide +kernel) rfl) ?_
  refine z_All.c (j := 128) rfl (ok_iconst (n := 1) (by decide +kernel) (by decide +kernel)) ?_
  exact trivial
set_option maxRecDepth 20000 in
theorem zk115_2 (l : Launch) (scr B : Nat) (D : va_G) : z_All l scr B D 115 128 z_c115_2 := by
  refine z_All.c (j := 129) rfl (ok_iadd (by decide +kernel)) ?_
  refine z_All.c (j := 130) rfl (ok_sld (by decide +kernel)) ?_
  refine z_All.c (j := 131) rfl (ok_aload_n (n := 0) (by decide +kernel) rfl) ?_
  refine z_All.c (j := 132) rfl (ok_iload_n (n := 3) (by decide +kernel) rfl) ?_
  refine z_All.c (j := 133) rfl (ok_iconst (n := 2) (by decide +kernel) (by decide +kernel)) ?_
  refine z_All.c (j := 134) rfl (ok_iadd (by decide +kernel)) ?_
  refine z_All.c (j := 135) rfl (ok_sld (by decide +kernel)) ?_
  refine z_All.c (j := 136) rfl (ok_if_eq (off := 7) (by decide +kernel) (by decide +kernel)) ?_
  refine z_All.c (j := 137) rfl ok_bad ?_
  refine z_All.c (j := 138) rfl ok_bad ?_
  refine z_All.c (j := 139) rfl (ok_iconst (n := 1) (by decide +kernel) (by decide +kernel)) ?_
  refine z_All.c (j := 140) rfl (ok_goto (off := 4) (by decide +kernel) (by decide +kernel)) ?_
  refine z_All.c (j := 141) rfl ok_bad ?_
  refine z_All.c (j := 142) rfl ok_bad ?_
  refine z_All.c (j := 143) rfl (ok_iconst (n := 0) (by decide +kernel) (by decide +kernel)) ?_
  refine z_All.c (j := 144) rfl (ok_cv (idx := 13) (by decide +kernel) rfl zm1 zw150 zw151 zw152) ?_
  refine z_All.c (j := 145) rfl ok_bad ?_
  refine z_All.c (j := 146) rfl ok_bad ?_
  refine z_All.c (j := 147) rfl (ok_aload_n (n := 2) (by decide +kernel) rfl) ?_
  refine z_All.c (j := 148) rfl (ok_aload_n (n := 0) (by decide +kernel) rfl) ?_
  refine z_All.c (j := 149) rfl (ok_iload_n (n := 3) (by decide +kernel) rfl) ?_
  refine z_All.c (j := 150) rfl (ok_iconst (n := 1) (by decide +kernel) (by decide +kernel)) ?_
  refine z_All.c (j := 151) rfl (ok_iadd (by decide +kernel)) ?_
  refine z_All.c (j := 152) rfl (ok_sld (by decide +kernel)) ?_
  refine z_All.c (j := 153) rfl (ok_aload_n (n := 0) (by decide +kernel) rfl) ?_
  refine z_All.c (j := 154) rfl (ok_iload_n (n := 3) (by decide +kernel) rfl) ?_
  refine z_All.c (j := 155) rfl (ok_iconst (n := 2) (by decide +kernel) (by decide +kernel)) ?_
  refine z_All.c (j := 156) rfl (ok_iadd (by decide +kernel)) ?_
  refine z_All.c (j := 157) rfl (ok_sld (by decide +kernel)) ?_
  refine z_All.c (j := 158) rfl (ok_if_eq (off := 7) (by decide +kernel) (by decide +kernel)) ?_
  refine z_All.c (j := 159) rfl ok_bad ?_
  refine z_All.c (j := 160) rfl ok_bad ?_
  refine z_All.c (j := 161) rfl (ok_iconst (n := 1) (by decide +kernel) (by decide +kernel)) ?_
  refine z_All.c (j := 162) rfl (ok_goto (off := 4) (by decide +kernel) (by decide +kernel)) ?_
  refine z_All.c (j := 163) rfl ok_bad ?_
  refine z_All.c (j := 164) rfl ok_bad ?_
  refine z_All.c (j := 165) rfl (ok_iconst (n := 0) (by decide +kernel) (by decide +kernel)) ?_
  refine z_All.c (j := 166) rfl (ok_cv (idx := 17) (by decide +kernel) rfl zm72 zw673 zw674 zw675) ?_
  refine z_All.c (j := 167) rfl ok_bad ?_
  refine z_All.c (j := 168) rfl ok_bad ?_
  refine z_All.c (j := 169) rfl (ok_ic_eq (off := 761) (by decide +kernel) (by decide +kernel)) ?_
  refine z_All.c (j := 170) rfl ok_bad ?_
  refine z_All.c (j := 171) rfl ok_bad ?_
  refine z_All.c (j := 172) rfl (ok_iconst (n := 0) (by decide +kernel) (by decide +kernel)) ?_
  refine z_All.c (j := 173) rfl (ok_iret (by decide +kernel) rfl) ?_
  refine z_All.c (j := 174) rfl (ok_aload_n (n := 1) (by decide +kernel) rfl) ?_
  refine z_All.c (j := 175) rfl (ok_aload_n (n := 0) (by decide +kernel) rfl) ?_
  refine z_All.c (j := 176) rfl (ok_iload_n (n := 3) (by decide +kernel) rfl) ?_
  refine z_All.c (j := 177) rfl (ok_iconst (n := 1) (by decide +kernel) (by decide +kernel)) ?_
  refine z_All.c (j := 178) rfl (ok_iadd (by decide +kernel)) ?_
  refine z_All.c (j := 179) rfl (ok_sld (by decide +kernel)) ?_
  refine z_All.c (j := 180) rfl (ok_aload_n (n := 0) (by decide +kernel) rfl) ?_
  refine z_All.c (j := 181) rfl (ok_iload_n (n := 3) (by decide +kernel) rfl) ?_
  refine z_All.c (j := 182) rfl (ok_iconst (n := 2) (by decide +kernel) (by decide +kernel)) ?_
  refine z_All.c (j := 183) rfl (ok_iadd (by decide +kernel)) ?_
  refine z_All.c (j := 184) rfl (ok_sld (by decide +kernel)) ?_
  refine z_All.c (j := 185) rfl (ok_cv (idx := 18) (by decide +kernel) rfl zm2 zw208 zw209 zw210) ?_
  refine z_All.c (j := 186) rfl ok_bad ?_
  refine z_All.c (j := 187) rfl ok_bad ?_
  refine z_All.c (j := 188) rfl (ok_aload_n (n := 2) (by decide +kernel) rfl) ?_
  refine z_All.c (j := 189) rfl (ok_aload_n (n := 0) (by decide +kernel) rfl) ?_
  refine z_All.c (j := 190) rfl (ok_iload_n (n := 3) (by decide +kernel) rfl) ?_
  refine z_All.c (j := 191) rfl (ok_iconst (n := 1) (by decide +kernel) (by decide +kernel)) ?_
  refine z_All.c (j := 192) rfl (ok_iadd (by decide +kernel)) ?_
  exact trivial
set_option maxRecDepth 20000 in
theorem zk115_3 (l : Launch) (scr B : Nat) (D : va_G) : z_All l scr B D 115 192 z_c115_3 := by
  refine z_All.c (j := 193) rfl (ok_sld (by decide +kernel)) ?_
  refine z_All.c (j := 194) rfl (ok_aload_n (n := 0) (by decide +kernel) rfl) ?_
  refine z_All.c (j := 195) rfl (ok_iload_n (n := 3) (by decide +kernel) rfl) ?_
  refine z_All.c (j := 196) rfl (ok_iconst (n := 2) (by decide +kernel) (by decide +kernel)) ?_
  refine z_All.c (j := 197) rfl (ok_iadd (by decide +kernel)) ?_
  refine z_All.c (j := 198) rfl (ok_sld (by decide +kernel)) ?_
  refine z_All.c (j := 199) rfl (ok_cv (idx := 22) (by decide +kernel) rfl zm73 zw681 zw682 zw683) ?_
  refine z_All.c (j := 200) rfl ok_bad ?_
  refine z_All.c (j := 201) rfl ok_bad ?_
  refine z_All.c (j := 202) rfl (ok_ic_eq (off := 728) (by decide +kernel) (by decide +kernel)) ?_
  refine z_All.c (j := 203) rfl ok_bad ?_
  refine z_All.c (j := 204) rfl ok_bad ?_
  refine z_All.c (j := 205) rfl (ok_iconst (n := 0) (by decide +kernel) (by decide +kernel)) ?_
  refine z_All.c (j := 206) rfl (ok_iret (by decide +kernel) rfl) ?_
  refine z_All.c (j := 207) rfl (ok_aload_n (n := 1) (by decide +kernel) rfl) ?_
  refine z_All.c (j := 208) rfl (ok_aload_n (n := 0) (by decide +kernel) rfl) ?_
  refine z_All.c (j := 209) rfl (ok_iload_n (n := 3) (by decide +kernel) rfl) ?_
  refine z_All.c (j := 210) rfl (ok_iconst (n := 1) (by decide +kernel) (by decide +kernel)) ?_
  refine z_All.c (j := 211) rfl (ok_iadd (by decide +kernel)) ?_
  refine z_All.c (j := 212) rfl (ok_sld (by decide +kernel)) ?_
  refine z_All.c (j := 213) rfl (ok_aload_n (n := 0) (by decide +kernel) rfl) ?_
  refine z_All.c (j := 214) rfl (ok_iload_n (n := 3) (by decide +kernel) rfl) ?_
  refine z_All.c (j := 215) rfl (ok_iconst (n := 2) (by decide +kernel) (by decide +kernel)) ?_
  refine z_All.c (j := 216) rfl (ok_iadd (by decide +kernel)) ?_
  refine z_All.c (j := 217) rfl (ok_sld (by decide +kernel)) ?_
  refine z_All.c (j := 218) rfl (ok_cv (idx := 23) (by decide +kernel) rfl zm3 zw216 zw217 zw218) ?_
  refine z_All.c (j := 219) rfl ok_bad ?_
  refine z_All.c (j := 220) rfl ok_bad ?_
  refine z_All.c (j := 221) rfl (ok_aload_n (n := 2) (by decide +kernel) rfl) ?_
  refine z_All.c (j := 222) rfl (ok_aload_n (n := 0) (by decide +kernel) rfl) ?_
  refine z_All.c (j := 223) rfl (ok_iload_n (n := 3) (by decide +kernel) rfl) ?_
  refine z_All.c (j := 224) rfl (ok_iconst (n := 1) (by decide +kernel) (by decide +kernel)) ?_
  refine z_All.c (j := 225) rfl (ok_iadd (by decide +kernel)) ?_
  refine z_All.c (j := 226) rfl (ok_sld (by decide +kernel)) ?_
  refine z_All.c (j := 227) rfl (ok_aload_n (n := 0) (by decide +kernel) rfl) ?_
  refine z_All.c (j := 228) rfl (ok_iload_n (n := 3) (by decide +kernel) rfl) ?_
  refine z_All.c (j := 229) rfl (ok_iconst (n := 2) (by decide +kernel) (by decide +kernel)) ?_
  refine z_All.c (j := 230) rfl (ok_iadd (by decide +kernel)) ?_
  refine z_All.c (j := 231) rfl (ok_sld (by decide +kernel)) ?_
  refine z_All.c (j := 232) rfl (ok_cv (idx := 26) (by decide +kernel) rfl zm74 zw685 zw686 zw687) ?_
  refine z_All.c (j := 233) rfl ok_bad ?_
  refine z_All.c (j := 234) rfl ok_bad ?_
  refine z_All.c (j := 235) rfl (ok_ic_eq (off := 695) (by decide +kernel) (by decide +kernel)) ?_
  refine z_All.c (j := 236) rfl ok_bad ?_
  refine z_All.c (j := 237) rfl ok_bad ?_
  refine z_All.c (j := 238) rfl (ok_iconst (n := 0) (by decide +kernel) (by decide +kernel)) ?_
  refine z_All.c (j := 239) rfl (ok_iret (by decide +kernel) rfl) ?_
  refine z_All.c (j := 240) rfl (ok_aload_n (n := 1) (by decide +kernel) rfl) ?_
  refine z_All.c (j := 241) rfl (ok_aload_n (n := 0) (by decide +kernel) rfl) ?_
  refine z_All.c (j := 242) rfl (ok_iload_n (n := 3) (by decide +kernel) rfl) ?_
  refine z_All.c (j := 243) rfl (ok_iconst (n := 1) (by decide +kernel) (by decide +kernel)) ?_
  refine z_All.c (j := 244) rfl (ok_iadd (by decide +kernel)) ?_
  refine z_All.c (j := 245) rfl (ok_sld (by decide +kernel)) ?_
  refine z_All.c (j := 246) rfl (ok_aload_n (n := 0) (by decide +kernel) rfl) ?_
  refine z_All.c (j := 247) rfl (ok_iload_n (n := 3) (by decide +kernel) rfl) ?_
  refine z_All.c (j := 248) rfl (ok_iconst (n := 2) (by decide +kernel) (by decide +kernel)) ?_
  refine z_All.c (j := 249) rfl (ok_iadd (by decide +kernel)) ?_
  refine z_All.c (j := 250) rfl (ok_sld (by decide +kernel)) ?_
  refine z_All.c (j := 251) rfl (ok_aload_n (n := 0) (by decide +kernel) rfl) ?_
  refine z_All.c (j := 252) rfl (ok_iload_n (n := 3) (by decide +kernel) rfl) ?_
  refine z_All.c (j := 253) rfl (ok_iconst (n := 3) (by decide +kernel) (by decide +kernel)) ?_
  refine z_All.c (j := 254) rfl (ok_iadd (by decide +kernel)) ?_
  refine z_All.c (j := 255) rfl (ok_sld (by decide +kernel)) ?_
  refine z_All.c (j := 256) rfl (ok_aload_n (n := 0) (by decide +kernel) rfl) ?_
  exact trivial
set_option maxRecDepth 20000 in
theorem zk115_4 (l : Launch) (scr B : Nat) (D : va_G) : z_All l scr B D 115 256 z_c115_4 := by
  refine z_All.c (j := 257) rfl (ok_iload_n (n := 3) (by decide +kernel) rfl) ?_
  refine z_All.c (j := 258) rfl (ok_iconst (n := 4) (by decide +kernel) (by decide +kernel)) ?_
  refine z_All.c (j := 259) rfl (ok_iadd (by decide +kernel)) ?_
  refine z_All.c (j := 260) rfl (ok_sld (by decide +kernel)) ?_
  refine z_All.c (j := 261) rfl (ok_aload_n (n := 0) (by decide +kernel) rfl) ?_
  refine z_All.c (j := 262) rfl (ok_iload_n (n := 3) (by decide +kernel) rfl) ?_
  refine z_All.c (j := 263) rfl (ok_iconst (n := 5) (by decide +kernel) (by decide +kernel)) ?_
  refine z_All.c (j := 264) rfl (ok_iadd (by decide +kernel)) ?_
  refine z_All.c (j := 265) rfl (ok_sld (by decide +kernel)) ?_
  refine z_All.c (j := 266) rfl (ok_cv (idx := 27) (by decide +kernel) rfl zm4 zw224 zw225 zw226) ?_
  refine z_All.c (j := 267) rfl ok_bad ?_
  refine z_All.c (j := 268) rfl ok_bad ?_
  refine z_All.c (j := 269) rfl (ok_aload_n (n := 2) (by decide +kernel) rfl) ?_
  refine z_All.c (j := 270) rfl (ok_aload_n (n := 0) (by decide +kernel) rfl) ?_
  refine z_All.c (j := 271) rfl (ok_iload_n (n := 3) (by decide +kernel) rfl) ?_
  refine z_All.c (j := 272) rfl (ok_iconst (n := 1) (by decide +kernel) (by decide +kernel)) ?_
  refine z_All.c (j := 273) rfl (ok_iadd (by decide +kernel)) ?_
  refine z_All.c (j := 274) rfl (ok_sld (by decide +kernel)) ?_
  refine z_All.c (j := 275) rfl (ok_aload_n (n := 0) (by decide +kernel) rfl) ?_
  refine z_All.c (j := 276) rfl (ok_iload_n (n := 3) (by decide +kernel) rfl) ?_
  refine z_All.c (j := 277) rfl (ok_iconst (n := 2) (by decide +kernel) (by decide +kernel)) ?_
  refine z_All.c (j := 278) rfl (ok_iadd (by decide +kernel)) ?_
  refine z_All.c (j := 279) rfl (ok_sld (by decide +kernel)) ?_
  refine z_All.c (j := 280) rfl (ok_aload_n (n := 0) (by decide +kernel) rfl) ?_
  refine z_All.c (j := 281) rfl (ok_iload_n (n := 3) (by decide +kernel) rfl) ?_
  refine z_All.c (j := 282) rfl (ok_iconst (n := 3) (by decide +kernel) (by decide +kernel)) ?_
  refine z_All.c (j := 283) rfl (ok_iadd (by decide +kernel)) ?_
  refine z_All.c (j := 284) rfl (ok_sld (by decide +kernel)) ?_
  refine z_All.c (j := 285) rfl (ok_aload_n (n := 0) (by decide +kernel) rfl) ?_
  refine z_All.c (j := 286) rfl (ok_iload_n (n := 3) (by decide +kernel) rfl) ?_
  refine z_All.c (j := 287) rfl (ok_iconst (n := 4) (by decide +kernel) (by decide +kernel)) ?_
  refine z_All.c (j := 288) rfl (ok_iadd (by decide +kernel)) ?_
  refine z_All.c (j := 289) rfl (ok_sld (by decide +kernel)) ?_
  refine z_All.c (j := 290) rfl (ok_aload_n (n := 0) (by decide +kernel) rfl) ?_
  refine z_All.c (j := 291) rfl (ok_iload_n (n := 3) (by decide +kernel) rfl) ?_
  refine z_All.c (j := 292) rfl (ok_iconst (n := 5) (by decide +kernel) (by decide +kernel)) ?_
  refine z_All.c (j := 293) rfl (ok_iadd (by decide +kernel)) ?_
  refine z_All.c (j := 294) rfl (ok_sld (by decide +kernel)) ?_
  refine z_All.c (j := 295) rfl (ok_cv (idx := 31) (by decide +kernel) rfl zm76 zw689 zw690 zw691) ?_
  refine z_All.c (j := 296) rfl ok_bad ?_
  refine z_All.c (j := 297) rfl ok_bad ?_
  refine z_All.c (j := 298) rfl (ok_ic_eq (off := 632) (by decide +kernel) (by decide +kernel)) ?_
  refine z_All.c (j := 299) rfl ok_bad ?_
  refine z_All.c (j := 300) rfl ok_bad ?_
  refine z_All.c (j := 301) rfl (ok_iconst (n := 0) (by decide +kernel) (by decide +kernel)) ?_
  refine z_All.c (j := 302) rfl (ok_iret (by decide +kernel) rfl) ?_
  refine z_All.c (j := 303) rfl (ok_aload_n (n := 1) (by decide +kernel) rfl) ?_
  refine z_All.c (j := 304) rfl (ok_aload_n (n := 0) (by decide +kernel) rfl) ?_
  refine z_All.c (j := 305) rfl (ok_iload_n (n := 3) (by decide +kernel) rfl) ?_
  refine z_All.c (j := 306) rfl (ok_iconst (n := 1) (by decide +kernel) (by decide +kernel)) ?_
  refine z_All.c (j := 307) rfl (ok_iadd (by decide +kernel)) ?_
  refine z_All.c (j := 308) rfl (ok_sld (by decide +kernel)) ?_
  refine z_All.c (j := 309) rfl (ok_aload_n (n := 0) (by decide +kernel) rfl) ?_
  refine z_All.c (j := 310) rfl (ok_iload_n (n := 3) (by decide +kernel) rfl) ?_
  refine z_All.c (j := 311) rfl (ok_iconst (n := 2) (by decide +kernel) (by decide +kernel)) ?_
  refine z_All.c (j := 312) rfl (ok_iadd (by decide +kernel)) ?_
  refine z_All.c (j := 313) rfl (ok_sld (by decide +kernel)) ?_
  refine z_All.c (j := 314) rfl (ok_aload_n (n := 0) (by decide +kernel) rfl) ?_
  refine z_All.c (j := 315) rfl (ok_iload_n (n := 3) (by decide +kernel) rfl) ?_
  refine z_All.c (j := 316) rfl (ok_iconst (n := 3) (by decide +kernel) (by decide +kernel)) ?_
  refine z_All.c (j := 317) rfl (ok_iadd (by decide +kernel)) ?_
  refine z_All.c (j := 318) rfl (ok_sld (by decide +kernel)) ?_
  refine z_All.c (j := 319) rfl (ok_cv (idx := 32) (by decide +kernel) rfl zm5 zw274 zw275 zw276) ?_
  refine z_All.c (j := 320) rfl ok_bad ?_
  exact trivial
set_option maxRecDepth 20000 in
theorem zk115_5 (l : Launch) (scr B : Nat) (D : va_G) : z_All l scr B D 115 320 z_c115_5 := by
  refine z_All.c (j := 321) rfl ok_bad ?_
  refine z_All.c (j := 322) rfl (ok_aload_n (n := 2) (by decide +kernel) rfl) ?_
  refine z_All.c (j := 323) rfl (ok_aload_n (n := 0) (by decide +kernel) rfl) ?_
  refine z_All.c (j := 324) rfl (ok_iload_n (n := 3) (by decide +kernel) rfl) ?_
  refine z_All.c (j := 325) rfl (ok_iconst (n := 1) (by decide +kernel) (by decide +kernel)) ?_
  refine z_All.c (j := 326) rfl (ok_iadd (by decide +kernel)) ?_
  refine z_All.c (j := 327) rfl (ok_sld (by decide +kernel)) ?_
  refine z_All.c (j := 328) rfl (ok_aload_n (n := 0) (by decide +kernel) rfl) ?_
  refine z_All.c (j := 329) rfl (ok_iload_n (n := 3) (by decide +kernel) rfl) ?_
  refine z_All.c (j := 330) rfl (ok_iconst (n := 2) (by decide +kernel) (by decide +kernel)) ?_
  refine z_All.c (j := 331) rfl (ok_iadd (by decide +kernel)) ?_
  refine z_All.c (j := 332) rfl (ok_sld (by decide +kernel)) ?_
  refine z_All.c (j := 333) rfl (ok_aload_n (n := 0) (by decide +kernel) rfl) ?_
  refine z_All.c (j := 334) rfl (ok_iload_n (n := 3) (by decide +kernel) rfl) ?_
  refine z_All.c (j := 335) rfl (ok_iconst (n := 3) (by decide +kernel) (by decide +kernel)) ?_
  refine z_All.c (j := 336) rfl (ok_iadd (by decide +kernel)) ?_
  refine z_All.c (j := 337) rfl (ok_sld (by decide +kernel)) ?_
  refine z_All.c (j := 338) rfl (ok_cv (idx := 36) (by decide +kernel) rfl zm77 zw697 zw698 zw699) ?_
  refine z_All.c (j := 339) rfl ok_bad ?_
  refine z_All.c (j := 340) rfl ok_bad ?_
  refine z_All.c (j := 341) rfl (ok_ic_eq (off := 589) (by decide +kernel) (by decide +kernel)) ?_
  refine z_All.c (j := 342) rfl ok_bad ?_
  refine z_All.c (j := 343) rfl ok_bad ?_
  refine z_All.c (j := 344) rfl (ok_iconst (n := 0) (by decide +kernel) (by decide +kernel)) ?_
  refine z_All.c (j := 345) rfl (ok_iret (by decide +kernel) rfl) ?_
  refine z_All.c (j := 346) rfl (ok_aload_n (n := 1) (by decide +kernel) rfl) ?_
  refine z_All.c (j := 347) rfl (ok_aload_n (n := 0) (by decide +kernel) rfl) ?_
  refine z_All.c (j := 348) rfl (ok_iload_n (n := 3) (by decide +kernel) rfl) ?_
  refine z_All.c (j := 349) rfl (ok_iconst (n := 1) (by decide +kernel) (by decide +kernel)) ?_
  refine z_All.c (j := 350) rfl (ok_iadd (by decide +kernel)) ?_
  refine z_All.c (j := 351) rfl (ok_sld (by decide +kernel)) ?_
  refine z_All.c (j := 352) rfl (ok_aload_n (n := 0) (by decide +kernel) rfl) ?_
  refine z_All.c (j := 353) rfl (ok_iload_n (n := 3) (by decide +kernel) rfl) ?_
  refine z_All.c (j := 354) rfl (ok_iconst (n := 2) (by decide +kernel) (by decide +kernel)) ?_
  refine z_All.c (j := 355) rfl (ok_iadd (by decide +kernel)) ?_
  refine z_All.c (j := 356) rfl (ok_sld (by decide +kernel)) ?_
  refine z_All.c (j := 357) rfl (ok_aload_n (n := 0) (by decide +kernel) rfl) ?_
  refine z_All.c (j := 358) rfl (ok_iload_n (n := 3) (by decide +kernel) rfl) ?_
  refine z_All.c (j := 359) rfl (ok_iconst (n := 3) (by decide +kernel) (by decide +kernel)) ?_
  refine z_All.c (j := 360) rfl (ok_iadd (by decide +kernel)) ?_
  refine z_All.c (j := 361) rfl (ok_sld (by decide +kernel)) ?_
  refine z_All.c (j := 362) rfl (ok_aload_n (n := 0) (by decide +kernel) rfl) ?_
  refine z_All.c (j := 363) rfl (ok_iload_n (n := 3) (by decide +kernel) rfl) ?_
  refine z_All.c (j := 364) rfl (ok_iconst (n := 4) (by decide +kernel) (by decide +kernel)) ?_
  refine z_All.c (j := 365) rfl (ok_iadd (by decide +kernel)) ?_
  refine z_All.c (j := 366) rfl (ok_sld (by decide +kernel)) ?_
  refine z_All.c (j := 367) rfl (ok_if_eq (off := 7) (by decide +kernel) (by decide +kernel)) ?_
  refine z_All.c (j := 368) rfl ok_bad ?_
  refine z_All.c (j := 369) rfl ok_bad ?_
  refine z_All.c (j := 370) rfl (ok_iconst (n := 1) (by decide +kernel) (by decide +kernel)) ?_
  refine z_All.c (j := 371) rfl (ok_goto (off := 4) (by decide +kernel) (by decide +kernel)) ?_
  refine z_All.c (j := 372) rfl ok_bad ?_
  refine z_All.c (j := 373) rfl ok_bad ?_
  refine z_All.c (j := 374) rfl (ok_iconst (n := 0) (by decide +kernel) (by decide +kernel)) ?_
  refine z_All.c (j := 375) rfl (ok_aload_n (n := 0) (by decide +kernel) rfl) ?_
  refine z_All.c (j := 376) rfl (ok_iload_n (n := 3) (by decide +kernel) rfl) ?_
  refine z_All.c (j := 377) rfl (ok_iconst (n := 5) (by decide +kernel) (by decide +kernel)) ?_
  refine z_All.c (j := 378) rfl (ok_iadd (by decide +kernel)) ?_
  refine z_All.c (j := 379) rfl (ok_sld (by decide +kernel)) ?_
  refine z_All.c (j := 380) rfl (ok_if_eq (off := 7) (by decide +kernel) (by decide +kernel)) ?_
  refine z_All.c (j := 381) rfl ok_bad ?_
  refine z_All.c (j := 382) rfl ok_bad ?_
  refine z_All.c (j := 383) rfl (ok_iconst (n := 1) (by decide +kernel) (by decide +kernel)) ?_
  refine z_All.c (j := 384) rfl (ok_goto (off := 4) (by decide +kernel) (by decide +kernel)) ?_
  exact trivial
set_option maxRecDepth 20000 in
theorem zk115_6 (l : Launch) (scr B : Nat) (D : va_G) : z_All l scr B D 115 384 z_c115_6 := by
  refine z_All.c (j := 385) rfl ok_bad ?_
  refine z_All.c (j := 386) rfl ok_bad ?_
  refine z_All.c (j := 387) rfl (ok_iconst (n := 0) (by decide +kernel) (by decide +kernel)) ?_
  refine z_All.c (j := 388) rfl (ok_cv (idx := 37) (by decide +kernel) rfl zm6 zw291 zw292 zw293) ?_
  refine z_All.c (j := 389) rfl ok_bad ?_
  refine z_All.c (j := 390) rfl ok_bad ?_
  refine z_All.c (j := 391) rfl (ok_aload_n (n := 2) (by decide +kernel) rfl) ?_
  refine z_All.c (j := 392) rfl (ok_aload_n (n := 0) (by decide +kernel) rfl) ?_
  refine z_All.c (j := 393) rfl (ok_iload_n (n := 3) (by decide +kernel) rfl) ?_
  refine z_All.c (j := 394) rfl (ok_iconst (n := 1) (by decide +kernel) (by decide +kernel)) ?_
  refine z_All.c (j := 395) rfl (ok_iadd (by decide +kernel)) ?_
  refine z_All.c (j := 396) rfl (ok_sld (by decide +kernel)) ?_
  refine z_All.c (j := 397) rfl (ok_aload_n (n := 0) (by decide +kernel) rfl) ?_
  refine z_All.c (j := 398) rfl (ok_iload_n (n := 3) (by decide +kernel) rfl) ?_
  refine z_All.c (j := 399) rfl (ok_iconst (n := 2) (by decide +kernel) (by decide +kernel)) ?_
  refine z_All.c (j := 400) rfl (ok_iadd (by decide +kernel)) ?_
  refine z_All.c (j := 401) rfl (ok_sld (by decide +kernel)) ?_
  refine z_All.c (j := 402) rfl (ok_aload_n (n := 0) (by decide +kernel) rfl) ?_
  refine z_All.c (j := 403) rfl (ok_iload_n (n := 3) (by decide +kernel) rfl) ?_
  refine z_All.c (j := 404) rfl (ok_iconst (n := 3) (by decide +kernel) (by decide +kernel)) ?_
  refine z_All.c (j := 405) rfl (ok_iadd (by decide +kernel)) ?_
  refine z_All.c (j := 406) rfl (ok_sld (by decide +kernel)) ?_
  refine z_All.c (j := 407) rfl (ok_aload_n (n := 0) (by decide +kernel) rfl) ?_
  refine z_All.c (j := 408) rfl (ok_iload_n (n := 3) (by decide +kernel) rfl) ?_
  refine z_All.c (j := 409) rfl (ok_iconst (n := 4) (by decide +kernel) (by decide +kernel)) ?_
  refine z_All.c (j := 410) rfl (ok_iadd (by decide +kernel)) ?_
  refine z_All.c (j := 411) rfl (ok_sld (by decide +kernel)) ?_
  refine z_All.c (j := 412) rfl (ok_if_eq (off := 7) (by decide +kernel) (by decide +kernel)) ?_
  refine z_All.c (j := 413) rfl ok_bad ?_
  refine z_All.c (j := 414) rfl ok_bad ?_
  refine z_All.c (j := 415) rfl (ok_iconst (n := 1) (by decide +kernel) (by decide +kernel)) ?_
  refine z_All.c (j := 416) rfl (ok_goto (off := 4) (by decide +kernel) (by decide +kernel)) ?_
  refine z_All.c (j := 417) rfl ok_bad ?_
  refine z_All.c (j := 418) rfl ok_bad ?_
  refine z_All.c (j := 419) rfl (ok_iconst (n := 0) (by decide +kernel) (by decide +kernel)) ?_
  refine z_All.c (j := 420) rfl (ok_aload_n (n := 0) (by decide +kernel) rfl) ?_
  refine z_All.c (j := 421) rfl (ok_iload_n (n := 3) (by decide +kernel) rfl) ?_
  refine z_All.c (j := 422) rfl (ok_iconst (n := 5) (by decide +kernel) (by decide +kernel)) ?_
  refine z_All.c (j := 423) rfl (ok_iadd (by decide +kernel)) ?_
  refine z_All.c (j := 424) rfl (ok_sld (by decide +kernel)) ?_
  refine z_All.c (j := 425) rfl (ok_if_eq (off := 7) (by decide +kernel) (by decide +kernel)) ?_
  refine z_All.c (j := 426) rfl ok_bad ?_
  refine z_All.c (j := 427) rfl ok_bad ?_
  refine z_All.c (j := 428) rfl (ok_iconst (n := 1) (by decide +kernel) (by decide +kernel)) ?_
  refine z_All.c (j := 429) rfl (ok_goto (off := 4) (by decide +kernel) (by decide +kernel)) ?_
  refine z_All.c (j := 430) rfl ok_bad ?_
  refine z_All.c (j := 431) rfl ok_bad ?_
  refine z_All.c (j := 432) rfl (ok_iconst (n := 0) (by decide +kernel) (by decide +kernel)) ?_
  refine z_All.c (j := 433) rfl (ok_cv (idx := 41) (by decide +kernel) rfl zm78 zw701 zw702 zw703) ?_
  refine z_All.c (j := 434) rfl ok_bad ?_
  refine z_All.c (j := 435) rfl ok_bad ?_
  refine z_All.c (j := 436) rfl (ok_ic_eq (off := 494) (by decide +kernel) (by decide +kernel)) ?_
  refine z_All.c (j := 437) rfl ok_bad ?_
  refine z_All.c (j := 438) rfl ok_bad ?_
  refine z_All.c (j := 439) rfl (ok_iconst (n := 0) (by decide +kernel) (by decide +kernel)) ?_
  refine z_All.c (j := 440) rfl (ok_iret (by decide +kernel) rfl) ?_
  refine z_All.c (j := 441) rfl (ok_aload_n (n := 1) (by decide +kernel) rfl) ?_
  refine z_All.c (j := 442) rfl (ok_aload_n (n := 0) (by decide +kernel) rfl) ?_
  refine z_All.c (j := 443) rfl (ok_iload_n (n := 3) (by decide +kernel) rfl) ?_
  refine z_All.c (j := 444) rfl (ok_iconst (n := 1) (by decide +kernel) (by decide +kernel)) ?_
  refine z_All.c (j := 445) rfl (ok_iadd (by decide +kernel)) ?_
  refine z_All.c (j := 446) rfl (ok_sld (by decide +kernel)) ?_
  refine z_All.c (j := 447) rfl (ok_aload_n (n := 0) (by decide +kernel) rfl) ?_
  refine z_All.c (j := 448) rfl (ok_iload_n (n := 3) (by decide +kernel) rfl) ?_
  exact trivial
set_option maxRecDepth 20000 in
theorem zk115_7 (l : Launch) (scr B : Nat) (D : va_G) : z_All l scr B D 115 448 z_c115_7 := by
  refine z_All.c (j := 449) rfl (ok_iconst (n := 2) (by decide +kernel) (by decide +kernel)) ?_
  refine z_All.c (j := 450) rfl (ok_iadd (by decide +kernel)) ?_
  refine z_All.c (j := 451) rfl (ok_sld (by decide +kernel)) ?_
  refine z_All.c (j := 452) rfl (ok_cv (idx := 42) (by decide +kernel) rfl zm7 zw321 zw322 zw323) ?_
  refine z_All.c (j := 453) rfl ok_bad ?_
  refine z_All.c (j := 454) rfl ok_bad ?_
  refine z_All.c (j := 455) rfl (ok_aload_n (n := 2) (by decide +kernel) rfl) ?_
  refine z_All.c (j := 456) rfl (ok_aload_n (n := 0) (by decide +kernel) rfl) ?_
  refine z_All.c (j := 457) rfl (ok_iload_n (n := 3) (by decide +kernel) rfl) ?_
  refine z_All.c (j := 458) rfl (ok_iconst (n := 1) (by decide +kernel) (by decide +kernel)) ?_
  refine z_All.c (j := 459) rfl (ok_iadd (by decide +kernel)) ?_
  refine z_All.c (j := 460) rfl (ok_sld (by decide +kernel)) ?_
  refine z_All.c (j := 461) rfl (ok_aload_n (n := 0) (by decide +kernel) rfl) ?_
  refine z_All.c (j := 462) rfl (ok_iload_n (n := 3) (by decide +kernel) rfl) ?_
  refine z_All.c (j := 463) rfl (ok_iconst (n := 2) (by decide +kernel) (by decide +kernel)) ?_
  refine z_All.c (j := 464) rfl (ok_iadd (by decide +kernel)) ?_
  refine z_All.c (j := 465) rfl (ok_sld (by decide +kernel)) ?_
  refine z_All.c (j := 466) rfl (ok_cv (idx := 46) (by decide +kernel) rfl zm87 zw705 zw706 zw707) ?_
  refine z_All.c (j := 467) rfl ok_bad ?_
  refine z_All.c (j := 468) rfl ok_bad ?_
  refine z_All.c (j := 469) rfl (ok_ic_eq (off := 461) (by decide +kernel) (by decide +kernel)) ?_
  refine z_All.c (j := 470) rfl ok_bad ?_
  refine z_All.c (j := 471) rfl ok_bad ?_
  refine z_All.c (j := 472) rfl (ok_iconst (n := 0) (by decide +kernel) (by decide +kernel)) ?_
  refine z_All.c (j := 473) rfl (ok_iret (by decide +kernel) rfl) ?_
  refine z_All.c (j := 474) rfl (ok_aload_n (n := 1) (by decide +kernel) rfl) ?_
  refine z_All.c (j := 475) rfl (ok_cv (idx := 47) (by decide +kernel) rfl zm8 zw366 zw367 zw368) ?_
  refine z_All.c (j := 476) rfl ok_bad ?_
  refine z_All.c (j := 477) rfl ok_bad ?_
  refine z_All.c (j := 478) rfl (ok_aload_n (n := 2) (by decide +kernel) rfl) ?_
  refine z_All.c (j := 479) rfl (ok_cv (idx := 51) (by decide +kernel) rfl zm88 zw741 zw742 zw743) ?_
  refine z_All.c (j := 480) rfl ok_bad ?_
  refine z_All.c (j := 481) rfl ok_bad ?_
  refine z_All.c (j := 482) rfl (ok_ic_eq (off := 448) (by decide +kernel) (by decide +kernel)) ?_
  refine z_All.c (j := 483) rfl ok_bad ?_
  refine z_All.c (j := 484) rfl ok_bad ?_
  refine z_All.c (j := 485) rfl (ok_iconst (n := 0) (by decide +kernel) (by decide +kernel)) ?_
  refine z_All.c (j := 486) rfl (ok_iret (by decide +kernel) rfl) ?_
  refine z_All.c (j := 487) rfl (ok_aload_n (n := 1) (by decide +kernel) rfl) ?_
  refine z_All.c (j := 488) rfl (ok_cv (idx := 52) (by decide +kernel) rfl zm9 zw370 zw371 zw372) ?_
  refine z_All.c (j := 489) rfl ok_bad ?_
  refine z_All.c (j := 490) rfl ok_bad ?_
  refine z_All.c (j := 491) rfl (ok_aload_n (n := 2) (by decide +kernel) rfl) ?_
  refine z_All.c (j := 492) rfl (ok_cv (idx := 55) (by decide +kernel) rfl zm89 zw745 zw746 zw747) ?_
  refine z_All.c (j := 493) rfl ok_bad ?_
  refine z_All.c (j := 494) rfl ok_bad ?_
  refine z_All.c (j := 495) rfl (ok_ic_eq (off := 435) (by decide +kernel) (by decide +kernel)) ?_
  refine z_All.c (j := 496) rfl ok_bad ?_
  refine z_All.c (j := 497) rfl ok_bad ?_
  refine z_All.c (j := 498) rfl (ok_iconst (n := 0) (by decide +kernel) (by decide +kernel)) ?_
  refine z_All.c (j := 499) rfl (ok_iret (by decide +kernel) rfl) ?_
  refine z_All.c (j := 500) rfl (ok_aload_n (n := 1) (by decide +kernel) rfl) ?_
  refine z_All.c (j := 501) rfl (ok_aload_n (n := 0) (by decide +kernel) rfl) ?_
  refine z_All.c (j := 502) rfl (ok_iload_n (n := 3) (by decide +kernel) rfl) ?_
  refine z_All.c (j := 503) rfl (ok_iconst (n := 1) (by decide +kernel) (by decide +kernel)) ?_
  refine z_All.c (j := 504) rfl (ok_iadd (by decide +kernel)) ?_
  refine z_All.c (j := 505) rfl (ok_sld (by decide +kernel)) ?_
  refine z_All.c (j := 506) rfl (ok_i2c (by decide +kernel)) ?_
  refine z_All.c (j := 507) rfl (ok_cv (idx := 56) (by decide +kernel) rfl zm10 zw374 zw375 zw376) ?_
  refine z_All.c (j := 508) rfl ok_bad ?_
  refine z_All.c (j := 509) rfl ok_bad ?_
  refine z_All.c (j := 510) rfl (ok_aload_n (n := 2) (by decide +kernel) rfl) ?_
  refine z_All.c (j := 511) rfl (ok_aload_n (n := 0) (by decide +kernel) rfl) ?_
  refine z_All.c (j := 512) rfl (ok_iload_n (n := 3) (by decide +kernel) rfl) ?_
  exact trivial
set_option maxRecDepth 20000 in
theorem zk115_8 (l : Launch) (scr B : Nat) (D : va_G) : z_All l scr B D 115 512 z_c115_8 := by
  refine z_All.c (j := 513) rfl (ok_iconst (n := 1) (by decide +kernel) (by decide +kernel)) ?_
  refine z_All.c (j := 514) rfl (ok_iadd (by decide +kernel)) ?_
  refine z_All.c (j := 515) rfl (ok_sld (by decide +kernel)) ?_
  refine z_All.c (j := 516) rfl (ok_i2c (by decide +kernel)) ?_
  refine z_All.c (j := 517) rfl (ok_cv (idx := 60) (by decide +kernel) rfl zm90 zw749 zw750 zw751) ?_
  refine z_All.c (j := 518) rfl ok_bad ?_
  refine z_All.c (j := 519) rfl ok_bad ?_
  refine z_All.c (j := 520) rfl (ok_ic_eq (off := 410) (by decide +kernel) (by decide +kernel)) ?_
  refine z_All.c (j := 521) rfl ok_bad ?_
  refine z_All.c (j := 522) rfl ok_bad ?_
  refine z_All.c (j := 523) rfl (ok_iconst (n := 0) (by decide +kernel) (by decide +kernel)) ?_
  refine z_All.c (j := 524) rfl (ok_iret (by decide +kernel) rfl) ?_
  refine z_All.c (j := 525) rfl (ok_aload_n (n := 1) (by decide +kernel) rfl) ?_
  refine z_All.c (j := 526) rfl (ok_aload_n (n := 0) (by decide +kernel) rfl) ?_
  refine z_All.c (j := 527) rfl (ok_iload_n (n := 3) (by decide +kernel) rfl) ?_
  refine z_All.c (j := 528) rfl (ok_iconst (n := 1) (by decide +kernel) (by decide +kernel)) ?_
  refine z_All.c (j := 529) rfl (ok_iadd (by decide +kernel)) ?_
  refine z_All.c (j := 530) rfl (ok_sld (by decide +kernel)) ?_
  refine z_All.c (j := 531) rfl (ok_i2c (by decide +kernel)) ?_
  refine z_All.c (j := 532) rfl (ok_cv (idx := 61) (by decide +kernel) rfl zm11 zw382 zw383 zw384) ?_
  refine z_All.c (j := 533) rfl ok_bad ?_
  refine z_All.c (j := 534) rfl ok_bad ?_
  refine z_All.c (j := 535) rfl (ok_aload_n (n := 2) (by decide +kernel) rfl) ?_
  refine z_All.c (j := 536) rfl (ok_aload_n (n := 0) (by decide +kernel) rfl) ?_
  refine z_All.c (j := 537) rfl (ok_iload_n (n := 3) (by decide +kernel) rfl) ?_
  refine z_All.c (j := 538) rfl (ok_iconst (n := 1) (by decide +kernel) (by decide +kernel)) ?_
  refine z_All.c (j := 539) rfl (ok_iadd (by decide +kernel)) ?_
  refine z_All.c (j := 540) rfl (ok_sld (by decide +kernel)) ?_
  refine z_All.c (j := 541) rfl (ok_i2c (by decide +kernel)) ?_
  refine z_All.c (j := 542) rfl (ok_cv (idx := 64) (by decide +kernel) rfl zm92 zw753 zw754 zw755) ?_
  refine z_All.c (j := 543) rfl ok_bad ?_
  refine z_All.c (j := 544) rfl ok_bad ?_
  refine z_All.c (j := 545) rfl (ok_ic_eq (off := 385) (by decide +kernel) (by decide +kernel)) ?_
  refine z_All.c (j := 546) rfl ok_bad ?_
  refine z_All.c (j := 547) rfl ok_bad ?_
  refine z_All.c (j := 548) rfl (ok_iconst (n := 0) (by decide +kernel) (by decide +kernel)) ?_
  refine z_All.c (j := 549) rfl (ok_iret (by decide +kernel) rfl) ?_
  refine z_All.c (j := 550) rfl (ok_aload_n (n := 1) (by decide +kernel) rfl) ?_
  refine z_All.c (j := 551) rfl (ok_cv (idx := 65) (by decide +kernel) rfl zm12 zw389 zw390 zw391) ?_
  refine z_All.c (j := 552) rfl ok_bad ?_
  refine z_All.c (j := 553) rfl ok_bad ?_
  refine z_All.c (j := 554) rfl (ok_aload_n (n := 2) (by decide +kernel) rfl) ?_
  refine z_All.c (j := 555) rfl (ok_cv (idx := 68) (by decide +kernel) rfl zm93 zw761 zw762 zw763) ?_
  refine z_All.c (j := 556) rfl ok_bad ?_
  refine z_All.c (j := 557) rfl ok_bad ?_
  refine z_All.c (j := 558) rfl (ok_goto (off := 372) (by decide +kernel) (by decide +kernel)) ?_
  refine z_All.c (j := 559) rfl ok_bad ?_
  refine z_All.c (j := 560) rfl ok_bad ?_
  refine z_All.c (j := 561) rfl (ok_aload_n (n := 1) (by decide +kernel) rfl) ?_
  refine z_All.c (j := 562) rfl (ok_cv (idx := 69) (by decide +kernel) rfl zm13 zw397 zw398 zw399) ?_
  refine z_All.c (j := 563) rfl ok_bad ?_
  refine z_All.c (j := 564) rfl ok_bad ?_
  refine z_All.c (j := 565) rfl (ok_aload_n (n := 2) (by decide +kernel) rfl) ?_
  refine z_All.c (j := 566) rfl (ok_cv (idx := 72) (by decide +kernel) rfl zm97 zw765 zw766 zw767) ?_
  refine z_All.c (j := 567) rfl ok_bad ?_
  refine z_All.c (j := 568) rfl ok_bad ?_
  refine z_All.c (j := 569) rfl (ok_ic_eq (off := 361) (by decide +kernel) (by decide +kernel)) ?_
  refine z_All.c (j := 570) rfl ok_bad ?_
  refine z_All.c (j := 571) rfl ok_bad ?_
  refine z_All.c (j := 572) rfl (ok_iconst (n := 0) (by decide +kernel) (by decide +kernel)) ?_
  refine z_All.c (j := 573) rfl (ok_iret (by decide +kernel) rfl) ?_
  refine z_All.c (j := 574) rfl (ok_aload_n (n := 1) (by decide +kernel) rfl) ?_
  refine z_All.c (j := 575) rfl (ok_aload_n (n := 0) (by decide +kernel) rfl) ?_
  refine z_All.c (j := 576) rfl (ok_iload_n (n := 3) (by decide +kernel) rfl) ?_
  exact trivial
set_option maxRecDepth 20000 in
theorem zk115_9 (l : Launch) (scr B : Nat) (D : va_G) : z_All l scr B D 115 576 z_c115_9 := by
  refine z_All.c (j := 577) rfl (ok_iconst (n := 1) (by decide +kernel) (by decide +kernel)) ?_
  refine z_All.c (j := 578) rfl (ok_iadd (by decide +kernel)) ?_
  refine z_All.c (j := 579) rfl (ok_sld (by decide +kernel)) ?_
  refine z_All.c (j := 580) rfl (ok_if_eq (off := 7) (by decide +kernel) (by decide +kernel)) ?_
  refine z_All.c (j := 581) rfl ok_bad ?_
  refine z_All.c (j := 582) rfl ok_bad ?_
  refine z_All.c (j := 583) rfl (ok_iconst (n := 1) (by decide +kernel) (by decide +kernel)) ?_
  refine z_All.c (j := 584) rfl (ok_goto (off := 4) (by decide +kernel) (by decide +kernel)) ?_
  refine z_All.c (j := 585) rfl ok_bad ?_
  refine z_All.c (j := 586) rfl ok_bad ?_
  refine z_All.c (j := 587) rfl (ok_iconst (n := 0) (by decide +kernel) (by decide +kernel)) ?_
  refine z_All.c (j := 588) rfl (ok_aload_n (n := 0) (by decide +kernel) rfl) ?_
  refine z_All.c (j := 589) rfl (ok_iload_n (n := 3) (by decide +kernel) rfl) ?_
  refine z_All.c (j := 590) rfl (ok_iconst (n := 2) (by decide +kernel) (by decide +kernel)) ?_
  refine z_All.c (j := 591) rfl (ok_iadd (by decide +kernel)) ?_
  refine z_All.c (j := 592) rfl (ok_sld (by decide +kernel)) ?_
  refine z_All.c (j := 593) rfl (ok_if_eq (off := 7) (by decide +kernel) (by decide +kernel)) ?_
  refine z_All.c (j := 594) rfl ok_bad ?_
  refine z_All.c (j := 595) rfl ok_bad ?_
  refine z_All.c (j := 596) rfl (ok_iconst (n := 1) (by decide +kernel) (by decide +kernel)) ?_
  refine z_All.c (j := 597) rfl (ok_goto (off := 4) (by decide +kernel) (by decide +kernel)) ?_
  refine z_All.c (j := 598) rfl ok_bad ?_
  refine z_All.c (j := 599) rfl ok_bad ?_
  refine z_All.c (j := 600) rfl (ok_iconst (n := 0) (by decide +kernel) (by decide +kernel)) ?_
  refine z_All.c (j := 601) rfl (ok_cv (idx := 73) (by decide +kernel) rfl zm14 zw418 zw419 zw420) ?_
  refine z_All.c (j := 602) rfl ok_bad ?_
  refine z_All.c (j := 603) rfl ok_bad ?_
  refine z_All.c (j := 604) rfl (ok_aload_n (n := 2) (by decide +kernel) rfl) ?_
  refine z_All.c (j := 605) rfl (ok_aload_n (n := 0) (by decide +kernel) rfl) ?_
  refine z_All.c (j := 606) rfl (ok_iload_n (n := 3) (by decide +kernel) rfl) ?_
  refine z_All.c (j := 607) rfl (ok_iconst (n := 1) (by decide +kernel) (by decide +kernel)) ?_
  refine z_All.c (j := 608) rfl (ok_iadd (by decide +kernel)) ?_
  refine z_All.c (j := 609) rfl (ok_sld (by decide +kernel)) ?_
  refine z_All.c (j := 610) rfl (ok_if_eq (off := 7) (by decide +kernel) (by decide +kernel)) ?_
  refine z_All.c (j := 611) rfl ok_bad ?_
  refine z_All.c (j := 612) rfl ok_bad ?_
  refine z_All.c (j := 613) rfl (ok_iconst (n := 1) (by decide +kernel) (by decide +kernel)) ?_
  refine z_All.c (j := 614) rfl (ok_goto (off := 4) (by decide +kernel) (by decide +kernel)) ?_
  refine z_All.c (j := 615) rfl ok_bad ?_
  refine z_All.c (j := 616) rfl ok_bad ?_
  refine z_All.c (j := 617) rfl (ok_iconst (n := 0) (by decide +kernel) (by decide +kernel)) ?_
  refine z_All.c (j := 618) rfl (ok_aload_n (n := 0) (by decide +kernel) rfl) ?_
  refine z_All.c (j := 619) rfl (ok_iload_n (n := 3) (by decide +kernel) rfl) ?_
  refine z_All.c (j := 620) rfl (ok_iconst (n := 2) (by decide +kernel) (by decide +kernel)) ?_
  refine z_All.c (j := 621) rfl (ok_iadd (by decide +kernel)) ?_
  refine z_All.c (j := 622) rfl (ok_sld (by decide +kernel)) ?_
  refine z_All.c (j := 623) rfl (ok_if_eq (off := 7) (by decide +kernel) (by decide +kernel)) ?_
  refine z_All.c (j := 624) rfl ok_bad ?_
  refine z_All.c (j := 625) rfl ok_bad ?_
  refine z_All.c (j := 626) rfl (ok_iconst (n := 1) (by decide +kernel) (by decide +kernel)) ?_
  refine z_All.c (j := 627) rfl (ok_goto (off := 4) (by decide +kernel) (by decide +kernel)) ?_
  refine z_All.c (j := 628) rfl ok_bad ?_
  refine z_All.c (j := 629) rfl ok_bad ?_
  refine z_All.c (j := 630) rfl (ok_iconst (n := 0) (by decide +kernel) (by decide +kernel)) ?_
  refine z_All.c (j := 631) rfl (ok_cv (idx := 77) (by decide +kernel) rfl zm107 zw777 zw778 zw779) ?_
  refine z_All.c (j := 632) rfl ok_bad ?_
  refine z_All.c (j := 633) rfl ok_bad ?_
  refine z_All.c (j := 634) rfl (ok_ic_eq (off := 296) (by decide +kernel) (by decide +kernel)) ?_
  refine z_All.c (j := 635) rfl ok_bad ?_
  refine z_All.c (j := 636) rfl ok_bad ?_
  refine z_All.c (j := 637) rfl (ok_iconst (n := 0) (by decide +kernel) (by decide +kernel)) ?_
  refine z_All.c (j := 638) rfl (ok_iret (by decide +kernel) rfl) ?_
  refine z_All.c (j := 639) rfl (ok_aload_n (n := 1) (by decide +kernel) rfl) ?_
  refine z_All.c (j := 640) rfl (ok_aload_n (n := 0) (by decide +kernel) rfl) ?_
  exact trivial
set_option maxRecDepth 20000 in
theorem zk115_10 (l : Launch) (scr B : Nat) (D : va_G) : z_All l scr B D 115 640 z_c115_10 := by
  refine z_All.c (j := 641) rfl (ok_iload_n (n := 3) (by decide +kernel) rfl) ?_
  refine z_All.c (j := 642) rfl (ok_iconst (n := 1) (by decide +kernel) (by decide +kernel)) ?_
  refine z_All.c (j := 643) rfl (ok_iadd (by decide +kernel)) ?_
  refine z_All.c (j := 644) rfl (ok_sld (by decide +kernel)) ?_
  refine z_All.c (j := 645) rfl (ok_if_eq (off := 7) (by decide +kernel) (by decide +kernel)) ?_
  refine z_All.c (j := 646) rfl ok_bad ?_
  refine z_All.c (j := 647) rfl ok_bad ?_
  refine z_All.c (j := 648) rfl (ok_iconst (n := 1) (by decide +kernel) (by decide +kernel)) ?_
  refine z_All.c (j := 649) rfl (ok_goto (off := 4) (by decide +kernel) (by decide +kernel)) ?_
  refine z_All.c (j := 650) rfl ok_bad ?_
  refine z_All.c (j := 651) rfl ok_bad ?_
  refine z_All.c (j := 652) rfl (ok_iconst (n := 0) (by decide +kernel) (by decide +kernel)) ?_
  refine z_All.c (j := 653) rfl (ok_aload_n (n := 0) (by decide +kernel) rfl) ?_
  refine z_All.c (j := 654) rfl (ok_iload_n (n := 3) (by decide +kernel) rfl) ?_
  refine z_All.c (j := 655) rfl (ok_iconst (n := 2) (by decide +kernel) (by decide +kernel)) ?_
  refine z_All.c (j := 656) rfl (ok_iadd (by decide +kernel)) ?_
  refine z_All.c (j := 657) rfl (ok_sld (by decide +kernel)) ?_
  refine z_All.c (j := 658) rfl (ok_if_eq (off := 7) (by decide +kernel) (by decide +kernel)) ?_
  refine z_All.c (j := 659) rfl ok_bad ?_
  refine z_All.c (j := 660) rfl ok_bad ?_
  refine z_All.c (j := 661) rfl (ok_iconst (n := 1) (by decide +kernel) (by decide +kernel)) ?_
  refine z_All.c (j := 662) rfl (ok_goto (off := 4) (by decide +kernel) (by decide +kernel)) ?_
  refine z_All.c (j := 663) rfl ok_bad ?_
  refine z_All.c (j := 664) rfl ok_bad ?_
  refine z_All.c (j := 665) rfl (ok_iconst (n := 0) (by decide +kernel) (by decide +kernel)) ?_
  refine z_All.c (j := 666) rfl (ok_aload_n (n := 0) (by decide +kernel) rfl) ?_
  refine z_All.c (j := 667) rfl (ok_iload_n (n := 3) (by decide +kernel) rfl) ?_
  refine z_All.c (j := 668) rfl (ok_iconst (n := 3) (by decide +kernel) (by decide +kernel)) ?_
  refine z_All.c (j := 669) rfl (ok_iadd (by decide +kernel)) ?_
  refine z_All.c (j := 670) rfl (ok_sld (by decide +kernel)) ?_
  refine z_All.c (j := 671) rfl (ok_cv (idx := 78) (by decide +kernel) rfl zm15 zw465 zw466 zw467) ?_
  refine z_All.c (j := 672) rfl ok_bad ?_
  refine z_All.c (j := 673) rfl ok_bad ?_
  refine z_All.c (j := 674) rfl (ok_aload_n (n := 2) (by decide +kernel) rfl) ?_
  refine z_All.c (j := 675) rfl (ok_aload_n (n := 0) (by decide +kernel) rfl) ?_
  refine z_All.c (j := 676) rfl (ok_iload_n (n := 3) (by decide +kernel) rfl) ?_
  refine z_All.c (j := 677) rfl (ok_iconst (n := 1) (by decide +kernel) (by decide +kernel)) ?_
  refine z_All.c (j := 678) rfl (ok_iadd (by decide +kernel)) ?_
  refine z_All.c (j := 679) rfl (ok_sld (by decide +kernel)) ?_
  refine z_All.c (j := 680) rfl (ok_if_eq (off := 7) (by decide +kernel) (by decide +kernel)) ?_
  refine z_All.c (j := 681) rfl ok_bad ?_
  refine z_All.c (j := 682) rfl ok_bad ?_
  refine z_All.c (j := 683) rfl (ok_iconst (n := 1) (by decide +kernel) (by decide +kernel)) ?_
  refine z_All.c (j := 684) rfl (ok_goto (off := 4) (by decide +kernel) (by decide +kernel)) ?_
  refine z_All.c (j := 685) rfl ok_bad ?_
  refine z_All.c (j := 686) rfl ok_bad ?_
  refine z_All.c (j := 687) rfl (ok_iconst (n := 0) (by decide +kernel) (by decide +kernel)) ?_
  refine z_All.c (j := 688) rfl (ok_aload_n (n := 0) (by decide +kernel) rfl) ?_
  refine z_All.c (j := 689) rfl (ok_iload_n (n := 3) (by decide +kernel) rfl) ?_
  refine z_All.c (j := 690) rfl (ok_iconst (n := 2) (by decide +kernel) (by decide +kernel)) ?_
  refine z_All.c (j := 691) rfl (ok_iadd (by decide +kernel)) ?_
  refine z_All.c (j := 692) rfl (ok_sld (by decide +kernel)) ?_
  refine z_All.c (j := 693) rfl (ok_if_eq (off := 7) (by decide +kernel) (by decide +kernel)) ?_
  refine z_All.c (j := 694) rfl ok_bad ?_
  refine z_All.c (j := 695) rfl ok_bad ?_
  refine z_All.c (j := 696) rfl (ok_iconst (n := 1) (by decide +kernel) (by decide +kernel)) ?_
  refine z_All.c (j := 697) rfl (ok_goto (off := 4) (by decide +kernel) (by decide +kernel)) ?_
  refine z_All.c (j := 698) rfl ok_bad ?_
  refine z_All.c (j := 699) rfl ok_bad ?_
  refine z_All.c (j := 700) rfl (ok_iconst (n := 0) (by decide +kernel) (by decide +kernel)) ?_
  refine z_All.c (j := 701) rfl (ok_aload_n (n := 0) (by decide +kernel) rfl) ?_
  refine z_All.c (j := 702) rfl (ok_iload_n (n := 3) (by decide +kernel) rfl) ?_
  refine z_All.c (j := 703) rfl (ok_iconst (n := 3) (by decide +kernel) (by decide +kernel)) ?_
  refine z_All.c (j := 704) rfl (ok_iadd (by decide +kernel)) ?_
  exact trivial
set_option maxRecDepth 20000 in
theorem zk115_11 (l : Launch) (scr B : Nat) (D : va_G) : z_All l scr B D 115 704 z_c115_11 := by
  refine z_All.c (j := 705) rfl (ok_sld (by decide +kernel)) ?_
  refine z_All.c (j := 706) rfl (ok_cv (idx := 82) (by decide +kernel) rfl zm108 zw821 zw822 zw823) ?_
  refine z_All.c (j := 707) rfl ok_bad ?_
  refine z_All.c (j := 708) rfl ok_bad ?_
  refine z_All.c (j := 709) rfl (ok_ic_eq (off := 221) (by decide +kernel) (by decide +kernel)) ?_
  refine z_All.c (j := 710) rfl ok_bad ?_
  refine z_All.c (j := 711) rfl ok_bad ?_
  refine z_All.c (j := 712) rfl (ok_iconst (n := 0) (by decide +kernel) (by decide +kernel)) ?_
  refine z_All.c (j := 713) rfl (ok_iret (by decide +kernel) rfl) ?_
  refine z_All.c (j := 714) rfl (ok_aload_n (n := 1) (by decide +kernel) rfl) ?_
  refine z_All.c (j := 715) rfl (ok_aload_n (n := 0) (by decide +kernel) rfl) ?_
  refine z_All.c (j := 716) rfl (ok_iload_n (n := 3) (by decide +kernel) rfl) ?_
  refine z_All.c (j := 717) rfl (ok_iconst (n := 1) (by decide +kernel) (by decide +kernel)) ?_
  refine z_All.c (j := 718) rfl (ok_iadd (by decide +kernel)) ?_
  refine z_All.c (j := 719) rfl (ok_sld (by decide +kernel)) ?_
  refine z_All.c (j := 720) rfl (ok_if_eq (off := 7) (by decide +kernel) (by decide +kernel)) ?_
  refine z_All.c (j := 721) rfl ok_bad ?_
  refine z_All.c (j := 722) rfl ok_bad ?_
  refine z_All.c (j := 723) rfl (ok_iconst (n := 1) (by decide +kernel) (by decide +kernel)) ?_
  refine z_All.c (j := 724) rfl (ok_goto (off := 4) (by decide +kernel) (by decide +kernel)) ?_
  refine z_All.c (j := 725) rfl ok_bad ?_
  refine z_All.c (j := 726) rfl ok_bad ?_
  refine z_All.c (j := 727) rfl (ok_iconst (n := 0) (by decide +kernel) (by decide +kernel)) ?_
  refine z_All.c (j := 728) rfl (ok_aload_n (n := 0) (by decide +kernel) rfl) ?_
  refine z_All.c (j := 729) rfl (ok_iload_n (n := 3) (by decide +kernel) rfl) ?_
  refine z_All.c (j := 730) rfl (ok_iconst (n := 2) (by decide +kernel) (by decide +kernel)) ?_
  refine z_All.c (j := 731) rfl (ok_iadd (by decide +kernel)) ?_
  refine z_All.c (j := 732) rfl (ok_sld (by decide +kernel)) ?_
  refine z_All.c (j := 733) rfl (ok_if_eq (off := 7) (by decide +kernel) (by decide +kernel)) ?_
  refine z_All.c (j := 734) rfl ok_bad ?_
  refine z_All.c (j := 735) rfl ok_bad ?_
  refine z_All.c (j := 736) rfl (ok_iconst (n := 1) (by decide +kernel) (by decide +kernel)) ?_
  refine z_All.c (j := 737) rfl (ok_goto (off := 4) (by decide +kernel) (by decide +kernel)) ?_
  refine z_All.c (j := 738) rfl ok_bad ?_
  refine z_All.c (j := 739) rfl ok_bad ?_
  refine z_All.c (j := 740) rfl (ok_iconst (n := 0) (by decide +kernel) (by decide +kernel)) ?_
  refine z_All.c (j := 741) rfl (ok_cv (idx := 83) (by decide +kernel) rfl zm16 zw470 zw471 zw472) ?_
  refine z_All.c (j := 742) rfl ok_bad ?_
  refine z_All.c (j := 743) rfl ok_bad ?_
  refine z_All.c (j := 744) rfl (ok_aload_n (n := 2) (by decide +kernel) rfl) ?_
  refine z_All.c (j := 745) rfl (ok_aload_n (n := 0) (by decide +kernel) rfl) ?_
  refine z_All.c (j := 746) rfl (ok_iload_n (n := 3) (by decide +kernel) rfl) ?_
  refine z_All.c (j := 747) rfl (ok_iconst (n := 1) (by decide +kernel) (by decide +kernel)) ?_
  refine z_All.c (j := 748) rfl (ok_iadd (by decide +kernel)) ?_
  refine z_All.c (j := 749) rfl (ok_sld (by decide +kernel)) ?_
  refine z_All.c (j := 750) rfl (ok_if_eq (off := 7) (by decide +kernel) (by decide +kernel)) ?_
  refine z_All.c (j := 751) rfl ok_bad ?_
  refine z_All.c (j := 752) rfl ok_bad ?_
  refine z_All.c (j := 753) rfl (ok_iconst (n := 1) (by decide +kernel) (by decide +kernel)) ?_
  refine z_All.c (j := 754) rfl (ok_goto (off := 4) (by decide +kernel) (by decide +kernel)) ?_
  refine z_All.c (j := 755) rfl ok_bad ?_
  refine z_All.c (j := 756) rfl ok_bad ?_
  refine z_All.c (j := 757) rfl (ok_iconst (n := 0) (by decide +kernel) (by decide +kernel)) ?_
  refine z_All.c (j := 758) rfl (ok_aload_n (n := 0) (by decide +kernel) rfl) ?_
  refine z_All.c (j := 759) rfl (ok_iload_n (n := 3) (by decide +kernel) rfl) ?_
  refine z_All.c (j := 760) rfl (ok_iconst (n := 2) (by decide +kernel) (by decide +kernel)) ?_
  refine z_All.c (j := 761) rfl (ok_iadd (by decide +kernel)) ?_
  refine z_All.c (j := 762) rfl (ok_sld (by decide +kernel)) ?_
  refine z_All.c (j := 763) rfl (ok_if_eq (off := 7) (by decide +kernel) (by decide +kernel)) ?_
  refine z_All.c (j := 764) rfl ok_bad ?_
  refine z_All.c (j := 765) rfl ok_bad ?_
  refine z_All.c (j := 766) rfl (ok_iconst (n := 1) (by decide +kernel) (by decide +kernel)) ?_
  refine z_All.c (j := 767) rfl (ok_goto (off := 4) (by decide +kernel) (by decide +kernel)) ?_
  refine z_All.c (j := 768) rfl ok_bad ?_
  exact trivial
set_option maxRecDepth 20000 in
theorem zk115_12 (l : Launch) (scr B : Nat) (D : va_G) : z_All l scr B D 115 768 z_c115_12 := by
  refine z_All.c (j := 769) rfl ok_bad ?_
  refine z_All.c (j := 770) rfl (ok_iconst (n := 0) (by decide +kernel) (by decide +kernel)) ?_
  refine z_All.c (j := 771) rfl (ok_cv (idx := 86) (by decide +kernel) rfl zm109 zw825 zw826 zw827) ?_
  refine z_All.c (j := 772) rfl ok_bad ?_
  refine z_All.c (j := 773) rfl ok_bad ?_
  refine z_All.c (j := 774) rfl (ok_ic_eq (off := 156) (by decide +kernel) (by decide +kernel)) ?_
  refine z_All.c (j := 775) rfl ok_bad ?_
  refine z_All.c (j := 776) rfl ok_bad ?_
  refine z_All.c (j := 777) rfl (ok_iconst (n := 0) (by decide +kernel) (by decide +kernel)) ?_
  refine z_All.c (j := 778) rfl (ok_iret (by decide +kernel) rfl) ?_
  refine z_All.c (j := 779) rfl (ok_aload_n (n := 1) (by decide +kernel) rfl) ?_
  refine z_All.c (j := 780) rfl (ok_aload_n (n := 0) (by decide +kernel) rfl) ?_
  refine z_All.c (j := 781) rfl (ok_iload_n (n := 3) (by decide +kernel) rfl) ?_
  refine z_All.c (j := 782) rfl (ok_iconst (n := 1) (by decide +kernel) (by decide +kernel)) ?_
  refine z_All.c (j := 783) rfl (ok_iadd (by decide +kernel)) ?_
  refine z_All.c (j := 784) rfl (ok_sld (by decide +kernel)) ?_
  refine z_All.c (j := 785) rfl (ok_aload_n (n := 0) (by decide +kernel) rfl) ?_
  refine z_All.c (j := 786) rfl (ok_iload_n (n := 3) (by decide +kernel) rfl) ?_
  refine z_All.c (j := 787) rfl (ok_iconst (n := 2) (by decide +kernel) (by decide +kernel)) ?_
  refine z_All.c (j := 788) rfl (ok_iadd (by decide +kernel)) ?_
  refine z_All.c (j := 789) rfl (ok_sld (by decide +kernel)) ?_
  refine z_All.c (j := 790) rfl (ok_if_eq (off := 7) (by decide +kernel) (by decide +kernel)) ?_
  refine z_All.c (j := 791) rfl ok_bad ?_
  refine z_All.c (j := 792) rfl ok_bad ?_
  refine z_All.c (j := 793) rfl (ok_iconst (n := 1) (by decide +kernel) (by decide +kernel)) ?_
  refine z_All.c (j := 794) rfl (ok_goto (off := 4) (by decide +kernel) (by decide +kernel)) ?_
  refine z_All.c (j := 795) rfl ok_bad ?_
  refine z_All.c (j := 796) rfl ok_bad ?_
  refine z_All.c (j := 797) rfl (ok_iconst (n := 0) (by decide +kernel) (by decide +kernel)) ?_
  refine z_All.c (j := 798) rfl (ok_aload_n (n := 0) (by decide +kernel) rfl) ?_
  refine z_All.c (j := 799) rfl (ok_iload_n (n := 3) (by decide +kernel) rfl) ?_
  refine z_All.c (j := 800) rfl (ok_iconst (n := 3) (by decide +kernel) (by decide +kernel)) ?_
  refine z_All.c (j := 801) rfl (ok_iadd (by decide +kernel)) ?_
  refine z_All.c (j := 802) rfl (ok_sld (by decide +kernel)) ?_
  refine z_All.c (j := 803) rfl (ok_if_eq (off := 7) (by decide +kernel) (by decide +kernel)) ?_
  refine z_All.c (j := 804) rfl ok_bad ?_
  refine z_All.c (j := 805) rfl ok_bad ?_
  refine z_All.c (j := 806) rfl (ok_iconst (n := 1) (by decide +kernel) (by decide +kernel)) ?_
  refine z_All.c (j := 807) rfl (ok_goto (off := 4) (by decide +kernel) (by decide +kernel)) ?_
  refine z_All.c (j := 808) rfl ok_bad ?_
  refine z_All.c (j := 809) rfl ok_bad ?_
  refine z_All.c (j := 810) rfl (ok_iconst (n := 0) (by decide +kernel) (by decide +kernel)) ?_
  refine z_All.c (j := 811) rfl (ok_aload_n (n := 0) (by decide +kernel) rfl) ?_
  refine z_All.c (j := 812) rfl (ok_iload_n (n := 3) (by decide +kernel) rfl) ?_
  refine z_All.c (j := 813) rfl (ok_iconst (n := 4) (by decide +kernel) (by decide +kernel)) ?_
  refine z_All.c (j := 814) rfl (ok_iadd (by decide +kernel)) ?_
  refine z_All.c (j := 815) rfl (ok_sld (by decide +kernel)) ?_
  refine z_All.c (j := 816) rfl (ok_cv (idx := 87) (by decide +kernel) rfl zm17 zw480 zw481 zw482) ?_
  refine z_All.c (j := 817) rfl ok_bad ?_
  refine z_All.c (j := 818) rfl ok_bad ?_
  refine z_All.c (j := 819) rfl (ok_aload_n (n := 2) (by decide +kernel) rfl) ?_
  refine z_All.c (j := 820) rfl (ok_aload_n (n := 0) (by decide +kernel) rfl) ?_
  refine z_All.c (j := 821) rfl (ok_iload_n (n := 3) (by decide +kernel) rfl) ?_
  refine z_All.c (j := 822) rfl (ok_iconst (n := 1) (by decide +kernel) (by decide +kernel)) ?_
  refine z_All.c (j := 823) rfl (ok_iadd (by decide +kernel)) ?_
  refine z_All.c (j := 824) rfl (ok_sld (by decide +kernel)) ?_
  refine z_All.c (j := 825) rfl (ok_aload_n (n := 0) (by decide +kernel) rfl) ?_
  refine z_All.c (j := 826) rfl (ok_iload_n (n := 3) (by decide +kernel) rfl) ?_
  refine z_All.c (j := 827) rfl (ok_iconst (n := 2) (by decide +kernel) (by decide +kernel)) ?_
  refine z_All.c (j := 828) rfl (ok_iadd (by decide +kernel)) ?_
  refine z_All.c (j := 829) rfl (ok_sld (by decide +kernel)) ?_
  refine z_All.c (j := 830) rfl (ok_if_eq (off := 7) (by decide +kernel) (by decide +kernel)) ?_
  refine z_All.c (j := 831) rfl ok_bad ?_
  refine z_All.c (j := 832) rfl ok_bad ?_
  exact trivial
set_option maxRecDepth 20000 in
theorem zk115_13 (l : Launch) (scr B : Nat) (D : va_G) : z_All l scr B D 115 832 z_c115_13 := by
  refine z_All.c (j := 833) rfl (ok_iconst (n := 1) (by decide +kernel) (by decide +kernel)) ?_
  refine z_All.c (j := 834) rfl (ok_goto (off := 4) (by decide +kernel) (by decide +kernel)) ?_
  refine z_All.c (j := 835) rfl ok_bad ?_
  refine z_All.c (j := 836) rfl ok_bad ?_
  refine z_All.c (j := 837) rfl (ok_iconst (n := 0) (by decide +kernel) (by decide +kernel)) ?_
  refine z_All.c (j := 838) rfl (ok_aload_n (n := 0) (by decide +kernel) rfl) ?_
  refine z_All.c (j := 839) rfl (ok_iload_n (n := 3) (by decide +kernel) rfl) ?_
  refine z_All.c (j := 840) rfl (ok_iconst (n := 3) (by decide +kernel) (by decide +kernel)) ?_
  refine z_All.c (j := 841) rfl (ok_iadd (by decide +kernel)) ?_
  refine z_All.c (j := 842) rfl (ok_sld (by decide +kernel)) ?_
  refine z_All.c (j := 843) rfl (ok_if_eq (off := 7) (by decide +kernel) (by decide +kernel)) ?_
  refine z_All.c (j := 844) rfl ok_bad ?_
  refine z_All.c (j := 845) rfl ok_bad ?_
  refine z_All.c (j := 846) rfl (ok_iconst (n := 1) (by decide +kernel) (by decide +kernel)) ?_
  refine z_All.c (j := 847) rfl (ok_goto (off := 4) (by decide +kernel) (by decide +kernel)) ?_
  refine z_All.c (j := 848) rfl ok_bad ?_
  refine z_All.c (j := 849) rfl ok_bad ?_
  refine z_All.c (j := 850) rfl (ok_iconst (n := 0) (by decide +kernel) (by decide +kernel)) ?_
  refine z_All.c (j := 851) rfl (ok_aload_n (n := 0) (by decide +kernel) rfl) ?_
  refine z_All.c (j := 852) rfl (ok_iload_n (n := 3) (by decide +kernel) rfl) ?_
  refine z_All.c (j := 853) rfl (ok_iconst (n := 4) (by decide +kernel) (by decide +kernel)) ?_
  refine z_All.c (j := 854) rfl (ok_iadd (by decide +kernel)) ?_
  refine z_All.c (j := 855) rfl (ok_sld (by decide +kernel)) ?_
  refine z_All.c (j := 856) rfl (ok_cv (idx := 91) (by decide +kernel) rfl zm110 zw831 zw832 zw833) ?_
  refine z_All.c (j := 857) rfl ok_bad ?_
  refine z_All.c (j := 858) rfl ok_bad ?_
  refine z_All.c (j := 859) rfl (ok_ic_eq (off := 71) (by decide +kernel) (by decide +kernel)) ?_
  refine z_All.c (j := 860) rfl ok_bad ?_
  refine z_All.c (j := 861) rfl ok_bad ?_
  refine z_All.c (j := 862) rfl (ok_iconst (n := 0) (by decide +kernel) (by decide +kernel)) ?_
  refine z_All.c (j := 863) rfl (ok_iret (by decide +kernel) rfl) ?_
  refine z_All.c (j := 864) rfl (ok_aload_n (n := 1) (by decide +kernel) rfl) ?_
  refine z_All.c (j := 865) rfl (ok_aload_n (n := 0) (by decide +kernel) rfl) ?_
  refine z_All.c (j := 866) rfl (ok_iload_n (n := 3) (by decide +kernel) rfl) ?_
  refine z_All.c (j := 867) rfl (ok_iconst (n := 1) (by decide +kernel) (by decide +kernel)) ?_
  refine z_All.c (j := 868) rfl (ok_iadd (by decide +kernel)) ?_
  refine z_All.c (j := 869) rfl (ok_sld (by decide +kernel)) ?_
  refine z_All.c (j := 870) rfl (ok_cv (idx := 92) (by decide +kernel) rfl zm18 zw506 zw507 zw508) ?_
  refine z_All.c (j := 871) rfl ok_bad ?_
  refine z_All.c (j := 872) rfl ok_bad ?_
  refine z_All.c (j := 873) rfl (ok_aload_n (n := 2) (by decide +kernel) rfl) ?_
  refine z_All.c (j := 874) rfl (ok_aload_n (n := 0) (by decide +kernel) rfl) ?_
  refine z_All.c (j := 875) rfl (ok_iload_n (n := 3) (by decide +kernel) rfl) ?_
  refine z_All.c (j := 876) rfl (ok_iconst (n := 1) (by decide +kernel) (by decide +kernel)) ?_
  refine z_All.c (j := 877) rfl (ok_iadd (by decide +kernel)) ?_
  refine z_All.c (j := 878) rfl (ok_sld (by decide +kernel)) ?_
  refine z_All.c (j := 879) rfl (ok_cv (idx := 96) (by decide +kernel) rfl zm111 zw835 zw836 zw837) ?_
  refine z_All.c (j := 880) rfl ok_bad ?_
  refine z_All.c (j := 881) rfl ok_bad ?_
  refine z_All.c (j := 882) rfl (ok_ic_eq (off := 48) (by decide +kernel) (by decide +kernel)) ?_
  refine z_All.c (j := 883) rfl ok_bad ?_
  refine z_All.c (j := 884) rfl ok_bad ?_
  refine z_All.c (j := 885) rfl (ok_iconst (n := 0) (by decide +kernel) (by decide +kernel)) ?_
  refine z_All.c (j := 886) rfl (ok_iret (by decide +kernel) rfl) ?_
  refine z_All.c (j := 887) rfl (ok_aload_n (n := 1) (by decide +kernel) rfl) ?_
  refine z_All.c (j := 888) rfl (ok_aload_n (n := 0) (by decide +kernel) rfl) ?_
  refine z_All.c (j := 889) rfl (ok_iload_n (n := 3) (by decide +kernel) rfl) ?_
  refine z_All.c (j := 890) rfl (ok_iconst (n := 1) (by decide +kernel) (by decide +kernel)) ?_
  refine z_All.c (j := 891) rfl (ok_iadd (by decide +kernel)) ?_
  refine z_All.c (j := 892) rfl (ok_sld (by decide +kernel)) ?_
  refine z_All.c (j := 893) rfl (ok_aload_n (n := 0) (by decide +kernel) rfl) ?_
  refine z_All.c (j := 894) rfl (ok_iload_n (n := 3) (by decide +kernel) rfl) ?_
  refine z_All.c (j := 895) rfl (ok_iconst (n := 2) (by decide +kernel) (by decide +kernel)) ?_
  refine z_All.c (j := 896) rfl (ok_iadd (by decide +kernel)) ?_
  exact trivial
set_option maxRecDepth 20000 in
theorem zk115_14 (l : Launch) (scr B : Nat) (D : va_G) : z_All l scr B D 115 896 z_c115_14 := by
  refine z_All.c (j := 897) rfl (ok_sld (by decide +kernel)) ?_
  refine z_All.c (j := 898) rfl (ok_aload_n (n := 0) (by decide +kernel) rfl) ?_
  refine z_All.c (j := 899) rfl (ok_iload_n (n := 3) (by decide +kernel) rfl) ?_
  refine z_All.c (j := 900) rfl (ok_iconst (n := 3) (by decide +kernel) (by decide +kernel)) ?_
  refine z_All.c (j := 901) rfl (ok_iadd (by decide +kernel)) ?_
  refine z_All.c (j := 902) rfl (ok_sld (by decide +kernel)) ?_
  refine z_All.c (j := 903) rfl (ok_cv (idx := 97) (by decide +kernel) rfl zm19 zw521 zw522 zw523) ?_
  refine z_All.c (j := 904) rfl ok_bad ?_
  refine z_All.c (j := 905) rfl ok_bad ?_
  refine z_All.c (j := 906) rfl (ok_aload_n (n := 2) (by decide +kernel) rfl) ?_
  refine z_All.c (j := 907) rfl (ok_aload_n (n := 0) (by decide +kernel) rfl) ?_
  refine z_All.c (j := 908) rfl (ok_iload_n (n := 3) (by decide +kernel) rfl) ?_
  refine z_All.c (j := 909) rfl (ok_iconst (n := 1) (by decide +kernel) (by decide +kernel)) ?_
  refine z_All.c (j := 910) rfl (ok_iadd (by decide +kernel)) ?_
  refine z_All.c (j := 911) rfl (ok_sld (by decide +kernel)) ?_
  refine z_All.c (j := 912) rfl (ok_aload_n (n := 0) (by decide +kernel) rfl) ?_
  refine z_All.c (j := 913) rfl (ok_iload_n (n := 3) (by decide +kernel) rfl) ?_
  refine z_All.c (j := 914) rfl (ok_iconst (n := 2) (by decide +kernel) (by decide +kernel)) ?_
  refine z_All.c (j := 915) rfl (ok_iadd (by decide +kernel)) ?_
  refine z_All.c (j := 916) rfl (ok_sld (by decide +kernel)) ?_
  refine z_All.c (j := 917) rfl (ok_aload_n (n := 0) (by decide +kernel) rfl) ?_
  refine z_All.c (j := 918) rfl (ok_iload_n (n := 3) (by decide +kernel) rfl) ?_
  refine z_All.c (j := 919) rfl (ok_iconst (n := 3) (by decide +kernel) (by decide +kernel)) ?_
  refine z_All.c (j := 920) rfl (ok_iadd (by decide +kernel)) ?_
  refine z_All.c (j := 921) rfl (ok_sld (by decide +kernel)) ?_
  refine z_All.c (j := 922) rfl (ok_cv (idx := 101) (by decide +kernel) rfl zm114 zw840 zw841 zw842) ?_
  refine z_All.c (j := 923) rfl ok_bad ?_
  refine z_All.c (j := 924) rfl ok_bad ?_
  refine z_All.c (j := 925) rfl (ok_ic_eq (off := 5) (by decide +kernel) (by decide +kernel)) ?_
  refine z_All.c (j := 926) rfl ok_bad ?_
  refine z_All.c (j := 927) rfl ok_bad ?_
  refine z_All.c (j := 928) rfl (ok_iconst (n := 0) (by decide +kernel) (by decide +kernel)) ?_
  refine z_All.c (j := 929) rfl (ok_iret (by decide +kernel) rfl) ?_
  refine z_All.c (j := 930) rfl (ok_iinc (n := 6) (by decide +kernel) (by decide +kernel)) ?_
  refine z_All.c (j := 931) rfl ok_bad ?_
  refine z_All.c (j := 932) rfl ok_bad ?_
  refine z_All.c (j := 933) rfl (ok_goto (off := -914) (by decide +kernel) (by decide +kernel)) ?_
  refine z_All.c (j := 934) rfl ok_bad ?_
  refine z_All.c (j := 935) rfl ok_bad ?_
  refine z_All.c (j := 936) rfl (ok_iconst (n := 1) (by decide +kernel) (by decide +kernel)) ?_
  refine z_All.c (j := 937) rfl (ok_iret (by decide +kernel) rfl) ?_
  exact trivial
