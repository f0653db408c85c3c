/-! ===== made by wip/prog/gen8.py: each operation is sound ===== -/
set_option maxRecDepth 20000 in
theorem zk83_0 (l : Launch) (scr B : Nat) (D : va_G) : z_All l scr B D 83 0 z_c83_0 := by
  refine z_All.c (j := 1) rfl (ok_aload_n (n := 0) (by decide +kernel) rfl) ?_
  refine z_All.c (j := 2) rfl (ok_get (idx := 53) (by decide +kernel) rfl (by decide) z_i10 zw555) ?_
  refine z_All.c (j := 3) rfl ok_bad ?_
  refine z_All.c (j := 4) rfl ok_bad ?_
  refine z_All.c (j := 5) rfl (ok_iload_n (n := 2) (by decide +kernel) rfl) ?_
  refine z_All.c (j := 6) rfl (ok_iald (by decide +kernel)) ?_
  refine z_All.c (j := 7) rfl (ok_if_ne (off := 5) (by decide +kernel) (by decide +kernel)) ?_
  refine z_All.c (j := 8) rfl ok_bad ?_
  refine z_All.c (j := 9) rfl ok_bad ?_
  refine z_All.c (j := 10) rfl (ok_iconst (n := 1) (by decide +kernel) (by decide +kernel)) ?_
  refine z_All.c (j := 11) rfl (ok_iret (by decide +kernel) rfl) ?_
  refine z_All.c (j := 12) rfl (ok_aload_n (n := 0) (by decide +kernel) rfl) ?_
  refine z_All.c (j := 13) rfl (ok_get (idx := 53) (by decide +kernel) rfl (by decide) z_i10 zw555) ?_
  refine z_All.c (j := 14) rfl ok_bad ?_
  refine z_All.c (j := 15) rfl ok_bad ?_
  refine z_All.c (j := 16) rfl (ok_iload_n (n := 2) (by decide +kernel) rfl) ?_
  refine z_All.c (j := 17) rfl (ok_iald (by decide +kernel)) ?_
  refine z_All.c (j := 18) rfl (ok_iconst (n := 1) (by decide +kernel) (by decide +kernel)) ?_
  refine z_All.c (j := 19) rfl (ok_ic_ne (off := 21) (by decide +kernel) (by decide +kernel)) ?_
  refine z_All.c (j := 20) rfl ok_bad ?_
  refine z_All.c (j := 21) rfl ok_bad ?_
  refine z_All.c (j := 22) rfl (ok_aload_n (n := 0) (by decide +kernel) rfl) ?_
  refine z_All.c (j := 23) rfl (ok_iload_n (n := 1) (by decide +kernel) rfl) ?_
  refine z_All.c (j := 24) rfl (ok_aload_n (n := 0) (by decide +kernel) rfl) ?_
  refine z_All.c (j := 25) rfl (ok_get (idx := 56) (by decide +kernel) rfl (by decide) z_i10 zw556) ?_
  refine z_All.c (j := 26) rfl ok_bad ?_
  refine z_All.c (j := 27) rfl ok_bad ?_
  refine z_All.c (j := 28) rfl (ok_iload_n (n := 2) (by decide +kernel) rfl) ?_
  refine z_All.c (j := 29) rfl (ok_iald (by decide +kernel)) ?_
  refine z_All.c (j := 30) rfl (ok_aload_n (n := 0) (by decide +kernel) rfl) ?_
  refine z_All.c (j := 31) rfl (ok_get (idx := 59) (by decide +kernel) rfl (by decide) z_i10 zw557) ?_
  refine z_All.c (j := 32) rfl ok_bad ?_
  refine z_All.c (j := 33) rfl ok_bad ?_
  refine z_All.c (j := 34) rfl (ok_iload_n (n := 2) (by decide +kernel) rfl) ?_
  refine z_All.c (j := 35) rfl (ok_iald (by decide +kernel)) ?_
  refine z_All.c (j := 36) rfl (ok_cv (idx := 132) (by decide +kernel) rfl zm79 zw729 zw731 (z_inP (List.mem_of_getElem? (i := 28) rfl) rfl)) ?_
  refine z_All.c (j := 37) rfl ok_bad ?_
  refine z_All.c (j := 38) rfl ok_bad ?_
  refine z_All.c (j := 39) rfl (ok_iret (by decide +kernel) rfl) ?_
  refine z_All.c (j := 40) rfl (ok_aload_n (n := 0) (by decide +kernel) rfl) ?_
  refine z_All.c (j := 41) rfl (ok_get (idx := 56) (by decide +kernel) rfl (by decide) z_i10 zw556) ?_
  refine z_All.c (j := 42) rfl ok_bad ?_
  refine z_All.c (j := 43) rfl ok_bad ?_
  refine z_All.c (j := 44) rfl (ok_iload_n (n := 2) (by decide +kernel) rfl) ?_
  refine z_All.c (j := 45) rfl (ok_iald (by decide +kernel)) ?_
  refine z_All.c (j := 46) rfl (ok_istore_n (n := 3) (by decide +kernel) rfl (fun _ => rfl)) ?_
  refine z_All.c (j := 47) rfl (ok_aload_n (n := 0) (by decide +kernel) rfl) ?_
  refine z_All.c (j := 48) rfl (ok_cv (idx := 136) (by decide +kernel) rfl zm80 zw721 zw723 (z_inP (List.mem_of_getElem? (i := 26) rfl) rfl)) ?_
  refine z_All.c (j := 49) rfl ok_bad ?_
  refine z_All.c (j := 50) rfl ok_bad ?_
  refine z_All.c (j := 51) rfl (ok_if_ne (off := 5) (by decide +kernel) (by decide +kernel)) ?_
  refine z_All.c (j := 52) rfl ok_bad ?_
  refine z_All.c (j := 53) rfl ok_bad ?_
  refine z_All.c (j := 54) rfl (ok_iconst (n := 0) (by decide +kernel) (by decide +kernel)) ?_
  refine z_All.c (j := 55) rfl (ok_iret (by decide +kernel) rfl) ?_
  refine z_All.c (j := 56) rfl (ok_aload_n (n := 0) (by decide +kernel) rfl) ?_
  refine z_All.c (j := 57) rfl (ok_get (idx := 53) (by decide +kernel) rfl (by decide) z_i10 zw555) ?_
  refine z_All.c (j := 58) rfl ok_bad ?_
  refine z_All.c (j := 59) rfl ok_bad ?_
  refine z_All.c (j := 60) rfl (ok_iload_n (n := 2) (by decide +kernel) rfl) ?_
  refine z_All.c (j := 61) rfl (ok_iald (by decide +kernel)) ?_
  refine z_All.c (j := 62) rfl (ok_iconst (n := 3) (by decide +kernel) (by decide +kernel)) ?_
  refine z_All.c (j := 63) rfl (ok_ic_eq (off := 69) (by decide +kernel) (by decide +kernel)) ?_
  refine z_All.c (j := 64) rfl ok_bad ?_
  exact trivial
set_option maxRecDepth 20000 in
theorem zk83_1 (l : Launch) (scr B : Nat) (D : va_G) : z_All l scr B D 83 64 z_c83_1 := by
  refine z_All.c (j := 65) rfl ok_bad ?_
  refine z_All.c (j := 66) rfl (ok_aload_n (n := 0) (by decide +kernel) rfl) ?_
  refine z_All.c (j := 67) rfl (ok_get (idx := 17) (by decide +kernel) rfl (by decide) z_i10 zw543) ?_
  refine z_All.c (j := 68) rfl ok_bad ?_
  refine z_All.c (j := 69) rfl ok_bad ?_
  refine z_All.c (j := 70) rfl (ok_iload_n (n := 3) (by decide +kernel) rfl) ?_
  refine z_All.c (j := 71) rfl (ok_iald (by decide +kernel)) ?_
  refine z_All.c (j := 72) rfl (ok_if_gt (off := 10) (by decide +kernel) (by decide +kernel)) ?_
  refine z_All.c (j := 73) rfl ok_bad ?_
  refine z_All.c (j := 74) rfl ok_bad ?_
  refine z_All.c (j := 75) rfl (ok_aload_n (n := 0) (by decide +kernel) rfl) ?_
  refine z_All.c (j := 76) rfl (ok_cv (idx := 140) (by decide +kernel) rfl zm81 zw733 zw735 (z_inP (List.mem_of_getElem? (i := 29) rfl) rfl)) ?_
  refine z_All.c (j := 77) rfl ok_bad ?_
  refine z_All.c (j := 78) rfl ok_bad ?_
  refine z_All.c (j := 79) rfl (ok_if_ne (off := 7) (by decide +kernel) (by decide +kernel)) ?_
  refine z_All.c (j := 80) rfl ok_bad ?_
  refine z_All.c (j := 81) rfl ok_bad ?_
  refine z_All.c (j := 82) rfl (ok_iconst (n := 1) (by decide +kernel) (by decide +kernel)) ?_
  refine z_All.c (j := 83) rfl (ok_goto (off := 4) (by decide +kernel) (by decide +kernel)) ?_
  refine z_All.c (j := 84) rfl ok_bad ?_
  refine z_All.c (j := 85) rfl ok_bad ?_
  refine z_All.c (j := 86) rfl (ok_iconst (n := 0) (by decide +kernel) (by decide +kernel)) ?_
  refine z_All.c (j := 87) rfl (ok_istore (by decide +kernel) (fun _ => rfl)) ?_
  refine z_All.c (j := 88) rfl ok_bad ?_
  refine z_All.c (j := 89) rfl (ok_aload_n (n := 0) (by decide +kernel) rfl) ?_
  refine z_All.c (j := 90) rfl (ok_get (idx := 122) (by decide +kernel) rfl (by decide) z_i10 zw560) ?_
  refine z_All.c (j := 91) rfl ok_bad ?_
  refine z_All.c (j := 92) rfl ok_bad ?_
  refine z_All.c (j := 93) rfl (ok_if_ne (off := 37) (by decide +kernel) (by decide +kernel)) ?_
  refine z_All.c (j := 94) rfl ok_bad ?_
  refine z_All.c (j := 95) rfl ok_bad ?_
  refine z_All.c (j := 96) rfl (ok_iload (by decide +kernel)) ?_
  refine z_All.c (j := 97) rfl ok_bad ?_
  refine z_All.c (j := 98) rfl (ok_if_eq (off := 32) (by decide +kernel) (by decide +kernel)) ?_
  refine z_All.c (j := 99) rfl ok_bad ?_
  refine z_All.c (j := 100) rfl ok_bad ?_
  refine z_All.c (j := 101) rfl (ok_aload_n (n := 0) (by decide +kernel) rfl) ?_
  refine z_All.c (j := 102) rfl (ok_get (idx := 53) (by decide +kernel) rfl (by decide) z_i10 zw555) ?_
  refine z_All.c (j := 103) rfl ok_bad ?_
  refine z_All.c (j := 104) rfl ok_bad ?_
  refine z_All.c (j := 105) rfl (ok_iload_n (n := 2) (by decide +kernel) rfl) ?_
  refine z_All.c (j := 106) rfl (ok_iald (by decide +kernel)) ?_
  refine z_All.c (j := 107) rfl (ok_iconst (n := 5) (by decide +kernel) (by decide +kernel)) ?_
  refine z_All.c (j := 108) rfl (ok_ic_eq (off := 18) (by decide +kernel) (by decide +kernel)) ?_
  refine z_All.c (j := 109) rfl ok_bad ?_
  refine z_All.c (j := 110) rfl ok_bad ?_
  refine z_All.c (j := 111) rfl (ok_aload_n (n := 0) (by decide +kernel) rfl) ?_
  refine z_All.c (j := 112) rfl (ok_iload_n (n := 1) (by decide +kernel) rfl) ?_
  refine z_All.c (j := 113) rfl (ok_iload_n (n := 3) (by decide +kernel) rfl) ?_
  refine z_All.c (j := 114) rfl (ok_aload_n (n := 0) (by decide +kernel) rfl) ?_
  refine z_All.c (j := 115) rfl (ok_get (idx := 59) (by decide +kernel) rfl (by decide) z_i10 zw557) ?_
  refine z_All.c (j := 116) rfl ok_bad ?_
  refine z_All.c (j := 117) rfl ok_bad ?_
  refine z_All.c (j := 118) rfl (ok_iload_n (n := 2) (by decide +kernel) rfl) ?_
  refine z_All.c (j := 119) rfl (ok_iald (by decide +kernel)) ?_
  refine z_All.c (j := 120) rfl (ok_cv (idx := 143) (by decide +kernel) rfl zm82 zw737 zw739 (z_inP (List.mem_of_getElem? (i := 30) rfl) rfl)) ?_
  refine z_All.c (j := 121) rfl ok_bad ?_
  refine z_All.c (j := 122) rfl ok_bad ?_
  refine z_All.c (j := 123) rfl (ok_if_eq (off := 7) (by decide +kernel) (by decide +kernel)) ?_
  refine z_All.c (j := 124) rfl ok_bad ?_
  refine z_All.c (j := 125) rfl ok_bad ?_
  refine z_All.c (j := 126) rfl (ok_iconst (n := 1) (by decide +kernel) (by decide +kernel)) ?_
  refine z_All.c (j := 127) rfl (ok_goto (off := 4) (by decide +kernel) (by decide +kernel)) ?_
  refine z_All.c (j := 128) rfl ok_bad ?_
  exact trivial
set_option maxRecDepth 20000 in
theorem zk83_2 (l : Launch) (scr B : Nat) (D : va_G) : z_All l scr B D 83 128 z_c83_2 := by
  refine z_All.c (j := 129) rfl ok_bad ?_
  refine z_All.c (j := 130) rfl (ok_iconst (n := 0) (by decide +kernel) (by decide +kernel)) ?_
  refine z_All.c (j := 131) rfl (ok_iret (by decide +kernel) rfl) ?_
  refine z_All.c (j := 132) rfl (ok_aload_n (n := 0) (by decide +kernel) rfl) ?_
  refine z_All.c (j := 133) rfl (ok_get (idx := 23) (by decide +kernel) rfl (by decide) z_i10 zw545) ?_
  refine z_All.c (j := 134) rfl ok_bad ?_
  refine z_All.c (j := 135) rfl ok_bad ?_
  refine z_All.c (j := 136) rfl (ok_iload_n (n := 3) (by decide +kernel) rfl) ?_
  refine z_All.c (j := 137) rfl (ok_iald (by decide +kernel)) ?_
  refine z_All.c (j := 138) rfl (ok_if_ne (off := 11) (by decide +kernel) (by decide +kernel)) ?_
  refine z_All.c (j := 139) rfl ok_bad ?_
  refine z_All.c (j := 140) rfl ok_bad ?_
  refine z_All.c (j := 141) rfl (ok_aload_n (n := 0) (by decide +kernel) rfl) ?_
  refine z_All.c (j := 142) rfl (ok_cv (idx := 140) (by decide +kernel) rfl zm81 zw733 zw735 (z_inP (List.mem_of_getElem? (i := 29) rfl) rfl)) ?_
  refine z_All.c (j := 143) rfl ok_bad ?_
  refine z_All.c (j := 144) rfl ok_bad ?_
  refine z_All.c (j := 145) rfl (ok_istore (by decide +kernel) (fun _ => rfl)) ?_
  refine z_All.c (j := 146) rfl ok_bad ?_
  refine z_All.c (j := 147) rfl (ok_iconst (n := 0) (by decide +kernel) (by decide +kernel)) ?_
  refine z_All.c (j := 148) rfl (ok_iret (by decide +kernel) rfl) ?_
  refine z_All.c (j := 149) rfl (ok_iconst (n := 0) (by decide +kernel) (by decide +kernel)) ?_
  refine z_All.c (j := 150) rfl (ok_istore (by decide +kernel) (fun _ => rfl)) ?_
  refine z_All.c (j := 151) rfl ok_bad ?_
  refine z_All.c (j := 152) rfl (ok_iconst (n := 0) (by decide +kernel) (by decide +kernel)) ?_
  refine z_All.c (j := 153) rfl (ok_istore (by decide +kernel) (fun _ => rfl)) ?_
  refine z_All.c (j := 154) rfl ok_bad ?_
  refine z_All.c (j := 155) rfl (ok_iload (by decide +kernel)) ?_
  refine z_All.c (j := 156) rfl ok_bad ?_
  refine z_All.c (j := 157) rfl (ok_aload_n (n := 0) (by decide +kernel) rfl) ?_
  refine z_All.c (j := 158) rfl (ok_get (idx := 23) (by decide +kernel) rfl (by decide) z_i10 zw545) ?_
  refine z_All.c (j := 159) rfl ok_bad ?_
  refine z_All.c (j := 160) rfl ok_bad ?_
  refine z_All.c (j := 161) rfl (ok_iload_n (n := 3) (by decide +kernel) rfl) ?_
  refine z_All.c (j := 162) rfl (ok_iald (by decide +kernel)) ?_
  refine z_All.c (j := 163) rfl (ok_ic_ge (off := 79) (by decide +kernel) (by decide +kernel)) ?_
  refine z_All.c (j := 164) rfl ok_bad ?_
  refine z_All.c (j := 165) rfl ok_bad ?_
  refine z_All.c (j := 166) rfl (ok_iload (by decide +kernel)) ?_
  refine z_All.c (j := 167) rfl ok_bad ?_
  refine z_All.c (j := 168) rfl (ok_if_ne (off := 74) (by decide +kernel) (by decide +kernel)) ?_
  refine z_All.c (j := 169) rfl ok_bad ?_
  refine z_All.c (j := 170) rfl ok_bad ?_
  refine z_All.c (j := 171) rfl (ok_aload_n (n := 0) (by decide +kernel) rfl) ?_
  refine z_All.c (j := 172) rfl (ok_get (idx := 122) (by decide +kernel) rfl (by decide) z_i10 zw560) ?_
  refine z_All.c (j := 173) rfl ok_bad ?_
  refine z_All.c (j := 174) rfl ok_bad ?_
  refine z_All.c (j := 175) rfl (ok_if_ne (off := 67) (by decide +kernel) (by decide +kernel)) ?_
  refine z_All.c (j := 176) rfl ok_bad ?_
  refine z_All.c (j := 177) rfl ok_bad ?_
  refine z_All.c (j := 178) rfl (ok_aload_n (n := 0) (by decide +kernel) rfl) ?_
  refine z_All.c (j := 179) rfl (ok_get (idx := 26) (by decide +kernel) rfl (by decide) z_i10 zw546) ?_
  refine z_All.c (j := 180) rfl ok_bad ?_
  refine z_All.c (j := 181) rfl ok_bad ?_
  refine z_All.c (j := 182) rfl (ok_iconst (n := 3) (by decide +kernel) (by decide +kernel)) ?_
  refine z_All.c (j := 183) rfl (ok_iload_n (n := 3) (by decide +kernel) rfl) ?_
  refine z_All.c (j := 184) rfl (ok_imul (by decide +kernel)) ?_
  refine z_All.c (j := 185) rfl (ok_iload (by decide +kernel)) ?_
  refine z_All.c (j := 186) rfl ok_bad ?_
  refine z_All.c (j := 187) rfl (ok_iadd (by decide +kernel)) ?_
  refine z_All.c (j := 188) rfl (ok_iald (by decide +kernel)) ?_
  refine z_All.c (j := 189) rfl (ok_istore (by decide +kernel) (fun _ => rfl)) ?_
  refine z_All.c (j := 190) rfl ok_bad ?_
  refine z_All.c (j := 191) rfl (ok_aload_n (n := 0) (by decide +kernel) rfl) ?_
  refine z_All.c (j := 192) rfl (ok_get (idx := 17) (by decide +kernel) rfl (by decide) z_i10 zw543) ?_
  exact trivial
set_option maxRecDepth 20000 in
theorem zk83_3 (l : Launch) (scr B : Nat) (D : va_G) : z_All l scr B D 83 192 z_c83_3 := by
  refine z_All.c (j := 193) rfl ok_bad ?_
  refine z_All.c (j := 194) rfl ok_bad ?_
  refine z_All.c (j := 195) rfl (ok_iload (by decide +kernel)) ?_
  refine z_All.c (j := 196) rfl ok_bad ?_
  refine z_All.c (j := 197) rfl (ok_iald (by decide +kernel)) ?_
  refine z_All.c (j := 198) rfl (ok_if_ne (off := 7) (by decide +kernel) (by decide +kernel)) ?_
  refine z_All.c (j := 199) rfl ok_bad ?_
  refine z_All.c (j := 200) rfl ok_bad ?_
  refine z_All.c (j := 201) rfl (ok_iconst (n := 0) (by decide +kernel) (by decide +kernel)) ?_
  refine z_All.c (j := 202) rfl (ok_goto (off := 16) (by decide +kernel) (by decide +kernel)) ?_
  refine z_All.c (j := 203) rfl ok_bad ?_
  refine z_All.c (j := 204) rfl ok_bad ?_
  refine z_All.c (j := 205) rfl (ok_aload_n (n := 0) (by decide +kernel) rfl) ?_
  refine z_All.c (j := 206) rfl (ok_iload_n (n := 1) (by decide +kernel) rfl) ?_
  refine z_All.c (j := 207) rfl (ok_iload (by decide +kernel)) ?_
  refine z_All.c (j := 208) rfl ok_bad ?_
  refine z_All.c (j := 209) rfl (ok_aload_n (n := 0) (by decide +kernel) rfl) ?_
  refine z_All.c (j := 210) rfl (ok_get (idx := 59) (by decide +kernel) rfl (by decide) z_i10 zw557) ?_
  refine z_All.c (j := 211) rfl ok_bad ?_
  refine z_All.c (j := 212) rfl ok_bad ?_
  refine z_All.c (j := 213) rfl (ok_iload_n (n := 2) (by decide +kernel) rfl) ?_
  refine z_All.c (j := 214) rfl (ok_iald (by decide +kernel)) ?_
  refine z_All.c (j := 215) rfl (ok_cv (idx := 143) (by decide +kernel) rfl zm82 zw737 zw739 (z_inP (List.mem_of_getElem? (i := 30) rfl) rfl)) ?_
  refine z_All.c (j := 216) rfl ok_bad ?_
  refine z_All.c (j := 217) rfl ok_bad ?_
  refine z_All.c (j := 218) rfl (ok_istore (by decide +kernel) (fun _ => rfl)) ?_
  refine z_All.c (j := 219) rfl ok_bad ?_
  refine z_All.c (j := 220) rfl (ok_aload_n (n := 0) (by decide +kernel) rfl) ?_
  refine z_All.c (j := 221) rfl (ok_get (idx := 17) (by decide +kernel) rfl (by decide) z_i10 zw543) ?_
  refine z_All.c (j := 222) rfl ok_bad ?_
  refine z_All.c (j := 223) rfl ok_bad ?_
  refine z_All.c (j := 224) rfl (ok_iload (by decide +kernel)) ?_
  refine z_All.c (j := 225) rfl ok_bad ?_
  refine z_All.c (j := 226) rfl (ok_iald (by decide +kernel)) ?_
  refine z_All.c (j := 227) rfl (ok_if_ne (off := 9) (by decide +kernel) (by decide +kernel)) ?_
  refine z_All.c (j := 228) rfl ok_bad ?_
  refine z_All.c (j := 229) rfl ok_bad ?_
  refine z_All.c (j := 230) rfl (ok_aload_n (n := 0) (by decide +kernel) rfl) ?_
  refine z_All.c (j := 231) rfl (ok_cv (idx := 140) (by decide +kernel) rfl zm81 zw733 zw735 (z_inP (List.mem_of_getElem? (i := 29) rfl) rfl)) ?_
  refine z_All.c (j := 232) rfl ok_bad ?_
  refine z_All.c (j := 233) rfl ok_bad ?_
  refine z_All.c (j := 234) rfl (ok_istore (by decide +kernel) (fun _ => rfl)) ?_
  refine z_All.c (j := 235) rfl ok_bad ?_
  refine z_All.c (j := 236) rfl (ok_iinc (n := 1) (by decide +kernel) (by decide +kernel)) ?_
  refine z_All.c (j := 237) rfl ok_bad ?_
  refine z_All.c (j := 238) rfl ok_bad ?_
  refine z_All.c (j := 239) rfl (ok_goto (off := -84) (by decide +kernel) (by decide +kernel)) ?_
  refine z_All.c (j := 240) rfl ok_bad ?_
  refine z_All.c (j := 241) rfl ok_bad ?_
  refine z_All.c (j := 242) rfl (ok_iload (by decide +kernel)) ?_
  refine z_All.c (j := 243) rfl ok_bad ?_
  refine z_All.c (j := 244) rfl (ok_if_eq (off := 14) (by decide +kernel) (by decide +kernel)) ?_
  refine z_All.c (j := 245) rfl ok_bad ?_
  refine z_All.c (j := 246) rfl ok_bad ?_
  refine z_All.c (j := 247) rfl (ok_aload_n (n := 0) (by decide +kernel) rfl) ?_
  refine z_All.c (j := 248) rfl (ok_get (idx := 122) (by decide +kernel) rfl (by decide) z_i10 zw560) ?_
  refine z_All.c (j := 249) rfl ok_bad ?_
  refine z_All.c (j := 250) rfl ok_bad ?_
  refine z_All.c (j := 251) rfl (ok_if_ne (off := 7) (by decide +kernel) (by decide +kernel)) ?_
  refine z_All.c (j := 252) rfl ok_bad ?_
  refine z_All.c (j := 253) rfl ok_bad ?_
  refine z_All.c (j := 254) rfl (ok_iconst (n := 1) (by decide +kernel) (by decide +kernel)) ?_
  refine z_All.c (j := 255) rfl (ok_goto (off := 4) (by decide +kernel) (by decide +kernel)) ?_
  refine z_All.c (j := 256) rfl ok_bad ?_
  exact trivial
set_option maxRecDepth 20000 in
theorem zk83_4 (l : Launch) (scr B : Nat) (D : va_G) : z_All l scr B D 83 256 z_c83_4 := by
  refine z_All.c (j := 257) rfl ok_bad ?_
  refine z_All.c (j := 258) rfl (ok_iconst (n := 0) (by decide +kernel) (by decide +kernel)) ?_
  refine z_All.c (j := 259) rfl (ok_iret (by decide +kernel) rfl) ?_
  exact trivial
set_option maxRecDepth 20000 in
theorem zk84_0 (l : Launch) (scr B : Nat) (D : va_G) : z_All l scr B D 84 0 z_c84_0 := by
  refine z_All.c (j := 1) rfl (ok_aload_n (n := 0) (by decide +kernel) rfl) ?_
  refine z_All.c (j := 2) rfl (ok_get (idx := 62) (by decide +kernel) rfl (by decide) z_i10 zw561) ?_
  refine z_All.c (j := 3) rfl ok_bad ?_
  refine z_All.c (j := 4) rfl ok_bad ?_
  refine z_All.c (j := 5) rfl (ok_iload_n (n := 1) (by decide +kernel) rfl) ?_
  refine z_All.c (j := 6) rfl (ok_iload_n (n := 2) (by decide +kernel) rfl) ?_
  refine z_All.c (j := 7) rfl (ok_iast (by decide +kernel)) ?_
  refine z_All.c (j := 8) rfl (ok_aload_n (n := 0) (by decide +kernel) rfl) ?_
  refine z_All.c (j := 9) rfl (ok_get (idx := 65) (by decide +kernel) rfl (by decide) z_i10 zw562) ?_
  refine z_All.c (j := 10) rfl ok_bad ?_
  refine z_All.c (j := 11) rfl ok_bad ?_
  refine z_All.c (j := 12) rfl (ok_iload_n (n := 1) (by decide +kernel) rfl) ?_
  refine z_All.c (j := 13) rfl (ok_iconst (n := 0) (by decide +kernel) (by decide +kernel)) ?_
  refine z_All.c (j := 14) rfl (ok_iast (by decide +kernel)) ?_
  refine z_All.c (j := 15) rfl (ok_aload_n (n := 0) (by decide +kernel) rfl) ?_
  refine z_All.c (j := 16) rfl (ok_get (idx := 68) (by decide +kernel) rfl (by decide) z_i10 zw563) ?_
  refine z_All.c (j := 17) rfl ok_bad ?_
  refine z_All.c (j := 18) rfl ok_bad ?_
  refine z_All.c (j := 19) rfl (ok_iload_n (n := 1) (by decide +kernel) rfl) ?_
  refine z_All.c (j := 20) rfl (ok_iload_n (n := 3) (by decide +kernel) rfl) ?_
  refine z_All.c (j := 21) rfl (ok_zast (by decide +kernel)) ?_
  refine z_All.c (j := 22) rfl (ok_vret (by decide +kernel) rfl) ?_
  exact trivial
set_option maxRecDepth 20000 in
theorem zk85_0 (l : Launch) (scr B : Nat) (D : va_G) : z_All l scr B D 85 0 z_c85_0 := by
  refine z_All.c (j := 1) rfl (ok_aload_n (n := 0) (by decide +kernel) rfl) ?_
  refine z_All.c (j := 2) rfl (ok_get (idx := 62) (by decide +kernel) rfl (by decide) z_i10 zw561) ?_
  refine z_All.c (j := 3) rfl ok_bad ?_
  refine z_All.c (j := 4) rfl ok_bad ?_
  refine z_All.c (j := 5) rfl (ok_iload_n (n := 2) (by decide +kernel) rfl) ?_
  refine z_All.c (j := 6) rfl (ok_iald (by decide +kernel)) ?_
  refine z_All.c (j := 7) rfl (ok_istore_n (n := 3) (by decide +kernel) rfl (fun _ => rfl)) ?_
  refine z_All.c (j := 8) rfl (ok_aload_n (n := 0) (by decide +kernel) rfl) ?_
  refine z_All.c (j := 9) rfl (ok_get (idx := 47) (by decide +kernel) rfl (by decide) z_i10 zw553) ?_
  refine z_All.c (j := 10) rfl ok_bad ?_
  refine z_All.c (j := 11) rfl ok_bad ?_
  refine z_All.c (j := 12) rfl (ok_iload_n (n := 3) (by decide +kernel) rfl) ?_
  refine z_All.c (j := 13) rfl (ok_iald (by decide +kernel)) ?_
  refine z_All.c (j := 14) rfl (ok_if_ne (off := 15) (by decide +kernel) (by decide +kernel)) ?_
  refine z_All.c (j := 15) rfl ok_bad ?_
  refine z_All.c (j := 16) rfl ok_bad ?_
  refine z_All.c (j := 17) rfl (ok_aload_n (n := 0) (by decide +kernel) rfl) ?_
  refine z_All.c (j := 18) rfl (ok_aload_n (n := 0) (by decide +kernel) rfl) ?_
  refine z_All.c (j := 19) rfl (ok_get (idx := 68) (by decide +kernel) rfl (by decide) z_i10 zw563) ?_
  refine z_All.c (j := 20) rfl ok_bad ?_
  refine z_All.c (j := 21) rfl ok_bad ?_
  refine z_All.c (j := 22) rfl (ok_iload_n (n := 2) (by decide +kernel) rfl) ?_
  refine z_All.c (j := 23) rfl (ok_zald (by decide +kernel)) ?_
  refine z_All.c (j := 24) rfl (ok_put (idx := 122) (by decide +kernel) rfl (by decide) z_i10 z_t10 z_n10 zw560 rfl (by decide +kernel)) ?_
  refine z_All.c (j := 25) rfl ok_bad ?_
  refine z_All.c (j := 26) rfl ok_bad ?_
  refine z_All.c (j := 27) rfl (ok_iconst (n := 0) (by decide +kernel) (by decide +kernel)) ?_
  refine z_All.c (j := 28) rfl (ok_iret (by decide +kernel) rfl) ?_
  refine z_All.c (j := 29) rfl (ok_bipush (n := 8) (by decide +kernel) (by decide +kernel)) ?_
  refine z_All.c (j := 30) rfl ok_bad ?_
  refine z_All.c (j := 31) rfl (ok_iload_n (n := 3) (by decide +kernel) rfl) ?_
  refine z_All.c (j := 32) rfl (ok_imul (by decide +kernel)) ?_
  refine z_All.c (j := 33) rfl (ok_aload_n (n := 0) (by decide +kernel) rfl) ?_
  refine z_All.c (j := 34) rfl (ok_get (idx := 65) (by decide +kernel) rfl (by decide) z_i10 zw562) ?_
  refine z_All.c (j := 35) rfl ok_bad ?_
  refine z_All.c (j := 36) rfl ok_bad ?_
  refine z_All.c (j := 37) rfl (ok_iload_n (n := 2) (by decide +kernel) rfl) ?_
  refine z_All.c (j := 38) rfl (ok_iald (by decide +kernel)) ?_
  refine z_All.c (j := 39) rfl (ok_iadd (by decide +kernel)) ?_
  refine z_All.c (j := 40) rfl (ok_istore (by decide +kernel) (fun _ => rfl)) ?_
  refine z_All.c (j := 41) rfl ok_bad ?_
  refine z_All.c (j := 42) rfl (ok_aload_n (n := 0) (by decide +kernel) rfl) ?_
  refine z_All.c (j := 43) rfl (ok_get (idx := 65) (by decide +kernel) rfl (by decide) z_i10 zw562) ?_
  refine z_All.c (j := 44) rfl ok_bad ?_
  refine z_All.c (j := 45) rfl ok_bad ?_
  refine z_All.c (j := 46) rfl (ok_iload_n (n := 2) (by decide +kernel) rfl) ?_
  refine z_All.c (j := 47) rfl (ok_iald (by decide +kernel)) ?_
  refine z_All.c (j := 48) rfl (ok_aload_n (n := 0) (by decide +kernel) rfl) ?_
  refine z_All.c (j := 49) rfl (ok_get (idx := 47) (by decide +kernel) rfl (by decide) z_i10 zw553) ?_
  refine z_All.c (j := 50) rfl ok_bad ?_
  refine z_All.c (j := 51) rfl ok_bad ?_
  refine z_All.c (j := 52) rfl (ok_iload_n (n := 3) (by decide +kernel) rfl) ?_
  refine z_All.c (j := 53) rfl (ok_iald (by decide +kernel)) ?_
  refine z_All.c (j := 54) rfl (ok_ic_ge (off := 74) (by decide +kernel) (by decide +kernel)) ?_
  refine z_All.c (j := 55) rfl ok_bad ?_
  refine z_All.c (j := 56) rfl ok_bad ?_
  refine z_All.c (j := 57) rfl (ok_aload_n (n := 0) (by decide +kernel) rfl) ?_
  refine z_All.c (j := 58) rfl (ok_get (idx := 65) (by decide +kernel) rfl (by decide) z_i10 zw562) ?_
  refine z_All.c (j := 59) rfl ok_bad ?_
  refine z_All.c (j := 60) rfl ok_bad ?_
  refine z_All.c (j := 61) rfl (ok_iload_n (n := 2) (by decide +kernel) rfl) ?_
  refine z_All.c (j := 62) rfl (ok_dup2 (by decide +kernel)) ?_
  refine z_All.c (j := 63) rfl (ok_iald (by decide +kernel)) ?_
  refine z_All.c (j := 64) rfl (ok_iconst (n := 1) (by decide +kernel) (by decide +kernel)) ?_
  exact trivial
set_option maxRecDepth 20000 in
theorem zk85_1 (l : Launch) (scr B : Nat) (D : va_G) : z_All l scr B D 85 64 z_c85_1 := by
  refine z_All.c (j := 65) rfl (ok_iadd (by decide +kernel)) ?_
  refine z_All.c (j := 66) rfl (ok_iast (by decide +kernel)) ?_
  refine z_All.c (j := 67) rfl (ok_aload_n (n := 0) (by decide +kernel) rfl) ?_
  refine z_All.c (j := 68) rfl (ok_get (idx := 53) (by decide +kernel) rfl (by decide) z_i10 zw555) ?_
  refine z_All.c (j := 69) rfl ok_bad ?_
  refine z_All.c (j := 70) rfl ok_bad ?_
  refine z_All.c (j := 71) rfl (ok_iload (by decide +kernel)) ?_
  refine z_All.c (j := 72) rfl ok_bad ?_
  refine z_All.c (j := 73) rfl (ok_iald (by decide +kernel)) ?_
  refine z_All.c (j := 74) rfl (ok_bipush (n := 6) (by decide +kernel) (by decide +kernel)) ?_
  refine z_All.c (j := 75) rfl ok_bad ?_
  refine z_All.c (j := 76) rfl (ok_ic_ne (off := 5) (by decide +kernel) (by decide +kernel)) ?_
  refine z_All.c (j := 77) rfl ok_bad ?_
  refine z_All.c (j := 78) rfl ok_bad ?_
  refine z_All.c (j := 79) rfl (ok_iconst (n := -1) (by decide +kernel) (by decide +kernel)) ?_
  refine z_All.c (j := 80) rfl (ok_iret (by decide +kernel) rfl) ?_
  refine z_All.c (j := 81) rfl (ok_aload_n (n := 0) (by decide +kernel) rfl) ?_
  refine z_All.c (j := 82) rfl (ok_get (idx := 53) (by decide +kernel) rfl (by decide) z_i10 zw555) ?_
  refine z_All.c (j := 83) rfl ok_bad ?_
  refine z_All.c (j := 84) rfl ok_bad ?_
  refine z_All.c (j := 85) rfl (ok_iload (by decide +kernel)) ?_
  refine z_All.c (j := 86) rfl ok_bad ?_
  refine z_All.c (j := 87) rfl (ok_iald (by decide +kernel)) ?_
  refine z_All.c (j := 88) rfl (ok_iconst (n := 4) (by decide +kernel) (by decide +kernel)) ?_
  refine z_All.c (j := 89) rfl (ok_ic_ne (off := 17) (by decide +kernel) (by decide +kernel)) ?_
  refine z_All.c (j := 90) rfl ok_bad ?_
  refine z_All.c (j := 91) rfl ok_bad ?_
  refine z_All.c (j := 92) rfl (ok_aload_n (n := 0) (by decide +kernel) rfl) ?_
  refine z_All.c (j := 93) rfl (ok_cv (idx := 136) (by decide +kernel) rfl zm80 zw721 zw723 (z_inP (List.mem_of_getElem? (i := 26) rfl) rfl)) ?_
  refine z_All.c (j := 94) rfl ok_bad ?_
  refine z_All.c (j := 95) rfl ok_bad ?_
  refine z_All.c (j := 96) rfl (ok_if_eq (off := 8) (by decide +kernel) (by decide +kernel)) ?_
  refine z_All.c (j := 97) rfl ok_bad ?_
  refine z_All.c (j := 98) rfl ok_bad ?_
  refine z_All.c (j := 99) rfl (ok_bipush (n := -2) (by decide +kernel) (by decide +kernel)) ?_
  refine z_All.c (j := 100) rfl ok_bad ?_
  refine z_All.c (j := 101) rfl (ok_goto (off := 4) (by decide +kernel) (by decide +kernel)) ?_
  refine z_All.c (j := 102) rfl ok_bad ?_
  refine z_All.c (j := 103) rfl ok_bad ?_
  refine z_All.c (j := 104) rfl (ok_iconst (n := -1) (by decide +kernel) (by decide +kernel)) ?_
  refine z_All.c (j := 105) rfl (ok_iret (by decide +kernel) rfl) ?_
  refine z_All.c (j := 106) rfl (ok_aload_n (n := 0) (by decide +kernel) rfl) ?_
  refine z_All.c (j := 107) rfl (ok_iload_n (n := 1) (by decide +kernel) rfl) ?_
  refine z_All.c (j := 108) rfl (ok_iload (by decide +kernel)) ?_
  refine z_All.c (j := 109) rfl ok_bad ?_
  refine z_All.c (j := 110) rfl (ok_cv (idx := 146) (by decide +kernel) rfl zm83 zw725 zw727 (z_inP (List.mem_of_getElem? (i := 27) rfl) rfl)) ?_
  refine z_All.c (j := 111) rfl ok_bad ?_
  refine z_All.c (j := 112) rfl ok_bad ?_
  refine z_All.c (j := 113) rfl (ok_if_eq (off := 13) (by decide +kernel) (by decide +kernel)) ?_
  refine z_All.c (j := 114) rfl ok_bad ?_
  refine z_All.c (j := 115) rfl ok_bad ?_
  refine z_All.c (j := 116) rfl (ok_aload_n (n := 0) (by decide +kernel) rfl) ?_
  refine z_All.c (j := 117) rfl (ok_get (idx := 50) (by decide +kernel) rfl (by decide) z_i10 zw554) ?_
  refine z_All.c (j := 118) rfl ok_bad ?_
  refine z_All.c (j := 119) rfl ok_bad ?_
  refine z_All.c (j := 120) rfl (ok_iload (by decide +kernel)) ?_
  refine z_All.c (j := 121) rfl ok_bad ?_
  refine z_All.c (j := 122) rfl (ok_iald (by decide +kernel)) ?_
  refine z_All.c (j := 123) rfl (ok_goto (off := 4) (by decide +kernel) (by decide +kernel)) ?_
  refine z_All.c (j := 124) rfl ok_bad ?_
  refine z_All.c (j := 125) rfl ok_bad ?_
  refine z_All.c (j := 126) rfl (ok_iconst (n := -1) (by decide +kernel) (by decide +kernel)) ?_
  refine z_All.c (j := 127) rfl (ok_iret (by decide +kernel) rfl) ?_
  refine z_All.c (j := 128) rfl (ok_aload_n (n := 0) (by decide +kernel) rfl) ?_
  exact trivial
set_option maxRecDepth 20000 in
theorem zk85_2 (l : Launch) (scr B : Nat) (D : va_G) : z_All l scr B D 85 128 z_c85_2 := by
  refine z_All.c (j := 129) rfl (ok_iload_n (n := 3) (by decide +kernel) rfl) ?_
  refine z_All.c (j := 130) rfl (ok_cv (idx := 118) (by decide +kernel) rfl zm75 zw693 zw695 (z_inP (List.mem_of_getElem? (i := 22) rfl) rfl)) ?_
  refine z_All.c (j := 131) rfl ok_bad ?_
  refine z_All.c (j := 132) rfl ok_bad ?_
  refine z_All.c (j := 133) rfl (ok_istore (by decide +kernel) (fun _ => rfl)) ?_
  refine z_All.c (j := 134) rfl ok_bad ?_
  refine z_All.c (j := 135) rfl (ok_iload (by decide +kernel)) ?_
  refine z_All.c (j := 136) rfl ok_bad ?_
  refine z_All.c (j := 137) rfl (ok_if_ge (off := 5) (by decide +kernel) (by decide +kernel)) ?_
  refine z_All.c (j := 138) rfl ok_bad ?_
  refine z_All.c (j := 139) rfl ok_bad ?_
  refine z_All.c (j := 140) rfl (ok_iconst (n := 1) (by decide +kernel) (by decide +kernel)) ?_
  refine z_All.c (j := 141) rfl (ok_iret (by decide +kernel) rfl) ?_
  refine z_All.c (j := 142) rfl (ok_aload_n (n := 0) (by decide +kernel) rfl) ?_
  refine z_All.c (j := 143) rfl (ok_cv (idx := 136) (by decide +kernel) rfl zm80 zw721 zw723 (z_inP (List.mem_of_getElem? (i := 26) rfl) rfl)) ?_
  refine z_All.c (j := 144) rfl ok_bad ?_
  refine z_All.c (j := 145) rfl ok_bad ?_
  refine z_All.c (j := 146) rfl (ok_if_eq (off := 16) (by decide +kernel) (by decide +kernel)) ?_
  refine z_All.c (j := 147) rfl ok_bad ?_
  refine z_All.c (j := 148) rfl ok_bad ?_
  refine z_All.c (j := 149) rfl (ok_aload_n (n := 0) (by decide +kernel) rfl) ?_
  refine z_All.c (j := 150) rfl (ok_iload_n (n := 2) (by decide +kernel) rfl) ?_
  refine z_All.c (j := 151) rfl (ok_aload_n (n := 0) (by decide +kernel) rfl) ?_
  refine z_All.c (j := 152) rfl (ok_get (idx := 56) (by decide +kernel) rfl (by decide) z_i10 zw556) ?_
  refine z_All.c (j := 153) rfl ok_bad ?_
  refine z_All.c (j := 154) rfl ok_bad ?_
  refine z_All.c (j := 155) rfl (ok_iload (by decide +kernel)) ?_
  refine z_All.c (j := 156) rfl ok_bad ?_
  refine z_All.c (j := 157) rfl (ok_iald (by decide +kernel)) ?_
  refine z_All.c (j := 158) rfl (ok_iconst (n := 1) (by decide +kernel) (by decide +kernel)) ?_
  refine z_All.c (j := 159) rfl (ok_cv (idx := 150) (by decide +kernel) rfl zm84 zw713 zw715 (z_inP (List.mem_of_getElem? (i := 24) rfl) rfl)) ?_
  refine z_All.c (j := 160) rfl ok_bad ?_
  refine z_All.c (j := 161) rfl ok_bad ?_
  refine z_All.c (j := 162) rfl (ok_iconst (n := -1) (by decide +kernel) (by decide +kernel)) ?_
  refine z_All.c (j := 163) rfl (ok_iret (by decide +kernel) rfl) ?_
  exact trivial
set_option maxRecDepth 20000 in
theorem zk86_0 (l : Launch) (scr B : Nat) (D : va_G) : z_All l scr B D 86 0 z_c86_0 := by
  refine z_All.c (j := 1) rfl (ok_aload_n (n := 0) (by decide +kernel) rfl) ?_
  refine z_All.c (j := 2) rfl (ok_iconst (n := 0) (by decide +kernel) (by decide +kernel)) ?_
  refine z_All.c (j := 3) rfl (ok_put (idx := 126) (by decide +kernel) rfl (by decide) z_i10 z_t10 z_n10 zw558 rfl (by decide +kernel)) ?_
  refine z_All.c (j := 4) rfl ok_bad ?_
  refine z_All.c (j := 5) rfl ok_bad ?_
  refine z_All.c (j := 6) rfl (ok_aload_n (n := 0) (by decide +kernel) rfl) ?_
  refine z_All.c (j := 7) rfl (ok_iconst (n := 0) (by decide +kernel) (by decide +kernel)) ?_
  refine z_All.c (j := 8) rfl (ok_put (idx := 129) (by decide +kernel) rfl (by decide) z_i10 z_t10 z_n10 zw559 rfl (by decide +kernel)) ?_
  refine z_All.c (j := 9) rfl ok_bad ?_
  refine z_All.c (j := 10) rfl ok_bad ?_
  refine z_All.c (j := 11) rfl (ok_aload_n (n := 0) (by decide +kernel) rfl) ?_
  refine z_All.c (j := 12) rfl (ok_iconst (n := 0) (by decide +kernel) (by decide +kernel)) ?_
  refine z_All.c (j := 13) rfl (ok_put (idx := 122) (by decide +kernel) rfl (by decide) z_i10 z_t10 z_n10 zw560 rfl (by decide +kernel)) ?_
  refine z_All.c (j := 14) rfl ok_bad ?_
  refine z_All.c (j := 15) rfl ok_bad ?_
  refine z_All.c (j := 16) rfl (ok_iconst (n := 0) (by decide +kernel) (by decide +kernel)) ?_
  refine z_All.c (j := 17) rfl (ok_istore_n (n := 3) (by decide +kernel) rfl (fun _ => rfl)) ?_
  refine z_All.c (j := 18) rfl (ok_iconst (n := -1) (by decide +kernel) (by decide +kernel)) ?_
  refine z_All.c (j := 19) rfl (ok_istore (by decide +kernel) (fun _ => rfl)) ?_
  refine z_All.c (j := 20) rfl ok_bad ?_
  refine z_All.c (j := 21) rfl (ok_aload_n (n := 0) (by decide +kernel) rfl) ?_
  refine z_All.c (j := 22) rfl (ok_iconst (n := 0) (by decide +kernel) (by decide +kernel)) ?_
  refine z_All.c (j := 23) rfl (ok_iload_n (n := 2) (by decide +kernel) rfl) ?_
  refine z_All.c (j := 24) rfl (ok_iconst (n := 0) (by decide +kernel) (by decide +kernel)) ?_
  refine z_All.c (j := 25) rfl (ok_cv (idx := 150) (by decide +kernel) rfl zm84 zw713 zw715 (z_inP (List.mem_of_getElem? (i := 24) rfl) rfl)) ?_
  refine z_All.c (j := 26) rfl ok_bad ?_
  refine z_All.c (j := 27) rfl ok_bad ?_
  refine z_All.c (j := 28) rfl (ok_iconst (n := 0) (by decide +kernel) (by decide +kernel)) ?_
  refine z_All.c (j := 29) rfl (ok_istore (by decide +kernel) (fun _ => rfl)) ?_
  refine z_All.c (j := 30) rfl ok_bad ?_
  refine z_All.c (j := 31) rfl (ok_iload (by decide +kernel)) ?_
  refine z_All.c (j := 32) rfl ok_bad ?_
  refine z_All.c (j := 33) rfl (ok_sipush (n := 1000) (by decide +kernel) (by decide +kernel)) ?_
  refine z_All.c (j := 34) rfl ok_bad ?_
  refine z_All.c (j := 35) rfl ok_bad ?_
  refine z_All.c (j := 36) rfl (ok_ic_ge (off := 152) (by decide +kernel) (by decide +kernel)) ?_
  refine z_All.c (j := 37) rfl ok_bad ?_
  refine z_All.c (j := 38) rfl ok_bad ?_
  refine z_All.c (j := 39) rfl (ok_iload_n (n := 3) (by decide +kernel) rfl) ?_
  refine z_All.c (j := 40) rfl (ok_if_lt (off := 148) (by decide +kernel) (by decide +kernel)) ?_
  refine z_All.c (j := 41) rfl ok_bad ?_
  refine z_All.c (j := 42) rfl ok_bad ?_
  refine z_All.c (j := 43) rfl (ok_aload_n (n := 0) (by decide +kernel) rfl) ?_
  refine z_All.c (j := 44) rfl (ok_get (idx := 122) (by decide +kernel) rfl (by decide) z_i10 zw560) ?_
  refine z_All.c (j := 45) rfl ok_bad ?_
  refine z_All.c (j := 46) rfl ok_bad ?_
  refine z_All.c (j := 47) rfl (ok_if_ne (off := 141) (by decide +kernel) (by decide +kernel)) ?_
  refine z_All.c (j := 48) rfl ok_bad ?_
  refine z_All.c (j := 49) rfl ok_bad ?_
  refine z_All.c (j := 50) rfl (ok_aload_n (n := 0) (by decide +kernel) rfl) ?_
  refine z_All.c (j := 51) rfl (ok_iload_n (n := 1) (by decide +kernel) rfl) ?_
  refine z_All.c (j := 52) rfl (ok_iload_n (n := 3) (by decide +kernel) rfl) ?_
  refine z_All.c (j := 53) rfl (ok_cv (idx := 154) (by decide +kernel) rfl zm85 zw717 zw719 (z_inP (List.mem_of_getElem? (i := 25) rfl) rfl)) ?_
  refine z_All.c (j := 54) rfl ok_bad ?_
  refine z_All.c (j := 55) rfl ok_bad ?_
  refine z_All.c (j := 56) rfl (ok_istore (by decide +kernel) (fun _ => rfl)) ?_
  refine z_All.c (j := 57) rfl ok_bad ?_
  refine z_All.c (j := 58) rfl (ok_iload (by decide +kernel)) ?_
  refine z_All.c (j := 59) rfl ok_bad ?_
  refine z_All.c (j := 60) rfl (ok_bipush (n := -2) (by decide +kernel) (by decide +kernel)) ?_
  refine z_All.c (j := 61) rfl ok_bad ?_
  refine z_All.c (j := 62) rfl (ok_ic_ne (off := 39) (by decide +kernel) (by decide +kernel)) ?_
  refine z_All.c (j := 63) rfl ok_bad ?_
  refine z_All.c (j := 64) rfl ok_bad ?_
  exact trivial
set_option maxRecDepth 20000 in
theorem zk86_1 (l : Launch) (scr B : Nat) (D : va_G) : z_All l scr B D 86 64 z_c86_1 := by
  refine z_All.c (j := 65) rfl (ok_bipush (n := 8) (by decide +kernel) (by decide +kernel)) ?_
  refine z_All.c (j := 66) rfl ok_bad ?_
  refine z_All.c (j := 67) rfl (ok_aload_n (n := 0) (by decide +kernel) rfl) ?_
  refine z_All.c (j := 68) rfl (ok_get (idx := 62) (by decide +kernel) rfl (by decide) z_i10 zw561) ?_
  refine z_All.c (j := 69) rfl ok_bad ?_
  refine z_All.c (j := 70) rfl ok_bad ?_
  refine z_All.c (j := 71) rfl (ok_iload_n (n := 3) (by decide +kernel) rfl) ?_
  refine z_All.c (j := 72) rfl (ok_iald (by decide +kernel)) ?_
  refine z_All.c (j := 73) rfl (ok_imul (by decide +kernel)) ?_
  refine z_All.c (j := 74) rfl (ok_aload_n (n := 0) (by decide +kernel) rfl) ?_
  refine z_All.c (j := 75) rfl (ok_get (idx := 65) (by decide +kernel) rfl (by decide) z_i10 zw562) ?_
  refine z_All.c (j := 76) rfl ok_bad ?_
  refine z_All.c (j := 77) rfl ok_bad ?_
  refine z_All.c (j := 78) rfl (ok_iload_n (n := 3) (by decide +kernel) rfl) ?_
  refine z_All.c (j := 79) rfl (ok_iald (by decide +kernel)) ?_
  refine z_All.c (j := 80) rfl (ok_iadd (by decide +kernel)) ?_
  refine z_All.c (j := 81) rfl (ok_iconst (n := 1) (by decide +kernel) (by decide +kernel)) ?_
  refine z_All.c (j := 82) rfl (ok_isub (by decide +kernel)) ?_
  refine z_All.c (j := 83) rfl (ok_istore (by decide +kernel) (fun _ => rfl)) ?_
  refine z_All.c (j := 84) rfl ok_bad ?_
  refine z_All.c (j := 85) rfl (ok_iinc (n := 1) (by decide +kernel) (by decide +kernel)) ?_
  refine z_All.c (j := 86) rfl ok_bad ?_
  refine z_All.c (j := 87) rfl ok_bad ?_
  refine z_All.c (j := 88) rfl (ok_aload_n (n := 0) (by decide +kernel) rfl) ?_
  refine z_All.c (j := 89) rfl (ok_iload_n (n := 3) (by decide +kernel) rfl) ?_
  refine z_All.c (j := 90) rfl (ok_aload_n (n := 0) (by decide +kernel) rfl) ?_
  refine z_All.c (j := 91) rfl (ok_get (idx := 56) (by decide +kernel) rfl (by decide) z_i10 zw556) ?_
  refine z_All.c (j := 92) rfl ok_bad ?_
  refine z_All.c (j := 93) rfl ok_bad ?_
  refine z_All.c (j := 94) rfl (ok_iload (by decide +kernel)) ?_
  refine z_All.c (j := 95) rfl ok_bad ?_
  refine z_All.c (j := 96) rfl (ok_iald (by decide +kernel)) ?_
  refine z_All.c (j := 97) rfl (ok_iconst (n := 0) (by decide +kernel) (by decide +kernel)) ?_
  refine z_All.c (j := 98) rfl (ok_cv (idx := 150) (by decide +kernel) rfl zm84 zw713 zw715 (z_inP (List.mem_of_getElem? (i := 24) rfl) rfl)) ?_
  refine z_All.c (j := 99) rfl ok_bad ?_
  refine z_All.c (j := 100) rfl ok_bad ?_
  refine z_All.c (j := 101) rfl (ok_iload (by decide +kernel)) ?_
  refine z_All.c (j := 102) rfl ok_bad ?_
  refine z_All.c (j := 103) rfl (ok_if_lt (off := 79) (by decide +kernel) (by decide +kernel)) ?_
  refine z_All.c (j := 104) rfl ok_bad ?_
  refine z_All.c (j := 105) rfl ok_bad ?_
  refine z_All.c (j := 106) rfl (ok_iload_n (n := 3) (by decide +kernel) rfl) ?_
  refine z_All.c (j := 107) rfl (ok_if_lt (off := 75) (by decide +kernel) (by decide +kernel)) ?_
  refine z_All.c (j := 108) rfl ok_bad ?_
  refine z_All.c (j := 109) rfl ok_bad ?_
  refine z_All.c (j := 110) rfl (ok_aload_n (n := 0) (by decide +kernel) rfl) ?_
  refine z_All.c (j := 111) rfl (ok_get (idx := 122) (by decide +kernel) rfl (by decide) z_i10 zw560) ?_
  refine z_All.c (j := 112) rfl ok_bad ?_
  refine z_All.c (j := 113) rfl ok_bad ?_
  refine z_All.c (j := 114) rfl (ok_if_ne (off := 68) (by decide +kernel) (by decide +kernel)) ?_
  refine z_All.c (j := 115) rfl ok_bad ?_
  refine z_All.c (j := 116) rfl ok_bad ?_
  refine z_All.c (j := 117) rfl (ok_iinc (n := -1) (by decide +kernel) (by decide +kernel)) ?_
  refine z_All.c (j := 118) rfl ok_bad ?_
  refine z_All.c (j := 119) rfl ok_bad ?_
  refine z_All.c (j := 120) rfl (ok_iload_n (n := 3) (by decide +kernel) rfl) ?_
  refine z_All.c (j := 121) rfl (ok_if_ge (off := 10) (by decide +kernel) (by decide +kernel)) ?_
  refine z_All.c (j := 122) rfl ok_bad ?_
  refine z_All.c (j := 123) rfl ok_bad ?_
  refine z_All.c (j := 124) rfl (ok_iload (by decide +kernel)) ?_
  refine z_All.c (j := 125) rfl ok_bad ?_
  refine z_All.c (j := 126) rfl (ok_istore (by decide +kernel) (fun _ => rfl)) ?_
  refine z_All.c (j := 127) rfl ok_bad ?_
  refine z_All.c (j := 128) rfl (ok_goto (off := -27) (by decide +kernel) (by decide +kernel)) ?_
  exact trivial
set_option maxRecDepth 20000 in
theorem zk86_2 (l : Launch) (scr B : Nat) (D : va_G) : z_All l scr B D 86 128 z_c86_2 := by
  refine z_All.c (j := 129) rfl ok_bad ?_
  refine z_All.c (j := 130) rfl ok_bad ?_
  refine z_All.c (j := 131) rfl (ok_iload (by decide +kernel)) ?_
  refine z_All.c (j := 132) rfl ok_bad ?_
  refine z_All.c (j := 133) rfl (ok_if_ne (off := 11) (by decide +kernel) (by decide +kernel)) ?_
  refine z_All.c (j := 134) rfl ok_bad ?_
  refine z_All.c (j := 135) rfl ok_bad ?_
  refine z_All.c (j := 136) rfl (ok_aload_n (n := 0) (by decide +kernel) rfl) ?_
  refine z_All.c (j := 137) rfl (ok_iconst (n := 1) (by decide +kernel) (by decide +kernel)) ?_
  refine z_All.c (j := 138) rfl (ok_put (idx := 122) (by decide +kernel) rfl (by decide) z_i10 z_t10 z_n10 zw560 rfl (by decide +kernel)) ?_
  refine z_All.c (j := 139) rfl ok_bad ?_
  refine z_All.c (j := 140) rfl ok_bad ?_
  refine z_All.c (j := 141) rfl (ok_goto (off := -40) (by decide +kernel) (by decide +kernel)) ?_
  refine z_All.c (j := 142) rfl ok_bad ?_
  refine z_All.c (j := 143) rfl ok_bad ?_
  refine z_All.c (j := 144) rfl (ok_iload (by decide +kernel)) ?_
  refine z_All.c (j := 145) rfl ok_bad ?_
  refine z_All.c (j := 146) rfl (ok_iconst (n := 2) (by decide +kernel) (by decide +kernel)) ?_
  refine z_All.c (j := 147) rfl (ok_ic_ne (off := 29) (by decide +kernel) (by decide +kernel)) ?_
  refine z_All.c (j := 148) rfl ok_bad ?_
  refine z_All.c (j := 149) rfl ok_bad ?_
  refine z_All.c (j := 150) rfl (ok_aload_n (n := 0) (by decide +kernel) rfl) ?_
  refine z_All.c (j := 151) rfl (ok_get (idx := 50) (by decide +kernel) rfl (by decide) z_i10 zw554) ?_
  refine z_All.c (j := 152) rfl ok_bad ?_
  refine z_All.c (j := 153) rfl ok_bad ?_
  refine z_All.c (j := 154) rfl (ok_bipush (n := 8) (by decide +kernel) (by decide +kernel)) ?_
  refine z_All.c (j := 155) rfl ok_bad ?_
  refine z_All.c (j := 156) rfl (ok_aload_n (n := 0) (by decide +kernel) rfl) ?_
  refine z_All.c (j := 157) rfl (ok_get (idx := 62) (by decide +kernel) rfl (by decide) z_i10 zw561) ?_
  refine z_All.c (j := 158) rfl ok_bad ?_
  refine z_All.c (j := 159) rfl ok_bad ?_
  refine z_All.c (j := 160) rfl (ok_iload_n (n := 3) (by decide +kernel) rfl) ?_
  refine z_All.c (j := 161) rfl (ok_iald (by decide +kernel)) ?_
  refine z_All.c (j := 162) rfl (ok_imul (by decide +kernel)) ?_
  refine z_All.c (j := 163) rfl (ok_aload_n (n := 0) (by decide +kernel) rfl) ?_
  refine z_All.c (j := 164) rfl (ok_get (idx := 65) (by decide +kernel) rfl (by decide) z_i10 zw562) ?_
  refine z_All.c (j := 165) rfl ok_bad ?_
  refine z_All.c (j := 166) rfl ok_bad ?_
  refine z_All.c (j := 167) rfl (ok_iload_n (n := 3) (by decide +kernel) rfl) ?_
  refine z_All.c (j := 168) rfl (ok_iald (by decide +kernel)) ?_
  refine z_All.c (j := 169) rfl (ok_iadd (by decide +kernel)) ?_
  refine z_All.c (j := 170) rfl (ok_iconst (n := 1) (by decide +kernel) (by decide +kernel)) ?_
  refine z_All.c (j := 171) rfl (ok_isub (by decide +kernel)) ?_
  refine z_All.c (j := 172) rfl (ok_iald (by decide +kernel)) ?_
  refine z_All.c (j := 173) rfl (ok_goto (off := 4) (by decide +kernel) (by decide +kernel)) ?_
  refine z_All.c (j := 174) rfl ok_bad ?_
  refine z_All.c (j := 175) rfl ok_bad ?_
  refine z_All.c (j := 176) rfl (ok_iconst (n := -1) (by decide +kernel) (by decide +kernel)) ?_
  refine z_All.c (j := 177) rfl (ok_istore (by decide +kernel) (fun _ => rfl)) ?_
  refine z_All.c (j := 178) rfl ok_bad ?_
  refine z_All.c (j := 179) rfl (ok_goto (off := -78) (by decide +kernel) (by decide +kernel)) ?_
  refine z_All.c (j := 180) rfl ok_bad ?_
  refine z_All.c (j := 181) rfl ok_bad ?_
  refine z_All.c (j := 182) rfl (ok_iinc (n := 1) (by decide +kernel) (by decide +kernel)) ?_
  refine z_All.c (j := 183) rfl ok_bad ?_
  refine z_All.c (j := 184) rfl ok_bad ?_
  refine z_All.c (j := 185) rfl (ok_goto (off := -154) (by decide +kernel) (by decide +kernel)) ?_
  refine z_All.c (j := 186) rfl ok_bad ?_
  refine z_All.c (j := 187) rfl ok_bad ?_
  refine z_All.c (j := 188) rfl (ok_aload_n (n := 0) (by decide +kernel) rfl) ?_
  refine z_All.c (j := 189) rfl (ok_get (idx := 122) (by decide +kernel) rfl (by decide) z_i10 zw560) ?_
  refine z_All.c (j := 190) rfl ok_bad ?_
  refine z_All.c (j := 191) rfl ok_bad ?_
  refine z_All.c (j := 192) rfl (ok_if_eq (off := 7) (by decide +kernel) (by decide +kernel)) ?_
  exact trivial
set_option maxRecDepth 20000 in
theorem zk86_3 (l : Launch) (scr B : Nat) (D : va_G) : z_All l scr B D 86 192 z_c86_3 := by
  refine z_All.c (j := 193) rfl ok_bad ?_
  refine z_All.c (j := 194) rfl ok_bad ?_
  refine z_All.c (j := 195) rfl (ok_iconst (n := 5) (by decide +kernel) (by decide +kernel)) ?_
  refine z_All.c (j := 196) rfl (ok_goto (off := 5) (by decide +kernel) (by decide +kernel)) ?_
  refine z_All.c (j := 197) rfl ok_bad ?_
  refine z_All.c (j := 198) rfl ok_bad ?_
  refine z_All.c (j := 199) rfl (ok_iload (by decide +kernel)) ?_
  refine z_All.c (j := 200) rfl ok_bad ?_
  refine z_All.c (j := 201) rfl (ok_iret (by decide +kernel) rfl) ?_
  exact trivial
set_option maxRecDepth 20000 in
theorem zk87_0 (l : Launch) (scr B : Nat) (D : va_G) : z_All l scr B D 87 0 z_c87_0 := by
  refine z_All.c (j := 1) rfl (ok_aload_n (n := 0) (by decide +kernel) rfl) ?_
  refine z_All.c (j := 2) rfl (ok_iload_n (n := 2) (by decide +kernel) rfl) ?_
  refine z_All.c (j := 3) rfl (ok_cv (idx := 114) (by decide +kernel) rfl zm71 zw677 zw679 (z_inP (List.mem_of_getElem? (i := 21) rfl) rfl)) ?_
  refine z_All.c (j := 4) rfl ok_bad ?_
  refine z_All.c (j := 5) rfl ok_bad ?_
  refine z_All.c (j := 6) rfl (ok_if_eq (off := 7) (by decide +kernel) (by decide +kernel)) ?_
  refine z_All.c (j := 7) rfl ok_bad ?_
  refine z_All.c (j := 8) rfl ok_bad ?_
  refine z_All.c (j := 9) rfl (ok_iconst (n := -1) (by decide +kernel) (by decide +kernel)) ?_
  refine z_All.c (j := 10) rfl (ok_goto (off := 9) (by decide +kernel) (by decide +kernel)) ?_
  refine z_All.c (j := 11) rfl ok_bad ?_
  refine z_All.c (j := 12) rfl ok_bad ?_
  refine z_All.c (j := 13) rfl (ok_aload_n (n := 0) (by decide +kernel) rfl) ?_
  refine z_All.c (j := 14) rfl (ok_iload_n (n := 1) (by decide +kernel) rfl) ?_
  refine z_All.c (j := 15) rfl (ok_iload_n (n := 2) (by decide +kernel) rfl) ?_
  refine z_All.c (j := 16) rfl (ok_cv (idx := 158) (by decide +kernel) rfl zm86 zw709 zw711 (z_inP (List.mem_of_getElem? (i := 23) rfl) rfl)) ?_
  refine z_All.c (j := 17) rfl ok_bad ?_
  refine z_All.c (j := 18) rfl ok_bad ?_
  refine z_All.c (j := 19) rfl (ok_iret (by decide +kernel) rfl) ?_
  exact trivial
set_option maxRecDepth 20000 in
theorem zk88_0 (l : Launch) (scr B : Nat) (D : va_G) : z_All l scr B D 88 0 z_c88_0 := by
  refine z_All.c (j := 1) rfl (ok_aload_n (n := 0) (by decide +kernel) rfl) ?_
  refine z_All.c (j := 2) rfl (ok_get (idx := 126) (by decide +kernel) rfl (by decide) z_i10 zw558) ?_
  refine z_All.c (j := 3) rfl ok_bad ?_
  refine z_All.c (j := 4) rfl ok_bad ?_
  refine z_All.c (j := 5) rfl (ok_iret (by decide +kernel) rfl) ?_
  exact trivial
set_option maxRecDepth 20000 in
theorem zk89_0 (l : Launch) (scr B : Nat) (D : va_G) : z_All l scr B D 89 0 z_c89_0 := by
  refine z_All.c (j := 1) rfl (ok_aload_n (n := 0) (by decide +kernel) rfl) ?_
  refine z_All.c (j := 2) rfl (ok_get (idx := 129) (by decide +kernel) rfl (by decide) z_i10 zw559) ?_
  refine z_All.c (j := 3) rfl ok_bad ?_
  refine z_All.c (j := 4) rfl ok_bad ?_
  refine z_All.c (j := 5) rfl (ok_iret (by decide +kernel) rfl) ?_
  exact trivial
set_option maxRecDepth 20000 in
theorem zk90_0 (l : Launch) (scr B : Nat) (D : va_G) : z_All l scr B D 90 0 z_c90_0 := by
  refine z_All.c (j := 1) rfl (ok_aload_n (n := 0) (by decide +kernel) rfl) ?_
  refine z_All.c (j := 2) rfl (ok_get (idx := 161) (by decide +kernel) rfl (by decide) z_i10 zw564) ?_
  refine z_All.c (j := 3) rfl ok_bad ?_
  refine z_All.c (j := 4) rfl ok_bad ?_
  refine z_All.c (j := 5) rfl (ok_sipush (n := 240) (by decide +kernel) (by decide +kernel)) ?_
  refine z_All.c (j := 6) rfl ok_bad ?_
  refine z_All.c (j := 7) rfl ok_bad ?_
  refine z_All.c (j := 8) rfl (ok_ic_eq (off := 21) (by decide +kernel) (by decide +kernel)) ?_
  refine z_All.c (j := 9) rfl ok_bad ?_
  refine z_All.c (j := 10) rfl ok_bad ?_
  refine z_All.c (j := 11) rfl (ok_iload_n (n := 1) (by decide +kernel) rfl) ?_
  refine z_All.c (j := 12) rfl (ok_bipush (n := 10) (by decide +kernel) (by decide +kernel)) ?_
  refine z_All.c (j := 13) rfl ok_bad ?_
  refine z_All.c (j := 14) rfl (ok_ic_eq (off := 17) (by decide +kernel) (by decide +kernel)) ?_
  refine z_All.c (j := 15) rfl ok_bad ?_
  refine z_All.c (j := 16) rfl ok_bad ?_
  refine z_All.c (j := 17) rfl (ok_iload_n (n := 1) (by decide +kernel) rfl) ?_
  refine z_All.c (j := 18) rfl (ok_bipush (n := 32) (by decide +kernel) (by decide +kernel)) ?_
  refine z_All.c (j := 19) rfl ok_bad ?_
  refine z_All.c (j := 20) rfl (ok_ic_lt (off := 9) (by decide +kernel) (by decide +kernel)) ?_
  refine z_All.c (j := 21) rfl ok_bad ?_
  refine z_All.c (j := 22) rfl ok_bad ?_
  refine z_All.c (j := 23) rfl (ok_iload_n (n := 1) (by decide +kernel) rfl) ?_
  refine z_All.c (j := 24) rfl (ok_bipush (n := 126) (by decide +kernel) (by decide +kernel)) ?_
  refine z_All.c (j := 25) rfl ok_bad ?_
  refine z_All.c (j := 26) rfl (ok_ic_le (off := 5) (by decide +kernel) (by decide +kernel)) ?_
  refine z_All.c (j := 27) rfl ok_bad ?_
  refine z_All.c (j := 28) rfl ok_bad ?_
  refine z_All.c (j := 29) rfl (ok_iconst (n := 0) (by decide +kernel) (by decide +kernel)) ?_
  refine z_All.c (j := 30) rfl (ok_iret (by decide +kernel) rfl) ?_
  refine z_All.c (j := 31) rfl (ok_aload_n (n := 0) (by decide +kernel) rfl) ?_
  refine z_All.c (j := 32) rfl (ok_get (idx := 71) (by decide +kernel) rfl (by decide) z_i10 zw565) ?_
  refine z_All.c (j := 33) rfl ok_bad ?_
  refine z_All.c (j := 34) rfl ok_bad ?_
  refine z_All.c (j := 35) rfl (ok_aload_n (n := 0) (by decide +kernel) rfl) ?_
  refine z_All.c (j := 36) rfl (ok_get (idx := 161) (by decide +kernel) rfl (by decide) z_i10 zw564) ?_
  refine z_All.c (j := 37) rfl ok_bad ?_
  refine z_All.c (j := 38) rfl ok_bad ?_
  refine z_All.c (j := 39) rfl (ok_iload_n (n := 1) (by decide +kernel) rfl) ?_
  refine z_All.c (j := 40) rfl (ok_iast (by decide +kernel)) ?_
  refine z_All.c (j := 41) rfl (ok_aload_n (n := 0) (by decide +kernel) rfl) ?_
  refine z_All.c (j := 42) rfl (ok_dup (by decide +kernel)) ?_
  refine z_All.c (j := 43) rfl (ok_get (idx := 161) (by decide +kernel) rfl (by decide) z_i10 zw564) ?_
  refine z_All.c (j := 44) rfl ok_bad ?_
  refine z_All.c (j := 45) rfl ok_bad ?_
  refine z_All.c (j := 46) rfl (ok_iconst (n := 1) (by decide +kernel) (by decide +kernel)) ?_
  refine z_All.c (j := 47) rfl (ok_iadd (by decide +kernel)) ?_
  refine z_All.c (j := 48) rfl (ok_put (idx := 161) (by decide +kernel) rfl (by decide) z_i10 z_t10 z_n10 zw564 rfl (by decide +kernel)) ?_
  refine z_All.c (j := 49) rfl ok_bad ?_
  refine z_All.c (j := 50) rfl ok_bad ?_
  refine z_All.c (j := 51) rfl (ok_iconst (n := 1) (by decide +kernel) (by decide +kernel)) ?_
  refine z_All.c (j := 52) rfl (ok_iret (by decide +kernel) rfl) ?_
  exact trivial
set_option maxRecDepth 20000 in
theorem zk91_0 (l : Launch) (scr B : Nat) (D : va_G) : z_All l scr B D 91 0 z_c91_0 := by
  refine z_All.c (j := 1) rfl (ok_iload_n (n := 1) (by decide +kernel) rfl) ?_
  refine z_All.c (j := 2) rfl (ok_bipush (n := 65) (by decide +kernel) (by decide +kernel)) ?_
  refine z_All.c (j := 3) rfl ok_bad ?_
  refine z_All.c (j := 4) rfl (ok_ic_lt (off := 9) (by decide +kernel) (by decide +kernel)) ?_
  refine z_All.c (j := 5) rfl ok_bad ?_
  refine z_All.c (j := 6) rfl ok_bad ?_
  refine z_All.c (j := 7) rfl (ok_iload_n (n := 1) (by decide +kernel) rfl) ?_
  refine z_All.c (j := 8) rfl (ok_bipush (n := 90) (by decide +kernel) (by decide +kernel)) ?_
  refine z_All.c (j := 9) rfl ok_bad ?_
  refine z_All.c (j := 10) rfl (ok_ic_le (off := 33) (by decide +kernel) (by decide +kernel)) ?_
  refine z_All.c (j := 11) rfl ok_bad ?_
  refine z_All.c (j := 12) rfl ok_bad ?_
  refine z_All.c (j := 13) rfl (ok_iload_n (n := 1) (by decide +kernel) rfl) ?_
  refine z_All.c (j := 14) rfl (ok_bipush (n := 97) (by decide +kernel) (by decide +kernel)) ?_
  refine z_All.c (j := 15) rfl ok_bad ?_
  refine z_All.c (j := 16) rfl (ok_ic_lt (off := 9) (by decide +kernel) (by decide +kernel)) ?_
  refine z_All.c (j := 17) rfl ok_bad ?_
  refine z_All.c (j := 18) rfl ok_bad ?_
  refine z_All.c (j := 19) rfl (ok_iload_n (n := 1) (by decide +kernel) rfl) ?_
  refine z_All.c (j := 20) rfl (ok_bipush (n := 122) (by decide +kernel) (by decide +kernel)) ?_
  refine z_All.c (j := 21) rfl ok_bad ?_
  refine z_All.c (j := 22) rfl (ok_ic_le (off := 21) (by decide +kernel) (by decide +kernel)) ?_
  refine z_All.c (j := 23) rfl ok_bad ?_
  refine z_All.c (j := 24) rfl ok_bad ?_
  refine z_All.c (j := 25) rfl (ok_iload_n (n := 1) (by decide +kernel) rfl) ?_
  refine z_All.c (j := 26) rfl (ok_bipush (n := 48) (by decide +kernel) (by decide +kernel)) ?_
  refine z_All.c (j := 27) rfl ok_bad ?_
  refine z_All.c (j := 28) rfl (ok_ic_lt (off := 9) (by decide +kernel) (by decide +kernel)) ?_
  refine z_All.c (j := 29) rfl ok_bad ?_
  refine z_All.c (j := 30) rfl ok_bad ?_
  refine z_All.c (j := 31) rfl (ok_iload_n (n := 1) (by decide +kernel) rfl) ?_
  refine z_All.c (j := 32) rfl (ok_bipush (n := 57) (by decide +kernel) (by decide +kernel)) ?_
  refine z_All.c (j := 33) rfl ok_bad ?_
  refine z_All.c (j := 34) rfl (ok_ic_le (off := 9) (by decide +kernel) (by decide +kernel)) ?_
  refine z_All.c (j := 35) rfl ok_bad ?_
  refine z_All.c (j := 36) rfl ok_bad ?_
  refine z_All.c (j := 37) rfl (ok_iload_n (n := 1) (by decide +kernel) rfl) ?_
  refine z_All.c (j := 38) rfl (ok_bipush (n := 45) (by decide +kernel) (by decide +kernel)) ?_
  refine z_All.c (j := 39) rfl ok_bad ?_
  refine z_All.c (j := 40) rfl (ok_ic_ne (off := 7) (by decide +kernel) (by decide +kernel)) ?_
  refine z_All.c (j := 41) rfl ok_bad ?_
  refine z_All.c (j := 42) rfl ok_bad ?_
  refine z_All.c (j := 43) rfl (ok_iconst (n := 1) (by decide +kernel) (by decide +kernel)) ?_
  refine z_All.c (j := 44) rfl (ok_goto (off := 4) (by decide +kernel) (by decide +kernel)) ?_
  refine z_All.c (j := 45) rfl ok_bad ?_
  refine z_All.c (j := 46) rfl ok_bad ?_
  refine z_All.c (j := 47) rfl (ok_iconst (n := 0) (by decide +kernel) (by decide +kernel)) ?_
  refine z_All.c (j := 48) rfl (ok_iret (by decide +kernel) rfl) ?_
  exact trivial
set_option maxRecDepth 20000 in
theorem zk92_0 (l : Launch) (scr B : Nat) (D : va_G) : z_All l scr B D 92 0 z_c92_0 := by
  refine z_All.c (j := 1) rfl (ok_aload_n (n := 0) (by decide +kernel) rfl) ?_
  refine z_All.c (j := 2) rfl (ok_get (idx := 164) (by decide +kernel) rfl (by decide) z_i10 zw566) ?_
  refine z_All.c (j := 3) rfl ok_bad ?_
  refine z_All.c (j := 4) rfl ok_bad ?_
  refine z_All.c (j := 5) rfl (ok_bipush (n := 60) (by decide +kernel) (by decide +kernel)) ?_
  refine z_All.c (j := 6) rfl ok_bad ?_
  refine z_All.c (j := 7) rfl (ok_ic_eq (off := 17) (by decide +kernel) (by decide +kernel)) ?_
  refine z_All.c (j := 8) rfl ok_bad ?_
  refine z_All.c (j := 9) rfl ok_bad ?_
  refine z_All.c (j := 10) rfl (ok_aload_n (n := 0) (by decide +kernel) rfl) ?_
  refine z_All.c (j := 11) rfl (ok_iload_n (n := 1) (by decide +kernel) rfl) ?_
  refine z_All.c (j := 12) rfl (ok_cv (idx := 167) (by decide +kernel) rfl zm91 zw757 zw759 (z_inP (List.mem_of_getElem? (i := 31) rfl) rfl)) ?_
  refine z_All.c (j := 13) rfl ok_bad ?_
  refine z_All.c (j := 14) rfl ok_bad ?_
  refine z_All.c (j := 15) rfl (ok_if_ne (off := 11) (by decide +kernel) (by decide +kernel)) ?_
  refine z_All.c (j := 16) rfl ok_bad ?_
  refine z_All.c (j := 17) rfl ok_bad ?_
  refine z_All.c (j := 18) rfl (ok_iload_n (n := 1) (by decide +kernel) rfl) ?_
  refine z_All.c (j := 19) rfl (ok_bipush (n := 58) (by decide +kernel) (by decide +kernel)) ?_
  refine z_All.c (j := 20) rfl ok_bad ?_
  refine z_All.c (j := 21) rfl (ok_ic_eq (off := 5) (by decide +kernel) (by decide +kernel)) ?_
  refine z_All.c (j := 22) rfl ok_bad ?_
  refine z_All.c (j := 23) rfl ok_bad ?_
  refine z_All.c (j := 24) rfl (ok_iconst (n := 0) (by decide +kernel) (by decide +kernel)) ?_
  refine z_All.c (j := 25) rfl (ok_iret (by decide +kernel) rfl) ?_
  refine z_All.c (j := 26) rfl (ok_aload_n (n := 0) (by decide +kernel) rfl) ?_
  refine z_All.c (j := 27) rfl (ok_get (idx := 74) (by decide +kernel) rfl (by decide) z_i10 zw567) ?_
  refine z_All.c (j := 28) rfl ok_bad ?_
  refine z_All.c (j := 29) rfl ok_bad ?_
  refine z_All.c (j := 30) rfl (ok_aload_n (n := 0) (by decide +kernel) rfl) ?_
  refine z_All.c (j := 31) rfl (ok_get (idx := 164) (by decide +kernel) rfl (by decide) z_i10 zw566) ?_
  refine z_All.c (j := 32) rfl ok_bad ?_
  refine z_All.c (j := 33) rfl ok_bad ?_
  refine z_All.c (j := 34) rfl (ok_iload_n (n := 1) (by decide +kernel) rfl) ?_
  refine z_All.c (j := 35) rfl (ok_iast (by decide +kernel)) ?_
  refine z_All.c (j := 36) rfl (ok_aload_n (n := 0) (by decide +kernel) rfl) ?_
  refine z_All.c (j := 37) rfl (ok_dup (by decide +kernel)) ?_
  refine z_All.c (j := 38) rfl (ok_get (idx := 164) (by decide +kernel) rfl (by decide) z_i10 zw566) ?_
  refine z_All.c (j := 39) rfl ok_bad ?_
  refine z_All.c (j := 40) rfl ok_bad ?_
  refine z_All.c (j := 41) rfl (ok_iconst (n := 1) (by decide +kernel) (by decide +kernel)) ?_
  refine z_All.c (j := 42) rfl (ok_iadd (by decide +kernel)) ?_
  refine z_All.c (j := 43) rfl (ok_put (idx := 164) (by decide +kernel) rfl (by decide) z_i10 z_t10 z_n10 zw566 rfl (by decide +kernel)) ?_
  refine z_All.c (j := 44) rfl ok_bad ?_
  refine z_All.c (j := 45) rfl ok_bad ?_
  refine z_All.c (j := 46) rfl (ok_iconst (n := 1) (by decide +kernel) (by decide +kernel)) ?_
  refine z_All.c (j := 47) rfl (ok_iret (by decide +kernel) rfl) ?_
  exact trivial
