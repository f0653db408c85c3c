/-! ===== made by wip/prog/gen8.py: each operation is sound ===== -/
set_option maxRecDepth 20000 in
theorem zk93_0 (l : Launch) (scr B : Nat) (D : va_G) : z_All l scr B D 93 0 z_c93_0 := by
  refine z_All.c (j := 1) rfl (ok_aload_n (n := 0) (by decide +kernel) rfl) ?_
  refine z_All.c (j := 2) rfl (ok_iconst (n := 0) (by decide +kernel) (by decide +kernel)) ?_
  refine z_All.c (j := 3) rfl (ok_put (idx := 161) (by decide +kernel) rfl (by decide) z_i10 z_t10 z_n10 zw564 rfl (by decide +kernel)) ?_
  refine z_All.c (j := 4) rfl ok_bad ?_
  refine z_All.c (j := 5) rfl ok_bad ?_
  refine z_All.c (j := 6) rfl (ok_aload_n (n := 0) (by decide +kernel) rfl) ?_
  refine z_All.c (j := 7) rfl (ok_iconst (n := 0) (by decide +kernel) (by decide +kernel)) ?_
  refine z_All.c (j := 8) rfl (ok_put (idx := 164) (by decide +kernel) rfl (by decide) z_i10 z_t10 z_n10 zw566 rfl (by decide +kernel)) ?_
  refine z_All.c (j := 9) rfl ok_bad ?_
  refine z_All.c (j := 10) rfl ok_bad ?_
  refine z_All.c (j := 11) rfl (ok_aload_n (n := 0) (by decide +kernel) rfl) ?_
  refine z_All.c (j := 12) rfl (ok_iconst (n := 0) (by decide +kernel) (by decide +kernel)) ?_
  refine z_All.c (j := 13) rfl (ok_put (idx := 170) (by decide +kernel) rfl (by decide) z_i10 z_t10 z_n10 zw568 rfl (by decide +kernel)) ?_
  refine z_All.c (j := 14) rfl ok_bad ?_
  refine z_All.c (j := 15) rfl ok_bad ?_
  refine z_All.c (j := 16) rfl (ok_vret (by decide +kernel) rfl) ?_
  exact trivial
set_option maxRecDepth 20000 in
theorem zk94_0 (l : Launch) (scr B : Nat) (D : va_G) : z_All l scr B D 94 0 z_c94_0 := by
  refine z_All.c (j := 1) rfl (ok_iload_n (n := 1) (by decide +kernel) rfl) ?_
  refine z_All.c (j := 2) rfl (ok_bipush (n := 65) (by decide +kernel) (by decide +kernel)) ?_
  refine z_All.c (j := 3) rfl ok_bad ?_
  refine z_All.c (j := 4) rfl (ok_ic_lt (off := 16) (by decide +kernel) (by decide +kernel)) ?_
  refine z_All.c (j := 5) rfl ok_bad ?_
  refine z_All.c (j := 6) rfl ok_bad ?_
  refine z_All.c (j := 7) rfl (ok_iload_n (n := 1) (by decide +kernel) rfl) ?_
  refine z_All.c (j := 8) rfl (ok_bipush (n := 90) (by decide +kernel) (by decide +kernel)) ?_
  refine z_All.c (j := 9) rfl ok_bad ?_
  refine z_All.c (j := 10) rfl (ok_ic_gt (off := 10) (by decide +kernel) (by decide +kernel)) ?_
  refine z_All.c (j := 11) rfl ok_bad ?_
  refine z_All.c (j := 12) rfl ok_bad ?_
  refine z_All.c (j := 13) rfl (ok_iload_n (n := 1) (by decide +kernel) rfl) ?_
  refine z_All.c (j := 14) rfl (ok_bipush (n := 32) (by decide +kernel) (by decide +kernel)) ?_
  refine z_All.c (j := 15) rfl ok_bad ?_
  refine z_All.c (j := 16) rfl (ok_iadd (by decide +kernel)) ?_
  refine z_All.c (j := 17) rfl (ok_goto (off := 4) (by decide +kernel) (by decide +kernel)) ?_
  refine z_All.c (j := 18) rfl ok_bad ?_
  refine z_All.c (j := 19) rfl ok_bad ?_
  refine z_All.c (j := 20) rfl (ok_iload_n (n := 1) (by decide +kernel) rfl) ?_
  refine z_All.c (j := 21) rfl (ok_iret (by decide +kernel) rfl) ?_
  exact trivial
set_option maxRecDepth 20000 in
theorem zk95_0 (l : Launch) (scr B : Nat) (D : va_G) : z_All l scr B D 95 0 z_c95_0 := by
  refine z_All.c (j := 1) rfl (ok_aload_n (n := 0) (by decide +kernel) rfl) ?_
  refine z_All.c (j := 2) rfl (ok_iconst (n := 0) (by decide +kernel) (by decide +kernel)) ?_
  refine z_All.c (j := 3) rfl (ok_put (idx := 173) (by decide +kernel) rfl (by decide) z_i10 z_t10 z_n10 zw573 rfl (by decide +kernel)) ?_
  refine z_All.c (j := 4) rfl ok_bad ?_
  refine z_All.c (j := 5) rfl ok_bad ?_
  refine z_All.c (j := 6) rfl (ok_iconst (n := 0) (by decide +kernel) (by decide +kernel)) ?_
  refine z_All.c (j := 7) rfl (ok_istore_n (n := 1) (by decide +kernel) rfl (fun _ => rfl)) ?_
  refine z_All.c (j := 8) rfl (ok_iconst (n := 0) (by decide +kernel) (by decide +kernel)) ?_
  refine z_All.c (j := 9) rfl (ok_istore_n (n := 2) (by decide +kernel) rfl (fun _ => rfl)) ?_
  refine z_All.c (j := 10) rfl (ok_iload_n (n := 2) (by decide +kernel) rfl) ?_
  refine z_All.c (j := 11) rfl (ok_aload_n (n := 0) (by decide +kernel) rfl) ?_
  refine z_All.c (j := 12) rfl (ok_get (idx := 161) (by decide +kernel) rfl (by decide) z_i10 zw564) ?_
  refine z_All.c (j := 13) rfl ok_bad ?_
  refine z_All.c (j := 14) rfl ok_bad ?_
  refine z_All.c (j := 15) rfl (ok_ic_ge (off := 54) (by decide +kernel) (by decide +kernel)) ?_
  refine z_All.c (j := 16) rfl ok_bad ?_
  refine z_All.c (j := 17) rfl ok_bad ?_
  refine z_All.c (j := 18) rfl (ok_aload_n (n := 0) (by decide +kernel) rfl) ?_
  refine z_All.c (j := 19) rfl (ok_get (idx := 71) (by decide +kernel) rfl (by decide) z_i10 zw565) ?_
  refine z_All.c (j := 20) rfl ok_bad ?_
  refine z_All.c (j := 21) rfl ok_bad ?_
  refine z_All.c (j := 22) rfl (ok_iload_n (n := 2) (by decide +kernel) rfl) ?_
  refine z_All.c (j := 23) rfl (ok_iald (by decide +kernel)) ?_
  refine z_All.c (j := 24) rfl (ok_bipush (n := 10) (by decide +kernel) (by decide +kernel)) ?_
  refine z_All.c (j := 25) rfl ok_bad ?_
  refine z_All.c (j := 26) rfl (ok_ic_ne (off := 37) (by decide +kernel) (by decide +kernel)) ?_
  refine z_All.c (j := 27) rfl ok_bad ?_
  refine z_All.c (j := 28) rfl ok_bad ?_
  refine z_All.c (j := 29) rfl (ok_aload_n (n := 0) (by decide +kernel) rfl) ?_
  refine z_All.c (j := 30) rfl (ok_get (idx := 89) (by decide +kernel) rfl (by decide) z_i10 zw574) ?_
  refine z_All.c (j := 31) rfl ok_bad ?_
  refine z_All.c (j := 32) rfl ok_bad ?_
  refine z_All.c (j := 33) rfl (ok_aload_n (n := 0) (by decide +kernel) rfl) ?_
  refine z_All.c (j := 34) rfl (ok_get (idx := 173) (by decide +kernel) rfl (by decide) z_i10 zw573) ?_
  refine z_All.c (j := 35) rfl ok_bad ?_
  refine z_All.c (j := 36) rfl ok_bad ?_
  refine z_All.c (j := 37) rfl (ok_iload_n (n := 1) (by decide +kernel) rfl) ?_
  refine z_All.c (j := 38) rfl (ok_iast (by decide +kernel)) ?_
  refine z_All.c (j := 39) rfl (ok_aload_n (n := 0) (by decide +kernel) rfl) ?_
  refine z_All.c (j := 40) rfl (ok_get (idx := 92) (by decide +kernel) rfl (by decide) z_i10 zw575) ?_
  refine z_All.c (j := 41) rfl ok_bad ?_
  refine z_All.c (j := 42) rfl ok_bad ?_
  refine z_All.c (j := 43) rfl (ok_aload_n (n := 0) (by decide +kernel) rfl) ?_
  refine z_All.c (j := 44) rfl (ok_get (idx := 173) (by decide +kernel) rfl (by decide) z_i10 zw573) ?_
  refine z_All.c (j := 45) rfl ok_bad ?_
  refine z_All.c (j := 46) rfl ok_bad ?_
  refine z_All.c (j := 47) rfl (ok_iload_n (n := 2) (by decide +kernel) rfl) ?_
  refine z_All.c (j := 48) rfl (ok_iast (by decide +kernel)) ?_
  refine z_All.c (j := 49) rfl (ok_aload_n (n := 0) (by decide +kernel) rfl) ?_
  refine z_All.c (j := 50) rfl (ok_dup (by decide +kernel)) ?_
  refine z_All.c (j := 51) rfl (ok_get (idx := 173) (by decide +kernel) rfl (by decide) z_i10 zw573) ?_
  refine z_All.c (j := 52) rfl ok_bad ?_
  refine z_All.c (j := 53) rfl ok_bad ?_
  refine z_All.c (j := 54) rfl (ok_iconst (n := 1) (by decide +kernel) (by decide +kernel)) ?_
  refine z_All.c (j := 55) rfl (ok_iadd (by decide +kernel)) ?_
  refine z_All.c (j := 56) rfl (ok_put (idx := 173) (by decide +kernel) rfl (by decide) z_i10 z_t10 z_n10 zw573 rfl (by decide +kernel)) ?_
  refine z_All.c (j := 57) rfl ok_bad ?_
  refine z_All.c (j := 58) rfl ok_bad ?_
  refine z_All.c (j := 59) rfl (ok_iload_n (n := 2) (by decide +kernel) rfl) ?_
  refine z_All.c (j := 60) rfl (ok_iconst (n := 1) (by decide +kernel) (by decide +kernel)) ?_
  refine z_All.c (j := 61) rfl (ok_iadd (by decide +kernel)) ?_
  refine z_All.c (j := 62) rfl (ok_istore_n (n := 1) (by decide +kernel) rfl (fun _ => rfl)) ?_
  refine z_All.c (j := 63) rfl (ok_iinc (n := 1) (by decide +kernel) (by decide +kernel)) ?_
  refine z_All.c (j := 64) rfl ok_bad ?_
  exact trivial
set_option maxRecDepth 20000 in
theorem zk95_1 (l : Launch) (scr B : Nat) (D : va_G) : z_All l scr B D 95 64 z_c95_1 := by
  refine z_All.c (j := 65) rfl ok_bad ?_
  refine z_All.c (j := 66) rfl (ok_goto (off := -56) (by decide +kernel) (by decide +kernel)) ?_
  refine z_All.c (j := 67) rfl ok_bad ?_
  refine z_All.c (j := 68) rfl ok_bad ?_
  refine z_All.c (j := 69) rfl (ok_iload_n (n := 1) (by decide +kernel) rfl) ?_
  refine z_All.c (j := 70) rfl (ok_aload_n (n := 0) (by decide +kernel) rfl) ?_
  refine z_All.c (j := 71) rfl (ok_get (idx := 161) (by decide +kernel) rfl (by decide) z_i10 zw564) ?_
  refine z_All.c (j := 72) rfl ok_bad ?_
  refine z_All.c (j := 73) rfl ok_bad ?_
  refine z_All.c (j := 74) rfl (ok_ic_ge (off := 36) (by decide +kernel) (by decide +kernel)) ?_
  refine z_All.c (j := 75) rfl ok_bad ?_
  refine z_All.c (j := 76) rfl ok_bad ?_
  refine z_All.c (j := 77) rfl (ok_aload_n (n := 0) (by decide +kernel) rfl) ?_
  refine z_All.c (j := 78) rfl (ok_get (idx := 89) (by decide +kernel) rfl (by decide) z_i10 zw574) ?_
  refine z_All.c (j := 79) rfl ok_bad ?_
  refine z_All.c (j := 80) rfl ok_bad ?_
  refine z_All.c (j := 81) rfl (ok_aload_n (n := 0) (by decide +kernel) rfl) ?_
  refine z_All.c (j := 82) rfl (ok_get (idx := 173) (by decide +kernel) rfl (by decide) z_i10 zw573) ?_
  refine z_All.c (j := 83) rfl ok_bad ?_
  refine z_All.c (j := 84) rfl ok_bad ?_
  refine z_All.c (j := 85) rfl (ok_iload_n (n := 1) (by decide +kernel) rfl) ?_
  refine z_All.c (j := 86) rfl (ok_iast (by decide +kernel)) ?_
  refine z_All.c (j := 87) rfl (ok_aload_n (n := 0) (by decide +kernel) rfl) ?_
  refine z_All.c (j := 88) rfl (ok_get (idx := 92) (by decide +kernel) rfl (by decide) z_i10 zw575) ?_
  refine z_All.c (j := 89) rfl ok_bad ?_
  refine z_All.c (j := 90) rfl ok_bad ?_
  refine z_All.c (j := 91) rfl (ok_aload_n (n := 0) (by decide +kernel) rfl) ?_
  refine z_All.c (j := 92) rfl (ok_get (idx := 173) (by decide +kernel) rfl (by decide) z_i10 zw573) ?_
  refine z_All.c (j := 93) rfl ok_bad ?_
  refine z_All.c (j := 94) rfl ok_bad ?_
  refine z_All.c (j := 95) rfl (ok_aload_n (n := 0) (by decide +kernel) rfl) ?_
  refine z_All.c (j := 96) rfl (ok_get (idx := 161) (by decide +kernel) rfl (by decide) z_i10 zw564) ?_
  refine z_All.c (j := 97) rfl ok_bad ?_
  refine z_All.c (j := 98) rfl ok_bad ?_
  refine z_All.c (j := 99) rfl (ok_iast (by decide +kernel)) ?_
  refine z_All.c (j := 100) rfl (ok_aload_n (n := 0) (by decide +kernel) rfl) ?_
  refine z_All.c (j := 101) rfl (ok_dup (by decide +kernel)) ?_
  refine z_All.c (j := 102) rfl (ok_get (idx := 173) (by decide +kernel) rfl (by decide) z_i10 zw573) ?_
  refine z_All.c (j := 103) rfl ok_bad ?_
  refine z_All.c (j := 104) rfl ok_bad ?_
  refine z_All.c (j := 105) rfl (ok_iconst (n := 1) (by decide +kernel) (by decide +kernel)) ?_
  refine z_All.c (j := 106) rfl (ok_iadd (by decide +kernel)) ?_
  refine z_All.c (j := 107) rfl (ok_put (idx := 173) (by decide +kernel) rfl (by decide) z_i10 z_t10 z_n10 zw573 rfl (by decide +kernel)) ?_
  refine z_All.c (j := 108) rfl ok_bad ?_
  refine z_All.c (j := 109) rfl ok_bad ?_
  refine z_All.c (j := 110) rfl (ok_aload_n (n := 0) (by decide +kernel) rfl) ?_
  refine z_All.c (j := 111) rfl (ok_aload_n (n := 0) (by decide +kernel) rfl) ?_
  refine z_All.c (j := 112) rfl (ok_get (idx := 173) (by decide +kernel) rfl (by decide) z_i10 zw573) ?_
  refine z_All.c (j := 113) rfl ok_bad ?_
  refine z_All.c (j := 114) rfl ok_bad ?_
  refine z_All.c (j := 115) rfl (ok_put (idx := 176) (by decide +kernel) rfl (by decide) z_i10 z_t10 z_n10 zw576 rfl (by decide +kernel)) ?_
  refine z_All.c (j := 116) rfl ok_bad ?_
  refine z_All.c (j := 117) rfl ok_bad ?_
  refine z_All.c (j := 118) rfl (ok_aload_n (n := 0) (by decide +kernel) rfl) ?_
  refine z_All.c (j := 119) rfl (ok_get (idx := 173) (by decide +kernel) rfl (by decide) z_i10 zw573) ?_
  refine z_All.c (j := 120) rfl ok_bad ?_
  refine z_All.c (j := 121) rfl ok_bad ?_
  refine z_All.c (j := 122) rfl (ok_iconst (n := 1) (by decide +kernel) (by decide +kernel)) ?_
  refine z_All.c (j := 123) rfl (ok_isub (by decide +kernel)) ?_
  refine z_All.c (j := 124) rfl (ok_istore_n (n := 2) (by decide +kernel) rfl (fun _ => rfl)) ?_
  refine z_All.c (j := 125) rfl (ok_iload_n (n := 2) (by decide +kernel) rfl) ?_
  refine z_All.c (j := 126) rfl (ok_if_lt (off := 36) (by decide +kernel) (by decide +kernel)) ?_
  refine z_All.c (j := 127) rfl ok_bad ?_
  refine z_All.c (j := 128) rfl ok_bad ?_
  exact trivial
set_option maxRecDepth 20000 in
theorem zk95_2 (l : Launch) (scr B : Nat) (D : va_G) : z_All l scr B D 95 128 z_c95_2 := by
  refine z_All.c (j := 129) rfl (ok_aload_n (n := 0) (by decide +kernel) rfl) ?_
  refine z_All.c (j := 130) rfl (ok_aload_n (n := 0) (by decide +kernel) rfl) ?_
  refine z_All.c (j := 131) rfl (ok_get (idx := 89) (by decide +kernel) rfl (by decide) z_i10 zw574) ?_
  refine z_All.c (j := 132) rfl ok_bad ?_
  refine z_All.c (j := 133) rfl ok_bad ?_
  refine z_All.c (j := 134) rfl (ok_iload_n (n := 2) (by decide +kernel) rfl) ?_
  refine z_All.c (j := 135) rfl (ok_iald (by decide +kernel)) ?_
  refine z_All.c (j := 136) rfl (ok_aload_n (n := 0) (by decide +kernel) rfl) ?_
  refine z_All.c (j := 137) rfl (ok_get (idx := 92) (by decide +kernel) rfl (by decide) z_i10 zw575) ?_
  refine z_All.c (j := 138) rfl ok_bad ?_
  refine z_All.c (j := 139) rfl ok_bad ?_
  refine z_All.c (j := 140) rfl (ok_iload_n (n := 2) (by decide +kernel) rfl) ?_
  refine z_All.c (j := 141) rfl (ok_iald (by decide +kernel)) ?_
  refine z_All.c (j := 142) rfl (ok_ic_ne (off := 7) (by decide +kernel) (by decide +kernel)) ?_
  refine z_All.c (j := 143) rfl ok_bad ?_
  refine z_All.c (j := 144) rfl ok_bad ?_
  refine z_All.c (j := 145) rfl (ok_iload_n (n := 2) (by decide +kernel) rfl) ?_
  refine z_All.c (j := 146) rfl (ok_goto (off := 7) (by decide +kernel) (by decide +kernel)) ?_
  refine z_All.c (j := 147) rfl ok_bad ?_
  refine z_All.c (j := 148) rfl ok_bad ?_
  refine z_All.c (j := 149) rfl (ok_aload_n (n := 0) (by decide +kernel) rfl) ?_
  refine z_All.c (j := 150) rfl (ok_get (idx := 176) (by decide +kernel) rfl (by decide) z_i10 zw576) ?_
  refine z_All.c (j := 151) rfl ok_bad ?_
  refine z_All.c (j := 152) rfl ok_bad ?_
  refine z_All.c (j := 153) rfl (ok_put (idx := 176) (by decide +kernel) rfl (by decide) z_i10 z_t10 z_n10 zw576 rfl (by decide +kernel)) ?_
  refine z_All.c (j := 154) rfl ok_bad ?_
  refine z_All.c (j := 155) rfl ok_bad ?_
  refine z_All.c (j := 156) rfl (ok_iinc (n := -1) (by decide +kernel) (by decide +kernel)) ?_
  refine z_All.c (j := 157) rfl ok_bad ?_
  refine z_All.c (j := 158) rfl ok_bad ?_
  refine z_All.c (j := 159) rfl (ok_goto (off := -34) (by decide +kernel) (by decide +kernel)) ?_
  refine z_All.c (j := 160) rfl ok_bad ?_
  refine z_All.c (j := 161) rfl ok_bad ?_
  refine z_All.c (j := 162) rfl (ok_vret (by decide +kernel) rfl) ?_
  exact trivial
set_option maxRecDepth 20000 in
theorem zk96_0 (l : Launch) (scr B : Nat) (D : va_G) : z_All l scr B D 96 0 z_c96_0 := by
  refine z_All.c (j := 1) rfl (ok_aload_n (n := 0) (by decide +kernel) rfl) ?_
  refine z_All.c (j := 2) rfl (ok_cv (idx := 179) (by decide +kernel) rfl zm95 zw773 zw775 (z_inP (List.mem_of_getElem? (i := 33) rfl) rfl)) ?_
  refine z_All.c (j := 3) rfl ok_bad ?_
  refine z_All.c (j := 4) rfl ok_bad ?_
  refine z_All.c (j := 5) rfl (ok_aload_n (n := 0) (by decide +kernel) rfl) ?_
  refine z_All.c (j := 6) rfl (ok_iconst (n := 0) (by decide +kernel) (by decide +kernel)) ?_
  refine z_All.c (j := 7) rfl (ok_put (idx := 182) (by decide +kernel) rfl (by decide) z_i10 z_t10 z_n10 zw577 rfl (by decide +kernel)) ?_
  refine z_All.c (j := 8) rfl ok_bad ?_
  refine z_All.c (j := 9) rfl ok_bad ?_
  refine z_All.c (j := 10) rfl (ok_iconst (n := 0) (by decide +kernel) (by decide +kernel)) ?_
  refine z_All.c (j := 11) rfl (ok_istore_n (n := 1) (by decide +kernel) rfl (fun _ => rfl)) ?_
  refine z_All.c (j := 12) rfl (ok_iload_n (n := 1) (by decide +kernel) rfl) ?_
  refine z_All.c (j := 13) rfl (ok_aload_n (n := 0) (by decide +kernel) rfl) ?_
  refine z_All.c (j := 14) rfl (ok_get (idx := 176) (by decide +kernel) rfl (by decide) z_i10 zw576) ?_
  refine z_All.c (j := 15) rfl ok_bad ?_
  refine z_All.c (j := 16) rfl ok_bad ?_
  refine z_All.c (j := 17) rfl (ok_ic_ge (off := 184) (by decide +kernel) (by decide +kernel)) ?_
  refine z_All.c (j := 18) rfl ok_bad ?_
  refine z_All.c (j := 19) rfl ok_bad ?_
  refine z_All.c (j := 20) rfl (ok_aload_n (n := 0) (by decide +kernel) rfl) ?_
  refine z_All.c (j := 21) rfl (ok_get (idx := 71) (by decide +kernel) rfl (by decide) z_i10 zw565) ?_
  refine z_All.c (j := 22) rfl ok_bad ?_
  refine z_All.c (j := 23) rfl ok_bad ?_
  refine z_All.c (j := 24) rfl (ok_aload_n (n := 0) (by decide +kernel) rfl) ?_
  refine z_All.c (j := 25) rfl (ok_get (idx := 89) (by decide +kernel) rfl (by decide) z_i10 zw574) ?_
  refine z_All.c (j := 26) rfl ok_bad ?_
  refine z_All.c (j := 27) rfl ok_bad ?_
  refine z_All.c (j := 28) rfl (ok_iload_n (n := 1) (by decide +kernel) rfl) ?_
  refine z_All.c (j := 29) rfl (ok_iald (by decide +kernel)) ?_
  refine z_All.c (j := 30) rfl (ok_iald (by decide +kernel)) ?_
  refine z_All.c (j := 31) rfl (ok_bipush (n := 32) (by decide +kernel) (by decide +kernel)) ?_
  refine z_All.c (j := 32) rfl ok_bad ?_
  refine z_All.c (j := 33) rfl (ok_ic_ne (off := 27) (by decide +kernel) (by decide +kernel)) ?_
  refine z_All.c (j := 34) rfl ok_bad ?_
  refine z_All.c (j := 35) rfl ok_bad ?_
  refine z_All.c (j := 36) rfl (ok_aload_n (n := 0) (by decide +kernel) rfl) ?_
  refine z_All.c (j := 37) rfl (ok_get (idx := 182) (by decide +kernel) rfl (by decide) z_i10 zw577) ?_
  refine z_All.c (j := 38) rfl ok_bad ?_
  refine z_All.c (j := 39) rfl ok_bad ?_
  refine z_All.c (j := 40) rfl (ok_if_ne (off := 5) (by decide +kernel) (by decide +kernel)) ?_
  refine z_All.c (j := 41) rfl ok_bad ?_
  refine z_All.c (j := 42) rfl ok_bad ?_
  refine z_All.c (j := 43) rfl (ok_iconst (n := 0) (by decide +kernel) (by decide +kernel)) ?_
  refine z_All.c (j := 44) rfl (ok_iret (by decide +kernel) rfl) ?_
  refine z_All.c (j := 45) rfl (ok_aload_n (n := 0) (by decide +kernel) rfl) ?_
  refine z_All.c (j := 46) rfl (ok_get (idx := 98) (by decide +kernel) rfl (by decide) z_i10 zw579) ?_
  refine z_All.c (j := 47) rfl ok_bad ?_
  refine z_All.c (j := 48) rfl ok_bad ?_
  refine z_All.c (j := 49) rfl (ok_aload_n (n := 0) (by decide +kernel) rfl) ?_
  refine z_All.c (j := 50) rfl (ok_get (idx := 182) (by decide +kernel) rfl (by decide) z_i10 zw577) ?_
  refine z_All.c (j := 51) rfl ok_bad ?_
  refine z_All.c (j := 52) rfl ok_bad ?_
  refine z_All.c (j := 53) rfl (ok_iconst (n := 1) (by decide +kernel) (by decide +kernel)) ?_
  refine z_All.c (j := 54) rfl (ok_isub (by decide +kernel)) ?_
  refine z_All.c (j := 55) rfl (ok_iload_n (n := 1) (by decide +kernel) rfl) ?_
  refine z_All.c (j := 56) rfl (ok_iast (by decide +kernel)) ?_
  refine z_All.c (j := 57) rfl (ok_goto (off := 138) (by decide +kernel) (by decide +kernel)) ?_
  refine z_All.c (j := 58) rfl ok_bad ?_
  refine z_All.c (j := 59) rfl ok_bad ?_
  refine z_All.c (j := 60) rfl (ok_iconst (n := 0) (by decide +kernel) (by decide +kernel)) ?_
  refine z_All.c (j := 61) rfl (ok_istore_n (n := 2) (by decide +kernel) rfl (fun _ => rfl)) ?_
  refine z_All.c (j := 62) rfl (ok_aload_n (n := 0) (by decide +kernel) rfl) ?_
  refine z_All.c (j := 63) rfl (ok_get (idx := 89) (by decide +kernel) rfl (by decide) z_i10 zw574) ?_
  refine z_All.c (j := 64) rfl ok_bad ?_
  exact trivial
set_option maxRecDepth 20000 in
theorem zk96_1 (l : Launch) (scr B : Nat) (D : va_G) : z_All l scr B D 96 64 z_c96_1 := by
  refine z_All.c (j := 65) rfl ok_bad ?_
  refine z_All.c (j := 66) rfl (ok_iload_n (n := 1) (by decide +kernel) rfl) ?_
  refine z_All.c (j := 67) rfl (ok_iald (by decide +kernel)) ?_
  refine z_All.c (j := 68) rfl (ok_iload_n (n := 2) (by decide +kernel) rfl) ?_
  refine z_All.c (j := 69) rfl (ok_iadd (by decide +kernel)) ?_
  refine z_All.c (j := 70) rfl (ok_aload_n (n := 0) (by decide +kernel) rfl) ?_
  refine z_All.c (j := 71) rfl (ok_get (idx := 92) (by decide +kernel) rfl (by decide) z_i10 zw575) ?_
  refine z_All.c (j := 72) rfl ok_bad ?_
  refine z_All.c (j := 73) rfl ok_bad ?_
  refine z_All.c (j := 74) rfl (ok_iload_n (n := 1) (by decide +kernel) rfl) ?_
  refine z_All.c (j := 75) rfl (ok_iald (by decide +kernel)) ?_
  refine z_All.c (j := 76) rfl (ok_ic_ge (off := 29) (by decide +kernel) (by decide +kernel)) ?_
  refine z_All.c (j := 77) rfl ok_bad ?_
  refine z_All.c (j := 78) rfl ok_bad ?_
  refine z_All.c (j := 79) rfl (ok_aload_n (n := 0) (by decide +kernel) rfl) ?_
  refine z_All.c (j := 80) rfl (ok_aload_n (n := 0) (by decide +kernel) rfl) ?_
  refine z_All.c (j := 81) rfl (ok_get (idx := 71) (by decide +kernel) rfl (by decide) z_i10 zw565) ?_
  refine z_All.c (j := 82) rfl ok_bad ?_
  refine z_All.c (j := 83) rfl ok_bad ?_
  refine z_All.c (j := 84) rfl (ok_aload_n (n := 0) (by decide +kernel) rfl) ?_
  refine z_All.c (j := 85) rfl (ok_get (idx := 89) (by decide +kernel) rfl (by decide) z_i10 zw574) ?_
  refine z_All.c (j := 86) rfl ok_bad ?_
  refine z_All.c (j := 87) rfl ok_bad ?_
  refine z_All.c (j := 88) rfl (ok_iload_n (n := 1) (by decide +kernel) rfl) ?_
  refine z_All.c (j := 89) rfl (ok_iald (by decide +kernel)) ?_
  refine z_All.c (j := 90) rfl (ok_iload_n (n := 2) (by decide +kernel) rfl) ?_
  refine z_All.c (j := 91) rfl (ok_iadd (by decide +kernel)) ?_
  refine z_All.c (j := 92) rfl (ok_iald (by decide +kernel)) ?_
  refine z_All.c (j := 93) rfl (ok_cv (idx := 167) (by decide +kernel) rfl zm91 zw757 zw759 (z_inP (List.mem_of_getElem? (i := 31) rfl) rfl)) ?_
  refine z_All.c (j := 94) rfl ok_bad ?_
  refine z_All.c (j := 95) rfl ok_bad ?_
  refine z_All.c (j := 96) rfl (ok_if_eq (off := 9) (by decide +kernel) (by decide +kernel)) ?_
  refine z_All.c (j := 97) rfl ok_bad ?_
  refine z_All.c (j := 98) rfl ok_bad ?_
  refine z_All.c (j := 99) rfl (ok_iinc (n := 1) (by decide +kernel) (by decide +kernel)) ?_
  refine z_All.c (j := 100) rfl ok_bad ?_
  refine z_All.c (j := 101) rfl ok_bad ?_
  refine z_All.c (j := 102) rfl (ok_goto (off := -40) (by decide +kernel) (by decide +kernel)) ?_
  refine z_All.c (j := 103) rfl ok_bad ?_
  refine z_All.c (j := 104) rfl ok_bad ?_
  refine z_All.c (j := 105) rfl (ok_iload_n (n := 2) (by decide +kernel) rfl) ?_
  refine z_All.c (j := 106) rfl (ok_if_eq (off := 47) (by decide +kernel) (by decide +kernel)) ?_
  refine z_All.c (j := 107) rfl ok_bad ?_
  refine z_All.c (j := 108) rfl ok_bad ?_
  refine z_All.c (j := 109) rfl (ok_aload_n (n := 0) (by decide +kernel) rfl) ?_
  refine z_All.c (j := 110) rfl (ok_get (idx := 89) (by decide +kernel) rfl (by decide) z_i10 zw574) ?_
  refine z_All.c (j := 111) rfl ok_bad ?_
  refine z_All.c (j := 112) rfl ok_bad ?_
  refine z_All.c (j := 113) rfl (ok_iload_n (n := 1) (by decide +kernel) rfl) ?_
  refine z_All.c (j := 114) rfl (ok_iald (by decide +kernel)) ?_
  refine z_All.c (j := 115) rfl (ok_iload_n (n := 2) (by decide +kernel) rfl) ?_
  refine z_All.c (j := 116) rfl (ok_iadd (by decide +kernel)) ?_
  refine z_All.c (j := 117) rfl (ok_aload_n (n := 0) (by decide +kernel) rfl) ?_
  refine z_All.c (j := 118) rfl (ok_get (idx := 92) (by decide +kernel) rfl (by decide) z_i10 zw575) ?_
  refine z_All.c (j := 119) rfl ok_bad ?_
  refine z_All.c (j := 120) rfl ok_bad ?_
  refine z_All.c (j := 121) rfl (ok_iload_n (n := 1) (by decide +kernel) rfl) ?_
  refine z_All.c (j := 122) rfl (ok_iald (by decide +kernel)) ?_
  refine z_All.c (j := 123) rfl (ok_ic_eq (off := 30) (by decide +kernel) (by decide +kernel)) ?_
  refine z_All.c (j := 124) rfl ok_bad ?_
  refine z_All.c (j := 125) rfl ok_bad ?_
  refine z_All.c (j := 126) rfl (ok_aload_n (n := 0) (by decide +kernel) rfl) ?_
  refine z_All.c (j := 127) rfl (ok_get (idx := 71) (by decide +kernel) rfl (by decide) z_i10 zw565) ?_
  refine z_All.c (j := 128) rfl ok_bad ?_
  exact trivial
set_option maxRecDepth 20000 in
theorem zk96_2 (l : Launch) (scr B : Nat) (D : va_G) : z_All l scr B D 96 128 z_c96_2 := by
  refine z_All.c (j := 129) rfl ok_bad ?_
  refine z_All.c (j := 130) rfl (ok_aload_n (n := 0) (by decide +kernel) rfl) ?_
  refine z_All.c (j := 131) rfl (ok_get (idx := 89) (by decide +kernel) rfl (by decide) z_i10 zw574) ?_
  refine z_All.c (j := 132) rfl ok_bad ?_
  refine z_All.c (j := 133) rfl ok_bad ?_
  refine z_All.c (j := 134) rfl (ok_iload_n (n := 1) (by decide +kernel) rfl) ?_
  refine z_All.c (j := 135) rfl (ok_iald (by decide +kernel)) ?_
  refine z_All.c (j := 136) rfl (ok_iload_n (n := 2) (by decide +kernel) rfl) ?_
  refine z_All.c (j := 137) rfl (ok_iadd (by decide +kernel)) ?_
  refine z_All.c (j := 138) rfl (ok_iald (by decide +kernel)) ?_
  refine z_All.c (j := 139) rfl (ok_bipush (n := 58) (by decide +kernel) (by decide +kernel)) ?_
  refine z_All.c (j := 140) rfl ok_bad ?_
  refine z_All.c (j := 141) rfl (ok_ic_ne (off := 12) (by decide +kernel) (by decide +kernel)) ?_
  refine z_All.c (j := 142) rfl ok_bad ?_
  refine z_All.c (j := 143) rfl ok_bad ?_
  refine z_All.c (j := 144) rfl (ok_aload_n (n := 0) (by decide +kernel) rfl) ?_
  refine z_All.c (j := 145) rfl (ok_get (idx := 182) (by decide +kernel) rfl (by decide) z_i10 zw577) ?_
  refine z_All.c (j := 146) rfl ok_bad ?_
  refine z_All.c (j := 147) rfl ok_bad ?_
  refine z_All.c (j := 148) rfl (ok_bipush (n := 12) (by decide +kernel) (by decide +kernel)) ?_
  refine z_All.c (j := 149) rfl ok_bad ?_
  refine z_All.c (j := 150) rfl (ok_ic_ne (off := 5) (by decide +kernel) (by decide +kernel)) ?_
  refine z_All.c (j := 151) rfl ok_bad ?_
  refine z_All.c (j := 152) rfl ok_bad ?_
  refine z_All.c (j := 153) rfl (ok_iconst (n := 0) (by decide +kernel) (by decide +kernel)) ?_
  refine z_All.c (j := 154) rfl (ok_iret (by decide +kernel) rfl) ?_
  refine z_All.c (j := 155) rfl (ok_aload_n (n := 0) (by decide +kernel) rfl) ?_
  refine z_All.c (j := 156) rfl (ok_get (idx := 95) (by decide +kernel) rfl (by decide) z_i10 zw578) ?_
  refine z_All.c (j := 157) rfl ok_bad ?_
  refine z_All.c (j := 158) rfl ok_bad ?_
  refine z_All.c (j := 159) rfl (ok_aload_n (n := 0) (by decide +kernel) rfl) ?_
  refine z_All.c (j := 160) rfl (ok_get (idx := 182) (by decide +kernel) rfl (by decide) z_i10 zw577) ?_
  refine z_All.c (j := 161) rfl ok_bad ?_
  refine z_All.c (j := 162) rfl ok_bad ?_
  refine z_All.c (j := 163) rfl (ok_iload_n (n := 1) (by decide +kernel) rfl) ?_
  refine z_All.c (j := 164) rfl (ok_iast (by decide +kernel)) ?_
  refine z_All.c (j := 165) rfl (ok_aload_n (n := 0) (by decide +kernel) rfl) ?_
  refine z_All.c (j := 166) rfl (ok_get (idx := 98) (by decide +kernel) rfl (by decide) z_i10 zw579) ?_
  refine z_All.c (j := 167) rfl ok_bad ?_
  refine z_All.c (j := 168) rfl ok_bad ?_
  refine z_All.c (j := 169) rfl (ok_aload_n (n := 0) (by decide +kernel) rfl) ?_
  refine z_All.c (j := 170) rfl (ok_get (idx := 182) (by decide +kernel) rfl (by decide) z_i10 zw577) ?_
  refine z_All.c (j := 171) rfl ok_bad ?_
  refine z_All.c (j := 172) rfl ok_bad ?_
  refine z_All.c (j := 173) rfl (ok_iload_n (n := 1) (by decide +kernel) rfl) ?_
  refine z_All.c (j := 174) rfl (ok_iast (by decide +kernel)) ?_
  refine z_All.c (j := 175) rfl (ok_aload_n (n := 0) (by decide +kernel) rfl) ?_
  refine z_All.c (j := 176) rfl (ok_get (idx := 101) (by decide +kernel) rfl (by decide) z_i10 zw580) ?_
  refine z_All.c (j := 177) rfl ok_bad ?_
  refine z_All.c (j := 178) rfl ok_bad ?_
  refine z_All.c (j := 179) rfl (ok_aload_n (n := 0) (by decide +kernel) rfl) ?_
  refine z_All.c (j := 180) rfl (ok_get (idx := 182) (by decide +kernel) rfl (by decide) z_i10 zw577) ?_
  refine z_All.c (j := 181) rfl ok_bad ?_
  refine z_All.c (j := 182) rfl ok_bad ?_
  refine z_All.c (j := 183) rfl (ok_iload_n (n := 2) (by decide +kernel) rfl) ?_
  refine z_All.c (j := 184) rfl (ok_iast (by decide +kernel)) ?_
  refine z_All.c (j := 185) rfl (ok_aload_n (n := 0) (by decide +kernel) rfl) ?_
  refine z_All.c (j := 186) rfl (ok_dup (by decide +kernel)) ?_
  refine z_All.c (j := 187) rfl (ok_get (idx := 182) (by decide +kernel) rfl (by decide) z_i10 zw577) ?_
  refine z_All.c (j := 188) rfl ok_bad ?_
  refine z_All.c (j := 189) rfl ok_bad ?_
  refine z_All.c (j := 190) rfl (ok_iconst (n := 1) (by decide +kernel) (by decide +kernel)) ?_
  refine z_All.c (j := 191) rfl (ok_iadd (by decide +kernel)) ?_
  refine z_All.c (j := 192) rfl (ok_put (idx := 182) (by decide +kernel) rfl (by decide) z_i10 z_t10 z_n10 zw577 rfl (by decide +kernel)) ?_
  exact trivial
set_option maxRecDepth 20000 in
theorem zk96_3 (l : Launch) (scr B : Nat) (D : va_G) : z_All l scr B D 96 192 z_c96_3 := by
  refine z_All.c (j := 193) rfl ok_bad ?_
  refine z_All.c (j := 194) rfl ok_bad ?_
  refine z_All.c (j := 195) rfl (ok_iinc (n := 1) (by decide +kernel) (by decide +kernel)) ?_
  refine z_All.c (j := 196) rfl ok_bad ?_
  refine z_All.c (j := 197) rfl ok_bad ?_
  refine z_All.c (j := 198) rfl (ok_goto (off := -186) (by decide +kernel) (by decide +kernel)) ?_
  refine z_All.c (j := 199) rfl ok_bad ?_
  refine z_All.c (j := 200) rfl ok_bad ?_
  refine z_All.c (j := 201) rfl (ok_iconst (n := 1) (by decide +kernel) (by decide +kernel)) ?_
  refine z_All.c (j := 202) rfl (ok_iret (by decide +kernel) rfl) ?_
  exact trivial
set_option maxRecDepth 20000 in
theorem zk97_0 (l : Launch) (scr B : Nat) (D : va_G) : z_All l scr B D 97 0 z_c97_0 := by
  refine z_All.c (j := 1) rfl (ok_aload_n (n := 0) (by decide +kernel) rfl) ?_
  refine z_All.c (j := 2) rfl (ok_cv (idx := 185) (by decide +kernel) rfl zm96 zw769 zw771 (z_inP (List.mem_of_getElem? (i := 32) rfl) rfl)) ?_
  refine z_All.c (j := 3) rfl ok_bad ?_
  refine z_All.c (j := 4) rfl ok_bad ?_
  refine z_All.c (j := 5) rfl (ok_if_eq (off := 10) (by decide +kernel) (by decide +kernel)) ?_
  refine z_All.c (j := 6) rfl ok_bad ?_
  refine z_All.c (j := 7) rfl ok_bad ?_
  refine z_All.c (j := 8) rfl (ok_aload_n (n := 0) (by decide +kernel) rfl) ?_
  refine z_All.c (j := 9) rfl (ok_get (idx := 182) (by decide +kernel) rfl (by decide) z_i10 zw577) ?_
  refine z_All.c (j := 10) rfl ok_bad ?_
  refine z_All.c (j := 11) rfl ok_bad ?_
  refine z_All.c (j := 12) rfl (ok_goto (off := 4) (by decide +kernel) (by decide +kernel)) ?_
  refine z_All.c (j := 13) rfl ok_bad ?_
  refine z_All.c (j := 14) rfl ok_bad ?_
  refine z_All.c (j := 15) rfl (ok_iconst (n := -1) (by decide +kernel) (by decide +kernel)) ?_
  refine z_All.c (j := 16) rfl (ok_iret (by decide +kernel) rfl) ?_
  exact trivial
set_option maxRecDepth 20000 in
theorem zk98_0 (l : Launch) (scr B : Nat) (D : va_G) : z_All l scr B D 98 0 z_c98_0 := by
  refine z_All.c (j := 1) rfl (ok_aload_n (n := 0) (by decide +kernel) rfl) ?_
  refine z_All.c (j := 2) rfl (ok_get (idx := 107) (by decide +kernel) rfl (by decide) z_i10 zw583) ?_
  refine z_All.c (j := 3) rfl ok_bad ?_
  refine z_All.c (j := 4) rfl ok_bad ?_
  refine z_All.c (j := 5) rfl (ok_aload_n (n := 0) (by decide +kernel) rfl) ?_
  refine z_All.c (j := 6) rfl (ok_get (idx := 188) (by decide +kernel) rfl (by decide) z_i10 zw582) ?_
  refine z_All.c (j := 7) rfl ok_bad ?_
  refine z_All.c (j := 8) rfl ok_bad ?_
  refine z_All.c (j := 9) rfl (ok_iload_n (n := 1) (by decide +kernel) rfl) ?_
  refine z_All.c (j := 10) rfl (ok_iast (by decide +kernel)) ?_
  refine z_All.c (j := 11) rfl (ok_aload_n (n := 0) (by decide +kernel) rfl) ?_
  refine z_All.c (j := 12) rfl (ok_dup (by decide +kernel)) ?_
  refine z_All.c (j := 13) rfl (ok_get (idx := 188) (by decide +kernel) rfl (by decide) z_i10 zw582) ?_
  refine z_All.c (j := 14) rfl ok_bad ?_
  refine z_All.c (j := 15) rfl ok_bad ?_
  refine z_All.c (j := 16) rfl (ok_iconst (n := 1) (by decide +kernel) (by decide +kernel)) ?_
  refine z_All.c (j := 17) rfl (ok_iadd (by decide +kernel)) ?_
  refine z_All.c (j := 18) rfl (ok_put (idx := 188) (by decide +kernel) rfl (by decide) z_i10 z_t10 z_n10 zw582 rfl (by decide +kernel)) ?_
  refine z_All.c (j := 19) rfl ok_bad ?_
  refine z_All.c (j := 20) rfl ok_bad ?_
  refine z_All.c (j := 21) rfl (ok_vret (by decide +kernel) rfl) ?_
  exact trivial
set_option maxRecDepth 20000 in
theorem zk99_0 (l : Launch) (scr B : Nat) (D : va_G) : z_All l scr B D 99 0 z_c99_0 := by
  refine z_All.c (j := 1) rfl (ok_aload_n (n := 0) (by decide +kernel) rfl) ?_
  refine z_All.c (j := 2) rfl (ok_get (idx := 89) (by decide +kernel) rfl (by decide) z_i10 zw574) ?_
  refine z_All.c (j := 3) rfl ok_bad ?_
  refine z_All.c (j := 4) rfl ok_bad ?_
  refine z_All.c (j := 5) rfl (ok_iload_n (n := 1) (by decide +kernel) rfl) ?_
  refine z_All.c (j := 6) rfl (ok_iald (by decide +kernel)) ?_
  refine z_All.c (j := 7) rfl (ok_istore_n (n := 2) (by decide +kernel) rfl (fun _ => rfl)) ?_
  refine z_All.c (j := 8) rfl (ok_iload_n (n := 2) (by decide +kernel) rfl) ?_
  refine z_All.c (j := 9) rfl (ok_aload_n (n := 0) (by decide +kernel) rfl) ?_
  refine z_All.c (j := 10) rfl (ok_get (idx := 92) (by decide +kernel) rfl (by decide) z_i10 zw575) ?_
  refine z_All.c (j := 11) rfl ok_bad ?_
  refine z_All.c (j := 12) rfl ok_bad ?_
  refine z_All.c (j := 13) rfl (ok_iload_n (n := 1) (by decide +kernel) rfl) ?_
  refine z_All.c (j := 14) rfl (ok_iald (by decide +kernel)) ?_
  refine z_All.c (j := 15) rfl (ok_ic_ge (off := 19) (by decide +kernel) (by decide +kernel)) ?_
  refine z_All.c (j := 16) rfl ok_bad ?_
  refine z_All.c (j := 17) rfl ok_bad ?_
  refine z_All.c (j := 18) rfl (ok_aload_n (n := 0) (by decide +kernel) rfl) ?_
  refine z_All.c (j := 19) rfl (ok_aload_n (n := 0) (by decide +kernel) rfl) ?_
  refine z_All.c (j := 20) rfl (ok_get (idx := 71) (by decide +kernel) rfl (by decide) z_i10 zw565) ?_
  refine z_All.c (j := 21) rfl ok_bad ?_
  refine z_All.c (j := 22) rfl ok_bad ?_
  refine z_All.c (j := 23) rfl (ok_iload_n (n := 2) (by decide +kernel) rfl) ?_
  refine z_All.c (j := 24) rfl (ok_iald (by decide +kernel)) ?_
  refine z_All.c (j := 25) rfl (ok_cv (idx := 191) (by decide +kernel) rfl zm98 zw801 zw803 (z_inP (List.mem_of_getElem? (i := 39) rfl) rfl)) ?_
  refine z_All.c (j := 26) rfl ok_bad ?_
  refine z_All.c (j := 27) rfl ok_bad ?_
  refine z_All.c (j := 28) rfl (ok_iinc (n := 1) (by decide +kernel) (by decide +kernel)) ?_
  refine z_All.c (j := 29) rfl ok_bad ?_
  refine z_All.c (j := 30) rfl ok_bad ?_
  refine z_All.c (j := 31) rfl (ok_goto (off := -23) (by decide +kernel) (by decide +kernel)) ?_
  refine z_All.c (j := 32) rfl ok_bad ?_
  refine z_All.c (j := 33) rfl ok_bad ?_
  refine z_All.c (j := 34) rfl (ok_aload_n (n := 0) (by decide +kernel) rfl) ?_
  refine z_All.c (j := 35) rfl (ok_bipush (n := 10) (by decide +kernel) (by decide +kernel)) ?_
  refine z_All.c (j := 36) rfl ok_bad ?_
  refine z_All.c (j := 37) rfl (ok_cv (idx := 191) (by decide +kernel) rfl zm98 zw801 zw803 (z_inP (List.mem_of_getElem? (i := 39) rfl) rfl)) ?_
  refine z_All.c (j := 38) rfl ok_bad ?_
  refine z_All.c (j := 39) rfl ok_bad ?_
  refine z_All.c (j := 40) rfl (ok_vret (by decide +kernel) rfl) ?_
  exact trivial
set_option maxRecDepth 20000 in
theorem zk100_0 (l : Launch) (scr B : Nat) (D : va_G) : z_All l scr B D 100 0 z_c100_0 := by
  refine z_All.c (j := 1) rfl (ok_aload_n (n := 0) (by decide +kernel) rfl) ?_
  refine z_All.c (j := 2) rfl (ok_get (idx := 89) (by decide +kernel) rfl (by decide) z_i10 zw574) ?_
  refine z_All.c (j := 3) rfl ok_bad ?_
  refine z_All.c (j := 4) rfl ok_bad ?_
  refine z_All.c (j := 5) rfl (ok_aload_n (n := 0) (by decide +kernel) rfl) ?_
  refine z_All.c (j := 6) rfl (ok_get (idx := 95) (by decide +kernel) rfl (by decide) z_i10 zw578) ?_
  refine z_All.c (j := 7) rfl ok_bad ?_
  refine z_All.c (j := 8) rfl ok_bad ?_
  refine z_All.c (j := 9) rfl (ok_iload_n (n := 1) (by decide +kernel) rfl) ?_
  refine z_All.c (j := 10) rfl (ok_iald (by decide +kernel)) ?_
  refine z_All.c (j := 11) rfl (ok_iald (by decide +kernel)) ?_
  refine z_All.c (j := 12) rfl (ok_istore_n (n := 2) (by decide +kernel) rfl (fun _ => rfl)) ?_
  refine z_All.c (j := 13) rfl (ok_iconst (n := 0) (by decide +kernel) (by decide +kernel)) ?_
  refine z_All.c (j := 14) rfl (ok_istore_n (n := 3) (by decide +kernel) rfl (fun _ => rfl)) ?_
  refine z_All.c (j := 15) rfl (ok_iload_n (n := 3) (by decide +kernel) rfl) ?_
  refine z_All.c (j := 16) rfl (ok_aload_n (n := 0) (by decide +kernel) rfl) ?_
  refine z_All.c (j := 17) rfl (ok_get (idx := 101) (by decide +kernel) rfl (by decide) z_i10 zw580) ?_
  refine z_All.c (j := 18) rfl ok_bad ?_
  refine z_All.c (j := 19) rfl ok_bad ?_
  refine z_All.c (j := 20) rfl (ok_iload_n (n := 1) (by decide +kernel) rfl) ?_
  refine z_All.c (j := 21) rfl (ok_iald (by decide +kernel)) ?_
  refine z_All.c (j := 22) rfl (ok_ic_ge (off := 25) (by decide +kernel) (by decide +kernel)) ?_
  refine z_All.c (j := 23) rfl ok_bad ?_
  refine z_All.c (j := 24) rfl ok_bad ?_
  refine z_All.c (j := 25) rfl (ok_aload_n (n := 0) (by decide +kernel) rfl) ?_
  refine z_All.c (j := 26) rfl (ok_aload_n (n := 0) (by decide +kernel) rfl) ?_
  refine z_All.c (j := 27) rfl (ok_aload_n (n := 0) (by decide +kernel) rfl) ?_
  refine z_All.c (j := 28) rfl (ok_get (idx := 71) (by decide +kernel) rfl (by decide) z_i10 zw565) ?_
  refine z_All.c (j := 29) rfl ok_bad ?_
  refine z_All.c (j := 30) rfl ok_bad ?_
  refine z_All.c (j := 31) rfl (ok_iload_n (n := 2) (by decide +kernel) rfl) ?_
  refine z_All.c (j := 32) rfl (ok_iload_n (n := 3) (by decide +kernel) rfl) ?_
  refine z_All.c (j := 33) rfl (ok_iadd (by decide +kernel)) ?_
  refine z_All.c (j := 34) rfl (ok_iald (by decide +kernel)) ?_
  refine z_All.c (j := 35) rfl (ok_cv (idx := 195) (by decide +kernel) rfl zm94 zw789 zw791 (z_inP (List.mem_of_getElem? (i := 36) rfl) rfl)) ?_
  refine z_All.c (j := 36) rfl ok_bad ?_
  refine z_All.c (j := 37) rfl ok_bad ?_
  refine z_All.c (j := 38) rfl (ok_cv (idx := 191) (by decide +kernel) rfl zm98 zw801 zw803 (z_inP (List.mem_of_getElem? (i := 39) rfl) rfl)) ?_
  refine z_All.c (j := 39) rfl ok_bad ?_
  refine z_All.c (j := 40) rfl ok_bad ?_
  refine z_All.c (j := 41) rfl (ok_iinc (n := 1) (by decide +kernel) (by decide +kernel)) ?_
  refine z_All.c (j := 42) rfl ok_bad ?_
  refine z_All.c (j := 43) rfl ok_bad ?_
  refine z_All.c (j := 44) rfl (ok_goto (off := -29) (by decide +kernel) (by decide +kernel)) ?_
  refine z_All.c (j := 45) rfl ok_bad ?_
  refine z_All.c (j := 46) rfl ok_bad ?_
  refine z_All.c (j := 47) rfl (ok_aload_n (n := 0) (by decide +kernel) rfl) ?_
  refine z_All.c (j := 48) rfl (ok_bipush (n := 58) (by decide +kernel) (by decide +kernel)) ?_
  refine z_All.c (j := 49) rfl ok_bad ?_
  refine z_All.c (j := 50) rfl (ok_cv (idx := 191) (by decide +kernel) rfl zm98 zw801 zw803 (z_inP (List.mem_of_getElem? (i := 39) rfl) rfl)) ?_
  refine z_All.c (j := 51) rfl ok_bad ?_
  refine z_All.c (j := 52) rfl ok_bad ?_
  refine z_All.c (j := 53) rfl (ok_aload_n (n := 0) (by decide +kernel) rfl) ?_
  refine z_All.c (j := 54) rfl (ok_get (idx := 188) (by decide +kernel) rfl (by decide) z_i10 zw582) ?_
  refine z_All.c (j := 55) rfl ok_bad ?_
  refine z_All.c (j := 56) rfl ok_bad ?_
  refine z_All.c (j := 57) rfl (ok_istore_n (n := 3) (by decide +kernel) rfl (fun _ => rfl)) ?_
  refine z_All.c (j := 58) rfl (ok_iconst (n := 0) (by decide +kernel) (by decide +kernel)) ?_
  refine z_All.c (j := 59) rfl (ok_istore (by decide +kernel) (fun _ => rfl)) ?_
  refine z_All.c (j := 60) rfl ok_bad ?_
  refine z_All.c (j := 61) rfl (ok_iload_n (n := 2) (by decide +kernel) rfl) ?_
  refine z_All.c (j := 62) rfl (ok_aload_n (n := 0) (by decide +kernel) rfl) ?_
  refine z_All.c (j := 63) rfl (ok_get (idx := 101) (by decide +kernel) rfl (by decide) z_i10 zw580) ?_
  refine z_All.c (j := 64) rfl ok_bad ?_
  exact trivial
set_option maxRecDepth 20000 in
theorem zk100_1 (l : Launch) (scr B : Nat) (D : va_G) : z_All l scr B D 100 64 z_c100_1 := by
  refine z_All.c (j := 65) rfl ok_bad ?_
  refine z_All.c (j := 66) rfl (ok_iload_n (n := 1) (by decide +kernel) rfl) ?_
  refine z_All.c (j := 67) rfl (ok_iald (by decide +kernel)) ?_
  refine z_All.c (j := 68) rfl (ok_iadd (by decide +kernel)) ?_
  refine z_All.c (j := 69) rfl (ok_iconst (n := 1) (by decide +kernel) (by decide +kernel)) ?_
  refine z_All.c (j := 70) rfl (ok_iadd (by decide +kernel)) ?_
  refine z_All.c (j := 71) rfl (ok_istore (by decide +kernel) (fun _ => rfl)) ?_
  refine z_All.c (j := 72) rfl ok_bad ?_
  refine z_All.c (j := 73) rfl (ok_iload (by decide +kernel)) ?_
  refine z_All.c (j := 74) rfl ok_bad ?_
  refine z_All.c (j := 75) rfl (ok_aload_n (n := 0) (by decide +kernel) rfl) ?_
  refine z_All.c (j := 76) rfl (ok_get (idx := 92) (by decide +kernel) rfl (by decide) z_i10 zw575) ?_
  refine z_All.c (j := 77) rfl ok_bad ?_
  refine z_All.c (j := 78) rfl ok_bad ?_
  refine z_All.c (j := 79) rfl (ok_aload_n (n := 0) (by decide +kernel) rfl) ?_
  refine z_All.c (j := 80) rfl (ok_get (idx := 98) (by decide +kernel) rfl (by decide) z_i10 zw579) ?_
  refine z_All.c (j := 81) rfl ok_bad ?_
  refine z_All.c (j := 82) rfl ok_bad ?_
  refine z_All.c (j := 83) rfl (ok_iload_n (n := 1) (by decide +kernel) rfl) ?_
  refine z_All.c (j := 84) rfl (ok_iald (by decide +kernel)) ?_
  refine z_All.c (j := 85) rfl (ok_iald (by decide +kernel)) ?_
  refine z_All.c (j := 86) rfl (ok_ic_ge (off := 72) (by decide +kernel) (by decide +kernel)) ?_
  refine z_All.c (j := 87) rfl ok_bad ?_
  refine z_All.c (j := 88) rfl ok_bad ?_
  refine z_All.c (j := 89) rfl (ok_aload_n (n := 0) (by decide +kernel) rfl) ?_
  refine z_All.c (j := 90) rfl (ok_get (idx := 71) (by decide +kernel) rfl (by decide) z_i10 zw565) ?_
  refine z_All.c (j := 91) rfl ok_bad ?_
  refine z_All.c (j := 92) rfl ok_bad ?_
  refine z_All.c (j := 93) rfl (ok_iload (by decide +kernel)) ?_
  refine z_All.c (j := 94) rfl ok_bad ?_
  refine z_All.c (j := 95) rfl (ok_iald (by decide +kernel)) ?_
  refine z_All.c (j := 96) rfl (ok_bipush (n := 32) (by decide +kernel) (by decide +kernel)) ?_
  refine z_All.c (j := 97) rfl ok_bad ?_
  refine z_All.c (j := 98) rfl (ok_ic_ne (off := 9) (by decide +kernel) (by decide +kernel)) ?_
  refine z_All.c (j := 99) rfl ok_bad ?_
  refine z_All.c (j := 100) rfl ok_bad ?_
  refine z_All.c (j := 101) rfl (ok_iconst (n := 1) (by decide +kernel) (by decide +kernel)) ?_
  refine z_All.c (j := 102) rfl (ok_istore (by decide +kernel) (fun _ => rfl)) ?_
  refine z_All.c (j := 103) rfl ok_bad ?_
  refine z_All.c (j := 104) rfl (ok_goto (off := 48) (by decide +kernel) (by decide +kernel)) ?_
  refine z_All.c (j := 105) rfl ok_bad ?_
  refine z_All.c (j := 106) rfl ok_bad ?_
  refine z_All.c (j := 107) rfl (ok_aload_n (n := 0) (by decide +kernel) rfl) ?_
  refine z_All.c (j := 108) rfl (ok_get (idx := 71) (by decide +kernel) rfl (by decide) z_i10 zw565) ?_
  refine z_All.c (j := 109) rfl ok_bad ?_
  refine z_All.c (j := 110) rfl ok_bad ?_
  refine z_All.c (j := 111) rfl (ok_iload (by decide +kernel)) ?_
  refine z_All.c (j := 112) rfl ok_bad ?_
  refine z_All.c (j := 113) rfl (ok_iald (by decide +kernel)) ?_
  refine z_All.c (j := 114) rfl (ok_bipush (n := 10) (by decide +kernel) (by decide +kernel)) ?_
  refine z_All.c (j := 115) rfl ok_bad ?_
  refine z_All.c (j := 116) rfl (ok_ic_eq (off := 36) (by decide +kernel) (by decide +kernel)) ?_
  refine z_All.c (j := 117) rfl ok_bad ?_
  refine z_All.c (j := 118) rfl ok_bad ?_
  refine z_All.c (j := 119) rfl (ok_iload (by decide +kernel)) ?_
  refine z_All.c (j := 120) rfl ok_bad ?_
  refine z_All.c (j := 121) rfl (ok_if_eq (off := 17) (by decide +kernel) (by decide +kernel)) ?_
  refine z_All.c (j := 122) rfl ok_bad ?_
  refine z_All.c (j := 123) rfl ok_bad ?_
  refine z_All.c (j := 124) rfl (ok_aload_n (n := 0) (by decide +kernel) rfl) ?_
  refine z_All.c (j := 125) rfl (ok_get (idx := 188) (by decide +kernel) rfl (by decide) z_i10 zw582) ?_
  refine z_All.c (j := 126) rfl ok_bad ?_
  refine z_All.c (j := 127) rfl ok_bad ?_
  refine z_All.c (j := 128) rfl (ok_iload_n (n := 3) (by decide +kernel) rfl) ?_
  exact trivial
set_option maxRecDepth 20000 in
theorem zk100_2 (l : Launch) (scr B : Nat) (D : va_G) : z_All l scr B D 100 128 z_c100_2 := by
  refine z_All.c (j := 129) rfl (ok_ic_le (off := 9) (by decide +kernel) (by decide +kernel)) ?_
  refine z_All.c (j := 130) rfl ok_bad ?_
  refine z_All.c (j := 131) rfl ok_bad ?_
  refine z_All.c (j := 132) rfl (ok_aload_n (n := 0) (by decide +kernel) rfl) ?_
  refine z_All.c (j := 133) rfl (ok_bipush (n := 32) (by decide +kernel) (by decide +kernel)) ?_
  refine z_All.c (j := 134) rfl ok_bad ?_
  refine z_All.c (j := 135) rfl (ok_cv (idx := 191) (by decide +kernel) rfl zm98 zw801 zw803 (z_inP (List.mem_of_getElem? (i := 39) rfl) rfl)) ?_
  refine z_All.c (j := 136) rfl ok_bad ?_
  refine z_All.c (j := 137) rfl ok_bad ?_
  refine z_All.c (j := 138) rfl (ok_iconst (n := 0) (by decide +kernel) (by decide +kernel)) ?_
  refine z_All.c (j := 139) rfl (ok_istore (by decide +kernel) (fun _ => rfl)) ?_
  refine z_All.c (j := 140) rfl ok_bad ?_
  refine z_All.c (j := 141) rfl (ok_aload_n (n := 0) (by decide +kernel) rfl) ?_
  refine z_All.c (j := 142) rfl (ok_aload_n (n := 0) (by decide +kernel) rfl) ?_
  refine z_All.c (j := 143) rfl (ok_get (idx := 71) (by decide +kernel) rfl (by decide) z_i10 zw565) ?_
  refine z_All.c (j := 144) rfl ok_bad ?_
  refine z_All.c (j := 145) rfl ok_bad ?_
  refine z_All.c (j := 146) rfl (ok_iload (by decide +kernel)) ?_
  refine z_All.c (j := 147) rfl ok_bad ?_
  refine z_All.c (j := 148) rfl (ok_iald (by decide +kernel)) ?_
  refine z_All.c (j := 149) rfl (ok_cv (idx := 191) (by decide +kernel) rfl zm98 zw801 zw803 (z_inP (List.mem_of_getElem? (i := 39) rfl) rfl)) ?_
  refine z_All.c (j := 150) rfl ok_bad ?_
  refine z_All.c (j := 151) rfl ok_bad ?_
  refine z_All.c (j := 152) rfl (ok_iinc (n := 1) (by decide +kernel) (by decide +kernel)) ?_
  refine z_All.c (j := 153) rfl ok_bad ?_
  refine z_All.c (j := 154) rfl ok_bad ?_
  refine z_All.c (j := 155) rfl (ok_goto (off := -82) (by decide +kernel) (by decide +kernel)) ?_
  refine z_All.c (j := 156) rfl ok_bad ?_
  refine z_All.c (j := 157) rfl ok_bad ?_
  refine z_All.c (j := 158) rfl (ok_aload_n (n := 0) (by decide +kernel) rfl) ?_
  refine z_All.c (j := 159) rfl (ok_bipush (n := 10) (by decide +kernel) (by decide +kernel)) ?_
  refine z_All.c (j := 160) rfl ok_bad ?_
  refine z_All.c (j := 161) rfl (ok_cv (idx := 191) (by decide +kernel) rfl zm98 zw801 zw803 (z_inP (List.mem_of_getElem? (i := 39) rfl) rfl)) ?_
  refine z_All.c (j := 162) rfl ok_bad ?_
  refine z_All.c (j := 163) rfl ok_bad ?_
  refine z_All.c (j := 164) rfl (ok_vret (by decide +kernel) rfl) ?_
  exact trivial
set_option maxRecDepth 20000 in
theorem zk101_0 (l : Launch) (scr B : Nat) (D : va_G) : z_All l scr B D 101 0 z_c101_0 := by
  refine z_All.c (j := 1) rfl (ok_iconst (n := 0) (by decide +kernel) (by decide +kernel)) ?_
  refine z_All.c (j := 2) rfl (ok_istore_n (n := 2) (by decide +kernel) rfl (fun _ => rfl)) ?_
  refine z_All.c (j := 3) rfl (ok_aload_n (n := 0) (by decide +kernel) rfl) ?_
  refine z_All.c (j := 4) rfl (ok_get (idx := 89) (by decide +kernel) rfl (by decide) z_i10 zw574) ?_
  refine z_All.c (j := 5) rfl ok_bad ?_
  refine z_All.c (j := 6) rfl ok_bad ?_
  refine z_All.c (j := 7) rfl (ok_iload_n (n := 1) (by decide +kernel) rfl) ?_
  refine z_All.c (j := 8) rfl (ok_iald (by decide +kernel)) ?_
  refine z_All.c (j := 9) rfl (ok_istore_n (n := 3) (by decide +kernel) rfl (fun _ => rfl)) ?_
  refine z_All.c (j := 10) rfl (ok_iload_n (n := 3) (by decide +kernel) rfl) ?_
  refine z_All.c (j := 11) rfl (ok_aload_n (n := 0) (by decide +kernel) rfl) ?_
  refine z_All.c (j := 12) rfl (ok_get (idx := 92) (by decide +kernel) rfl (by decide) z_i10 zw575) ?_
  refine z_All.c (j := 13) rfl ok_bad ?_
  refine z_All.c (j := 14) rfl ok_bad ?_
  refine z_All.c (j := 15) rfl (ok_iload_n (n := 1) (by decide +kernel) rfl) ?_
  refine z_All.c (j := 16) rfl (ok_iald (by decide +kernel)) ?_
  refine z_All.c (j := 17) rfl (ok_ic_ge (off := 47) (by decide +kernel) (by decide +kernel)) ?_
  refine z_All.c (j := 18) rfl ok_bad ?_
  refine z_All.c (j := 19) rfl ok_bad ?_
  refine z_All.c (j := 20) rfl (ok_aload_n (n := 0) (by decide +kernel) rfl) ?_
  refine z_All.c (j := 21) rfl (ok_get (idx := 71) (by decide +kernel) rfl (by decide) z_i10 zw565) ?_
  refine z_All.c (j := 22) rfl ok_bad ?_
  refine z_All.c (j := 23) rfl ok_bad ?_
  refine z_All.c (j := 24) rfl (ok_iload_n (n := 3) (by decide +kernel) rfl) ?_
  refine z_All.c (j := 25) rfl (ok_iald (by decide +kernel)) ?_
  refine z_All.c (j := 26) rfl (ok_bipush (n := 32) (by decide +kernel) (by decide +kernel)) ?_
  refine z_All.c (j := 27) rfl ok_bad ?_
  refine z_All.c (j := 28) rfl (ok_ic_ne (off := 8) (by decide +kernel) (by decide +kernel)) ?_
  refine z_All.c (j := 29) rfl ok_bad ?_
  refine z_All.c (j := 30) rfl ok_bad ?_
  refine z_All.c (j := 31) rfl (ok_iconst (n := 1) (by decide +kernel) (by decide +kernel)) ?_
  refine z_All.c (j := 32) rfl (ok_istore_n (n := 2) (by decide +kernel) rfl (fun _ => rfl)) ?_
  refine z_All.c (j := 33) rfl (ok_goto (off := 25) (by decide +kernel) (by decide +kernel)) ?_
  refine z_All.c (j := 34) rfl ok_bad ?_
  refine z_All.c (j := 35) rfl ok_bad ?_
  refine z_All.c (j := 36) rfl (ok_iload_n (n := 2) (by decide +kernel) rfl) ?_
  refine z_All.c (j := 37) rfl (ok_if_eq (off := 9) (by decide +kernel) (by decide +kernel)) ?_
  refine z_All.c (j := 38) rfl ok_bad ?_
  refine z_All.c (j := 39) rfl ok_bad ?_
  refine z_All.c (j := 40) rfl (ok_aload_n (n := 0) (by decide +kernel) rfl) ?_
  refine z_All.c (j := 41) rfl (ok_bipush (n := 32) (by decide +kernel) (by decide +kernel)) ?_
  refine z_All.c (j := 42) rfl ok_bad ?_
  refine z_All.c (j := 43) rfl (ok_cv (idx := 191) (by decide +kernel) rfl zm98 zw801 zw803 (z_inP (List.mem_of_getElem? (i := 39) rfl) rfl)) ?_
  refine z_All.c (j := 44) rfl ok_bad ?_
  refine z_All.c (j := 45) rfl ok_bad ?_
  refine z_All.c (j := 46) rfl (ok_iconst (n := 0) (by decide +kernel) (by decide +kernel)) ?_
  refine z_All.c (j := 47) rfl (ok_istore_n (n := 2) (by decide +kernel) rfl (fun _ => rfl)) ?_
  refine z_All.c (j := 48) rfl (ok_aload_n (n := 0) (by decide +kernel) rfl) ?_
  refine z_All.c (j := 49) rfl (ok_aload_n (n := 0) (by decide +kernel) rfl) ?_
  refine z_All.c (j := 50) rfl (ok_get (idx := 71) (by decide +kernel) rfl (by decide) z_i10 zw565) ?_
  refine z_All.c (j := 51) rfl ok_bad ?_
  refine z_All.c (j := 52) rfl ok_bad ?_
  refine z_All.c (j := 53) rfl (ok_iload_n (n := 3) (by decide +kernel) rfl) ?_
  refine z_All.c (j := 54) rfl (ok_iald (by decide +kernel)) ?_
  refine z_All.c (j := 55) rfl (ok_cv (idx := 191) (by decide +kernel) rfl zm98 zw801 zw803 (z_inP (List.mem_of_getElem? (i := 39) rfl) rfl)) ?_
  refine z_All.c (j := 56) rfl ok_bad ?_
  refine z_All.c (j := 57) rfl ok_bad ?_
  refine z_All.c (j := 58) rfl (ok_iinc (n := 1) (by decide +kernel) (by decide +kernel)) ?_
  refine z_All.c (j := 59) rfl ok_bad ?_
  refine z_All.c (j := 60) rfl ok_bad ?_
  refine z_All.c (j := 61) rfl (ok_goto (off := -51) (by decide +kernel) (by decide +kernel)) ?_
  refine z_All.c (j := 62) rfl ok_bad ?_
  refine z_All.c (j := 63) rfl ok_bad ?_
  refine z_All.c (j := 64) rfl (ok_aload_n (n := 0) (by decide +kernel) rfl) ?_
  exact trivial
set_option maxRecDepth 20000 in
theorem zk101_1 (l : Launch) (scr B : Nat) (D : va_G) : z_All l scr B D 101 64 z_c101_1 := by
  refine z_All.c (j := 65) rfl (ok_bipush (n := 10) (by decide +kernel) (by decide +kernel)) ?_
  refine z_All.c (j := 66) rfl ok_bad ?_
  refine z_All.c (j := 67) rfl (ok_cv (idx := 191) (by decide +kernel) rfl zm98 zw801 zw803 (z_inP (List.mem_of_getElem? (i := 39) rfl) rfl)) ?_
  refine z_All.c (j := 68) rfl ok_bad ?_
  refine z_All.c (j := 69) rfl ok_bad ?_
  refine z_All.c (j := 70) rfl (ok_vret (by decide +kernel) rfl) ?_
  exact trivial
set_option maxRecDepth 20000 in
theorem zk102_0 (l : Launch) (scr B : Nat) (D : va_G) : z_All l scr B D 102 0 z_c102_0 := by
  refine z_All.c (j := 1) rfl (ok_iconst (n := 1) (by decide +kernel) (by decide +kernel)) ?_
  refine z_All.c (j := 2) rfl (ok_istore_n (n := 2) (by decide +kernel) rfl (fun _ => rfl)) ?_
  refine z_All.c (j := 3) rfl (ok_aload_n (n := 0) (by decide +kernel) rfl) ?_
  refine z_All.c (j := 4) rfl (ok_get (idx := 89) (by decide +kernel) rfl (by decide) z_i10 zw574) ?_
  refine z_All.c (j := 5) rfl ok_bad ?_
  refine z_All.c (j := 6) rfl ok_bad ?_
  refine z_All.c (j := 7) rfl (ok_iload_n (n := 1) (by decide +kernel) rfl) ?_
  refine z_All.c (j := 8) rfl (ok_iald (by decide +kernel)) ?_
  refine z_All.c (j := 9) rfl (ok_istore_n (n := 3) (by decide +kernel) rfl (fun _ => rfl)) ?_
  refine z_All.c (j := 10) rfl (ok_iload_n (n := 3) (by decide +kernel) rfl) ?_
  refine z_All.c (j := 11) rfl (ok_aload_n (n := 0) (by decide +kernel) rfl) ?_
  refine z_All.c (j := 12) rfl (ok_get (idx := 92) (by decide +kernel) rfl (by decide) z_i10 zw575) ?_
  refine z_All.c (j := 13) rfl ok_bad ?_
  refine z_All.c (j := 14) rfl ok_bad ?_
  refine z_All.c (j := 15) rfl (ok_iload_n (n := 1) (by decide +kernel) rfl) ?_
  refine z_All.c (j := 16) rfl (ok_iald (by decide +kernel)) ?_
  refine z_All.c (j := 17) rfl (ok_ic_ge (off := 30) (by decide +kernel) (by decide +kernel)) ?_
  refine z_All.c (j := 18) rfl ok_bad ?_
  refine z_All.c (j := 19) rfl ok_bad ?_
  refine z_All.c (j := 20) rfl (ok_iload_n (n := 2) (by decide +kernel) rfl) ?_
  refine z_All.c (j := 21) rfl (ok_if_eq (off := 18) (by decide +kernel) (by decide +kernel)) ?_
  refine z_All.c (j := 22) rfl ok_bad ?_
  refine z_All.c (j := 23) rfl ok_bad ?_
  refine z_All.c (j := 24) rfl (ok_aload_n (n := 0) (by decide +kernel) rfl) ?_
  refine z_All.c (j := 25) rfl (ok_get (idx := 71) (by decide +kernel) rfl (by decide) z_i10 zw565) ?_
  refine z_All.c (j := 26) rfl ok_bad ?_
  refine z_All.c (j := 27) rfl ok_bad ?_
  refine z_All.c (j := 28) rfl (ok_iload_n (n := 3) (by decide +kernel) rfl) ?_
  refine z_All.c (j := 29) rfl (ok_iald (by decide +kernel)) ?_
  refine z_All.c (j := 30) rfl (ok_bipush (n := 32) (by decide +kernel) (by decide +kernel)) ?_
  refine z_All.c (j := 31) rfl ok_bad ?_
  refine z_All.c (j := 32) rfl (ok_ic_ne (off := 7) (by decide +kernel) (by decide +kernel)) ?_
  refine z_All.c (j := 33) rfl ok_bad ?_
  refine z_All.c (j := 34) rfl ok_bad ?_
  refine z_All.c (j := 35) rfl (ok_iconst (n := 1) (by decide +kernel) (by decide +kernel)) ?_
  refine z_All.c (j := 36) rfl (ok_goto (off := 4) (by decide +kernel) (by decide +kernel)) ?_
  refine z_All.c (j := 37) rfl ok_bad ?_
  refine z_All.c (j := 38) rfl ok_bad ?_
  refine z_All.c (j := 39) rfl (ok_iconst (n := 0) (by decide +kernel) (by decide +kernel)) ?_
  refine z_All.c (j := 40) rfl (ok_istore_n (n := 2) (by decide +kernel) rfl (fun _ => rfl)) ?_
  refine z_All.c (j := 41) rfl (ok_iinc (n := 1) (by decide +kernel) (by decide +kernel)) ?_
  refine z_All.c (j := 42) rfl ok_bad ?_
  refine z_All.c (j := 43) rfl ok_bad ?_
  refine z_All.c (j := 44) rfl (ok_goto (off := -34) (by decide +kernel) (by decide +kernel)) ?_
  refine z_All.c (j := 45) rfl ok_bad ?_
  refine z_All.c (j := 46) rfl ok_bad ?_
  refine z_All.c (j := 47) rfl (ok_iload_n (n := 2) (by decide +kernel) rfl) ?_
  refine z_All.c (j := 48) rfl (ok_iret (by decide +kernel) rfl) ?_
  exact trivial
set_option maxRecDepth 20000 in
theorem zk103_0 (l : Launch) (scr B : Nat) (D : va_G) : z_All l scr B D 103 0 z_c103_0 := by
  refine z_All.c (j := 1) rfl (ok_aload_n (n := 0) (by decide +kernel) rfl) ?_
  refine z_All.c (j := 2) rfl (ok_get (idx := 173) (by decide +kernel) rfl (by decide) z_i10 zw573) ?_
  refine z_All.c (j := 3) rfl ok_bad ?_
  refine z_All.c (j := 4) rfl ok_bad ?_
  refine z_All.c (j := 5) rfl (ok_istore_n (n := 2) (by decide +kernel) rfl (fun _ => rfl)) ?_
  refine z_All.c (j := 6) rfl (ok_iload_n (n := 2) (by decide +kernel) rfl) ?_
  refine z_All.c (j := 7) rfl (ok_aload_n (n := 0) (by decide +kernel) rfl) ?_
  refine z_All.c (j := 8) rfl (ok_get (idx := 176) (by decide +kernel) rfl (by decide) z_i10 zw576) ?_
  refine z_All.c (j := 9) rfl ok_bad ?_
  refine z_All.c (j := 10) rfl ok_bad ?_
  refine z_All.c (j := 11) rfl (ok_iconst (n := 1) (by decide +kernel) (by decide +kernel)) ?_
  refine z_All.c (j := 12) rfl (ok_iadd (by decide +kernel)) ?_
  refine z_All.c (j := 13) rfl (ok_ic_le (off := 45) (by decide +kernel) (by decide +kernel)) ?_
  refine z_All.c (j := 14) rfl ok_bad ?_
  refine z_All.c (j := 15) rfl ok_bad ?_
  refine z_All.c (j := 16) rfl (ok_iload_n (n := 1) (by decide +kernel) rfl) ?_
  refine z_All.c (j := 17) rfl (ok_if_eq (off := 16) (by decide +kernel) (by decide +kernel)) ?_
  refine z_All.c (j := 18) rfl ok_bad ?_
  refine z_All.c (j := 19) rfl ok_bad ?_
  refine z_All.c (j := 20) rfl (ok_aload_n (n := 0) (by decide +kernel) rfl) ?_
  refine z_All.c (j := 21) rfl (ok_iload_n (n := 2) (by decide +kernel) rfl) ?_
  refine z_All.c (j := 22) rfl (ok_iconst (n := 1) (by decide +kernel) (by decide +kernel)) ?_
  refine z_All.c (j := 23) rfl (ok_isub (by decide +kernel)) ?_
  refine z_All.c (j := 24) rfl (ok_cv (idx := 198) (by decide +kernel) rfl zm102 zw813 zw815 (z_inP (List.mem_of_getElem? (i := 42) rfl) rfl)) ?_
  refine z_All.c (j := 25) rfl ok_bad ?_
  refine z_All.c (j := 26) rfl ok_bad ?_
  refine z_All.c (j := 27) rfl (ok_if_eq (off := 31) (by decide +kernel) (by decide +kernel)) ?_
  refine z_All.c (j := 28) rfl ok_bad ?_
  refine z_All.c (j := 29) rfl ok_bad ?_
  refine z_All.c (j := 30) rfl (ok_goto (off := 22) (by decide +kernel) (by decide +kernel)) ?_
  refine z_All.c (j := 31) rfl ok_bad ?_
  refine z_All.c (j := 32) rfl ok_bad ?_
  refine z_All.c (j := 33) rfl (ok_aload_n (n := 0) (by decide +kernel) rfl) ?_
  refine z_All.c (j := 34) rfl (ok_get (idx := 89) (by decide +kernel) rfl (by decide) z_i10 zw574) ?_
  refine z_All.c (j := 35) rfl ok_bad ?_
  refine z_All.c (j := 36) rfl ok_bad ?_
  refine z_All.c (j := 37) rfl (ok_iload_n (n := 2) (by decide +kernel) rfl) ?_
  refine z_All.c (j := 38) rfl (ok_iconst (n := 1) (by decide +kernel) (by decide +kernel)) ?_
  refine z_All.c (j := 39) rfl (ok_isub (by decide +kernel)) ?_
  refine z_All.c (j := 40) rfl (ok_iald (by decide +kernel)) ?_
  refine z_All.c (j := 41) rfl (ok_aload_n (n := 0) (by decide +kernel) rfl) ?_
  refine z_All.c (j := 42) rfl (ok_get (idx := 92) (by decide +kernel) rfl (by decide) z_i10 zw575) ?_
  refine z_All.c (j := 43) rfl ok_bad ?_
  refine z_All.c (j := 44) rfl ok_bad ?_
  refine z_All.c (j := 45) rfl (ok_iload_n (n := 2) (by decide +kernel) rfl) ?_
  refine z_All.c (j := 46) rfl (ok_iconst (n := 1) (by decide +kernel) (by decide +kernel)) ?_
  refine z_All.c (j := 47) rfl (ok_isub (by decide +kernel)) ?_
  refine z_All.c (j := 48) rfl (ok_iald (by decide +kernel)) ?_
  refine z_All.c (j := 49) rfl (ok_ic_ne (off := 9) (by decide +kernel) (by decide +kernel)) ?_
  refine z_All.c (j := 50) rfl ok_bad ?_
  refine z_All.c (j := 51) rfl ok_bad ?_
  refine z_All.c (j := 52) rfl (ok_iinc (n := -1) (by decide +kernel) (by decide +kernel)) ?_
  refine z_All.c (j := 53) rfl ok_bad ?_
  refine z_All.c (j := 54) rfl ok_bad ?_
  refine z_All.c (j := 55) rfl (ok_goto (off := -49) (by decide +kernel) (by decide +kernel)) ?_
  refine z_All.c (j := 56) rfl ok_bad ?_
  refine z_All.c (j := 57) rfl ok_bad ?_
  refine z_All.c (j := 58) rfl (ok_aload_n (n := 0) (by decide +kernel) rfl) ?_
  refine z_All.c (j := 59) rfl (ok_get (idx := 176) (by decide +kernel) rfl (by decide) z_i10 zw576) ?_
  refine z_All.c (j := 60) rfl ok_bad ?_
  refine z_All.c (j := 61) rfl ok_bad ?_
  refine z_All.c (j := 62) rfl (ok_iconst (n := 1) (by decide +kernel) (by decide +kernel)) ?_
  refine z_All.c (j := 63) rfl (ok_iadd (by decide +kernel)) ?_
  refine z_All.c (j := 64) rfl (ok_istore_n (n := 3) (by decide +kernel) rfl (fun _ => rfl)) ?_
  exact trivial
set_option maxRecDepth 20000 in
theorem zk103_1 (l : Launch) (scr B : Nat) (D : va_G) : z_All l scr B D 103 64 z_c103_1 := by
  refine z_All.c (j := 65) rfl (ok_iload_n (n := 3) (by decide +kernel) rfl) ?_
  refine z_All.c (j := 66) rfl (ok_iload_n (n := 2) (by decide +kernel) rfl) ?_
  refine z_All.c (j := 67) rfl (ok_ic_ge (off := 26) (by decide +kernel) (by decide +kernel)) ?_
  refine z_All.c (j := 68) rfl ok_bad ?_
  refine z_All.c (j := 69) rfl ok_bad ?_
  refine z_All.c (j := 70) rfl (ok_iload_n (n := 1) (by decide +kernel) rfl) ?_
  refine z_All.c (j := 71) rfl (ok_if_eq (off := 11) (by decide +kernel) (by decide +kernel)) ?_
  refine z_All.c (j := 72) rfl ok_bad ?_
  refine z_All.c (j := 73) rfl ok_bad ?_
  refine z_All.c (j := 74) rfl (ok_aload_n (n := 0) (by decide +kernel) rfl) ?_
  refine z_All.c (j := 75) rfl (ok_iload_n (n := 3) (by decide +kernel) rfl) ?_
  refine z_All.c (j := 76) rfl (ok_cv (idx := 201) (by decide +kernel) rfl zm101 zw817 zw819 (z_inP (List.mem_of_getElem? (i := 43) rfl) rfl)) ?_
  refine z_All.c (j := 77) rfl ok_bad ?_
  refine z_All.c (j := 78) rfl ok_bad ?_
  refine z_All.c (j := 79) rfl (ok_goto (off := 8) (by decide +kernel) (by decide +kernel)) ?_
  refine z_All.c (j := 80) rfl ok_bad ?_
  refine z_All.c (j := 81) rfl ok_bad ?_
  refine z_All.c (j := 82) rfl (ok_aload_n (n := 0) (by decide +kernel) rfl) ?_
  refine z_All.c (j := 83) rfl (ok_iload_n (n := 3) (by decide +kernel) rfl) ?_
  refine z_All.c (j := 84) rfl (ok_cv (idx := 204) (by decide +kernel) rfl zm99 zw805 zw807 (z_inP (List.mem_of_getElem? (i := 40) rfl) rfl)) ?_
  refine z_All.c (j := 85) rfl ok_bad ?_
  refine z_All.c (j := 86) rfl ok_bad ?_
  refine z_All.c (j := 87) rfl (ok_iinc (n := 1) (by decide +kernel) (by decide +kernel)) ?_
  refine z_All.c (j := 88) rfl ok_bad ?_
  refine z_All.c (j := 89) rfl ok_bad ?_
  refine z_All.c (j := 90) rfl (ok_goto (off := -25) (by decide +kernel) (by decide +kernel)) ?_
  refine z_All.c (j := 91) rfl ok_bad ?_
  refine z_All.c (j := 92) rfl ok_bad ?_
  refine z_All.c (j := 93) rfl (ok_iload_n (n := 1) (by decide +kernel) rfl) ?_
  refine z_All.c (j := 94) rfl (ok_if_ne (off := 19) (by decide +kernel) (by decide +kernel)) ?_
  refine z_All.c (j := 95) rfl ok_bad ?_
  refine z_All.c (j := 96) rfl ok_bad ?_
  refine z_All.c (j := 97) rfl (ok_iload_n (n := 2) (by decide +kernel) rfl) ?_
  refine z_All.c (j := 98) rfl (ok_aload_n (n := 0) (by decide +kernel) rfl) ?_
  refine z_All.c (j := 99) rfl (ok_get (idx := 176) (by decide +kernel) rfl (by decide) z_i10 zw576) ?_
  refine z_All.c (j := 100) rfl ok_bad ?_
  refine z_All.c (j := 101) rfl ok_bad ?_
  refine z_All.c (j := 102) rfl (ok_iconst (n := 1) (by decide +kernel) (by decide +kernel)) ?_
  refine z_All.c (j := 103) rfl (ok_iadd (by decide +kernel)) ?_
  refine z_All.c (j := 104) rfl (ok_ic_gt (off := 9) (by decide +kernel) (by decide +kernel)) ?_
  refine z_All.c (j := 105) rfl ok_bad ?_
  refine z_All.c (j := 106) rfl ok_bad ?_
  refine z_All.c (j := 107) rfl (ok_aload_n (n := 0) (by decide +kernel) rfl) ?_
  refine z_All.c (j := 108) rfl (ok_bipush (n := 10) (by decide +kernel) (by decide +kernel)) ?_
  refine z_All.c (j := 109) rfl ok_bad ?_
  refine z_All.c (j := 110) rfl (ok_cv (idx := 191) (by decide +kernel) rfl zm98 zw801 zw803 (z_inP (List.mem_of_getElem? (i := 39) rfl) rfl)) ?_
  refine z_All.c (j := 111) rfl ok_bad ?_
  refine z_All.c (j := 112) rfl ok_bad ?_
  refine z_All.c (j := 113) rfl (ok_vret (by decide +kernel) rfl) ?_
  exact trivial
