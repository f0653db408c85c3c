/-! ===== made by wip/prog/gen8.py: each operation is sound ===== -/
set_option maxRecDepth 20000 in
theorem zk56_0 (l : Launch) (scr B : Nat) (D : va_G) : z_All l scr B D 56 0 z_c56_0 := by
  refine z_All.c (j := 1) rfl (ok_aload_n (n := 0) (by decide +kernel) rfl) ?_
  refine z_All.c (j := 2) rfl (ok_obj (idx := 3) (by decide +kernel) zw52 zw19 zw20) ?_
  refine z_All.c (j := 3) rfl ok_bad ?_
  refine z_All.c (j := 4) rfl ok_bad ?_
  refine z_All.c (j := 5) rfl (ok_aload_n (n := 0) (by decide +kernel) rfl) ?_
  refine z_All.c (j := 6) rfl (ok_new (idx := 9) (by decide +kernel) rfl z_i5 z_t5 zw53 zw54 zw5 rfl (zd5 scr B)) ?_
  refine z_All.c (j := 7) rfl ok_bad ?_
  refine z_All.c (j := 8) rfl ok_bad ?_
  refine z_All.c (j := 9) rfl (ok_dup (by decide +kernel)) ?_
  refine z_All.c (j := 10) rfl (ok_sipush (n := 240) (by decide +kernel) (by decide +kernel)) ?_
  refine z_All.c (j := 11) rfl ok_bad ?_
  refine z_All.c (j := 12) rfl ok_bad ?_
  refine z_All.c (j := 13) rfl (ok_ci (idx := 11) (by decide +kernel) zm60 rfl rfl zw55 zw56) ?_
  refine z_All.c (j := 14) rfl ok_bad ?_
  refine z_All.c (j := 15) rfl ok_bad ?_
  refine z_All.c (j := 16) rfl (ok_putF (idx := 14) (by decide +kernel) rfl (by decide) z_i4 z_t4 z_n4 zw70 rfl rfl rfl (by decide +kernel)) ?_
  refine z_All.c (j := 17) rfl ok_bad ?_
  refine z_All.c (j := 18) rfl ok_bad ?_
  refine z_All.c (j := 19) rfl (ok_aload_n (n := 0) (by decide +kernel) rfl) ?_
  refine z_All.c (j := 20) rfl (ok_bipush (n := 12) (by decide +kernel) (by decide +kernel)) ?_
  refine z_All.c (j := 21) rfl ok_bad ?_
  refine z_All.c (j := 22) rfl (ok_newa (aty := .int) (by decide +kernel) rfl zw97 rfl (by decide +kernel) (by intro z; cases z)) ?_
  refine z_All.c (j := 23) rfl ok_bad ?_
  refine z_All.c (j := 24) rfl (ok_putF (idx := 20) (by decide +kernel) rfl (by decide) z_i4 z_t4 z_n4 zw78 rfl rfl rfl (by decide +kernel)) ?_
  refine z_All.c (j := 25) rfl ok_bad ?_
  refine z_All.c (j := 26) rfl ok_bad ?_
  refine z_All.c (j := 27) rfl (ok_aload_n (n := 0) (by decide +kernel) rfl) ?_
  refine z_All.c (j := 28) rfl (ok_bipush (n := 12) (by decide +kernel) (by decide +kernel)) ?_
  refine z_All.c (j := 29) rfl ok_bad ?_
  refine z_All.c (j := 30) rfl (ok_newa (aty := .int) (by decide +kernel) rfl zw97 rfl (by decide +kernel) (by intro z; cases z)) ?_
  refine z_All.c (j := 31) rfl ok_bad ?_
  refine z_All.c (j := 32) rfl (ok_putF (idx := 24) (by decide +kernel) rfl (by decide) z_i4 z_t4 z_n4 zw80 rfl rfl rfl (by decide +kernel)) ?_
  refine z_All.c (j := 33) rfl ok_bad ?_
  refine z_All.c (j := 34) rfl ok_bad ?_
  refine z_All.c (j := 35) rfl (ok_aload_n (n := 0) (by decide +kernel) rfl) ?_
  refine z_All.c (j := 36) rfl (ok_bipush (n := 12) (by decide +kernel) (by decide +kernel)) ?_
  refine z_All.c (j := 37) rfl ok_bad ?_
  refine z_All.c (j := 38) rfl (ok_newa (aty := .int) (by decide +kernel) rfl zw97 rfl (by decide +kernel) (by intro z; cases z)) ?_
  refine z_All.c (j := 39) rfl ok_bad ?_
  refine z_All.c (j := 40) rfl (ok_putF (idx := 27) (by decide +kernel) rfl (by decide) z_i4 z_t4 z_n4 zw82 rfl rfl rfl (by decide +kernel)) ?_
  refine z_All.c (j := 41) rfl ok_bad ?_
  refine z_All.c (j := 42) rfl ok_bad ?_
  refine z_All.c (j := 43) rfl (ok_vret (by decide +kernel) rfl) ?_
  exact trivial
set_option maxRecDepth 20000 in
theorem zk57_0 (l : Launch) (scr B : Nat) (D : va_G) : z_All l scr B D 57 0 z_c57_0 := by
  refine z_All.c (j := 1) rfl (ok_aload_n (n := 0) (by decide +kernel) rfl) ?_
  refine z_All.c (j := 2) rfl (ok_iconst (n := 0) (by decide +kernel) (by decide +kernel)) ?_
  refine z_All.c (j := 3) rfl (ok_put (idx := 30) (by decide +kernel) rfl (by decide) z_i4 z_t4 z_n4 zw73 rfl (by decide +kernel)) ?_
  refine z_All.c (j := 4) rfl ok_bad ?_
  refine z_All.c (j := 5) rfl ok_bad ?_
  refine z_All.c (j := 6) rfl (ok_aload_n (n := 0) (by decide +kernel) rfl) ?_
  refine z_All.c (j := 7) rfl (ok_aload_n (n := 0) (by decide +kernel) rfl) ?_
  refine z_All.c (j := 8) rfl (ok_get (idx := 14) (by decide +kernel) rfl (by decide) z_i4 zw70) ?_
  refine z_All.c (j := 9) rfl ok_bad ?_
  refine z_All.c (j := 10) rfl ok_bad ?_
  refine z_All.c (j := 11) rfl (ok_get (idx := 34) (by decide +kernel) rfl (by decide) z_i5 zw61) ?_
  refine z_All.c (j := 12) rfl ok_bad ?_
  refine z_All.c (j := 13) rfl ok_bad ?_
  refine z_All.c (j := 14) rfl (ok_put (idx := 37) (by decide +kernel) rfl (by decide) z_i4 z_t4 z_n4 zw76 rfl (by decide +kernel)) ?_
  refine z_All.c (j := 15) rfl ok_bad ?_
  refine z_All.c (j := 16) rfl ok_bad ?_
  refine z_All.c (j := 17) rfl (ok_iconst (n := 0) (by decide +kernel) (by decide +kernel)) ?_
  refine z_All.c (j := 18) rfl (ok_istore_n (n := 1) (by decide +kernel) rfl (fun _ => rfl)) ?_
  refine z_All.c (j := 19) rfl (ok_iconst (n := 0) (by decide +kernel) (by decide +kernel)) ?_
  refine z_All.c (j := 20) rfl (ok_istore_n (n := 2) (by decide +kernel) rfl (fun _ => rfl)) ?_
  refine z_All.c (j := 21) rfl (ok_iload_n (n := 2) (by decide +kernel) rfl) ?_
  refine z_All.c (j := 22) rfl (ok_aload_n (n := 0) (by decide +kernel) rfl) ?_
  refine z_All.c (j := 23) rfl (ok_get (idx := 14) (by decide +kernel) rfl (by decide) z_i4 zw70) ?_
  refine z_All.c (j := 24) rfl ok_bad ?_
  refine z_All.c (j := 25) rfl ok_bad ?_
  refine z_All.c (j := 26) rfl (ok_get (idx := 34) (by decide +kernel) rfl (by decide) z_i5 zw61) ?_
  refine z_All.c (j := 27) rfl ok_bad ?_
  refine z_All.c (j := 28) rfl ok_bad ?_
  refine z_All.c (j := 29) rfl (ok_ic_ge (off := 51) (by decide +kernel) (by decide +kernel)) ?_
  refine z_All.c (j := 30) rfl ok_bad ?_
  refine z_All.c (j := 31) rfl ok_bad ?_
  refine z_All.c (j := 32) rfl (ok_aload_n (n := 0) (by decide +kernel) rfl) ?_
  refine z_All.c (j := 33) rfl (ok_get (idx := 14) (by decide +kernel) rfl (by decide) z_i4 zw70) ?_
  refine z_All.c (j := 34) rfl ok_bad ?_
  refine z_All.c (j := 35) rfl ok_bad ?_
  refine z_All.c (j := 36) rfl (ok_iload_n (n := 2) (by decide +kernel) rfl) ?_
  refine z_All.c (j := 37) rfl (ok_cv (idx := 40) (by decide +kernel) rfl zm62 zw405 zw406 zw407) ?_
  refine z_All.c (j := 38) rfl ok_bad ?_
  refine z_All.c (j := 39) rfl ok_bad ?_
  refine z_All.c (j := 40) rfl (ok_bipush (n := 10) (by decide +kernel) (by decide +kernel)) ?_
  refine z_All.c (j := 41) rfl ok_bad ?_
  refine z_All.c (j := 42) rfl (ok_ic_ne (off := 32) (by decide +kernel) (by decide +kernel)) ?_
  refine z_All.c (j := 43) rfl ok_bad ?_
  refine z_All.c (j := 44) rfl ok_bad ?_
  refine z_All.c (j := 45) rfl (ok_iload_n (n := 2) (by decide +kernel) rfl) ?_
  refine z_All.c (j := 46) rfl (ok_iload_n (n := 1) (by decide +kernel) rfl) ?_
  refine z_All.c (j := 47) rfl (ok_ic_ne (off := 12) (by decide +kernel) (by decide +kernel)) ?_
  refine z_All.c (j := 48) rfl ok_bad ?_
  refine z_All.c (j := 49) rfl ok_bad ?_
  refine z_All.c (j := 50) rfl (ok_aload_n (n := 0) (by decide +kernel) rfl) ?_
  refine z_All.c (j := 51) rfl (ok_iload_n (n := 2) (by decide +kernel) rfl) ?_
  refine z_All.c (j := 52) rfl (ok_iconst (n := 1) (by decide +kernel) (by decide +kernel)) ?_
  refine z_All.c (j := 53) rfl (ok_iadd (by decide +kernel)) ?_
  refine z_All.c (j := 54) rfl (ok_put (idx := 37) (by decide +kernel) rfl (by decide) z_i4 z_t4 z_n4 zw76 rfl (by decide +kernel)) ?_
  refine z_All.c (j := 55) rfl ok_bad ?_
  refine z_All.c (j := 56) rfl ok_bad ?_
  refine z_All.c (j := 57) rfl (ok_iconst (n := 1) (by decide +kernel) (by decide +kernel)) ?_
  refine z_All.c (j := 58) rfl (ok_iret (by decide +kernel) rfl) ?_
  refine z_All.c (j := 59) rfl (ok_aload_n (n := 0) (by decide +kernel) rfl) ?_
  refine z_All.c (j := 60) rfl (ok_iload_n (n := 1) (by decide +kernel) rfl) ?_
  refine z_All.c (j := 61) rfl (ok_iload_n (n := 2) (by decide +kernel) rfl) ?_
  refine z_All.c (j := 62) rfl (ok_cv (idx := 44) (by decide +kernel) rfl zm58 zw409 zw411 (z_inP (List.mem_of_getElem? (i := 10) rfl) rfl)) ?_
  refine z_All.c (j := 63) rfl ok_bad ?_
  refine z_All.c (j := 64) rfl ok_bad ?_
  exact trivial
set_option maxRecDepth 20000 in
theorem zk57_1 (l : Launch) (scr B : Nat) (D : va_G) : z_All l scr B D 57 64 z_c57_1 := by
  refine z_All.c (j := 65) rfl (ok_if_ne (off := 5) (by decide +kernel) (by decide +kernel)) ?_
  refine z_All.c (j := 66) rfl ok_bad ?_
  refine z_All.c (j := 67) rfl ok_bad ?_
  refine z_All.c (j := 68) rfl (ok_iconst (n := 0) (by decide +kernel) (by decide +kernel)) ?_
  refine z_All.c (j := 69) rfl (ok_iret (by decide +kernel) rfl) ?_
  refine z_All.c (j := 70) rfl (ok_iload_n (n := 2) (by decide +kernel) rfl) ?_
  refine z_All.c (j := 71) rfl (ok_iconst (n := 1) (by decide +kernel) (by decide +kernel)) ?_
  refine z_All.c (j := 72) rfl (ok_iadd (by decide +kernel)) ?_
  refine z_All.c (j := 73) rfl (ok_istore_n (n := 1) (by decide +kernel) rfl (fun _ => rfl)) ?_
  refine z_All.c (j := 74) rfl (ok_iinc (n := 1) (by decide +kernel) (by decide +kernel)) ?_
  refine z_All.c (j := 75) rfl ok_bad ?_
  refine z_All.c (j := 76) rfl ok_bad ?_
  refine z_All.c (j := 77) rfl (ok_goto (off := -56) (by decide +kernel) (by decide +kernel)) ?_
  refine z_All.c (j := 78) rfl ok_bad ?_
  refine z_All.c (j := 79) rfl ok_bad ?_
  refine z_All.c (j := 80) rfl (ok_iload_n (n := 1) (by decide +kernel) rfl) ?_
  refine z_All.c (j := 81) rfl (ok_aload_n (n := 0) (by decide +kernel) rfl) ?_
  refine z_All.c (j := 82) rfl (ok_get (idx := 14) (by decide +kernel) rfl (by decide) z_i4 zw70) ?_
  refine z_All.c (j := 83) rfl ok_bad ?_
  refine z_All.c (j := 84) rfl ok_bad ?_
  refine z_All.c (j := 85) rfl (ok_get (idx := 34) (by decide +kernel) rfl (by decide) z_i5 zw61) ?_
  refine z_All.c (j := 86) rfl ok_bad ?_
  refine z_All.c (j := 87) rfl ok_bad ?_
  refine z_All.c (j := 88) rfl (ok_ic_eq (off := 18) (by decide +kernel) (by decide +kernel)) ?_
  refine z_All.c (j := 89) rfl ok_bad ?_
  refine z_All.c (j := 90) rfl ok_bad ?_
  refine z_All.c (j := 91) rfl (ok_aload_n (n := 0) (by decide +kernel) rfl) ?_
  refine z_All.c (j := 92) rfl (ok_iload_n (n := 1) (by decide +kernel) rfl) ?_
  refine z_All.c (j := 93) rfl (ok_aload_n (n := 0) (by decide +kernel) rfl) ?_
  refine z_All.c (j := 94) rfl (ok_get (idx := 14) (by decide +kernel) rfl (by decide) z_i4 zw70) ?_
  refine z_All.c (j := 95) rfl ok_bad ?_
  refine z_All.c (j := 96) rfl ok_bad ?_
  refine z_All.c (j := 97) rfl (ok_get (idx := 34) (by decide +kernel) rfl (by decide) z_i5 zw61) ?_
  refine z_All.c (j := 98) rfl ok_bad ?_
  refine z_All.c (j := 99) rfl ok_bad ?_
  refine z_All.c (j := 100) rfl (ok_cv (idx := 44) (by decide +kernel) rfl zm58 zw409 zw411 (z_inP (List.mem_of_getElem? (i := 10) rfl) rfl)) ?_
  refine z_All.c (j := 101) rfl ok_bad ?_
  refine z_All.c (j := 102) rfl ok_bad ?_
  refine z_All.c (j := 103) rfl (ok_if_eq (off := 7) (by decide +kernel) (by decide +kernel)) ?_
  refine z_All.c (j := 104) rfl ok_bad ?_
  refine z_All.c (j := 105) rfl ok_bad ?_
  refine z_All.c (j := 106) rfl (ok_iconst (n := 1) (by decide +kernel) (by decide +kernel)) ?_
  refine z_All.c (j := 107) rfl (ok_goto (off := 4) (by decide +kernel) (by decide +kernel)) ?_
  refine z_All.c (j := 108) rfl ok_bad ?_
  refine z_All.c (j := 109) rfl ok_bad ?_
  refine z_All.c (j := 110) rfl (ok_iconst (n := 0) (by decide +kernel) (by decide +kernel)) ?_
  refine z_All.c (j := 111) rfl (ok_iret (by decide +kernel) rfl) ?_
  exact trivial
set_option maxRecDepth 20000 in
theorem zk58_0 (l : Launch) (scr B : Nat) (D : va_G) : z_All l scr B D 58 0 z_c58_0 := by
  refine z_All.c (j := 1) rfl (ok_aload_n (n := 0) (by decide +kernel) rfl) ?_
  refine z_All.c (j := 2) rfl (ok_get (idx := 14) (by decide +kernel) rfl (by decide) z_i4 zw70) ?_
  refine z_All.c (j := 3) rfl ok_bad ?_
  refine z_All.c (j := 4) rfl ok_bad ?_
  refine z_All.c (j := 5) rfl (ok_iload_n (n := 1) (by decide +kernel) rfl) ?_
  refine z_All.c (j := 6) rfl (ok_cv (idx := 40) (by decide +kernel) rfl zm62 zw405 zw406 zw407) ?_
  refine z_All.c (j := 7) rfl ok_bad ?_
  refine z_All.c (j := 8) rfl ok_bad ?_
  refine z_All.c (j := 9) rfl (ok_bipush (n := 32) (by decide +kernel) (by decide +kernel)) ?_
  refine z_All.c (j := 10) rfl ok_bad ?_
  refine z_All.c (j := 11) rfl (ok_ic_eq (off := 10) (by decide +kernel) (by decide +kernel)) ?_
  refine z_All.c (j := 12) rfl ok_bad ?_
  refine z_All.c (j := 13) rfl ok_bad ?_
  refine z_All.c (j := 14) rfl (ok_aload_n (n := 0) (by decide +kernel) rfl) ?_
  refine z_All.c (j := 15) rfl (ok_iload_n (n := 1) (by decide +kernel) rfl) ?_
  refine z_All.c (j := 16) rfl (ok_iload_n (n := 2) (by decide +kernel) rfl) ?_
  refine z_All.c (j := 17) rfl (ok_cv (idx := 48) (by decide +kernel) rfl zm59 zw413 zw415 (z_inP (List.mem_of_getElem? (i := 11) rfl) rfl)) ?_
  refine z_All.c (j := 18) rfl ok_bad ?_
  refine z_All.c (j := 19) rfl ok_bad ?_
  refine z_All.c (j := 20) rfl (ok_iret (by decide +kernel) rfl) ?_
  refine z_All.c (j := 21) rfl (ok_aload_n (n := 0) (by decide +kernel) rfl) ?_
  refine z_All.c (j := 22) rfl (ok_get (idx := 30) (by decide +kernel) rfl (by decide) z_i4 zw73) ?_
  refine z_All.c (j := 23) rfl ok_bad ?_
  refine z_All.c (j := 24) rfl ok_bad ?_
  refine z_All.c (j := 25) rfl (ok_if_ne (off := 5) (by decide +kernel) (by decide +kernel)) ?_
  refine z_All.c (j := 26) rfl ok_bad ?_
  refine z_All.c (j := 27) rfl ok_bad ?_
  refine z_All.c (j := 28) rfl (ok_iconst (n := 0) (by decide +kernel) (by decide +kernel)) ?_
  refine z_All.c (j := 29) rfl (ok_iret (by decide +kernel) rfl) ?_
  refine z_All.c (j := 30) rfl (ok_aload_n (n := 0) (by decide +kernel) rfl) ?_
  refine z_All.c (j := 31) rfl (ok_get (idx := 27) (by decide +kernel) rfl (by decide) z_i4 zw82) ?_
  refine z_All.c (j := 32) rfl ok_bad ?_
  refine z_All.c (j := 33) rfl ok_bad ?_
  refine z_All.c (j := 34) rfl (ok_aload_n (n := 0) (by decide +kernel) rfl) ?_
  refine z_All.c (j := 35) rfl (ok_get (idx := 30) (by decide +kernel) rfl (by decide) z_i4 zw73) ?_
  refine z_All.c (j := 36) rfl ok_bad ?_
  refine z_All.c (j := 37) rfl ok_bad ?_
  refine z_All.c (j := 38) rfl (ok_iconst (n := 1) (by decide +kernel) (by decide +kernel)) ?_
  refine z_All.c (j := 39) rfl (ok_isub (by decide +kernel)) ?_
  refine z_All.c (j := 40) rfl (ok_iload_n (n := 2) (by decide +kernel) rfl) ?_
  refine z_All.c (j := 41) rfl (ok_iast (by decide +kernel)) ?_
  refine z_All.c (j := 42) rfl (ok_iconst (n := 1) (by decide +kernel) (by decide +kernel)) ?_
  refine z_All.c (j := 43) rfl (ok_iret (by decide +kernel) rfl) ?_
  exact trivial
set_option maxRecDepth 20000 in
theorem zk59_0 (l : Launch) (scr B : Nat) (D : va_G) : z_All l scr B D 59 0 z_c59_0 := by
  refine z_All.c (j := 1) rfl (ok_iload_n (n := 1) (by decide +kernel) rfl) ?_
  refine z_All.c (j := 2) rfl (ok_istore_n (n := 3) (by decide +kernel) rfl (fun _ => rfl)) ?_
  refine z_All.c (j := 3) rfl (ok_iload_n (n := 3) (by decide +kernel) rfl) ?_
  refine z_All.c (j := 4) rfl (ok_iload_n (n := 2) (by decide +kernel) rfl) ?_
  refine z_All.c (j := 5) rfl (ok_ic_ge (off := 23) (by decide +kernel) (by decide +kernel)) ?_
  refine z_All.c (j := 6) rfl ok_bad ?_
  refine z_All.c (j := 7) rfl ok_bad ?_
  refine z_All.c (j := 8) rfl (ok_aload_n (n := 0) (by decide +kernel) rfl) ?_
  refine z_All.c (j := 9) rfl (ok_get (idx := 14) (by decide +kernel) rfl (by decide) z_i4 zw70) ?_
  refine z_All.c (j := 10) rfl ok_bad ?_
  refine z_All.c (j := 11) rfl ok_bad ?_
  refine z_All.c (j := 12) rfl (ok_iload_n (n := 3) (by decide +kernel) rfl) ?_
  refine z_All.c (j := 13) rfl (ok_cv (idx := 40) (by decide +kernel) rfl zm62 zw405 zw406 zw407) ?_
  refine z_All.c (j := 14) rfl ok_bad ?_
  refine z_All.c (j := 15) rfl ok_bad ?_
  refine z_All.c (j := 16) rfl (ok_csN (idx := 51) (by decide +kernel) zm25 zw417 zw387) ?_
  refine z_All.c (j := 17) rfl ok_bad ?_
  refine z_All.c (j := 18) rfl ok_bad ?_
  refine z_All.c (j := 19) rfl (ok_if_eq (off := 9) (by decide +kernel) (by decide +kernel)) ?_
  refine z_All.c (j := 20) rfl ok_bad ?_
  refine z_All.c (j := 21) rfl ok_bad ?_
  refine z_All.c (j := 22) rfl (ok_iinc (n := 1) (by decide +kernel) (by decide +kernel)) ?_
  refine z_All.c (j := 23) rfl ok_bad ?_
  refine z_All.c (j := 24) rfl ok_bad ?_
  refine z_All.c (j := 25) rfl (ok_goto (off := -22) (by decide +kernel) (by decide +kernel)) ?_
  refine z_All.c (j := 26) rfl ok_bad ?_
  refine z_All.c (j := 27) rfl ok_bad ?_
  refine z_All.c (j := 28) rfl (ok_iload_n (n := 3) (by decide +kernel) rfl) ?_
  refine z_All.c (j := 29) rfl (ok_iload_n (n := 1) (by decide +kernel) rfl) ?_
  refine z_All.c (j := 30) rfl (ok_ic_le (off := 25) (by decide +kernel) (by decide +kernel)) ?_
  refine z_All.c (j := 31) rfl ok_bad ?_
  refine z_All.c (j := 32) rfl ok_bad ?_
  refine z_All.c (j := 33) rfl (ok_iload_n (n := 3) (by decide +kernel) rfl) ?_
  refine z_All.c (j := 34) rfl (ok_iload_n (n := 2) (by decide +kernel) rfl) ?_
  refine z_All.c (j := 35) rfl (ok_ic_ge (off := 20) (by decide +kernel) (by decide +kernel)) ?_
  refine z_All.c (j := 36) rfl ok_bad ?_
  refine z_All.c (j := 37) rfl ok_bad ?_
  refine z_All.c (j := 38) rfl (ok_aload_n (n := 0) (by decide +kernel) rfl) ?_
  refine z_All.c (j := 39) rfl (ok_get (idx := 14) (by decide +kernel) rfl (by decide) z_i4 zw70) ?_
  refine z_All.c (j := 40) rfl ok_bad ?_
  refine z_All.c (j := 41) rfl ok_bad ?_
  refine z_All.c (j := 42) rfl (ok_iload_n (n := 3) (by decide +kernel) rfl) ?_
  refine z_All.c (j := 43) rfl (ok_cv (idx := 40) (by decide +kernel) rfl zm62 zw405 zw406 zw407) ?_
  refine z_All.c (j := 44) rfl ok_bad ?_
  refine z_All.c (j := 45) rfl ok_bad ?_
  refine z_All.c (j := 46) rfl (ok_bipush (n := 58) (by decide +kernel) (by decide +kernel)) ?_
  refine z_All.c (j := 47) rfl ok_bad ?_
  refine z_All.c (j := 48) rfl (ok_ic_ne (off := 7) (by decide +kernel) (by decide +kernel)) ?_
  refine z_All.c (j := 49) rfl ok_bad ?_
  refine z_All.c (j := 50) rfl ok_bad ?_
  refine z_All.c (j := 51) rfl (ok_iconst (n := 1) (by decide +kernel) (by decide +kernel)) ?_
  refine z_All.c (j := 52) rfl (ok_goto (off := 4) (by decide +kernel) (by decide +kernel)) ?_
  refine z_All.c (j := 53) rfl ok_bad ?_
  refine z_All.c (j := 54) rfl ok_bad ?_
  refine z_All.c (j := 55) rfl (ok_iconst (n := 0) (by decide +kernel) (by decide +kernel)) ?_
  refine z_All.c (j := 56) rfl (ok_istore (by decide +kernel) (fun _ => rfl)) ?_
  refine z_All.c (j := 57) rfl ok_bad ?_
  refine z_All.c (j := 58) rfl (ok_iload (by decide +kernel)) ?_
  refine z_All.c (j := 59) rfl ok_bad ?_
  refine z_All.c (j := 60) rfl (ok_if_eq (off := 12) (by decide +kernel) (by decide +kernel)) ?_
  refine z_All.c (j := 61) rfl ok_bad ?_
  refine z_All.c (j := 62) rfl ok_bad ?_
  refine z_All.c (j := 63) rfl (ok_aload_n (n := 0) (by decide +kernel) rfl) ?_
  refine z_All.c (j := 64) rfl (ok_get (idx := 30) (by decide +kernel) rfl (by decide) z_i4 zw73) ?_
  exact trivial
set_option maxRecDepth 20000 in
theorem zk59_1 (l : Launch) (scr B : Nat) (D : va_G) : z_All l scr B D 59 64 z_c59_1 := by
  refine z_All.c (j := 65) rfl ok_bad ?_
  refine z_All.c (j := 66) rfl ok_bad ?_
  refine z_All.c (j := 67) rfl (ok_bipush (n := 12) (by decide +kernel) (by decide +kernel)) ?_
  refine z_All.c (j := 68) rfl ok_bad ?_
  refine z_All.c (j := 69) rfl (ok_ic_ne (off := 5) (by decide +kernel) (by decide +kernel)) ?_
  refine z_All.c (j := 70) rfl ok_bad ?_
  refine z_All.c (j := 71) rfl ok_bad ?_
  refine z_All.c (j := 72) rfl (ok_iconst (n := 0) (by decide +kernel) (by decide +kernel)) ?_
  refine z_All.c (j := 73) rfl (ok_iret (by decide +kernel) rfl) ?_
  refine z_All.c (j := 74) rfl (ok_aload_n (n := 0) (by decide +kernel) rfl) ?_
  refine z_All.c (j := 75) rfl (ok_get (idx := 20) (by decide +kernel) rfl (by decide) z_i4 zw78) ?_
  refine z_All.c (j := 76) rfl ok_bad ?_
  refine z_All.c (j := 77) rfl ok_bad ?_
  refine z_All.c (j := 78) rfl (ok_aload_n (n := 0) (by decide +kernel) rfl) ?_
  refine z_All.c (j := 79) rfl (ok_get (idx := 30) (by decide +kernel) rfl (by decide) z_i4 zw73) ?_
  refine z_All.c (j := 80) rfl ok_bad ?_
  refine z_All.c (j := 81) rfl ok_bad ?_
  refine z_All.c (j := 82) rfl (ok_iload_n (n := 1) (by decide +kernel) rfl) ?_
  refine z_All.c (j := 83) rfl (ok_iast (by decide +kernel)) ?_
  refine z_All.c (j := 84) rfl (ok_aload_n (n := 0) (by decide +kernel) rfl) ?_
  refine z_All.c (j := 85) rfl (ok_get (idx := 24) (by decide +kernel) rfl (by decide) z_i4 zw80) ?_
  refine z_All.c (j := 86) rfl ok_bad ?_
  refine z_All.c (j := 87) rfl ok_bad ?_
  refine z_All.c (j := 88) rfl (ok_aload_n (n := 0) (by decide +kernel) rfl) ?_
  refine z_All.c (j := 89) rfl (ok_get (idx := 30) (by decide +kernel) rfl (by decide) z_i4 zw73) ?_
  refine z_All.c (j := 90) rfl ok_bad ?_
  refine z_All.c (j := 91) rfl ok_bad ?_
  refine z_All.c (j := 92) rfl (ok_iload_n (n := 3) (by decide +kernel) rfl) ?_
  refine z_All.c (j := 93) rfl (ok_iast (by decide +kernel)) ?_
  refine z_All.c (j := 94) rfl (ok_aload_n (n := 0) (by decide +kernel) rfl) ?_
  refine z_All.c (j := 95) rfl (ok_get (idx := 27) (by decide +kernel) rfl (by decide) z_i4 zw82) ?_
  refine z_All.c (j := 96) rfl ok_bad ?_
  refine z_All.c (j := 97) rfl ok_bad ?_
  refine z_All.c (j := 98) rfl (ok_aload_n (n := 0) (by decide +kernel) rfl) ?_
  refine z_All.c (j := 99) rfl (ok_get (idx := 30) (by decide +kernel) rfl (by decide) z_i4 zw73) ?_
  refine z_All.c (j := 100) rfl ok_bad ?_
  refine z_All.c (j := 101) rfl ok_bad ?_
  refine z_All.c (j := 102) rfl (ok_iload_n (n := 2) (by decide +kernel) rfl) ?_
  refine z_All.c (j := 103) rfl (ok_iast (by decide +kernel)) ?_
  refine z_All.c (j := 104) rfl (ok_aload_n (n := 0) (by decide +kernel) rfl) ?_
  refine z_All.c (j := 105) rfl (ok_dup (by decide +kernel)) ?_
  refine z_All.c (j := 106) rfl (ok_get (idx := 30) (by decide +kernel) rfl (by decide) z_i4 zw73) ?_
  refine z_All.c (j := 107) rfl ok_bad ?_
  refine z_All.c (j := 108) rfl ok_bad ?_
  refine z_All.c (j := 109) rfl (ok_iconst (n := 1) (by decide +kernel) (by decide +kernel)) ?_
  refine z_All.c (j := 110) rfl (ok_iadd (by decide +kernel)) ?_
  refine z_All.c (j := 111) rfl (ok_put (idx := 30) (by decide +kernel) rfl (by decide) z_i4 z_t4 z_n4 zw73 rfl (by decide +kernel)) ?_
  refine z_All.c (j := 112) rfl ok_bad ?_
  refine z_All.c (j := 113) rfl ok_bad ?_
  refine z_All.c (j := 114) rfl (ok_iconst (n := 1) (by decide +kernel) (by decide +kernel)) ?_
  refine z_All.c (j := 115) rfl (ok_iret (by decide +kernel) rfl) ?_
  exact trivial
set_option maxRecDepth 20000 in
theorem zk60_0 (l : Launch) (scr B : Nat) (D : va_G) : z_All l scr B D 60 0 z_c60_0 := by
  refine z_All.c (j := 1) rfl (ok_aload_n (n := 0) (by decide +kernel) rfl) ?_
  refine z_All.c (j := 2) rfl (ok_obj (idx := 1) (by decide +kernel) zw58 zw19 zw20) ?_
  refine z_All.c (j := 3) rfl ok_bad ?_
  refine z_All.c (j := 4) rfl ok_bad ?_
  refine z_All.c (j := 5) rfl (ok_aload_n (n := 0) (by decide +kernel) rfl) ?_
  refine z_All.c (j := 6) rfl (ok_iload_n (n := 1) (by decide +kernel) rfl) ?_
  refine z_All.c (j := 7) rfl (ok_newa (aty := .char) (by decide +kernel) rfl zw69 rfl (by decide +kernel) (by intro z; cases z)) ?_
  refine z_All.c (j := 8) rfl ok_bad ?_
  refine z_All.c (j := 9) rfl (ok_putF (idx := 7) (by decide +kernel) rfl (by decide) z_i5 z_t5 z_n5 zw59 rfl rfl rfl (by decide +kernel)) ?_
  refine z_All.c (j := 10) rfl ok_bad ?_
  refine z_All.c (j := 11) rfl ok_bad ?_
  refine z_All.c (j := 12) rfl (ok_vret (by decide +kernel) rfl) ?_
  exact trivial
set_option maxRecDepth 20000 in
theorem zk61_0 (l : Launch) (scr B : Nat) (D : va_G) : z_All l scr B D 61 0 z_c61_0 := by
  refine z_All.c (j := 1) rfl (ok_aload_n (n := 0) (by decide +kernel) rfl) ?_
  refine z_All.c (j := 2) rfl (ok_get (idx := 13) (by decide +kernel) rfl (by decide) z_i5 zw60) ?_
  refine z_All.c (j := 3) rfl ok_bad ?_
  refine z_All.c (j := 4) rfl ok_bad ?_
  refine z_All.c (j := 5) rfl (ok_aload_n (n := 0) (by decide +kernel) rfl) ?_
  refine z_All.c (j := 6) rfl (ok_get (idx := 7) (by decide +kernel) rfl (by decide) z_i5 zw59) ?_
  refine z_All.c (j := 7) rfl ok_bad ?_
  refine z_All.c (j := 8) rfl ok_bad ?_
  refine z_All.c (j := 9) rfl (ok_alen (by decide +kernel)) ?_
  refine z_All.c (j := 10) rfl (ok_ic_ne (off := 5) (by decide +kernel) (by decide +kernel)) ?_
  refine z_All.c (j := 11) rfl ok_bad ?_
  refine z_All.c (j := 12) rfl ok_bad ?_
  refine z_All.c (j := 13) rfl (ok_iconst (n := 0) (by decide +kernel) (by decide +kernel)) ?_
  refine z_All.c (j := 14) rfl (ok_iret (by decide +kernel) rfl) ?_
  refine z_All.c (j := 15) rfl (ok_aload_n (n := 0) (by decide +kernel) rfl) ?_
  refine z_All.c (j := 16) rfl (ok_get (idx := 7) (by decide +kernel) rfl (by decide) z_i5 zw59) ?_
  refine z_All.c (j := 17) rfl ok_bad ?_
  refine z_All.c (j := 18) rfl ok_bad ?_
  refine z_All.c (j := 19) rfl (ok_aload_n (n := 0) (by decide +kernel) rfl) ?_
  refine z_All.c (j := 20) rfl (ok_get (idx := 13) (by decide +kernel) rfl (by decide) z_i5 zw60) ?_
  refine z_All.c (j := 21) rfl ok_bad ?_
  refine z_All.c (j := 22) rfl ok_bad ?_
  refine z_All.c (j := 23) rfl (ok_iload_n (n := 1) (by decide +kernel) rfl) ?_
  refine z_All.c (j := 24) rfl (ok_i2c (by decide +kernel)) ?_
  refine z_All.c (j := 25) rfl (ok_cast (by decide +kernel)) ?_
  refine z_All.c (j := 26) rfl (ok_aload_n (n := 0) (by decide +kernel) rfl) ?_
  refine z_All.c (j := 27) rfl (ok_dup (by decide +kernel)) ?_
  refine z_All.c (j := 28) rfl (ok_get (idx := 13) (by decide +kernel) rfl (by decide) z_i5 zw60) ?_
  refine z_All.c (j := 29) rfl ok_bad ?_
  refine z_All.c (j := 30) rfl ok_bad ?_
  refine z_All.c (j := 31) rfl (ok_iconst (n := 1) (by decide +kernel) (by decide +kernel)) ?_
  refine z_All.c (j := 32) rfl (ok_iadd (by decide +kernel)) ?_
  refine z_All.c (j := 33) rfl (ok_put (idx := 13) (by decide +kernel) rfl (by decide) z_i5 z_t5 z_n5 zw60 rfl (by decide +kernel)) ?_
  refine z_All.c (j := 34) rfl ok_bad ?_
  refine z_All.c (j := 35) rfl ok_bad ?_
  refine z_All.c (j := 36) rfl (ok_iconst (n := 1) (by decide +kernel) (by decide +kernel)) ?_
  refine z_All.c (j := 37) rfl (ok_iret (by decide +kernel) rfl) ?_
  exact trivial
set_option maxRecDepth 20000 in
theorem zk62_0 (l : Launch) (scr B : Nat) (D : va_G) : z_All l scr B D 62 0 z_c62_0 := by
  refine z_All.c (j := 1) rfl (ok_iload_n (n := 1) (by decide +kernel) rfl) ?_
  refine z_All.c (j := 2) rfl (ok_if_lt (off := 20) (by decide +kernel) (by decide +kernel)) ?_
  refine z_All.c (j := 3) rfl ok_bad ?_
  refine z_All.c (j := 4) rfl ok_bad ?_
  refine z_All.c (j := 5) rfl (ok_iload_n (n := 1) (by decide +kernel) rfl) ?_
  refine z_All.c (j := 6) rfl (ok_aload_n (n := 0) (by decide +kernel) rfl) ?_
  refine z_All.c (j := 7) rfl (ok_get (idx := 13) (by decide +kernel) rfl (by decide) z_i5 zw60) ?_
  refine z_All.c (j := 8) rfl ok_bad ?_
  refine z_All.c (j := 9) rfl ok_bad ?_
  refine z_All.c (j := 10) rfl (ok_ic_ge (off := 12) (by decide +kernel) (by decide +kernel)) ?_
  refine z_All.c (j := 11) rfl ok_bad ?_
  refine z_All.c (j := 12) rfl ok_bad ?_
  refine z_All.c (j := 13) rfl (ok_aload_n (n := 0) (by decide +kernel) rfl) ?_
  refine z_All.c (j := 14) rfl (ok_get (idx := 7) (by decide +kernel) rfl (by decide) z_i5 zw59) ?_
  refine z_All.c (j := 15) rfl ok_bad ?_
  refine z_All.c (j := 16) rfl ok_bad ?_
  refine z_All.c (j := 17) rfl (ok_iload_n (n := 1) (by decide +kernel) rfl) ?_
  refine z_All.c (j := 18) rfl (ok_cald (by decide +kernel)) ?_
  refine z_All.c (j := 19) rfl (ok_goto (off := 4) (by decide +kernel) (by decide +kernel)) ?_
  refine z_All.c (j := 20) rfl ok_bad ?_
  refine z_All.c (j := 21) rfl ok_bad ?_
  refine z_All.c (j := 22) rfl (ok_iconst (n := -1) (by decide +kernel) (by decide +kernel)) ?_
  refine z_All.c (j := 23) rfl (ok_iret (by decide +kernel) rfl) ?_
  exact trivial
set_option maxRecDepth 20000 in
theorem zk63_0 (l : Launch) (scr B : Nat) (D : va_G) : z_All l scr B D 63 0 z_c63_0 := by
  refine z_All.c (j := 1) rfl (ok_iload_n (n := 1) (by decide +kernel) rfl) ?_
  refine z_All.c (j := 2) rfl (ok_if_lt (off := 16) (by decide +kernel) (by decide +kernel)) ?_
  refine z_All.c (j := 3) rfl ok_bad ?_
  refine z_All.c (j := 4) rfl ok_bad ?_
  refine z_All.c (j := 5) rfl (ok_iload_n (n := 1) (by decide +kernel) rfl) ?_
  refine z_All.c (j := 6) rfl (ok_aload_n (n := 0) (by decide +kernel) rfl) ?_
  refine z_All.c (j := 7) rfl (ok_get (idx := 13) (by decide +kernel) rfl (by decide) z_i5 zw60) ?_
  refine z_All.c (j := 8) rfl ok_bad ?_
  refine z_All.c (j := 9) rfl ok_bad ?_
  refine z_All.c (j := 10) rfl (ok_ic_ge (off := 8) (by decide +kernel) (by decide +kernel)) ?_
  refine z_All.c (j := 11) rfl ok_bad ?_
  refine z_All.c (j := 12) rfl ok_bad ?_
  refine z_All.c (j := 13) rfl (ok_aload_n (n := 0) (by decide +kernel) rfl) ?_
  refine z_All.c (j := 14) rfl (ok_iload_n (n := 1) (by decide +kernel) rfl) ?_
  refine z_All.c (j := 15) rfl (ok_put (idx := 13) (by decide +kernel) rfl (by decide) z_i5 z_t5 z_n5 zw60 rfl (by decide +kernel)) ?_
  refine z_All.c (j := 16) rfl ok_bad ?_
  refine z_All.c (j := 17) rfl ok_bad ?_
  refine z_All.c (j := 18) rfl (ok_vret (by decide +kernel) rfl) ?_
  exact trivial
set_option maxRecDepth 20000 in
theorem zk64_0 (l : Launch) (scr B : Nat) (D : va_G) : z_All l scr B D 64 0 z_c64_0 := by
  refine z_All.c (j := 1) rfl (ok_lconst (n := 0) (by decide +kernel) (by decide +kernel)) ?_
  refine z_All.c (j := 2) rfl (ok_lstore_n (n := 1) (by decide +kernel) rfl rfl) ?_
  refine z_All.c (j := 3) rfl (ok_iconst (n := 0) (by decide +kernel) (by decide +kernel)) ?_
  refine z_All.c (j := 4) rfl (ok_istore_n (n := 3) (by decide +kernel) rfl (fun z => (by cases z))) ?_
  refine z_All.c (j := 5) rfl (ok_iload_n (n := 3) (by decide +kernel) rfl) ?_
  refine z_All.c (j := 6) rfl (ok_aload_n (n := 0) (by decide +kernel) rfl) ?_
  refine z_All.c (j := 7) rfl (ok_get (idx := 13) (by decide +kernel) rfl (by decide) z_i5 zw60) ?_
  refine z_All.c (j := 8) rfl ok_bad ?_
  refine z_All.c (j := 9) rfl ok_bad ?_
  refine z_All.c (j := 10) rfl (ok_ic_ge (off := 29) (by decide +kernel) (by decide +kernel)) ?_
  refine z_All.c (j := 11) rfl ok_bad ?_
  refine z_All.c (j := 12) rfl ok_bad ?_
  refine z_All.c (j := 13) rfl (ok_ldc2 (idx := 17) (by decide +kernel) zw478) ?_
  refine z_All.c (j := 14) rfl ok_bad ?_
  refine z_All.c (j := 15) rfl ok_bad ?_
  refine z_All.c (j := 16) rfl (ok_lload_n (n := 1) (by decide +kernel) rfl) ?_
  refine z_All.c (j := 17) rfl (ok_lmul (by decide +kernel)) ?_
  refine z_All.c (j := 18) rfl (ok_aload_n (n := 0) (by decide +kernel) rfl) ?_
  refine z_All.c (j := 19) rfl (ok_get (idx := 7) (by decide +kernel) rfl (by decide) z_i5 zw59) ?_
  refine z_All.c (j := 20) rfl ok_bad ?_
  refine z_All.c (j := 21) rfl ok_bad ?_
  refine z_All.c (j := 22) rfl (ok_iload_n (n := 3) (by decide +kernel) rfl) ?_
  refine z_All.c (j := 23) rfl (ok_cald (by decide +kernel)) ?_
  refine z_All.c (j := 24) rfl (ok_i2l (by decide +kernel)) ?_
  refine z_All.c (j := 25) rfl (ok_ladd (by decide +kernel)) ?_
  refine z_All.c (j := 26) rfl (ok_lconst (n := 1) (by decide +kernel) (by decide +kernel)) ?_
  refine z_All.c (j := 27) rfl (ok_ladd (by decide +kernel)) ?_
  refine z_All.c (j := 28) rfl (ok_ldc2 (idx := 19) (by decide +kernel) zw479) ?_
  refine z_All.c (j := 29) rfl ok_bad ?_
  refine z_All.c (j := 30) rfl ok_bad ?_
  refine z_All.c (j := 31) rfl (ok_lrem (by decide +kernel)) ?_
  refine z_All.c (j := 32) rfl (ok_lstore_n (n := 1) (by decide +kernel) rfl rfl) ?_
  refine z_All.c (j := 33) rfl (ok_iinc (n := 1) (by decide +kernel) (by decide +kernel)) ?_
  refine z_All.c (j := 34) rfl ok_bad ?_
  refine z_All.c (j := 35) rfl ok_bad ?_
  refine z_All.c (j := 36) rfl (ok_goto (off := -31) (by decide +kernel) (by decide +kernel)) ?_
  refine z_All.c (j := 37) rfl ok_bad ?_
  refine z_All.c (j := 38) rfl ok_bad ?_
  refine z_All.c (j := 39) rfl (ok_lload_n (n := 1) (by decide +kernel) rfl) ?_
  refine z_All.c (j := 40) rfl (ok_l2i (by decide +kernel)) ?_
  refine z_All.c (j := 41) rfl (ok_iret (by decide +kernel) rfl) ?_
  exact trivial
set_option maxRecDepth 20000 in
theorem zk65_0 (l : Launch) (scr B : Nat) (D : va_G) : z_All l scr B D 65 0 z_c65_0 := by
  refine z_All.c (j := 1) rfl (ok_aload_n (n := 0) (by decide +kernel) rfl) ?_
  refine z_All.c (j := 2) rfl (ok_obj (idx := 1) (by decide +kernel) zw488 zw19 zw20) ?_
  refine z_All.c (j := 3) rfl ok_bad ?_
  refine z_All.c (j := 4) rfl ok_bad ?_
  refine z_All.c (j := 5) rfl (ok_aload_n (n := 0) (by decide +kernel) rfl) ?_
  refine z_All.c (j := 6) rfl (ok_aload_n (n := 1) (by decide +kernel) rfl) ?_
  refine z_All.c (j := 7) rfl (ok_putF (idx := 7) (by decide +kernel) rfl (by decide) z_i6 z_t6 z_n6 zw489 rfl rfl rfl (by decide +kernel)) ?_
  refine z_All.c (j := 8) rfl ok_bad ?_
  refine z_All.c (j := 9) rfl ok_bad ?_
  refine z_All.c (j := 10) rfl (ok_aload_n (n := 0) (by decide +kernel) rfl) ?_
  refine z_All.c (j := 11) rfl (ok_iload_n (n := 2) (by decide +kernel) rfl) ?_
  refine z_All.c (j := 12) rfl (ok_putF (idx := 13) (by decide +kernel) rfl (by decide) z_i6 z_t6 z_n6 zw491 rfl rfl rfl (by decide +kernel)) ?_
  refine z_All.c (j := 13) rfl ok_bad ?_
  refine z_All.c (j := 14) rfl ok_bad ?_
  refine z_All.c (j := 15) rfl (ok_aload_n (n := 0) (by decide +kernel) rfl) ?_
  refine z_All.c (j := 16) rfl (ok_iload_n (n := 3) (by decide +kernel) rfl) ?_
  refine z_All.c (j := 17) rfl (ok_putF (idx := 17) (by decide +kernel) rfl (by decide) z_i6 z_t6 z_n6 zw493 rfl rfl rfl (by decide +kernel)) ?_
  refine z_All.c (j := 18) rfl ok_bad ?_
  refine z_All.c (j := 19) rfl ok_bad ?_
  refine z_All.c (j := 20) rfl (ok_aload_n (n := 0) (by decide +kernel) rfl) ?_
  refine z_All.c (j := 21) rfl (ok_iload (by decide +kernel)) ?_
  refine z_All.c (j := 22) rfl ok_bad ?_
  refine z_All.c (j := 23) rfl (ok_putF (idx := 20) (by decide +kernel) rfl (by decide) z_i6 z_t6 z_n6 zw495 rfl rfl rfl (by decide +kernel)) ?_
  refine z_All.c (j := 24) rfl ok_bad ?_
  refine z_All.c (j := 25) rfl ok_bad ?_
  refine z_All.c (j := 26) rfl (ok_vret (by decide +kernel) rfl) ?_
  exact trivial
set_option maxRecDepth 20000 in
theorem zk66_0 (l : Launch) (scr B : Nat) (D : va_G) : z_All l scr B D 66 0 z_c66_0 := by
  refine z_All.c (j := 1) rfl (ok_aload_n (n := 0) (by decide +kernel) rfl) ?_
  refine z_All.c (j := 2) rfl (ok_obj (idx := 1) (by decide +kernel) zw247 zw19 zw20) ?_
  refine z_All.c (j := 3) rfl ok_bad ?_
  refine z_All.c (j := 4) rfl ok_bad ?_
  refine z_All.c (j := 5) rfl (ok_aload_n (n := 0) (by decide +kernel) rfl) ?_
  refine z_All.c (j := 6) rfl (ok_iload_n (n := 1) (by decide +kernel) rfl) ?_
  refine z_All.c (j := 7) rfl (ok_putF (idx := 7) (by decide +kernel) rfl (by decide) z_i7 z_t7 z_n7 zw248 rfl rfl rfl (by decide +kernel)) ?_
  refine z_All.c (j := 8) rfl ok_bad ?_
  refine z_All.c (j := 9) rfl ok_bad ?_
  refine z_All.c (j := 10) rfl (ok_aload_n (n := 0) (by decide +kernel) rfl) ?_
  refine z_All.c (j := 11) rfl (ok_iload_n (n := 2) (by decide +kernel) rfl) ?_
  refine z_All.c (j := 12) rfl (ok_putF (idx := 13) (by decide +kernel) rfl (by decide) z_i7 z_t7 z_n7 zw250 rfl rfl rfl (by decide +kernel)) ?_
  refine z_All.c (j := 13) rfl ok_bad ?_
  refine z_All.c (j := 14) rfl ok_bad ?_
  refine z_All.c (j := 15) rfl (ok_aload_n (n := 0) (by decide +kernel) rfl) ?_
  refine z_All.c (j := 16) rfl (ok_iload_n (n := 3) (by decide +kernel) rfl) ?_
  refine z_All.c (j := 17) rfl (ok_putF (idx := 16) (by decide +kernel) rfl (by decide) z_i7 z_t7 z_n7 zw252 rfl rfl rfl (by decide +kernel)) ?_
  refine z_All.c (j := 18) rfl ok_bad ?_
  refine z_All.c (j := 19) rfl ok_bad ?_
  refine z_All.c (j := 20) rfl (ok_aload_n (n := 0) (by decide +kernel) rfl) ?_
  refine z_All.c (j := 21) rfl (ok_aload (by decide +kernel)) ?_
  refine z_All.c (j := 22) rfl ok_bad ?_
  refine z_All.c (j := 23) rfl (ok_putF (idx := 19) (by decide +kernel) rfl (by decide) z_i7 z_t7 z_n7 zw254 rfl rfl rfl (by decide +kernel)) ?_
  refine z_All.c (j := 24) rfl ok_bad ?_
  refine z_All.c (j := 25) rfl ok_bad ?_
  refine z_All.c (j := 26) rfl (ok_aload_n (n := 0) (by decide +kernel) rfl) ?_
  refine z_All.c (j := 27) rfl (ok_iload (by decide +kernel)) ?_
  refine z_All.c (j := 28) rfl ok_bad ?_
  refine z_All.c (j := 29) rfl (ok_putF (idx := 23) (by decide +kernel) rfl (by decide) z_i7 z_t7 z_n7 zw256 rfl rfl rfl (by decide +kernel)) ?_
  refine z_All.c (j := 30) rfl ok_bad ?_
  refine z_All.c (j := 31) rfl ok_bad ?_
  refine z_All.c (j := 32) rfl (ok_vret (by decide +kernel) rfl) ?_
  exact trivial
set_option maxRecDepth 20000 in
theorem zk67_0 (l : Launch) (scr B : Nat) (D : va_G) : z_All l scr B D 67 0 z_c67_0 := by
  refine z_All.c (j := 1) rfl (ok_aload_n (n := 0) (by decide +kernel) rfl) ?_
  refine z_All.c (j := 2) rfl (ok_obj (idx := 1) (by decide +kernel) zw283 zw19 zw20) ?_
  refine z_All.c (j := 3) rfl ok_bad ?_
  refine z_All.c (j := 4) rfl ok_bad ?_
  refine z_All.c (j := 5) rfl (ok_aload_n (n := 0) (by decide +kernel) rfl) ?_
  refine z_All.c (j := 6) rfl (ok_iload_n (n := 1) (by decide +kernel) rfl) ?_
  refine z_All.c (j := 7) rfl (ok_putF (idx := 7) (by decide +kernel) rfl (by decide) z_i8 z_t8 z_n8 zw284 rfl rfl rfl (by decide +kernel)) ?_
  refine z_All.c (j := 8) rfl ok_bad ?_
  refine z_All.c (j := 9) rfl ok_bad ?_
  refine z_All.c (j := 10) rfl (ok_aload_n (n := 0) (by decide +kernel) rfl) ?_
  refine z_All.c (j := 11) rfl (ok_iload_n (n := 2) (by decide +kernel) rfl) ?_
  refine z_All.c (j := 12) rfl (ok_putF (idx := 13) (by decide +kernel) rfl (by decide) z_i8 z_t8 z_n8 zw285 rfl rfl rfl (by decide +kernel)) ?_
  refine z_All.c (j := 13) rfl ok_bad ?_
  refine z_All.c (j := 14) rfl ok_bad ?_
  refine z_All.c (j := 15) rfl (ok_vret (by decide +kernel) rfl) ?_
  exact trivial
set_option maxRecDepth 20000 in
theorem zk68_0 (l : Launch) (scr B : Nat) (D : va_G) : z_All l scr B D 68 0 z_c68_0 := by
  refine z_All.c (j := 1) rfl (ok_aload_n (n := 0) (by decide +kernel) rfl) ?_
  refine z_All.c (j := 2) rfl (ok_get (idx := 7) (by decide +kernel) rfl (by decide) z_i8 zw284) ?_
  refine z_All.c (j := 3) rfl ok_bad ?_
  refine z_All.c (j := 4) rfl ok_bad ?_
  refine z_All.c (j := 5) rfl (ok_iconst (n := 2) (by decide +kernel) (by decide +kernel)) ?_
  refine z_All.c (j := 6) rfl (ok_ic_ge (off := 5) (by decide +kernel) (by decide +kernel)) ?_
  refine z_All.c (j := 7) rfl ok_bad ?_
  refine z_All.c (j := 8) rfl ok_bad ?_
  refine z_All.c (j := 9) rfl (ok_iconst (n := 0) (by decide +kernel) (by decide +kernel)) ?_
  refine z_All.c (j := 10) rfl (ok_iret (by decide +kernel) rfl) ?_
  refine z_All.c (j := 11) rfl (ok_iload_n (n := 1) (by decide +kernel) rfl) ?_
  refine z_All.c (j := 12) rfl (ok_aload_n (n := 0) (by decide +kernel) rfl) ?_
  refine z_All.c (j := 13) rfl (ok_get (idx := 7) (by decide +kernel) rfl (by decide) z_i8 zw284) ?_
  refine z_All.c (j := 14) rfl ok_bad ?_
  refine z_All.c (j := 15) rfl ok_bad ?_
  refine z_All.c (j := 16) rfl (ok_cs (idx := 16) (by decide +kernel) zm116 zw518 zw519) ?_
  refine z_All.c (j := 17) rfl ok_bad ?_
  refine z_All.c (j := 18) rfl ok_bad ?_
  refine z_All.c (j := 19) rfl (ok_i2l (by decide +kernel)) ?_
  refine z_All.c (j := 20) rfl (ok_lstore_n (n := 3) (by decide +kernel) rfl rfl) ?_
  refine z_All.c (j := 21) rfl (ok_lconst (n := 1) (by decide +kernel) (by decide +kernel)) ?_
  refine z_All.c (j := 22) rfl (ok_lstore (by decide +kernel) rfl) ?_
  refine z_All.c (j := 23) rfl ok_bad ?_
  refine z_All.c (j := 24) rfl (ok_aload_n (n := 0) (by decide +kernel) rfl) ?_
  refine z_All.c (j := 25) rfl (ok_get (idx := 13) (by decide +kernel) rfl (by decide) z_i8 zw285) ?_
  refine z_All.c (j := 26) rfl ok_bad ?_
  refine z_All.c (j := 27) rfl ok_bad ?_
  refine z_All.c (j := 28) rfl (ok_istore (by decide +kernel) (fun z => (by cases z))) ?_
  refine z_All.c (j := 29) rfl ok_bad ?_
  refine z_All.c (j := 30) rfl (ok_iload (by decide +kernel)) ?_
  refine z_All.c (j := 31) rfl ok_bad ?_
  refine z_All.c (j := 32) rfl (ok_if_le (off := 42) (by decide +kernel) (by decide +kernel)) ?_
  refine z_All.c (j := 33) rfl ok_bad ?_
  refine z_All.c (j := 34) rfl ok_bad ?_
  refine z_All.c (j := 35) rfl (ok_iload (by decide +kernel)) ?_
  refine z_All.c (j := 36) rfl ok_bad ?_
  refine z_All.c (j := 37) rfl (ok_iconst (n := 1) (by decide +kernel) (by decide +kernel)) ?_
  refine z_All.c (j := 38) rfl (ok_iand (by decide +kernel)) ?_
  refine z_All.c (j := 39) rfl (ok_iconst (n := 1) (by decide +kernel) (by decide +kernel)) ?_
  refine z_All.c (j := 40) rfl (ok_ic_ne (off := 15) (by decide +kernel) (by decide +kernel)) ?_
  refine z_All.c (j := 41) rfl ok_bad ?_
  refine z_All.c (j := 42) rfl ok_bad ?_
  refine z_All.c (j := 43) rfl (ok_lload (by decide +kernel)) ?_
  refine z_All.c (j := 44) rfl ok_bad ?_
  refine z_All.c (j := 45) rfl (ok_lload_n (n := 3) (by decide +kernel) rfl) ?_
  refine z_All.c (j := 46) rfl (ok_lmul (by decide +kernel)) ?_
  refine z_All.c (j := 47) rfl (ok_aload_n (n := 0) (by decide +kernel) rfl) ?_
  refine z_All.c (j := 48) rfl (ok_get (idx := 7) (by decide +kernel) rfl (by decide) z_i8 zw284) ?_
  refine z_All.c (j := 49) rfl ok_bad ?_
  refine z_All.c (j := 50) rfl ok_bad ?_
  refine z_All.c (j := 51) rfl (ok_i2l (by decide +kernel)) ?_
  refine z_All.c (j := 52) rfl (ok_lrem (by decide +kernel)) ?_
  refine z_All.c (j := 53) rfl (ok_lstore (by decide +kernel) rfl) ?_
  refine z_All.c (j := 54) rfl ok_bad ?_
  refine z_All.c (j := 55) rfl (ok_lload_n (n := 3) (by decide +kernel) rfl) ?_
  refine z_All.c (j := 56) rfl (ok_lload_n (n := 3) (by decide +kernel) rfl) ?_
  refine z_All.c (j := 57) rfl (ok_lmul (by decide +kernel)) ?_
  refine z_All.c (j := 58) rfl (ok_aload_n (n := 0) (by decide +kernel) rfl) ?_
  refine z_All.c (j := 59) rfl (ok_get (idx := 7) (by decide +kernel) rfl (by decide) z_i8 zw284) ?_
  refine z_All.c (j := 60) rfl ok_bad ?_
  refine z_All.c (j := 61) rfl ok_bad ?_
  refine z_All.c (j := 62) rfl (ok_i2l (by decide +kernel)) ?_
  refine z_All.c (j := 63) rfl (ok_lrem (by decide +kernel)) ?_
  refine z_All.c (j := 64) rfl (ok_lstore_n (n := 3) (by decide +kernel) rfl rfl) ?_
  exact trivial
set_option maxRecDepth 20000 in
theorem zk68_1 (l : Launch) (scr B : Nat) (D : va_G) : z_All l scr B D 68 64 z_c68_1 := by
  refine z_All.c (j := 65) rfl (ok_iload (by decide +kernel)) ?_
  refine z_All.c (j := 66) rfl ok_bad ?_
  refine z_All.c (j := 67) rfl (ok_iconst (n := 1) (by decide +kernel) (by decide +kernel)) ?_
  refine z_All.c (j := 68) rfl (ok_ishr (by decide +kernel)) ?_
  refine z_All.c (j := 69) rfl (ok_istore (by decide +kernel) (fun z => (by cases z))) ?_
  refine z_All.c (j := 70) rfl ok_bad ?_
  refine z_All.c (j := 71) rfl (ok_goto (off := -41) (by decide +kernel) (by decide +kernel)) ?_
  refine z_All.c (j := 72) rfl ok_bad ?_
  refine z_All.c (j := 73) rfl ok_bad ?_
  refine z_All.c (j := 74) rfl (ok_lload (by decide +kernel)) ?_
  refine z_All.c (j := 75) rfl ok_bad ?_
  refine z_All.c (j := 76) rfl (ok_iload_n (n := 2) (by decide +kernel) rfl) ?_
  refine z_All.c (j := 77) rfl (ok_aload_n (n := 0) (by decide +kernel) rfl) ?_
  refine z_All.c (j := 78) rfl (ok_get (idx := 7) (by decide +kernel) rfl (by decide) z_i8 zw284) ?_
  refine z_All.c (j := 79) rfl ok_bad ?_
  refine z_All.c (j := 80) rfl ok_bad ?_
  refine z_All.c (j := 81) rfl (ok_irem (by decide +kernel)) ?_
  refine z_All.c (j := 82) rfl (ok_i2l (by decide +kernel)) ?_
  refine z_All.c (j := 83) rfl (ok_lcmp (by decide +kernel)) ?_
  refine z_All.c (j := 84) rfl (ok_if_ne (off := 7) (by decide +kernel) (by decide +kernel)) ?_
  refine z_All.c (j := 85) rfl ok_bad ?_
  refine z_All.c (j := 86) rfl ok_bad ?_
  refine z_All.c (j := 87) rfl (ok_iconst (n := 1) (by decide +kernel) (by decide +kernel)) ?_
  refine z_All.c (j := 88) rfl (ok_goto (off := 4) (by decide +kernel) (by decide +kernel)) ?_
  refine z_All.c (j := 89) rfl ok_bad ?_
  refine z_All.c (j := 90) rfl ok_bad ?_
  refine z_All.c (j := 91) rfl (ok_iconst (n := 0) (by decide +kernel) (by decide +kernel)) ?_
  refine z_All.c (j := 92) rfl (ok_iret (by decide +kernel) rfl) ?_
  exact trivial
set_option maxRecDepth 20000 in
theorem zk69_0 (l : Launch) (scr B : Nat) (D : va_G) : z_All l scr B D 69 0 z_c69_0 := by
  refine z_All.c (j := 1) rfl (ok_aload_n (n := 0) (by decide +kernel) rfl) ?_
  refine z_All.c (j := 2) rfl (ok_obj (idx := 1) (by decide +kernel) zw303 zw19 zw20) ?_
  refine z_All.c (j := 3) rfl ok_bad ?_
  refine z_All.c (j := 4) rfl ok_bad ?_
  refine z_All.c (j := 5) rfl (ok_aload_n (n := 0) (by decide +kernel) rfl) ?_
  refine z_All.c (j := 6) rfl (ok_iload_n (n := 1) (by decide +kernel) rfl) ?_
  refine z_All.c (j := 7) rfl (ok_putF (idx := 7) (by decide +kernel) rfl (by decide) z_i9 z_t9 z_n9 zw304 rfl rfl rfl (by decide +kernel)) ?_
  refine z_All.c (j := 8) rfl ok_bad ?_
  refine z_All.c (j := 9) rfl ok_bad ?_
  refine z_All.c (j := 10) rfl (ok_aload_n (n := 0) (by decide +kernel) rfl) ?_
  refine z_All.c (j := 11) rfl (ok_iload_n (n := 2) (by decide +kernel) rfl) ?_
  refine z_All.c (j := 12) rfl (ok_putF (idx := 13) (by decide +kernel) rfl (by decide) z_i9 z_t9 z_n9 zw306 rfl rfl rfl (by decide +kernel)) ?_
  refine z_All.c (j := 13) rfl ok_bad ?_
  refine z_All.c (j := 14) rfl ok_bad ?_
  refine z_All.c (j := 15) rfl (ok_aload_n (n := 0) (by decide +kernel) rfl) ?_
  refine z_All.c (j := 16) rfl (ok_iload_n (n := 3) (by decide +kernel) rfl) ?_
  refine z_All.c (j := 17) rfl (ok_putF (idx := 16) (by decide +kernel) rfl (by decide) z_i9 z_t9 z_n9 zw308 rfl rfl rfl (by decide +kernel)) ?_
  refine z_All.c (j := 18) rfl ok_bad ?_
  refine z_All.c (j := 19) rfl ok_bad ?_
  refine z_All.c (j := 20) rfl (ok_aload_n (n := 0) (by decide +kernel) rfl) ?_
  refine z_All.c (j := 21) rfl (ok_iload (by decide +kernel)) ?_
  refine z_All.c (j := 22) rfl ok_bad ?_
  refine z_All.c (j := 23) rfl (ok_putF (idx := 20) (by decide +kernel) rfl (by decide) z_i9 z_t9 z_n9 zw310 rfl rfl rfl (by decide +kernel)) ?_
  refine z_All.c (j := 24) rfl ok_bad ?_
  refine z_All.c (j := 25) rfl ok_bad ?_
  refine z_All.c (j := 26) rfl (ok_vret (by decide +kernel) rfl) ?_
  exact trivial
set_option maxRecDepth 20000 in
theorem zk70_0 (l : Launch) (scr B : Nat) (D : va_G) : z_All l scr B D 70 0 z_c70_0 := by
  refine z_All.c (j := 1) rfl (ok_aload_n (n := 0) (by decide +kernel) rfl) ?_
  refine z_All.c (j := 2) rfl (ok_obj (idx := 1) (by decide +kernel) zw539 zw19 zw20) ?_
  refine z_All.c (j := 3) rfl ok_bad ?_
  refine z_All.c (j := 4) rfl ok_bad ?_
  refine z_All.c (j := 5) rfl (ok_aload_n (n := 0) (by decide +kernel) rfl) ?_
  refine z_All.c (j := 6) rfl (ok_bipush (n := 12) (by decide +kernel) (by decide +kernel)) ?_
  refine z_All.c (j := 7) rfl ok_bad ?_
  refine z_All.c (j := 8) rfl (ok_newa (aty := .int) (by decide +kernel) rfl zw97 rfl (by decide +kernel) (by intro z; cases z)) ?_
  refine z_All.c (j := 9) rfl ok_bad ?_
  refine z_All.c (j := 10) rfl (ok_put (idx := 7) (by decide +kernel) rfl (by decide) z_i10 z_t10 z_n10 zw541 rfl (by decide +kernel)) ?_
  refine z_All.c (j := 11) rfl ok_bad ?_
  refine z_All.c (j := 12) rfl ok_bad ?_
  refine z_All.c (j := 13) rfl (ok_aload_n (n := 0) (by decide +kernel) rfl) ?_
  refine z_All.c (j := 14) rfl (ok_bipush (n := 12) (by decide +kernel) (by decide +kernel)) ?_
  refine z_All.c (j := 15) rfl ok_bad ?_
  refine z_All.c (j := 16) rfl (ok_newa (aty := .boolean) (by decide +kernel) rfl zw122 rfl (by decide +kernel) (by intro z; cases z)) ?_
  refine z_All.c (j := 17) rfl ok_bad ?_
  refine z_All.c (j := 18) rfl (ok_put (idx := 13) (by decide +kernel) rfl (by decide) z_i10 z_t10 z_n10 zw542 rfl (by decide +kernel)) ?_
  refine z_All.c (j := 19) rfl ok_bad ?_
  refine z_All.c (j := 20) rfl ok_bad ?_
  refine z_All.c (j := 21) rfl (ok_aload_n (n := 0) (by decide +kernel) rfl) ?_
  refine z_All.c (j := 22) rfl (ok_bipush (n := 12) (by decide +kernel) (by decide +kernel)) ?_
  refine z_All.c (j := 23) rfl ok_bad ?_
  refine z_All.c (j := 24) rfl (ok_newa (aty := .int) (by decide +kernel) rfl zw97 rfl (by decide +kernel) (by intro z; cases z)) ?_
  refine z_All.c (j := 25) rfl ok_bad ?_
  refine z_All.c (j := 26) rfl (ok_put (idx := 17) (by decide +kernel) rfl (by decide) z_i10 z_t10 z_n10 zw543 rfl (by decide +kernel)) ?_
  refine z_All.c (j := 27) rfl ok_bad ?_
  refine z_All.c (j := 28) rfl ok_bad ?_
  refine z_All.c (j := 29) rfl (ok_aload_n (n := 0) (by decide +kernel) rfl) ?_
  refine z_All.c (j := 30) rfl (ok_bipush (n := 36) (by decide +kernel) (by decide +kernel)) ?_
  refine z_All.c (j := 31) rfl ok_bad ?_
  refine z_All.c (j := 32) rfl (ok_newa (aty := .int) (by decide +kernel) rfl zw97 rfl (by decide +kernel) (by intro z; cases z)) ?_
  refine z_All.c (j := 33) rfl ok_bad ?_
  refine z_All.c (j := 34) rfl (ok_put (idx := 20) (by decide +kernel) rfl (by decide) z_i10 z_t10 z_n10 zw544 rfl (by decide +kernel)) ?_
  refine z_All.c (j := 35) rfl ok_bad ?_
  refine z_All.c (j := 36) rfl ok_bad ?_
  refine z_All.c (j := 37) rfl (ok_aload_n (n := 0) (by decide +kernel) rfl) ?_
  refine z_All.c (j := 38) rfl (ok_bipush (n := 12) (by decide +kernel) (by decide +kernel)) ?_
  refine z_All.c (j := 39) rfl ok_bad ?_
  refine z_All.c (j := 40) rfl (ok_newa (aty := .int) (by decide +kernel) rfl zw97 rfl (by decide +kernel) (by intro z; cases z)) ?_
  refine z_All.c (j := 41) rfl ok_bad ?_
  refine z_All.c (j := 42) rfl (ok_put (idx := 23) (by decide +kernel) rfl (by decide) z_i10 z_t10 z_n10 zw545 rfl (by decide +kernel)) ?_
  refine z_All.c (j := 43) rfl ok_bad ?_
  refine z_All.c (j := 44) rfl ok_bad ?_
  refine z_All.c (j := 45) rfl (ok_aload_n (n := 0) (by decide +kernel) rfl) ?_
  refine z_All.c (j := 46) rfl (ok_bipush (n := 36) (by decide +kernel) (by decide +kernel)) ?_
  refine z_All.c (j := 47) rfl ok_bad ?_
  refine z_All.c (j := 48) rfl (ok_newa (aty := .int) (by decide +kernel) rfl zw97 rfl (by decide +kernel) (by intro z; cases z)) ?_
  refine z_All.c (j := 49) rfl ok_bad ?_
  refine z_All.c (j := 50) rfl (ok_put (idx := 26) (by decide +kernel) rfl (by decide) z_i10 z_t10 z_n10 zw546 rfl (by decide +kernel)) ?_
  refine z_All.c (j := 51) rfl ok_bad ?_
  refine z_All.c (j := 52) rfl ok_bad ?_
  refine z_All.c (j := 53) rfl (ok_aload_n (n := 0) (by decide +kernel) rfl) ?_
  refine z_All.c (j := 54) rfl (ok_bipush (n := 12) (by decide +kernel) (by decide +kernel)) ?_
  refine z_All.c (j := 55) rfl ok_bad ?_
  refine z_All.c (j := 56) rfl (ok_newa (aty := .int) (by decide +kernel) rfl zw97 rfl (by decide +kernel) (by intro z; cases z)) ?_
  refine z_All.c (j := 57) rfl ok_bad ?_
  refine z_All.c (j := 58) rfl (ok_put (idx := 29) (by decide +kernel) rfl (by decide) z_i10 z_t10 z_n10 zw547 rfl (by decide +kernel)) ?_
  refine z_All.c (j := 59) rfl ok_bad ?_
  refine z_All.c (j := 60) rfl ok_bad ?_
  refine z_All.c (j := 61) rfl (ok_aload_n (n := 0) (by decide +kernel) rfl) ?_
  refine z_All.c (j := 62) rfl (ok_bipush (n := 12) (by decide +kernel) (by decide +kernel)) ?_
  refine z_All.c (j := 63) rfl ok_bad ?_
  refine z_All.c (j := 64) rfl (ok_newa (aty := .int) (by decide +kernel) rfl zw97 rfl (by decide +kernel) (by intro z; cases z)) ?_
  exact trivial
set_option maxRecDepth 20000 in
theorem zk70_1 (l : Launch) (scr B : Nat) (D : va_G) : z_All l scr B D 70 64 z_c70_1 := by
  refine z_All.c (j := 65) rfl ok_bad ?_
  refine z_All.c (j := 66) rfl (ok_put (idx := 32) (by decide +kernel) rfl (by decide) z_i10 z_t10 z_n10 zw548 rfl (by decide +kernel)) ?_
  refine z_All.c (j := 67) rfl ok_bad ?_
  refine z_All.c (j := 68) rfl ok_bad ?_
  refine z_All.c (j := 69) rfl (ok_aload_n (n := 0) (by decide +kernel) rfl) ?_
  refine z_All.c (j := 70) rfl (ok_bipush (n := 12) (by decide +kernel) (by decide +kernel)) ?_
  refine z_All.c (j := 71) rfl ok_bad ?_
  refine z_All.c (j := 72) rfl (ok_newa (aty := .int) (by decide +kernel) rfl zw97 rfl (by decide +kernel) (by intro z; cases z)) ?_
  refine z_All.c (j := 73) rfl ok_bad ?_
  refine z_All.c (j := 74) rfl (ok_put (idx := 35) (by decide +kernel) rfl (by decide) z_i10 z_t10 z_n10 zw549 rfl (by decide +kernel)) ?_
  refine z_All.c (j := 75) rfl ok_bad ?_
  refine z_All.c (j := 76) rfl ok_bad ?_
  refine z_All.c (j := 77) rfl (ok_aload_n (n := 0) (by decide +kernel) rfl) ?_
  refine z_All.c (j := 78) rfl (ok_bipush (n := 12) (by decide +kernel) (by decide +kernel)) ?_
  refine z_All.c (j := 79) rfl ok_bad ?_
  refine z_All.c (j := 80) rfl (ok_newa (aty := .int) (by decide +kernel) rfl zw97 rfl (by decide +kernel) (by intro z; cases z)) ?_
  refine z_All.c (j := 81) rfl ok_bad ?_
  refine z_All.c (j := 82) rfl (ok_put (idx := 38) (by decide +kernel) rfl (by decide) z_i10 z_t10 z_n10 zw550 rfl (by decide +kernel)) ?_
  refine z_All.c (j := 83) rfl ok_bad ?_
  refine z_All.c (j := 84) rfl ok_bad ?_
  refine z_All.c (j := 85) rfl (ok_aload_n (n := 0) (by decide +kernel) rfl) ?_
  refine z_All.c (j := 86) rfl (ok_bipush (n := 12) (by decide +kernel) (by decide +kernel)) ?_
  refine z_All.c (j := 87) rfl ok_bad ?_
  refine z_All.c (j := 88) rfl (ok_newa (aty := .boolean) (by decide +kernel) rfl zw122 rfl (by decide +kernel) (by intro z; cases z)) ?_
  refine z_All.c (j := 89) rfl ok_bad ?_
  refine z_All.c (j := 90) rfl (ok_put (idx := 41) (by decide +kernel) rfl (by decide) z_i10 z_t10 z_n10 zw551 rfl (by decide +kernel)) ?_
  refine z_All.c (j := 91) rfl ok_bad ?_
  refine z_All.c (j := 92) rfl ok_bad ?_
  refine z_All.c (j := 93) rfl (ok_aload_n (n := 0) (by decide +kernel) rfl) ?_
  refine z_All.c (j := 94) rfl (ok_bipush (n := 12) (by decide +kernel) (by decide +kernel)) ?_
  refine z_All.c (j := 95) rfl ok_bad ?_
  refine z_All.c (j := 96) rfl (ok_newa (aty := .boolean) (by decide +kernel) rfl zw122 rfl (by decide +kernel) (by intro z; cases z)) ?_
  refine z_All.c (j := 97) rfl ok_bad ?_
  refine z_All.c (j := 98) rfl (ok_put (idx := 44) (by decide +kernel) rfl (by decide) z_i10 z_t10 z_n10 zw552 rfl (by decide +kernel)) ?_
  refine z_All.c (j := 99) rfl ok_bad ?_
  refine z_All.c (j := 100) rfl ok_bad ?_
  refine z_All.c (j := 101) rfl (ok_aload_n (n := 0) (by decide +kernel) rfl) ?_
  refine z_All.c (j := 102) rfl (ok_bipush (n := 12) (by decide +kernel) (by decide +kernel)) ?_
  refine z_All.c (j := 103) rfl ok_bad ?_
  refine z_All.c (j := 104) rfl (ok_newa (aty := .int) (by decide +kernel) rfl zw97 rfl (by decide +kernel) (by intro z; cases z)) ?_
  refine z_All.c (j := 105) rfl ok_bad ?_
  refine z_All.c (j := 106) rfl (ok_put (idx := 47) (by decide +kernel) rfl (by decide) z_i10 z_t10 z_n10 zw553 rfl (by decide +kernel)) ?_
  refine z_All.c (j := 107) rfl ok_bad ?_
  refine z_All.c (j := 108) rfl ok_bad ?_
  refine z_All.c (j := 109) rfl (ok_aload_n (n := 0) (by decide +kernel) rfl) ?_
  refine z_All.c (j := 110) rfl (ok_bipush (n := 96) (by decide +kernel) (by decide +kernel)) ?_
  refine z_All.c (j := 111) rfl ok_bad ?_
  refine z_All.c (j := 112) rfl (ok_newa (aty := .int) (by decide +kernel) rfl zw97 rfl (by decide +kernel) (by intro z; cases z)) ?_
  refine z_All.c (j := 113) rfl ok_bad ?_
  refine z_All.c (j := 114) rfl (ok_put (idx := 50) (by decide +kernel) rfl (by decide) z_i10 z_t10 z_n10 zw554 rfl (by decide +kernel)) ?_
  refine z_All.c (j := 115) rfl ok_bad ?_
  refine z_All.c (j := 116) rfl ok_bad ?_
  refine z_All.c (j := 117) rfl (ok_aload_n (n := 0) (by decide +kernel) rfl) ?_
  refine z_All.c (j := 118) rfl (ok_bipush (n := 96) (by decide +kernel) (by decide +kernel)) ?_
  refine z_All.c (j := 119) rfl ok_bad ?_
  refine z_All.c (j := 120) rfl (ok_newa (aty := .int) (by decide +kernel) rfl zw97 rfl (by decide +kernel) (by intro z; cases z)) ?_
  refine z_All.c (j := 121) rfl ok_bad ?_
  refine z_All.c (j := 122) rfl (ok_put (idx := 53) (by decide +kernel) rfl (by decide) z_i10 z_t10 z_n10 zw555 rfl (by decide +kernel)) ?_
  refine z_All.c (j := 123) rfl ok_bad ?_
  refine z_All.c (j := 124) rfl ok_bad ?_
  refine z_All.c (j := 125) rfl (ok_aload_n (n := 0) (by decide +kernel) rfl) ?_
  refine z_All.c (j := 126) rfl (ok_bipush (n := 96) (by decide +kernel) (by decide +kernel)) ?_
  refine z_All.c (j := 127) rfl ok_bad ?_
  refine z_All.c (j := 128) rfl (ok_newa (aty := .int) (by decide +kernel) rfl zw97 rfl (by decide +kernel) (by intro z; cases z)) ?_
  exact trivial
set_option maxRecDepth 20000 in
theorem zk70_2 (l : Launch) (scr B : Nat) (D : va_G) : z_All l scr B D 70 128 z_c70_2 := by
  refine z_All.c (j := 129) rfl ok_bad ?_
  refine z_All.c (j := 130) rfl (ok_put (idx := 56) (by decide +kernel) rfl (by decide) z_i10 z_t10 z_n10 zw556 rfl (by decide +kernel)) ?_
  refine z_All.c (j := 131) rfl ok_bad ?_
  refine z_All.c (j := 132) rfl ok_bad ?_
  refine z_All.c (j := 133) rfl (ok_aload_n (n := 0) (by decide +kernel) rfl) ?_
  refine z_All.c (j := 134) rfl (ok_bipush (n := 96) (by decide +kernel) (by decide +kernel)) ?_
  refine z_All.c (j := 135) rfl ok_bad ?_
  refine z_All.c (j := 136) rfl (ok_newa (aty := .int) (by decide +kernel) rfl zw97 rfl (by decide +kernel) (by intro z; cases z)) ?_
  refine z_All.c (j := 137) rfl ok_bad ?_
  refine z_All.c (j := 138) rfl (ok_put (idx := 59) (by decide +kernel) rfl (by decide) z_i10 z_t10 z_n10 zw557 rfl (by decide +kernel)) ?_
  refine z_All.c (j := 139) rfl ok_bad ?_
  refine z_All.c (j := 140) rfl ok_bad ?_
  refine z_All.c (j := 141) rfl (ok_aload_n (n := 0) (by decide +kernel) rfl) ?_
  refine z_All.c (j := 142) rfl (ok_bipush (n := 12) (by decide +kernel) (by decide +kernel)) ?_
  refine z_All.c (j := 143) rfl ok_bad ?_
  refine z_All.c (j := 144) rfl (ok_newa (aty := .int) (by decide +kernel) rfl zw97 rfl (by decide +kernel) (by intro z; cases z)) ?_
  refine z_All.c (j := 145) rfl ok_bad ?_
  refine z_All.c (j := 146) rfl (ok_put (idx := 62) (by decide +kernel) rfl (by decide) z_i10 z_t10 z_n10 zw561 rfl (by decide +kernel)) ?_
  refine z_All.c (j := 147) rfl ok_bad ?_
  refine z_All.c (j := 148) rfl ok_bad ?_
  refine z_All.c (j := 149) rfl (ok_aload_n (n := 0) (by decide +kernel) rfl) ?_
  refine z_All.c (j := 150) rfl (ok_bipush (n := 12) (by decide +kernel) (by decide +kernel)) ?_
  refine z_All.c (j := 151) rfl ok_bad ?_
  refine z_All.c (j := 152) rfl (ok_newa (aty := .int) (by decide +kernel) rfl zw97 rfl (by decide +kernel) (by intro z; cases z)) ?_
  refine z_All.c (j := 153) rfl ok_bad ?_
  refine z_All.c (j := 154) rfl (ok_put (idx := 65) (by decide +kernel) rfl (by decide) z_i10 z_t10 z_n10 zw562 rfl (by decide +kernel)) ?_
  refine z_All.c (j := 155) rfl ok_bad ?_
  refine z_All.c (j := 156) rfl ok_bad ?_
  refine z_All.c (j := 157) rfl (ok_aload_n (n := 0) (by decide +kernel) rfl) ?_
  refine z_All.c (j := 158) rfl (ok_bipush (n := 12) (by decide +kernel) (by decide +kernel)) ?_
  refine z_All.c (j := 159) rfl ok_bad ?_
  refine z_All.c (j := 160) rfl (ok_newa (aty := .boolean) (by decide +kernel) rfl zw122 rfl (by decide +kernel) (by intro z; cases z)) ?_
  refine z_All.c (j := 161) rfl ok_bad ?_
  refine z_All.c (j := 162) rfl (ok_put (idx := 68) (by decide +kernel) rfl (by decide) z_i10 z_t10 z_n10 zw563 rfl (by decide +kernel)) ?_
  refine z_All.c (j := 163) rfl ok_bad ?_
  refine z_All.c (j := 164) rfl ok_bad ?_
  refine z_All.c (j := 165) rfl (ok_aload_n (n := 0) (by decide +kernel) rfl) ?_
  refine z_All.c (j := 166) rfl (ok_sipush (n := 240) (by decide +kernel) (by decide +kernel)) ?_
  refine z_All.c (j := 167) rfl ok_bad ?_
  refine z_All.c (j := 168) rfl ok_bad ?_
  refine z_All.c (j := 169) rfl (ok_newa (aty := .int) (by decide +kernel) rfl zw97 rfl (by decide +kernel) (by intro z; cases z)) ?_
  refine z_All.c (j := 170) rfl ok_bad ?_
  refine z_All.c (j := 171) rfl (ok_put (idx := 71) (by decide +kernel) rfl (by decide) z_i10 z_t10 z_n10 zw565 rfl (by decide +kernel)) ?_
  refine z_All.c (j := 172) rfl ok_bad ?_
  refine z_All.c (j := 173) rfl ok_bad ?_
  refine z_All.c (j := 174) rfl (ok_aload_n (n := 0) (by decide +kernel) rfl) ?_
  refine z_All.c (j := 175) rfl (ok_bipush (n := 60) (by decide +kernel) (by decide +kernel)) ?_
  refine z_All.c (j := 176) rfl ok_bad ?_
  refine z_All.c (j := 177) rfl (ok_newa (aty := .int) (by decide +kernel) rfl zw97 rfl (by decide +kernel) (by intro z; cases z)) ?_
  refine z_All.c (j := 178) rfl ok_bad ?_
  refine z_All.c (j := 179) rfl (ok_put (idx := 74) (by decide +kernel) rfl (by decide) z_i10 z_t10 z_n10 zw567 rfl (by decide +kernel)) ?_
  refine z_All.c (j := 180) rfl ok_bad ?_
  refine z_All.c (j := 181) rfl ok_bad ?_
  refine z_All.c (j := 182) rfl (ok_aload_n (n := 0) (by decide +kernel) rfl) ?_
  refine z_All.c (j := 183) rfl (ok_iconst (n := 3) (by decide +kernel) (by decide +kernel)) ?_
  refine z_All.c (j := 184) rfl (ok_newa (aty := .int) (by decide +kernel) rfl zw97 rfl (by decide +kernel) (by intro z; cases z)) ?_
  refine z_All.c (j := 185) rfl ok_bad ?_
  refine z_All.c (j := 186) rfl (ok_put (idx := 77) (by decide +kernel) rfl (by decide) z_i10 z_t10 z_n10 zw569 rfl (by decide +kernel)) ?_
  refine z_All.c (j := 187) rfl ok_bad ?_
  refine z_All.c (j := 188) rfl ok_bad ?_
  refine z_All.c (j := 189) rfl (ok_aload_n (n := 0) (by decide +kernel) rfl) ?_
  refine z_All.c (j := 190) rfl (ok_iconst (n := 3) (by decide +kernel) (by decide +kernel)) ?_
  refine z_All.c (j := 191) rfl (ok_newa (aty := .boolean) (by decide +kernel) rfl zw122 rfl (by decide +kernel) (by intro z; cases z)) ?_
  refine z_All.c (j := 192) rfl ok_bad ?_
  exact trivial
set_option maxRecDepth 20000 in
theorem zk70_3 (l : Launch) (scr B : Nat) (D : va_G) : z_All l scr B D 70 192 z_c70_3 := by
  refine z_All.c (j := 193) rfl (ok_put (idx := 80) (by decide +kernel) rfl (by decide) z_i10 z_t10 z_n10 zw570 rfl (by decide +kernel)) ?_
  refine z_All.c (j := 194) rfl ok_bad ?_
  refine z_All.c (j := 195) rfl ok_bad ?_
  refine z_All.c (j := 196) rfl (ok_aload_n (n := 0) (by decide +kernel) rfl) ?_
  refine z_All.c (j := 197) rfl (ok_iconst (n := 3) (by decide +kernel) (by decide +kernel)) ?_
  refine z_All.c (j := 198) rfl (ok_newa (aty := .boolean) (by decide +kernel) rfl zw122 rfl (by decide +kernel) (by intro z; cases z)) ?_
  refine z_All.c (j := 199) rfl ok_bad ?_
  refine z_All.c (j := 200) rfl (ok_put (idx := 83) (by decide +kernel) rfl (by decide) z_i10 z_t10 z_n10 zw571 rfl (by decide +kernel)) ?_
  refine z_All.c (j := 201) rfl ok_bad ?_
  refine z_All.c (j := 202) rfl ok_bad ?_
  refine z_All.c (j := 203) rfl (ok_aload_n (n := 0) (by decide +kernel) rfl) ?_
  refine z_All.c (j := 204) rfl (ok_iconst (n := 3) (by decide +kernel) (by decide +kernel)) ?_
  refine z_All.c (j := 205) rfl (ok_newa (aty := .int) (by decide +kernel) rfl zw97 rfl (by decide +kernel) (by intro z; cases z)) ?_
  refine z_All.c (j := 206) rfl ok_bad ?_
  refine z_All.c (j := 207) rfl (ok_put (idx := 86) (by decide +kernel) rfl (by decide) z_i10 z_t10 z_n10 zw572 rfl (by decide +kernel)) ?_
  refine z_All.c (j := 208) rfl ok_bad ?_
  refine z_All.c (j := 209) rfl ok_bad ?_
  refine z_All.c (j := 210) rfl (ok_aload_n (n := 0) (by decide +kernel) rfl) ?_
  refine z_All.c (j := 211) rfl (ok_sipush (n := 241) (by decide +kernel) (by decide +kernel)) ?_
  refine z_All.c (j := 212) rfl ok_bad ?_
  refine z_All.c (j := 213) rfl ok_bad ?_
  refine z_All.c (j := 214) rfl (ok_newa (aty := .int) (by decide +kernel) rfl zw97 rfl (by decide +kernel) (by intro z; cases z)) ?_
  refine z_All.c (j := 215) rfl ok_bad ?_
  refine z_All.c (j := 216) rfl (ok_put (idx := 89) (by decide +kernel) rfl (by decide) z_i10 z_t10 z_n10 zw574 rfl (by decide +kernel)) ?_
  refine z_All.c (j := 217) rfl ok_bad ?_
  refine z_All.c (j := 218) rfl ok_bad ?_
  refine z_All.c (j := 219) rfl (ok_aload_n (n := 0) (by decide +kernel) rfl) ?_
  refine z_All.c (j := 220) rfl (ok_sipush (n := 241) (by decide +kernel) (by decide +kernel)) ?_
  refine z_All.c (j := 221) rfl ok_bad ?_
  refine z_All.c (j := 222) rfl ok_bad ?_
  refine z_All.c (j := 223) rfl (ok_newa (aty := .int) (by decide +kernel) rfl zw97 rfl (by decide +kernel) (by intro z; cases z)) ?_
  refine z_All.c (j := 224) rfl ok_bad ?_
  refine z_All.c (j := 225) rfl (ok_put (idx := 92) (by decide +kernel) rfl (by decide) z_i10 z_t10 z_n10 zw575 rfl (by decide +kernel)) ?_
  refine z_All.c (j := 226) rfl ok_bad ?_
  refine z_All.c (j := 227) rfl ok_bad ?_
  refine z_All.c (j := 228) rfl (ok_aload_n (n := 0) (by decide +kernel) rfl) ?_
  refine z_All.c (j := 229) rfl (ok_bipush (n := 12) (by decide +kernel) (by decide +kernel)) ?_
  refine z_All.c (j := 230) rfl ok_bad ?_
  refine z_All.c (j := 231) rfl (ok_newa (aty := .int) (by decide +kernel) rfl zw97 rfl (by decide +kernel) (by intro z; cases z)) ?_
  refine z_All.c (j := 232) rfl ok_bad ?_
  refine z_All.c (j := 233) rfl (ok_put (idx := 95) (by decide +kernel) rfl (by decide) z_i10 z_t10 z_n10 zw578 rfl (by decide +kernel)) ?_
  refine z_All.c (j := 234) rfl ok_bad ?_
  refine z_All.c (j := 235) rfl ok_bad ?_
  refine z_All.c (j := 236) rfl (ok_aload_n (n := 0) (by decide +kernel) rfl) ?_
  refine z_All.c (j := 237) rfl (ok_bipush (n := 12) (by decide +kernel) (by decide +kernel)) ?_
  refine z_All.c (j := 238) rfl ok_bad ?_
  refine z_All.c (j := 239) rfl (ok_newa (aty := .int) (by decide +kernel) rfl zw97 rfl (by decide +kernel) (by intro z; cases z)) ?_
  refine z_All.c (j := 240) rfl ok_bad ?_
  refine z_All.c (j := 241) rfl (ok_put (idx := 98) (by decide +kernel) rfl (by decide) z_i10 z_t10 z_n10 zw579 rfl (by decide +kernel)) ?_
  refine z_All.c (j := 242) rfl ok_bad ?_
  refine z_All.c (j := 243) rfl ok_bad ?_
  refine z_All.c (j := 244) rfl (ok_aload_n (n := 0) (by decide +kernel) rfl) ?_
  refine z_All.c (j := 245) rfl (ok_bipush (n := 12) (by decide +kernel) (by decide +kernel)) ?_
  refine z_All.c (j := 246) rfl ok_bad ?_
  refine z_All.c (j := 247) rfl (ok_newa (aty := .int) (by decide +kernel) rfl zw97 rfl (by decide +kernel) (by intro z; cases z)) ?_
  refine z_All.c (j := 248) rfl ok_bad ?_
  refine z_All.c (j := 249) rfl (ok_put (idx := 101) (by decide +kernel) rfl (by decide) z_i10 z_t10 z_n10 zw580 rfl (by decide +kernel)) ?_
  refine z_All.c (j := 250) rfl ok_bad ?_
  refine z_All.c (j := 251) rfl ok_bad ?_
  refine z_All.c (j := 252) rfl (ok_aload_n (n := 0) (by decide +kernel) rfl) ?_
  refine z_All.c (j := 253) rfl (ok_bipush (n := 12) (by decide +kernel) (by decide +kernel)) ?_
  refine z_All.c (j := 254) rfl ok_bad ?_
  refine z_All.c (j := 255) rfl (ok_newa (aty := .boolean) (by decide +kernel) rfl zw122 rfl (by decide +kernel) (by intro z; cases z)) ?_
  refine z_All.c (j := 256) rfl ok_bad ?_
  exact trivial
set_option maxRecDepth 20000 in
theorem zk70_4 (l : Launch) (scr B : Nat) (D : va_G) : z_All l scr B D 70 256 z_c70_4 := by
  refine z_All.c (j := 257) rfl (ok_put (idx := 104) (by decide +kernel) rfl (by decide) z_i10 z_t10 z_n10 zw581 rfl (by decide +kernel)) ?_
  refine z_All.c (j := 258) rfl ok_bad ?_
  refine z_All.c (j := 259) rfl ok_bad ?_
  refine z_All.c (j := 260) rfl (ok_aload_n (n := 0) (by decide +kernel) rfl) ?_
  refine z_All.c (j := 261) rfl (ok_sipush (n := 500) (by decide +kernel) (by decide +kernel)) ?_
  refine z_All.c (j := 262) rfl ok_bad ?_
  refine z_All.c (j := 263) rfl ok_bad ?_
  refine z_All.c (j := 264) rfl (ok_newa (aty := .int) (by decide +kernel) rfl zw97 rfl (by decide +kernel) (by intro z; cases z)) ?_
  refine z_All.c (j := 265) rfl ok_bad ?_
  refine z_All.c (j := 266) rfl (ok_put (idx := 107) (by decide +kernel) rfl (by decide) z_i10 z_t10 z_n10 zw583 rfl (by decide +kernel)) ?_
  refine z_All.c (j := 267) rfl ok_bad ?_
  refine z_All.c (j := 268) rfl ok_bad ?_
  refine z_All.c (j := 269) rfl (ok_vret (by decide +kernel) rfl) ?_
  exact trivial
