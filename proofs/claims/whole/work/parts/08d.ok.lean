/-! ===== made by wip/prog/gen8.py: each operation is sound ===== -/
set_option maxRecDepth 20000 in
theorem zk43_0 (l : Launch) (scr B : Nat) (D : va_G) : z_All l scr B D 43 0 z_c43_0 := by
  refine z_All.c (j := 1) rfl (ok_aload_n (n := 0) (by decide +kernel) rfl) ?_
  refine z_All.c (j := 2) rfl (ok_get (idx := 18) (by decide +kernel) rfl (by decide) z_i2 zw32) ?_
  refine z_All.c (j := 3) rfl ok_bad ?_
  refine z_All.c (j := 4) rfl ok_bad ?_
  refine z_All.c (j := 5) rfl (ok_iconst (n := 2) (by decide +kernel) (by decide +kernel)) ?_
  refine z_All.c (j := 6) rfl (ok_ic_ne (off := 5) (by decide +kernel) (by decide +kernel)) ?_
  refine z_All.c (j := 7) rfl ok_bad ?_
  refine z_All.c (j := 8) rfl ok_bad ?_
  refine z_All.c (j := 9) rfl (ok_iconst (n := 2) (by decide +kernel) (by decide +kernel)) ?_
  refine z_All.c (j := 10) rfl (ok_iret (by decide +kernel) rfl) ?_
  refine z_All.c (j := 11) rfl (ok_aload_n (n := 0) (by decide +kernel) rfl) ?_
  refine z_All.c (j := 12) rfl (ok_dup (by decide +kernel)) ?_
  refine z_All.c (j := 13) rfl (ok_get (idx := 18) (by decide +kernel) rfl (by decide) z_i2 zw32) ?_
  refine z_All.c (j := 14) rfl ok_bad ?_
  refine z_All.c (j := 15) rfl ok_bad ?_
  refine z_All.c (j := 16) rfl (ok_iconst (n := 1) (by decide +kernel) (by decide +kernel)) ?_
  refine z_All.c (j := 17) rfl (ok_iadd (by decide +kernel)) ?_
  refine z_All.c (j := 18) rfl (ok_put (idx := 18) (by decide +kernel) rfl (by decide) z_i2 z_t2 z_n2 zw32 rfl (by decide +kernel)) ?_
  refine z_All.c (j := 19) rfl ok_bad ?_
  refine z_All.c (j := 20) rfl ok_bad ?_
  refine z_All.c (j := 21) rfl (ok_iconst (n := 0) (by decide +kernel) (by decide +kernel)) ?_
  refine z_All.c (j := 22) rfl (ok_iret (by decide +kernel) rfl) ?_
  exact trivial
set_option maxRecDepth 20000 in
theorem zk44_0 (l : Launch) (scr B : Nat) (D : va_G) : z_All l scr B D 44 0 z_c44_0 := by
  refine z_All.c (j := 1) rfl (ok_aload_n (n := 0) (by decide +kernel) rfl) ?_
  refine z_All.c (j := 2) rfl (ok_get (idx := 15) (by decide +kernel) rfl (by decide) z_i2 zw30) ?_
  refine z_All.c (j := 3) rfl ok_bad ?_
  refine z_All.c (j := 4) rfl ok_bad ?_
  refine z_All.c (j := 5) rfl (ok_bipush (n := 10) (by decide +kernel) (by decide +kernel)) ?_
  refine z_All.c (j := 6) rfl ok_bad ?_
  refine z_All.c (j := 7) rfl (ok_ic_ne (off := 5) (by decide +kernel) (by decide +kernel)) ?_
  refine z_All.c (j := 8) rfl ok_bad ?_
  refine z_All.c (j := 9) rfl ok_bad ?_
  refine z_All.c (j := 10) rfl (ok_iconst (n := 0) (by decide +kernel) (by decide +kernel)) ?_
  refine z_All.c (j := 11) rfl (ok_iret (by decide +kernel) rfl) ?_
  refine z_All.c (j := 12) rfl (ok_aload_n (n := 0) (by decide +kernel) rfl) ?_
  refine z_All.c (j := 13) rfl (ok_dup (by decide +kernel)) ?_
  refine z_All.c (j := 14) rfl (ok_get (idx := 15) (by decide +kernel) rfl (by decide) z_i2 zw30) ?_
  refine z_All.c (j := 15) rfl ok_bad ?_
  refine z_All.c (j := 16) rfl ok_bad ?_
  refine z_All.c (j := 17) rfl (ok_iconst (n := 1) (by decide +kernel) (by decide +kernel)) ?_
  refine z_All.c (j := 18) rfl (ok_iadd (by decide +kernel)) ?_
  refine z_All.c (j := 19) rfl (ok_put (idx := 15) (by decide +kernel) rfl (by decide) z_i2 z_t2 z_n2 zw30 rfl (by decide +kernel)) ?_
  refine z_All.c (j := 20) rfl ok_bad ?_
  refine z_All.c (j := 21) rfl ok_bad ?_
  refine z_All.c (j := 22) rfl (ok_iconst (n := 1) (by decide +kernel) (by decide +kernel)) ?_
  refine z_All.c (j := 23) rfl (ok_iret (by decide +kernel) rfl) ?_
  exact trivial
set_option maxRecDepth 20000 in
theorem zk45_0 (l : Launch) (scr B : Nat) (D : va_G) : z_All l scr B D 45 0 z_c45_0 := by
  refine z_All.c (j := 1) rfl (ok_iload_n (n := 2) (by decide +kernel) rfl) ?_
  refine z_All.c (j := 2) rfl (ok_if_eq (off := 17) (by decide +kernel) (by decide +kernel)) ?_
  refine z_All.c (j := 3) rfl ok_bad ?_
  refine z_All.c (j := 4) rfl ok_bad ?_
  refine z_All.c (j := 5) rfl (ok_aload_n (n := 0) (by decide +kernel) rfl) ?_
  refine z_All.c (j := 6) rfl (ok_get (idx := 9) (by decide +kernel) rfl (by decide) z_i2 zw29) ?_
  refine z_All.c (j := 7) rfl ok_bad ?_
  refine z_All.c (j := 8) rfl ok_bad ?_
  refine z_All.c (j := 9) rfl (ok_iload_n (n := 1) (by decide +kernel) rfl) ?_
  refine z_All.c (j := 10) rfl (ok_ixor (by decide +kernel)) ?_
  refine z_All.c (j := 11) rfl (ok_bipush (n := 32) (by decide +kernel) (by decide +kernel)) ?_
  refine z_All.c (j := 12) rfl ok_bad ?_
  refine z_All.c (j := 13) rfl (ok_iload_n (n := 2) (by decide +kernel) rfl) ?_
  refine z_All.c (j := 14) rfl (ok_isub (by decide +kernel)) ?_
  refine z_All.c (j := 15) rfl (ok_iushr (by decide +kernel)) ?_
  refine z_All.c (j := 16) rfl (ok_if_ne (off := 7) (by decide +kernel) (by decide +kernel)) ?_
  refine z_All.c (j := 17) rfl ok_bad ?_
  refine z_All.c (j := 18) rfl ok_bad ?_
  refine z_All.c (j := 19) rfl (ok_iconst (n := 1) (by decide +kernel) (by decide +kernel)) ?_
  refine z_All.c (j := 20) rfl (ok_goto (off := 4) (by decide +kernel) (by decide +kernel)) ?_
  refine z_All.c (j := 21) rfl ok_bad ?_
  refine z_All.c (j := 22) rfl ok_bad ?_
  refine z_All.c (j := 23) rfl (ok_iconst (n := 0) (by decide +kernel) (by decide +kernel)) ?_
  refine z_All.c (j := 24) rfl (ok_iret (by decide +kernel) rfl) ?_
  exact trivial
set_option maxRecDepth 20000 in
theorem zk46_0 (l : Launch) (scr B : Nat) (D : va_G) : z_All l scr B D 46 0 z_c46_0 := by
  refine z_All.c (j := 1) rfl (ok_aload_n (n := 0) (by decide +kernel) rfl) ?_
  refine z_All.c (j := 2) rfl (ok_obj (idx := 3) (by decide +kernel) zw46 zw19 zw20) ?_
  refine z_All.c (j := 3) rfl ok_bad ?_
  refine z_All.c (j := 4) rfl ok_bad ?_
  refine z_All.c (j := 5) rfl (ok_aload_n (n := 0) (by decide +kernel) rfl) ?_
  refine z_All.c (j := 6) rfl (ok_new (idx := 9) (by decide +kernel) rfl z_i4 z_t4 zw47 zw48 zw4 rfl (zd4 scr B)) ?_
  refine z_All.c (j := 7) rfl ok_bad ?_
  refine z_All.c (j := 8) rfl ok_bad ?_
  refine z_All.c (j := 9) rfl (ok_dup (by decide +kernel)) ?_
  refine z_All.c (j := 10) rfl (ok_ci (idx := 11) (by decide +kernel) zm56 rfl rfl zw49 zw50) ?_
  refine z_All.c (j := 11) rfl ok_bad ?_
  refine z_All.c (j := 12) rfl ok_bad ?_
  refine z_All.c (j := 13) rfl (ok_putF (idx := 12) (by decide +kernel) rfl (by decide) z_i3 z_t3 z_n3 zw100 rfl rfl rfl (by decide +kernel)) ?_
  refine z_All.c (j := 14) rfl ok_bad ?_
  refine z_All.c (j := 15) rfl ok_bad ?_
  refine z_All.c (j := 16) rfl (ok_aload_n (n := 0) (by decide +kernel) rfl) ?_
  refine z_All.c (j := 17) rfl (ok_new (idx := 18) (by decide +kernel) rfl z_i5 z_t5 zw98 zw54 zw5 rfl (zd5 scr B)) ?_
  refine z_All.c (j := 18) rfl ok_bad ?_
  refine z_All.c (j := 19) rfl ok_bad ?_
  refine z_All.c (j := 20) rfl (ok_dup (by decide +kernel)) ?_
  refine z_All.c (j := 21) rfl (ok_bipush (n := 60) (by decide +kernel) (by decide +kernel)) ?_
  refine z_All.c (j := 22) rfl ok_bad ?_
  refine z_All.c (j := 23) rfl (ok_ci (idx := 20) (by decide +kernel) zm60 rfl rfl zw99 zw56) ?_
  refine z_All.c (j := 24) rfl ok_bad ?_
  refine z_All.c (j := 25) rfl ok_bad ?_
  refine z_All.c (j := 26) rfl (ok_putF (idx := 23) (by decide +kernel) rfl (by decide) z_i3 z_t3 z_n3 zw102 rfl rfl rfl (by decide +kernel)) ?_
  refine z_All.c (j := 27) rfl ok_bad ?_
  refine z_All.c (j := 28) rfl ok_bad ?_
  refine z_All.c (j := 29) rfl (ok_aload_n (n := 0) (by decide +kernel) rfl) ?_
  refine z_All.c (j := 30) rfl (ok_new (idx := 18) (by decide +kernel) rfl z_i5 z_t5 zw98 zw54 zw5 rfl (zd5 scr B)) ?_
  refine z_All.c (j := 31) rfl ok_bad ?_
  refine z_All.c (j := 32) rfl ok_bad ?_
  refine z_All.c (j := 33) rfl (ok_dup (by decide +kernel)) ?_
  refine z_All.c (j := 34) rfl (ok_sipush (n := 242) (by decide +kernel) (by decide +kernel)) ?_
  refine z_All.c (j := 35) rfl ok_bad ?_
  refine z_All.c (j := 36) rfl ok_bad ?_
  refine z_All.c (j := 37) rfl (ok_ci (idx := 20) (by decide +kernel) zm60 rfl rfl zw99 zw56) ?_
  refine z_All.c (j := 38) rfl ok_bad ?_
  refine z_All.c (j := 39) rfl ok_bad ?_
  refine z_All.c (j := 40) rfl (ok_putF (idx := 27) (by decide +kernel) rfl (by decide) z_i3 z_t3 z_n3 zw104 rfl rfl rfl (by decide +kernel)) ?_
  refine z_All.c (j := 41) rfl ok_bad ?_
  refine z_All.c (j := 42) rfl ok_bad ?_
  refine z_All.c (j := 43) rfl (ok_aload_n (n := 0) (by decide +kernel) rfl) ?_
  refine z_All.c (j := 44) rfl (ok_bipush (n := 12) (by decide +kernel) (by decide +kernel)) ?_
  refine z_All.c (j := 45) rfl ok_bad ?_
  refine z_All.c (j := 46) rfl (ok_newa (aty := .boolean) (by decide +kernel) rfl zw122 rfl (by decide +kernel) (by intro z; cases z)) ?_
  refine z_All.c (j := 47) rfl ok_bad ?_
  refine z_All.c (j := 48) rfl (ok_putF (idx := 30) (by decide +kernel) rfl (by decide) z_i3 z_t3 z_n3 zw106 rfl rfl rfl (by decide +kernel)) ?_
  refine z_All.c (j := 49) rfl ok_bad ?_
  refine z_All.c (j := 50) rfl ok_bad ?_
  refine z_All.c (j := 51) rfl (ok_aload_n (n := 0) (by decide +kernel) rfl) ?_
  refine z_All.c (j := 52) rfl (ok_bipush (n := 12) (by decide +kernel) (by decide +kernel)) ?_
  refine z_All.c (j := 53) rfl ok_bad ?_
  refine z_All.c (j := 54) rfl (ok_newa (aty := .int) (by decide +kernel) rfl zw97 rfl (by decide +kernel) (by intro z; cases z)) ?_
  refine z_All.c (j := 55) rfl ok_bad ?_
  refine z_All.c (j := 56) rfl (ok_putF (idx := 34) (by decide +kernel) rfl (by decide) z_i3 z_t3 z_n3 zw107 rfl rfl rfl (by decide +kernel)) ?_
  refine z_All.c (j := 57) rfl ok_bad ?_
  refine z_All.c (j := 58) rfl ok_bad ?_
  refine z_All.c (j := 59) rfl (ok_vret (by decide +kernel) rfl) ?_
  exact trivial
set_option maxRecDepth 20000 in
theorem zk47_0 (l : Launch) (scr B : Nat) (D : va_G) : z_All l scr B D 47 0 z_c47_0 := by
  refine z_All.c (j := 1) rfl (ok_aload_n (n := 0) (by decide +kernel) rfl) ?_
  refine z_All.c (j := 2) rfl (ok_get (idx := 27) (by decide +kernel) rfl (by decide) z_i3 zw104) ?_
  refine z_All.c (j := 3) rfl ok_bad ?_
  refine z_All.c (j := 4) rfl ok_bad ?_
  refine z_All.c (j := 5) rfl (ok_iconst (n := 0) (by decide +kernel) (by decide +kernel)) ?_
  refine z_All.c (j := 6) rfl (ok_cv (idx := 38) (by decide +kernel) rfl zm63 zw426 zw394 zw395) ?_
  refine z_All.c (j := 7) rfl ok_bad ?_
  refine z_All.c (j := 8) rfl ok_bad ?_
  refine z_All.c (j := 9) rfl (ok_aload_n (n := 0) (by decide +kernel) rfl) ?_
  refine z_All.c (j := 10) rfl (ok_get (idx := 12) (by decide +kernel) rfl (by decide) z_i3 zw100) ?_
  refine z_All.c (j := 11) rfl ok_bad ?_
  refine z_All.c (j := 12) rfl ok_bad ?_
  refine z_All.c (j := 13) rfl (ok_cv (idx := 41) (by decide +kernel) rfl zm57 zw427 zw402 zw403) ?_
  refine z_All.c (j := 14) rfl ok_bad ?_
  refine z_All.c (j := 15) rfl ok_bad ?_
  refine z_All.c (j := 16) rfl (ok_if_ne (off := 5) (by decide +kernel) (by decide +kernel)) ?_
  refine z_All.c (j := 17) rfl ok_bad ?_
  refine z_All.c (j := 18) rfl ok_bad ?_
  refine z_All.c (j := 19) rfl (ok_iconst (n := 0) (by decide +kernel) (by decide +kernel)) ?_
  refine z_All.c (j := 20) rfl (ok_iret (by decide +kernel) rfl) ?_
  refine z_All.c (j := 21) rfl (ok_aload_n (n := 0) (by decide +kernel) rfl) ?_
  refine z_All.c (j := 22) rfl (ok_cv (idx := 45) (by decide +kernel) rfl zm48 zw428 zw430 (z_inP (List.mem_of_getElem? (i := 12) rfl) rfl)) ?_
  refine z_All.c (j := 23) rfl ok_bad ?_
  refine z_All.c (j := 24) rfl ok_bad ?_
  refine z_All.c (j := 25) rfl (ok_iconst (n := 0) (by decide +kernel) (by decide +kernel)) ?_
  refine z_All.c (j := 26) rfl (ok_istore_n (n := 3) (by decide +kernel) rfl (fun _ => rfl)) ?_
  refine z_All.c (j := 27) rfl (ok_iload_n (n := 3) (by decide +kernel) rfl) ?_
  refine z_All.c (j := 28) rfl (ok_aload_n (n := 0) (by decide +kernel) rfl) ?_
  refine z_All.c (j := 29) rfl (ok_get (idx := 48) (by decide +kernel) rfl (by decide) z_i3 zw108) ?_
  refine z_All.c (j := 30) rfl ok_bad ?_
  refine z_All.c (j := 31) rfl ok_bad ?_
  refine z_All.c (j := 32) rfl (ok_ic_ge (off := 68) (by decide +kernel) (by decide +kernel)) ?_
  refine z_All.c (j := 33) rfl ok_bad ?_
  refine z_All.c (j := 34) rfl ok_bad ?_
  refine z_All.c (j := 35) rfl (ok_iload_n (n := 1) (by decide +kernel) rfl) ?_
  refine z_All.c (j := 36) rfl (ok_if_eq (off := 16) (by decide +kernel) (by decide +kernel)) ?_
  refine z_All.c (j := 37) rfl ok_bad ?_
  refine z_All.c (j := 38) rfl ok_bad ?_
  refine z_All.c (j := 39) rfl (ok_aload_n (n := 0) (by decide +kernel) rfl) ?_
  refine z_All.c (j := 40) rfl (ok_aload_n (n := 0) (by decide +kernel) rfl) ?_
  refine z_All.c (j := 41) rfl (ok_get (idx := 34) (by decide +kernel) rfl (by decide) z_i3 zw107) ?_
  refine z_All.c (j := 42) rfl ok_bad ?_
  refine z_All.c (j := 43) rfl ok_bad ?_
  refine z_All.c (j := 44) rfl (ok_iload_n (n := 3) (by decide +kernel) rfl) ?_
  refine z_All.c (j := 45) rfl (ok_iald (by decide +kernel)) ?_
  refine z_All.c (j := 46) rfl (ok_cv (idx := 52) (by decide +kernel) rfl zm51 zw444 zw446 (z_inP (List.mem_of_getElem? (i := 15) rfl) rfl)) ?_
  refine z_All.c (j := 47) rfl ok_bad ?_
  refine z_All.c (j := 48) rfl ok_bad ?_
  refine z_All.c (j := 49) rfl (ok_goto (off := 45) (by decide +kernel) (by decide +kernel)) ?_
  refine z_All.c (j := 50) rfl ok_bad ?_
  refine z_All.c (j := 51) rfl ok_bad ?_
  refine z_All.c (j := 52) rfl (ok_aload_n (n := 0) (by decide +kernel) rfl) ?_
  refine z_All.c (j := 53) rfl (ok_aload_n (n := 0) (by decide +kernel) rfl) ?_
  refine z_All.c (j := 54) rfl (ok_get (idx := 12) (by decide +kernel) rfl (by decide) z_i3 zw100) ?_
  refine z_All.c (j := 55) rfl ok_bad ?_
  refine z_All.c (j := 56) rfl ok_bad ?_
  refine z_All.c (j := 57) rfl (ok_get (idx := 55) (by decide +kernel) rfl (by decide) z_i4 zw79) ?_
  refine z_All.c (j := 58) rfl ok_bad ?_
  refine z_All.c (j := 59) rfl ok_bad ?_
  refine z_All.c (j := 60) rfl (ok_aload_n (n := 0) (by decide +kernel) rfl) ?_
  refine z_All.c (j := 61) rfl (ok_get (idx := 34) (by decide +kernel) rfl (by decide) z_i3 zw107) ?_
  refine z_All.c (j := 62) rfl ok_bad ?_
  refine z_All.c (j := 63) rfl ok_bad ?_
  refine z_All.c (j := 64) rfl (ok_iload_n (n := 3) (by decide +kernel) rfl) ?_
  exact trivial
set_option maxRecDepth 20000 in
theorem zk47_1 (l : Launch) (scr B : Nat) (D : va_G) : z_All l scr B D 47 64 z_c47_1 := by
  refine z_All.c (j := 65) rfl (ok_iald (by decide +kernel)) ?_
  refine z_All.c (j := 66) rfl (ok_iald (by decide +kernel)) ?_
  refine z_All.c (j := 67) rfl (ok_aload_n (n := 0) (by decide +kernel) rfl) ?_
  refine z_All.c (j := 68) rfl (ok_get (idx := 12) (by decide +kernel) rfl (by decide) z_i3 zw100) ?_
  refine z_All.c (j := 69) rfl ok_bad ?_
  refine z_All.c (j := 70) rfl ok_bad ?_
  refine z_All.c (j := 71) rfl (ok_get (idx := 58) (by decide +kernel) rfl (by decide) z_i4 zw83) ?_
  refine z_All.c (j := 72) rfl ok_bad ?_
  refine z_All.c (j := 73) rfl ok_bad ?_
  refine z_All.c (j := 74) rfl (ok_aload_n (n := 0) (by decide +kernel) rfl) ?_
  refine z_All.c (j := 75) rfl (ok_get (idx := 34) (by decide +kernel) rfl (by decide) z_i3 zw107) ?_
  refine z_All.c (j := 76) rfl ok_bad ?_
  refine z_All.c (j := 77) rfl ok_bad ?_
  refine z_All.c (j := 78) rfl (ok_iload_n (n := 3) (by decide +kernel) rfl) ?_
  refine z_All.c (j := 79) rfl (ok_iald (by decide +kernel)) ?_
  refine z_All.c (j := 80) rfl (ok_iald (by decide +kernel)) ?_
  refine z_All.c (j := 81) rfl (ok_cv (idx := 61) (by decide +kernel) rfl zm54 zw453 zw455 (z_inP (List.mem_of_getElem? (i := 17) rfl) rfl)) ?_
  refine z_All.c (j := 82) rfl ok_bad ?_
  refine z_All.c (j := 83) rfl ok_bad ?_
  refine z_All.c (j := 84) rfl (ok_aload_n (n := 0) (by decide +kernel) rfl) ?_
  refine z_All.c (j := 85) rfl (ok_get (idx := 27) (by decide +kernel) rfl (by decide) z_i3 zw104) ?_
  refine z_All.c (j := 86) rfl ok_bad ?_
  refine z_All.c (j := 87) rfl ok_bad ?_
  refine z_All.c (j := 88) rfl (ok_bipush (n := 10) (by decide +kernel) (by decide +kernel)) ?_
  refine z_All.c (j := 89) rfl ok_bad ?_
  refine z_All.c (j := 90) rfl (ok_cv (idx := 65) (by decide +kernel) rfl zm61 zw448 zw379 zw380) ?_
  refine z_All.c (j := 91) rfl ok_bad ?_
  refine z_All.c (j := 92) rfl ok_bad ?_
  refine z_All.c (j := 93) rfl (ok_pop (by decide +kernel)) ?_
  refine z_All.c (j := 94) rfl (ok_iinc (n := 1) (by decide +kernel) (by decide +kernel)) ?_
  refine z_All.c (j := 95) rfl ok_bad ?_
  refine z_All.c (j := 96) rfl ok_bad ?_
  refine z_All.c (j := 97) rfl (ok_goto (off := -70) (by decide +kernel) (by decide +kernel)) ?_
  refine z_All.c (j := 98) rfl ok_bad ?_
  refine z_All.c (j := 99) rfl ok_bad ?_
  refine z_All.c (j := 100) rfl (ok_iload_n (n := 2) (by decide +kernel) rfl) ?_
  refine z_All.c (j := 101) rfl (ok_if_eq (off := 10) (by decide +kernel) (by decide +kernel)) ?_
  refine z_All.c (j := 102) rfl ok_bad ?_
  refine z_All.c (j := 103) rfl ok_bad ?_
  refine z_All.c (j := 104) rfl (ok_aload_n (n := 0) (by decide +kernel) rfl) ?_
  refine z_All.c (j := 105) rfl (ok_cv (idx := 69) (by decide +kernel) rfl zm53 zw457 zw459 (z_inP (List.mem_of_getElem? (i := 18) rfl) rfl)) ?_
  refine z_All.c (j := 106) rfl ok_bad ?_
  refine z_All.c (j := 107) rfl ok_bad ?_
  refine z_All.c (j := 108) rfl (ok_goto (off := 7) (by decide +kernel) (by decide +kernel)) ?_
  refine z_All.c (j := 109) rfl ok_bad ?_
  refine z_All.c (j := 110) rfl ok_bad ?_
  refine z_All.c (j := 111) rfl (ok_aload_n (n := 0) (by decide +kernel) rfl) ?_
  refine z_All.c (j := 112) rfl (ok_cv (idx := 72) (by decide +kernel) rfl zm52 zw461 zw463 (z_inP (List.mem_of_getElem? (i := 19) rfl) rfl)) ?_
  refine z_All.c (j := 113) rfl ok_bad ?_
  refine z_All.c (j := 114) rfl ok_bad ?_
  refine z_All.c (j := 115) rfl (ok_iconst (n := 1) (by decide +kernel) (by decide +kernel)) ?_
  refine z_All.c (j := 116) rfl (ok_iret (by decide +kernel) rfl) ?_
  exact trivial
set_option maxRecDepth 20000 in
theorem zk48_0 (l : Launch) (scr B : Nat) (D : va_G) : z_All l scr B D 48 0 z_c48_0 := by
  refine z_All.c (j := 1) rfl (ok_aload_n (n := 0) (by decide +kernel) rfl) ?_
  refine z_All.c (j := 2) rfl (ok_iconst (n := 0) (by decide +kernel) (by decide +kernel)) ?_
  refine z_All.c (j := 3) rfl (ok_put (idx := 48) (by decide +kernel) rfl (by decide) z_i3 z_t3 z_n3 zw108 rfl (by decide +kernel)) ?_
  refine z_All.c (j := 4) rfl ok_bad ?_
  refine z_All.c (j := 5) rfl ok_bad ?_
  refine z_All.c (j := 6) rfl (ok_iconst (n := 0) (by decide +kernel) (by decide +kernel)) ?_
  refine z_All.c (j := 7) rfl (ok_istore_n (n := 1) (by decide +kernel) rfl (fun _ => rfl)) ?_
  refine z_All.c (j := 8) rfl (ok_iload_n (n := 1) (by decide +kernel) rfl) ?_
  refine z_All.c (j := 9) rfl (ok_aload_n (n := 0) (by decide +kernel) rfl) ?_
  refine z_All.c (j := 10) rfl (ok_get (idx := 12) (by decide +kernel) rfl (by decide) z_i3 zw100) ?_
  refine z_All.c (j := 11) rfl ok_bad ?_
  refine z_All.c (j := 12) rfl ok_bad ?_
  refine z_All.c (j := 13) rfl (ok_get (idx := 75) (by decide +kernel) rfl (by decide) z_i4 zw74) ?_
  refine z_All.c (j := 14) rfl ok_bad ?_
  refine z_All.c (j := 15) rfl ok_bad ?_
  refine z_All.c (j := 16) rfl (ok_ic_ge (off := 16) (by decide +kernel) (by decide +kernel)) ?_
  refine z_All.c (j := 17) rfl ok_bad ?_
  refine z_All.c (j := 18) rfl ok_bad ?_
  refine z_All.c (j := 19) rfl (ok_aload_n (n := 0) (by decide +kernel) rfl) ?_
  refine z_All.c (j := 20) rfl (ok_get (idx := 30) (by decide +kernel) rfl (by decide) z_i3 zw106) ?_
  refine z_All.c (j := 21) rfl ok_bad ?_
  refine z_All.c (j := 22) rfl ok_bad ?_
  refine z_All.c (j := 23) rfl (ok_iload_n (n := 1) (by decide +kernel) rfl) ?_
  refine z_All.c (j := 24) rfl (ok_iconst (n := 0) (by decide +kernel) (by decide +kernel)) ?_
  refine z_All.c (j := 25) rfl (ok_zast (by decide +kernel)) ?_
  refine z_All.c (j := 26) rfl (ok_iinc (n := 1) (by decide +kernel) (by decide +kernel)) ?_
  refine z_All.c (j := 27) rfl ok_bad ?_
  refine z_All.c (j := 28) rfl ok_bad ?_
  refine z_All.c (j := 29) rfl (ok_goto (off := -21) (by decide +kernel) (by decide +kernel)) ?_
  refine z_All.c (j := 30) rfl ok_bad ?_
  refine z_All.c (j := 31) rfl ok_bad ?_
  refine z_All.c (j := 32) rfl (ok_iconst (n := 0) (by decide +kernel) (by decide +kernel)) ?_
  refine z_All.c (j := 33) rfl (ok_istore_n (n := 1) (by decide +kernel) rfl (fun _ => rfl)) ?_
  refine z_All.c (j := 34) rfl (ok_iconst (n := 0) (by decide +kernel) (by decide +kernel)) ?_
  refine z_All.c (j := 35) rfl (ok_istore_n (n := 2) (by decide +kernel) rfl (fun _ => rfl)) ?_
  refine z_All.c (j := 36) rfl (ok_iload_n (n := 2) (by decide +kernel) rfl) ?_
  refine z_All.c (j := 37) rfl (ok_aload_n (n := 0) (by decide +kernel) rfl) ?_
  refine z_All.c (j := 38) rfl (ok_get (idx := 23) (by decide +kernel) rfl (by decide) z_i3 zw102) ?_
  refine z_All.c (j := 39) rfl ok_bad ?_
  refine z_All.c (j := 40) rfl ok_bad ?_
  refine z_All.c (j := 41) rfl (ok_get (idx := 78) (by decide +kernel) rfl (by decide) z_i5 zw62) ?_
  refine z_All.c (j := 42) rfl ok_bad ?_
  refine z_All.c (j := 43) rfl ok_bad ?_
  refine z_All.c (j := 44) rfl (ok_ic_gt (off := 43) (by decide +kernel) (by decide +kernel)) ?_
  refine z_All.c (j := 45) rfl ok_bad ?_
  refine z_All.c (j := 46) rfl ok_bad ?_
  refine z_All.c (j := 47) rfl (ok_iload_n (n := 2) (by decide +kernel) rfl) ?_
  refine z_All.c (j := 48) rfl (ok_aload_n (n := 0) (by decide +kernel) rfl) ?_
  refine z_All.c (j := 49) rfl (ok_get (idx := 23) (by decide +kernel) rfl (by decide) z_i3 zw102) ?_
  refine z_All.c (j := 50) rfl ok_bad ?_
  refine z_All.c (j := 51) rfl ok_bad ?_
  refine z_All.c (j := 52) rfl (ok_get (idx := 78) (by decide +kernel) rfl (by decide) z_i5 zw62) ?_
  refine z_All.c (j := 53) rfl ok_bad ?_
  refine z_All.c (j := 54) rfl ok_bad ?_
  refine z_All.c (j := 55) rfl (ok_ic_eq (off := 16) (by decide +kernel) (by decide +kernel)) ?_
  refine z_All.c (j := 56) rfl ok_bad ?_
  refine z_All.c (j := 57) rfl ok_bad ?_
  refine z_All.c (j := 58) rfl (ok_aload_n (n := 0) (by decide +kernel) rfl) ?_
  refine z_All.c (j := 59) rfl (ok_get (idx := 23) (by decide +kernel) rfl (by decide) z_i3 zw102) ?_
  refine z_All.c (j := 60) rfl ok_bad ?_
  refine z_All.c (j := 61) rfl ok_bad ?_
  refine z_All.c (j := 62) rfl (ok_iload_n (n := 2) (by decide +kernel) rfl) ?_
  refine z_All.c (j := 63) rfl (ok_cv (idx := 81) (by decide +kernel) rfl zm62 zw432 zw406 zw407) ?_
  refine z_All.c (j := 64) rfl ok_bad ?_
  exact trivial
set_option maxRecDepth 20000 in
theorem zk48_1 (l : Launch) (scr B : Nat) (D : va_G) : z_All l scr B D 48 64 z_c48_1 := by
  refine z_All.c (j := 65) rfl ok_bad ?_
  refine z_All.c (j := 66) rfl (ok_bipush (n := 58) (by decide +kernel) (by decide +kernel)) ?_
  refine z_All.c (j := 67) rfl ok_bad ?_
  refine z_All.c (j := 68) rfl (ok_ic_ne (off := 13) (by decide +kernel) (by decide +kernel)) ?_
  refine z_All.c (j := 69) rfl ok_bad ?_
  refine z_All.c (j := 70) rfl ok_bad ?_
  refine z_All.c (j := 71) rfl (ok_aload_n (n := 0) (by decide +kernel) rfl) ?_
  refine z_All.c (j := 72) rfl (ok_iload_n (n := 1) (by decide +kernel) rfl) ?_
  refine z_All.c (j := 73) rfl (ok_iload_n (n := 2) (by decide +kernel) rfl) ?_
  refine z_All.c (j := 74) rfl (ok_cv (idx := 85) (by decide +kernel) rfl zm49 zw433 zw435 (z_inP (List.mem_of_getElem? (i := 13) rfl) rfl)) ?_
  refine z_All.c (j := 75) rfl ok_bad ?_
  refine z_All.c (j := 76) rfl ok_bad ?_
  refine z_All.c (j := 77) rfl (ok_iload_n (n := 2) (by decide +kernel) rfl) ?_
  refine z_All.c (j := 78) rfl (ok_iconst (n := 1) (by decide +kernel) (by decide +kernel)) ?_
  refine z_All.c (j := 79) rfl (ok_iadd (by decide +kernel)) ?_
  refine z_All.c (j := 80) rfl (ok_istore_n (n := 1) (by decide +kernel) rfl (fun _ => rfl)) ?_
  refine z_All.c (j := 81) rfl (ok_iinc (n := 1) (by decide +kernel) (by decide +kernel)) ?_
  refine z_All.c (j := 82) rfl ok_bad ?_
  refine z_All.c (j := 83) rfl ok_bad ?_
  refine z_All.c (j := 84) rfl (ok_goto (off := -48) (by decide +kernel) (by decide +kernel)) ?_
  refine z_All.c (j := 85) rfl ok_bad ?_
  refine z_All.c (j := 86) rfl ok_bad ?_
  refine z_All.c (j := 87) rfl (ok_vret (by decide +kernel) rfl) ?_
  exact trivial
set_option maxRecDepth 20000 in
theorem zk49_0 (l : Launch) (scr B : Nat) (D : va_G) : z_All l scr B D 49 0 z_c49_0 := by
  refine z_All.c (j := 1) rfl (ok_aload_n (n := 0) (by decide +kernel) rfl) ?_
  refine z_All.c (j := 2) rfl (ok_get (idx := 12) (by decide +kernel) rfl (by decide) z_i3 zw100) ?_
  refine z_All.c (j := 3) rfl ok_bad ?_
  refine z_All.c (j := 4) rfl ok_bad ?_
  refine z_All.c (j := 5) rfl (ok_get (idx := 75) (by decide +kernel) rfl (by decide) z_i4 zw74) ?_
  refine z_All.c (j := 6) rfl ok_bad ?_
  refine z_All.c (j := 7) rfl ok_bad ?_
  refine z_All.c (j := 8) rfl (ok_iconst (n := 1) (by decide +kernel) (by decide +kernel)) ?_
  refine z_All.c (j := 9) rfl (ok_isub (by decide +kernel)) ?_
  refine z_All.c (j := 10) rfl (ok_istore_n (n := 3) (by decide +kernel) rfl (fun _ => rfl)) ?_
  refine z_All.c (j := 11) rfl (ok_iload_n (n := 3) (by decide +kernel) rfl) ?_
  refine z_All.c (j := 12) rfl (ok_if_lt (off := 56) (by decide +kernel) (by decide +kernel)) ?_
  refine z_All.c (j := 13) rfl ok_bad ?_
  refine z_All.c (j := 14) rfl ok_bad ?_
  refine z_All.c (j := 15) rfl (ok_aload_n (n := 0) (by decide +kernel) rfl) ?_
  refine z_All.c (j := 16) rfl (ok_get (idx := 30) (by decide +kernel) rfl (by decide) z_i3 zw106) ?_
  refine z_All.c (j := 17) rfl ok_bad ?_
  refine z_All.c (j := 18) rfl ok_bad ?_
  refine z_All.c (j := 19) rfl (ok_iload_n (n := 3) (by decide +kernel) rfl) ?_
  refine z_All.c (j := 20) rfl (ok_zald (by decide +kernel)) ?_
  refine z_All.c (j := 21) rfl (ok_if_ne (off := 41) (by decide +kernel) (by decide +kernel)) ?_
  refine z_All.c (j := 22) rfl ok_bad ?_
  refine z_All.c (j := 23) rfl ok_bad ?_
  refine z_All.c (j := 24) rfl (ok_aload_n (n := 0) (by decide +kernel) rfl) ?_
  refine z_All.c (j := 25) rfl (ok_iload_n (n := 3) (by decide +kernel) rfl) ?_
  refine z_All.c (j := 26) rfl (ok_iload_n (n := 1) (by decide +kernel) rfl) ?_
  refine z_All.c (j := 27) rfl (ok_iload_n (n := 2) (by decide +kernel) rfl) ?_
  refine z_All.c (j := 28) rfl (ok_cv (idx := 88) (by decide +kernel) rfl zm50 zw437 zw439 (z_inP (List.mem_of_getElem? (i := 14) rfl) rfl)) ?_
  refine z_All.c (j := 29) rfl ok_bad ?_
  refine z_All.c (j := 30) rfl ok_bad ?_
  refine z_All.c (j := 31) rfl (ok_if_eq (off := 31) (by decide +kernel) (by decide +kernel)) ?_
  refine z_All.c (j := 32) rfl ok_bad ?_
  refine z_All.c (j := 33) rfl ok_bad ?_
  refine z_All.c (j := 34) rfl (ok_aload_n (n := 0) (by decide +kernel) rfl) ?_
  refine z_All.c (j := 35) rfl (ok_get (idx := 30) (by decide +kernel) rfl (by decide) z_i3 zw106) ?_
  refine z_All.c (j := 36) rfl ok_bad ?_
  refine z_All.c (j := 37) rfl ok_bad ?_
  refine z_All.c (j := 38) rfl (ok_iload_n (n := 3) (by decide +kernel) rfl) ?_
  refine z_All.c (j := 39) rfl (ok_iconst (n := 1) (by decide +kernel) (by decide +kernel)) ?_
  refine z_All.c (j := 40) rfl (ok_zast (by decide +kernel)) ?_
  refine z_All.c (j := 41) rfl (ok_aload_n (n := 0) (by decide +kernel) rfl) ?_
  refine z_All.c (j := 42) rfl (ok_get (idx := 34) (by decide +kernel) rfl (by decide) z_i3 zw107) ?_
  refine z_All.c (j := 43) rfl ok_bad ?_
  refine z_All.c (j := 44) rfl ok_bad ?_
  refine z_All.c (j := 45) rfl (ok_aload_n (n := 0) (by decide +kernel) rfl) ?_
  refine z_All.c (j := 46) rfl (ok_get (idx := 48) (by decide +kernel) rfl (by decide) z_i3 zw108) ?_
  refine z_All.c (j := 47) rfl ok_bad ?_
  refine z_All.c (j := 48) rfl ok_bad ?_
  refine z_All.c (j := 49) rfl (ok_iload_n (n := 3) (by decide +kernel) rfl) ?_
  refine z_All.c (j := 50) rfl (ok_iast (by decide +kernel)) ?_
  refine z_All.c (j := 51) rfl (ok_aload_n (n := 0) (by decide +kernel) rfl) ?_
  refine z_All.c (j := 52) rfl (ok_dup (by decide +kernel)) ?_
  refine z_All.c (j := 53) rfl (ok_get (idx := 48) (by decide +kernel) rfl (by decide) z_i3 zw108) ?_
  refine z_All.c (j := 54) rfl ok_bad ?_
  refine z_All.c (j := 55) rfl ok_bad ?_
  refine z_All.c (j := 56) rfl (ok_iconst (n := 1) (by decide +kernel) (by decide +kernel)) ?_
  refine z_All.c (j := 57) rfl (ok_iadd (by decide +kernel)) ?_
  refine z_All.c (j := 58) rfl (ok_put (idx := 48) (by decide +kernel) rfl (by decide) z_i3 z_t3 z_n3 zw108 rfl (by decide +kernel)) ?_
  refine z_All.c (j := 59) rfl ok_bad ?_
  refine z_All.c (j := 60) rfl ok_bad ?_
  refine z_All.c (j := 61) rfl (ok_vret (by decide +kernel) rfl) ?_
  refine z_All.c (j := 62) rfl (ok_iinc (n := -1) (by decide +kernel) (by decide +kernel)) ?_
  refine z_All.c (j := 63) rfl ok_bad ?_
  refine z_All.c (j := 64) rfl ok_bad ?_
  exact trivial
set_option maxRecDepth 20000 in
theorem zk49_1 (l : Launch) (scr B : Nat) (D : va_G) : z_All l scr B D 49 64 z_c49_1 := by
  refine z_All.c (j := 65) rfl (ok_goto (off := -54) (by decide +kernel) (by decide +kernel)) ?_
  refine z_All.c (j := 66) rfl ok_bad ?_
  refine z_All.c (j := 67) rfl ok_bad ?_
  refine z_All.c (j := 68) rfl (ok_vret (by decide +kernel) rfl) ?_
  exact trivial
set_option maxRecDepth 20000 in
theorem zk50_0 (l : Launch) (scr B : Nat) (D : va_G) : z_All l scr B D 50 0 z_c50_0 := by
  refine z_All.c (j := 1) rfl (ok_aload_n (n := 0) (by decide +kernel) rfl) ?_
  refine z_All.c (j := 2) rfl (ok_get (idx := 12) (by decide +kernel) rfl (by decide) z_i3 zw100) ?_
  refine z_All.c (j := 3) rfl ok_bad ?_
  refine z_All.c (j := 4) rfl ok_bad ?_
  refine z_All.c (j := 5) rfl (ok_get (idx := 55) (by decide +kernel) rfl (by decide) z_i4 zw79) ?_
  refine z_All.c (j := 6) rfl ok_bad ?_
  refine z_All.c (j := 7) rfl ok_bad ?_
  refine z_All.c (j := 8) rfl (ok_iload_n (n := 1) (by decide +kernel) rfl) ?_
  refine z_All.c (j := 9) rfl (ok_iald (by decide +kernel)) ?_
  refine z_All.c (j := 10) rfl (ok_istore (by decide +kernel) (fun _ => rfl)) ?_
  refine z_All.c (j := 11) rfl ok_bad ?_
  refine z_All.c (j := 12) rfl (ok_aload_n (n := 0) (by decide +kernel) rfl) ?_
  refine z_All.c (j := 13) rfl (ok_get (idx := 12) (by decide +kernel) rfl (by decide) z_i3 zw100) ?_
  refine z_All.c (j := 14) rfl ok_bad ?_
  refine z_All.c (j := 15) rfl ok_bad ?_
  refine z_All.c (j := 16) rfl (ok_get (idx := 92) (by decide +kernel) rfl (by decide) z_i4 zw81) ?_
  refine z_All.c (j := 17) rfl ok_bad ?_
  refine z_All.c (j := 18) rfl ok_bad ?_
  refine z_All.c (j := 19) rfl (ok_iload_n (n := 1) (by decide +kernel) rfl) ?_
  refine z_All.c (j := 20) rfl (ok_iald (by decide +kernel)) ?_
  refine z_All.c (j := 21) rfl (ok_iload (by decide +kernel)) ?_
  refine z_All.c (j := 22) rfl ok_bad ?_
  refine z_All.c (j := 23) rfl (ok_isub (by decide +kernel)) ?_
  refine z_All.c (j := 24) rfl (ok_iload_n (n := 3) (by decide +kernel) rfl) ?_
  refine z_All.c (j := 25) rfl (ok_iload_n (n := 2) (by decide +kernel) rfl) ?_
  refine z_All.c (j := 26) rfl (ok_isub (by decide +kernel)) ?_
  refine z_All.c (j := 27) rfl (ok_ic_eq (off := 5) (by decide +kernel) (by decide +kernel)) ?_
  refine z_All.c (j := 28) rfl ok_bad ?_
  refine z_All.c (j := 29) rfl ok_bad ?_
  refine z_All.c (j := 30) rfl (ok_iconst (n := 0) (by decide +kernel) (by decide +kernel)) ?_
  refine z_All.c (j := 31) rfl (ok_iret (by decide +kernel) rfl) ?_
  refine z_All.c (j := 32) rfl (ok_iconst (n := 0) (by decide +kernel) (by decide +kernel)) ?_
  refine z_All.c (j := 33) rfl (ok_istore (by decide +kernel) (fun _ => rfl)) ?_
  refine z_All.c (j := 34) rfl ok_bad ?_
  refine z_All.c (j := 35) rfl (ok_iload (by decide +kernel)) ?_
  refine z_All.c (j := 36) rfl ok_bad ?_
  refine z_All.c (j := 37) rfl (ok_iload_n (n := 3) (by decide +kernel) rfl) ?_
  refine z_All.c (j := 38) rfl (ok_iload_n (n := 2) (by decide +kernel) rfl) ?_
  refine z_All.c (j := 39) rfl (ok_isub (by decide +kernel)) ?_
  refine z_All.c (j := 40) rfl (ok_ic_ge (off := 50) (by decide +kernel) (by decide +kernel)) ?_
  refine z_All.c (j := 41) rfl ok_bad ?_
  refine z_All.c (j := 42) rfl ok_bad ?_
  refine z_All.c (j := 43) rfl (ok_aload_n (n := 0) (by decide +kernel) rfl) ?_
  refine z_All.c (j := 44) rfl (ok_get (idx := 12) (by decide +kernel) rfl (by decide) z_i3 zw100) ?_
  refine z_All.c (j := 45) rfl ok_bad ?_
  refine z_All.c (j := 46) rfl ok_bad ?_
  refine z_All.c (j := 47) rfl (ok_get (idx := 95) (by decide +kernel) rfl (by decide) z_i4 zw71) ?_
  refine z_All.c (j := 48) rfl ok_bad ?_
  refine z_All.c (j := 49) rfl ok_bad ?_
  refine z_All.c (j := 50) rfl (ok_iload (by decide +kernel)) ?_
  refine z_All.c (j := 51) rfl ok_bad ?_
  refine z_All.c (j := 52) rfl (ok_iload (by decide +kernel)) ?_
  refine z_All.c (j := 53) rfl ok_bad ?_
  refine z_All.c (j := 54) rfl (ok_iadd (by decide +kernel)) ?_
  refine z_All.c (j := 55) rfl (ok_cv (idx := 81) (by decide +kernel) rfl zm62 zw432 zw406 zw407) ?_
  refine z_All.c (j := 56) rfl ok_bad ?_
  refine z_All.c (j := 57) rfl ok_bad ?_
  refine z_All.c (j := 58) rfl (ok_csN (idx := 96) (by decide +kernel) zm26 zw441 zw442) ?_
  refine z_All.c (j := 59) rfl ok_bad ?_
  refine z_All.c (j := 60) rfl ok_bad ?_
  refine z_All.c (j := 61) rfl (ok_istore (by decide +kernel) (fun _ => rfl)) ?_
  refine z_All.c (j := 62) rfl ok_bad ?_
  refine z_All.c (j := 63) rfl (ok_iload (by decide +kernel)) ?_
  refine z_All.c (j := 64) rfl ok_bad ?_
  exact trivial
set_option maxRecDepth 20000 in
theorem zk50_1 (l : Launch) (scr B : Nat) (D : va_G) : z_All l scr B D 50 64 z_c50_1 := by
  refine z_All.c (j := 65) rfl (ok_aload_n (n := 0) (by decide +kernel) rfl) ?_
  refine z_All.c (j := 66) rfl (ok_get (idx := 23) (by decide +kernel) rfl (by decide) z_i3 zw102) ?_
  refine z_All.c (j := 67) rfl ok_bad ?_
  refine z_All.c (j := 68) rfl ok_bad ?_
  refine z_All.c (j := 69) rfl (ok_iload_n (n := 2) (by decide +kernel) rfl) ?_
  refine z_All.c (j := 70) rfl (ok_iload (by decide +kernel)) ?_
  refine z_All.c (j := 71) rfl ok_bad ?_
  refine z_All.c (j := 72) rfl (ok_iadd (by decide +kernel)) ?_
  refine z_All.c (j := 73) rfl (ok_cv (idx := 81) (by decide +kernel) rfl zm62 zw432 zw406 zw407) ?_
  refine z_All.c (j := 74) rfl ok_bad ?_
  refine z_All.c (j := 75) rfl ok_bad ?_
  refine z_All.c (j := 76) rfl (ok_csN (idx := 96) (by decide +kernel) zm26 zw441 zw442) ?_
  refine z_All.c (j := 77) rfl ok_bad ?_
  refine z_All.c (j := 78) rfl ok_bad ?_
  refine z_All.c (j := 79) rfl (ok_ic_eq (off := 5) (by decide +kernel) (by decide +kernel)) ?_
  refine z_All.c (j := 80) rfl ok_bad ?_
  refine z_All.c (j := 81) rfl ok_bad ?_
  refine z_All.c (j := 82) rfl (ok_iconst (n := 0) (by decide +kernel) (by decide +kernel)) ?_
  refine z_All.c (j := 83) rfl (ok_iret (by decide +kernel) rfl) ?_
  refine z_All.c (j := 84) rfl (ok_iinc (n := 1) (by decide +kernel) (by decide +kernel)) ?_
  refine z_All.c (j := 85) rfl ok_bad ?_
  refine z_All.c (j := 86) rfl ok_bad ?_
  refine z_All.c (j := 87) rfl (ok_goto (off := -52) (by decide +kernel) (by decide +kernel)) ?_
  refine z_All.c (j := 88) rfl ok_bad ?_
  refine z_All.c (j := 89) rfl ok_bad ?_
  refine z_All.c (j := 90) rfl (ok_iconst (n := 1) (by decide +kernel) (by decide +kernel)) ?_
  refine z_All.c (j := 91) rfl (ok_iret (by decide +kernel) rfl) ?_
  exact trivial
set_option maxRecDepth 20000 in
theorem zk51_0 (l : Launch) (scr B : Nat) (D : va_G) : z_All l scr B D 51 0 z_c51_0 := by
  refine z_All.c (j := 1) rfl (ok_aload_n (n := 0) (by decide +kernel) rfl) ?_
  refine z_All.c (j := 2) rfl (ok_get (idx := 12) (by decide +kernel) rfl (by decide) z_i3 zw100) ?_
  refine z_All.c (j := 3) rfl ok_bad ?_
  refine z_All.c (j := 4) rfl ok_bad ?_
  refine z_All.c (j := 5) rfl (ok_get (idx := 92) (by decide +kernel) rfl (by decide) z_i4 zw81) ?_
  refine z_All.c (j := 6) rfl ok_bad ?_
  refine z_All.c (j := 7) rfl ok_bad ?_
  refine z_All.c (j := 8) rfl (ok_iload_n (n := 1) (by decide +kernel) rfl) ?_
  refine z_All.c (j := 9) rfl (ok_iald (by decide +kernel)) ?_
  refine z_All.c (j := 10) rfl (ok_istore_n (n := 2) (by decide +kernel) rfl (fun _ => rfl)) ?_
  refine z_All.c (j := 11) rfl (ok_aload_n (n := 0) (by decide +kernel) rfl) ?_
  refine z_All.c (j := 12) rfl (ok_get (idx := 12) (by decide +kernel) rfl (by decide) z_i3 zw100) ?_
  refine z_All.c (j := 13) rfl ok_bad ?_
  refine z_All.c (j := 14) rfl ok_bad ?_
  refine z_All.c (j := 15) rfl (ok_get (idx := 55) (by decide +kernel) rfl (by decide) z_i4 zw79) ?_
  refine z_All.c (j := 16) rfl ok_bad ?_
  refine z_All.c (j := 17) rfl ok_bad ?_
  refine z_All.c (j := 18) rfl (ok_iload_n (n := 1) (by decide +kernel) rfl) ?_
  refine z_All.c (j := 19) rfl (ok_iald (by decide +kernel)) ?_
  refine z_All.c (j := 20) rfl (ok_istore_n (n := 3) (by decide +kernel) rfl (fun _ => rfl)) ?_
  refine z_All.c (j := 21) rfl (ok_iload_n (n := 3) (by decide +kernel) rfl) ?_
  refine z_All.c (j := 22) rfl (ok_iload_n (n := 2) (by decide +kernel) rfl) ?_
  refine z_All.c (j := 23) rfl (ok_ic_ge (off := 31) (by decide +kernel) (by decide +kernel)) ?_
  refine z_All.c (j := 24) rfl ok_bad ?_
  refine z_All.c (j := 25) rfl ok_bad ?_
  refine z_All.c (j := 26) rfl (ok_aload_n (n := 0) (by decide +kernel) rfl) ?_
  refine z_All.c (j := 27) rfl (ok_get (idx := 27) (by decide +kernel) rfl (by decide) z_i3 zw104) ?_
  refine z_All.c (j := 28) rfl ok_bad ?_
  refine z_All.c (j := 29) rfl ok_bad ?_
  refine z_All.c (j := 30) rfl (ok_aload_n (n := 0) (by decide +kernel) rfl) ?_
  refine z_All.c (j := 31) rfl (ok_get (idx := 12) (by decide +kernel) rfl (by decide) z_i3 zw100) ?_
  refine z_All.c (j := 32) rfl ok_bad ?_
  refine z_All.c (j := 33) rfl ok_bad ?_
  refine z_All.c (j := 34) rfl (ok_get (idx := 95) (by decide +kernel) rfl (by decide) z_i4 zw71) ?_
  refine z_All.c (j := 35) rfl ok_bad ?_
  refine z_All.c (j := 36) rfl ok_bad ?_
  refine z_All.c (j := 37) rfl (ok_iload_n (n := 3) (by decide +kernel) rfl) ?_
  refine z_All.c (j := 38) rfl (ok_cv (idx := 81) (by decide +kernel) rfl zm62 zw432 zw406 zw407) ?_
  refine z_All.c (j := 39) rfl ok_bad ?_
  refine z_All.c (j := 40) rfl ok_bad ?_
  refine z_All.c (j := 41) rfl (ok_csN (idx := 96) (by decide +kernel) zm26 zw441 zw442) ?_
  refine z_All.c (j := 42) rfl ok_bad ?_
  refine z_All.c (j := 43) rfl ok_bad ?_
  refine z_All.c (j := 44) rfl (ok_cv (idx := 65) (by decide +kernel) rfl zm61 zw448 zw379 zw380) ?_
  refine z_All.c (j := 45) rfl ok_bad ?_
  refine z_All.c (j := 46) rfl ok_bad ?_
  refine z_All.c (j := 47) rfl (ok_pop (by decide +kernel)) ?_
  refine z_All.c (j := 48) rfl (ok_iinc (n := 1) (by decide +kernel) (by decide +kernel)) ?_
  refine z_All.c (j := 49) rfl ok_bad ?_
  refine z_All.c (j := 50) rfl ok_bad ?_
  refine z_All.c (j := 51) rfl (ok_goto (off := -30) (by decide +kernel) (by decide +kernel)) ?_
  refine z_All.c (j := 52) rfl ok_bad ?_
  refine z_All.c (j := 53) rfl ok_bad ?_
  refine z_All.c (j := 54) rfl (ok_aload_n (n := 0) (by decide +kernel) rfl) ?_
  refine z_All.c (j := 55) rfl (ok_get (idx := 27) (by decide +kernel) rfl (by decide) z_i3 zw104) ?_
  refine z_All.c (j := 56) rfl ok_bad ?_
  refine z_All.c (j := 57) rfl ok_bad ?_
  refine z_All.c (j := 58) rfl (ok_bipush (n := 58) (by decide +kernel) (by decide +kernel)) ?_
  refine z_All.c (j := 59) rfl ok_bad ?_
  refine z_All.c (j := 60) rfl (ok_cv (idx := 65) (by decide +kernel) rfl zm61 zw448 zw379 zw380) ?_
  refine z_All.c (j := 61) rfl ok_bad ?_
  refine z_All.c (j := 62) rfl ok_bad ?_
  refine z_All.c (j := 63) rfl (ok_pop (by decide +kernel)) ?_
  refine z_All.c (j := 64) rfl (ok_aload_n (n := 0) (by decide +kernel) rfl) ?_
  exact trivial
set_option maxRecDepth 20000 in
theorem zk51_1 (l : Launch) (scr B : Nat) (D : va_G) : z_All l scr B D 51 64 z_c51_1 := by
  refine z_All.c (j := 65) rfl (ok_iload_n (n := 2) (by decide +kernel) rfl) ?_
  refine z_All.c (j := 66) rfl (ok_iconst (n := 1) (by decide +kernel) (by decide +kernel)) ?_
  refine z_All.c (j := 67) rfl (ok_iadd (by decide +kernel)) ?_
  refine z_All.c (j := 68) rfl (ok_aload_n (n := 0) (by decide +kernel) rfl) ?_
  refine z_All.c (j := 69) rfl (ok_get (idx := 12) (by decide +kernel) rfl (by decide) z_i3 zw100) ?_
  refine z_All.c (j := 70) rfl ok_bad ?_
  refine z_All.c (j := 71) rfl ok_bad ?_
  refine z_All.c (j := 72) rfl (ok_get (idx := 58) (by decide +kernel) rfl (by decide) z_i4 zw83) ?_
  refine z_All.c (j := 73) rfl ok_bad ?_
  refine z_All.c (j := 74) rfl ok_bad ?_
  refine z_All.c (j := 75) rfl (ok_iload_n (n := 1) (by decide +kernel) rfl) ?_
  refine z_All.c (j := 76) rfl (ok_iald (by decide +kernel)) ?_
  refine z_All.c (j := 77) rfl (ok_iconst (n := 1) (by decide +kernel) (by decide +kernel)) ?_
  refine z_All.c (j := 78) rfl (ok_cv (idx := 99) (by decide +kernel) rfl zm55 zw449 zw451 (z_inP (List.mem_of_getElem? (i := 16) rfl) rfl)) ?_
  refine z_All.c (j := 79) rfl ok_bad ?_
  refine z_All.c (j := 80) rfl ok_bad ?_
  refine z_All.c (j := 81) rfl (ok_aload_n (n := 0) (by decide +kernel) rfl) ?_
  refine z_All.c (j := 82) rfl (ok_get (idx := 27) (by decide +kernel) rfl (by decide) z_i3 zw104) ?_
  refine z_All.c (j := 83) rfl ok_bad ?_
  refine z_All.c (j := 84) rfl ok_bad ?_
  refine z_All.c (j := 85) rfl (ok_bipush (n := 10) (by decide +kernel) (by decide +kernel)) ?_
  refine z_All.c (j := 86) rfl ok_bad ?_
  refine z_All.c (j := 87) rfl (ok_cv (idx := 65) (by decide +kernel) rfl zm61 zw448 zw379 zw380) ?_
  refine z_All.c (j := 88) rfl ok_bad ?_
  refine z_All.c (j := 89) rfl ok_bad ?_
  refine z_All.c (j := 90) rfl (ok_pop (by decide +kernel)) ?_
  refine z_All.c (j := 91) rfl (ok_vret (by decide +kernel) rfl) ?_
  exact trivial
set_option maxRecDepth 20000 in
theorem zk52_0 (l : Launch) (scr B : Nat) (D : va_G) : z_All l scr B D 52 0 z_c52_0 := by
  refine z_All.c (j := 1) rfl (ok_aload_n (n := 0) (by decide +kernel) rfl) ?_
  refine z_All.c (j := 2) rfl (ok_get (idx := 12) (by decide +kernel) rfl (by decide) z_i3 zw100) ?_
  refine z_All.c (j := 3) rfl ok_bad ?_
  refine z_All.c (j := 4) rfl ok_bad ?_
  refine z_All.c (j := 5) rfl (ok_get (idx := 95) (by decide +kernel) rfl (by decide) z_i4 zw71) ?_
  refine z_All.c (j := 6) rfl ok_bad ?_
  refine z_All.c (j := 7) rfl ok_bad ?_
  refine z_All.c (j := 8) rfl (ok_get (idx := 78) (by decide +kernel) rfl (by decide) z_i5 zw62) ?_
  refine z_All.c (j := 9) rfl ok_bad ?_
  refine z_All.c (j := 10) rfl ok_bad ?_
  refine z_All.c (j := 11) rfl (ok_istore_n (n := 1) (by decide +kernel) rfl (fun _ => rfl)) ?_
  refine z_All.c (j := 12) rfl (ok_iload_n (n := 1) (by decide +kernel) rfl) ?_
  refine z_All.c (j := 13) rfl (ok_aload_n (n := 0) (by decide +kernel) rfl) ?_
  refine z_All.c (j := 14) rfl (ok_get (idx := 12) (by decide +kernel) rfl (by decide) z_i3 zw100) ?_
  refine z_All.c (j := 15) rfl ok_bad ?_
  refine z_All.c (j := 16) rfl ok_bad ?_
  refine z_All.c (j := 17) rfl (ok_get (idx := 103) (by decide +kernel) rfl (by decide) z_i4 zw77) ?_
  refine z_All.c (j := 18) rfl ok_bad ?_
  refine z_All.c (j := 19) rfl ok_bad ?_
  refine z_All.c (j := 20) rfl (ok_ic_le (off := 27) (by decide +kernel) (by decide +kernel)) ?_
  refine z_All.c (j := 21) rfl ok_bad ?_
  refine z_All.c (j := 22) rfl ok_bad ?_
  refine z_All.c (j := 23) rfl (ok_aload_n (n := 0) (by decide +kernel) rfl) ?_
  refine z_All.c (j := 24) rfl (ok_get (idx := 12) (by decide +kernel) rfl (by decide) z_i3 zw100) ?_
  refine z_All.c (j := 25) rfl ok_bad ?_
  refine z_All.c (j := 26) rfl ok_bad ?_
  refine z_All.c (j := 27) rfl (ok_get (idx := 95) (by decide +kernel) rfl (by decide) z_i4 zw71) ?_
  refine z_All.c (j := 28) rfl ok_bad ?_
  refine z_All.c (j := 29) rfl ok_bad ?_
  refine z_All.c (j := 30) rfl (ok_iload_n (n := 1) (by decide +kernel) rfl) ?_
  refine z_All.c (j := 31) rfl (ok_iconst (n := 1) (by decide +kernel) (by decide +kernel)) ?_
  refine z_All.c (j := 32) rfl (ok_isub (by decide +kernel)) ?_
  refine z_All.c (j := 33) rfl (ok_cv (idx := 81) (by decide +kernel) rfl zm62 zw432 zw406 zw407) ?_
  refine z_All.c (j := 34) rfl ok_bad ?_
  refine z_All.c (j := 35) rfl ok_bad ?_
  refine z_All.c (j := 36) rfl (ok_bipush (n := 10) (by decide +kernel) (by decide +kernel)) ?_
  refine z_All.c (j := 37) rfl ok_bad ?_
  refine z_All.c (j := 38) rfl (ok_ic_ne (off := 9) (by decide +kernel) (by decide +kernel)) ?_
  refine z_All.c (j := 39) rfl ok_bad ?_
  refine z_All.c (j := 40) rfl ok_bad ?_
  refine z_All.c (j := 41) rfl (ok_iinc (n := -1) (by decide +kernel) (by decide +kernel)) ?_
  refine z_All.c (j := 42) rfl ok_bad ?_
  refine z_All.c (j := 43) rfl ok_bad ?_
  refine z_All.c (j := 44) rfl (ok_goto (off := -32) (by decide +kernel) (by decide +kernel)) ?_
  refine z_All.c (j := 45) rfl ok_bad ?_
  refine z_All.c (j := 46) rfl ok_bad ?_
  refine z_All.c (j := 47) rfl (ok_aload_n (n := 0) (by decide +kernel) rfl) ?_
  refine z_All.c (j := 48) rfl (ok_aload_n (n := 0) (by decide +kernel) rfl) ?_
  refine z_All.c (j := 49) rfl (ok_get (idx := 12) (by decide +kernel) rfl (by decide) z_i3 zw100) ?_
  refine z_All.c (j := 50) rfl ok_bad ?_
  refine z_All.c (j := 51) rfl ok_bad ?_
  refine z_All.c (j := 52) rfl (ok_get (idx := 103) (by decide +kernel) rfl (by decide) z_i4 zw77) ?_
  refine z_All.c (j := 53) rfl ok_bad ?_
  refine z_All.c (j := 54) rfl ok_bad ?_
  refine z_All.c (j := 55) rfl (ok_iload_n (n := 1) (by decide +kernel) rfl) ?_
  refine z_All.c (j := 56) rfl (ok_cv (idx := 61) (by decide +kernel) rfl zm54 zw453 zw455 (z_inP (List.mem_of_getElem? (i := 17) rfl) rfl)) ?_
  refine z_All.c (j := 57) rfl ok_bad ?_
  refine z_All.c (j := 58) rfl ok_bad ?_
  refine z_All.c (j := 59) rfl (ok_aload_n (n := 0) (by decide +kernel) rfl) ?_
  refine z_All.c (j := 60) rfl (ok_get (idx := 27) (by decide +kernel) rfl (by decide) z_i3 zw104) ?_
  refine z_All.c (j := 61) rfl ok_bad ?_
  refine z_All.c (j := 62) rfl ok_bad ?_
  refine z_All.c (j := 63) rfl (ok_bipush (n := 10) (by decide +kernel) (by decide +kernel)) ?_
  refine z_All.c (j := 64) rfl ok_bad ?_
  exact trivial
set_option maxRecDepth 20000 in
theorem zk52_1 (l : Launch) (scr B : Nat) (D : va_G) : z_All l scr B D 52 64 z_c52_1 := by
  refine z_All.c (j := 65) rfl (ok_cv (idx := 65) (by decide +kernel) rfl zm61 zw448 zw379 zw380) ?_
  refine z_All.c (j := 66) rfl ok_bad ?_
  refine z_All.c (j := 67) rfl ok_bad ?_
  refine z_All.c (j := 68) rfl (ok_pop (by decide +kernel)) ?_
  refine z_All.c (j := 69) rfl (ok_vret (by decide +kernel) rfl) ?_
  exact trivial
set_option maxRecDepth 20000 in
theorem zk53_0 (l : Launch) (scr B : Nat) (D : va_G) : z_All l scr B D 53 0 z_c53_0 := by
  refine z_All.c (j := 1) rfl (ok_aload_n (n := 0) (by decide +kernel) rfl) ?_
  refine z_All.c (j := 2) rfl (ok_get (idx := 27) (by decide +kernel) rfl (by decide) z_i3 zw104) ?_
  refine z_All.c (j := 3) rfl ok_bad ?_
  refine z_All.c (j := 4) rfl ok_bad ?_
  refine z_All.c (j := 5) rfl (ok_get (idx := 78) (by decide +kernel) rfl (by decide) z_i5 zw62) ?_
  refine z_All.c (j := 6) rfl ok_bad ?_
  refine z_All.c (j := 7) rfl ok_bad ?_
  refine z_All.c (j := 8) rfl (ok_istore_n (n := 1) (by decide +kernel) rfl (fun _ => rfl)) ?_
  refine z_All.c (j := 9) rfl (ok_aload_n (n := 0) (by decide +kernel) rfl) ?_
  refine z_All.c (j := 10) rfl (ok_get (idx := 12) (by decide +kernel) rfl (by decide) z_i3 zw100) ?_
  refine z_All.c (j := 11) rfl ok_bad ?_
  refine z_All.c (j := 12) rfl ok_bad ?_
  refine z_All.c (j := 13) rfl (ok_get (idx := 103) (by decide +kernel) rfl (by decide) z_i4 zw77) ?_
  refine z_All.c (j := 14) rfl ok_bad ?_
  refine z_All.c (j := 15) rfl ok_bad ?_
  refine z_All.c (j := 16) rfl (ok_istore_n (n := 2) (by decide +kernel) rfl (fun _ => rfl)) ?_
  refine z_All.c (j := 17) rfl (ok_iload_n (n := 2) (by decide +kernel) rfl) ?_
  refine z_All.c (j := 18) rfl (ok_istore_n (n := 3) (by decide +kernel) rfl (fun _ => rfl)) ?_
  refine z_All.c (j := 19) rfl (ok_iload_n (n := 3) (by decide +kernel) rfl) ?_
  refine z_All.c (j := 20) rfl (ok_aload_n (n := 0) (by decide +kernel) rfl) ?_
  refine z_All.c (j := 21) rfl (ok_get (idx := 12) (by decide +kernel) rfl (by decide) z_i3 zw100) ?_
  refine z_All.c (j := 22) rfl ok_bad ?_
  refine z_All.c (j := 23) rfl ok_bad ?_
  refine z_All.c (j := 24) rfl (ok_get (idx := 95) (by decide +kernel) rfl (by decide) z_i4 zw71) ?_
  refine z_All.c (j := 25) rfl ok_bad ?_
  refine z_All.c (j := 26) rfl ok_bad ?_
  refine z_All.c (j := 27) rfl (ok_get (idx := 78) (by decide +kernel) rfl (by decide) z_i5 zw62) ?_
  refine z_All.c (j := 28) rfl ok_bad ?_
  refine z_All.c (j := 29) rfl ok_bad ?_
  refine z_All.c (j := 30) rfl (ok_ic_gt (off := 105) (by decide +kernel) (by decide +kernel)) ?_
  refine z_All.c (j := 31) rfl ok_bad ?_
  refine z_All.c (j := 32) rfl ok_bad ?_
  refine z_All.c (j := 33) rfl (ok_iload_n (n := 3) (by decide +kernel) rfl) ?_
  refine z_All.c (j := 34) rfl (ok_aload_n (n := 0) (by decide +kernel) rfl) ?_
  refine z_All.c (j := 35) rfl (ok_get (idx := 12) (by decide +kernel) rfl (by decide) z_i3 zw100) ?_
  refine z_All.c (j := 36) rfl ok_bad ?_
  refine z_All.c (j := 37) rfl ok_bad ?_
  refine z_All.c (j := 38) rfl (ok_get (idx := 95) (by decide +kernel) rfl (by decide) z_i4 zw71) ?_
  refine z_All.c (j := 39) rfl ok_bad ?_
  refine z_All.c (j := 40) rfl ok_bad ?_
  refine z_All.c (j := 41) rfl (ok_get (idx := 78) (by decide +kernel) rfl (by decide) z_i5 zw62) ?_
  refine z_All.c (j := 42) rfl ok_bad ?_
  refine z_All.c (j := 43) rfl ok_bad ?_
  refine z_All.c (j := 44) rfl (ok_ic_eq (off := 19) (by decide +kernel) (by decide +kernel)) ?_
  refine z_All.c (j := 45) rfl ok_bad ?_
  refine z_All.c (j := 46) rfl ok_bad ?_
  refine z_All.c (j := 47) rfl (ok_aload_n (n := 0) (by decide +kernel) rfl) ?_
  refine z_All.c (j := 48) rfl (ok_get (idx := 12) (by decide +kernel) rfl (by decide) z_i3 zw100) ?_
  refine z_All.c (j := 49) rfl ok_bad ?_
  refine z_All.c (j := 50) rfl ok_bad ?_
  refine z_All.c (j := 51) rfl (ok_get (idx := 95) (by decide +kernel) rfl (by decide) z_i4 zw71) ?_
  refine z_All.c (j := 52) rfl ok_bad ?_
  refine z_All.c (j := 53) rfl ok_bad ?_
  refine z_All.c (j := 54) rfl (ok_iload_n (n := 3) (by decide +kernel) rfl) ?_
  refine z_All.c (j := 55) rfl (ok_cv (idx := 81) (by decide +kernel) rfl zm62 zw432 zw406 zw407) ?_
  refine z_All.c (j := 56) rfl ok_bad ?_
  refine z_All.c (j := 57) rfl ok_bad ?_
  refine z_All.c (j := 58) rfl (ok_bipush (n := 10) (by decide +kernel) (by decide +kernel)) ?_
  refine z_All.c (j := 59) rfl ok_bad ?_
  refine z_All.c (j := 60) rfl (ok_ic_ne (off := 69) (by decide +kernel) (by decide +kernel)) ?_
  refine z_All.c (j := 61) rfl ok_bad ?_
  refine z_All.c (j := 62) rfl ok_bad ?_
  refine z_All.c (j := 63) rfl (ok_aload_n (n := 0) (by decide +kernel) rfl) ?_
  refine z_All.c (j := 64) rfl (ok_get (idx := 27) (by decide +kernel) rfl (by decide) z_i3 zw104) ?_
  exact trivial
set_option maxRecDepth 20000 in
theorem zk53_1 (l : Launch) (scr B : Nat) (D : va_G) : z_All l scr B D 53 64 z_c53_1 := by
  refine z_All.c (j := 65) rfl ok_bad ?_
  refine z_All.c (j := 66) rfl ok_bad ?_
  refine z_All.c (j := 67) rfl (ok_get (idx := 78) (by decide +kernel) rfl (by decide) z_i5 zw62) ?_
  refine z_All.c (j := 68) rfl ok_bad ?_
  refine z_All.c (j := 69) rfl ok_bad ?_
  refine z_All.c (j := 70) rfl (ok_istore (by decide +kernel) (fun _ => rfl)) ?_
  refine z_All.c (j := 71) rfl ok_bad ?_
  refine z_All.c (j := 72) rfl (ok_aload_n (n := 0) (by decide +kernel) rfl) ?_
  refine z_All.c (j := 73) rfl (ok_iload_n (n := 2) (by decide +kernel) rfl) ?_
  refine z_All.c (j := 74) rfl (ok_iload_n (n := 3) (by decide +kernel) rfl) ?_
  refine z_All.c (j := 75) rfl (ok_iconst (n := 0) (by decide +kernel) (by decide +kernel)) ?_
  refine z_All.c (j := 76) rfl (ok_cv (idx := 99) (by decide +kernel) rfl zm55 zw449 zw451 (z_inP (List.mem_of_getElem? (i := 16) rfl) rfl)) ?_
  refine z_All.c (j := 77) rfl ok_bad ?_
  refine z_All.c (j := 78) rfl ok_bad ?_
  refine z_All.c (j := 79) rfl (ok_aload_n (n := 0) (by decide +kernel) rfl) ?_
  refine z_All.c (j := 80) rfl (ok_get (idx := 27) (by decide +kernel) rfl (by decide) z_i3 zw104) ?_
  refine z_All.c (j := 81) rfl ok_bad ?_
  refine z_All.c (j := 82) rfl ok_bad ?_
  refine z_All.c (j := 83) rfl (ok_get (idx := 78) (by decide +kernel) rfl (by decide) z_i5 zw62) ?_
  refine z_All.c (j := 84) rfl ok_bad ?_
  refine z_All.c (j := 85) rfl ok_bad ?_
  refine z_All.c (j := 86) rfl (ok_iload (by decide +kernel)) ?_
  refine z_All.c (j := 87) rfl ok_bad ?_
  refine z_All.c (j := 88) rfl (ok_ic_ne (off := 7) (by decide +kernel) (by decide +kernel)) ?_
  refine z_All.c (j := 89) rfl ok_bad ?_
  refine z_All.c (j := 90) rfl ok_bad ?_
  refine z_All.c (j := 91) rfl (ok_iconst (n := 1) (by decide +kernel) (by decide +kernel)) ?_
  refine z_All.c (j := 92) rfl (ok_goto (off := 4) (by decide +kernel) (by decide +kernel)) ?_
  refine z_All.c (j := 93) rfl ok_bad ?_
  refine z_All.c (j := 94) rfl ok_bad ?_
  refine z_All.c (j := 95) rfl (ok_iconst (n := 0) (by decide +kernel) (by decide +kernel)) ?_
  refine z_All.c (j := 96) rfl (ok_istore (by decide +kernel) (fun _ => rfl)) ?_
  refine z_All.c (j := 97) rfl ok_bad ?_
  refine z_All.c (j := 98) rfl (ok_aload_n (n := 0) (by decide +kernel) rfl) ?_
  refine z_All.c (j := 99) rfl (ok_get (idx := 27) (by decide +kernel) rfl (by decide) z_i3 zw104) ?_
  refine z_All.c (j := 100) rfl ok_bad ?_
  refine z_All.c (j := 101) rfl ok_bad ?_
  refine z_All.c (j := 102) rfl (ok_bipush (n := 10) (by decide +kernel) (by decide +kernel)) ?_
  refine z_All.c (j := 103) rfl ok_bad ?_
  refine z_All.c (j := 104) rfl (ok_cv (idx := 65) (by decide +kernel) rfl zm61 zw448 zw379 zw380) ?_
  refine z_All.c (j := 105) rfl ok_bad ?_
  refine z_All.c (j := 106) rfl ok_bad ?_
  refine z_All.c (j := 107) rfl (ok_pop (by decide +kernel)) ?_
  refine z_All.c (j := 108) rfl (ok_iload (by decide +kernel)) ?_
  refine z_All.c (j := 109) rfl ok_bad ?_
  refine z_All.c (j := 110) rfl (ok_if_eq (off := 7) (by decide +kernel) (by decide +kernel)) ?_
  refine z_All.c (j := 111) rfl ok_bad ?_
  refine z_All.c (j := 112) rfl ok_bad ?_
  refine z_All.c (j := 113) rfl (ok_iload_n (n := 1) (by decide +kernel) rfl) ?_
  refine z_All.c (j := 114) rfl (ok_goto (off := 10) (by decide +kernel) (by decide +kernel)) ?_
  refine z_All.c (j := 115) rfl ok_bad ?_
  refine z_All.c (j := 116) rfl ok_bad ?_
  refine z_All.c (j := 117) rfl (ok_aload_n (n := 0) (by decide +kernel) rfl) ?_
  refine z_All.c (j := 118) rfl (ok_get (idx := 27) (by decide +kernel) rfl (by decide) z_i3 zw104) ?_
  refine z_All.c (j := 119) rfl ok_bad ?_
  refine z_All.c (j := 120) rfl ok_bad ?_
  refine z_All.c (j := 121) rfl (ok_get (idx := 78) (by decide +kernel) rfl (by decide) z_i5 zw62) ?_
  refine z_All.c (j := 122) rfl ok_bad ?_
  refine z_All.c (j := 123) rfl ok_bad ?_
  refine z_All.c (j := 124) rfl (ok_istore_n (n := 1) (by decide +kernel) rfl (fun _ => rfl)) ?_
  refine z_All.c (j := 125) rfl (ok_iload_n (n := 3) (by decide +kernel) rfl) ?_
  refine z_All.c (j := 126) rfl (ok_iconst (n := 1) (by decide +kernel) (by decide +kernel)) ?_
  refine z_All.c (j := 127) rfl (ok_iadd (by decide +kernel)) ?_
  refine z_All.c (j := 128) rfl (ok_istore_n (n := 2) (by decide +kernel) rfl (fun _ => rfl)) ?_
  exact trivial
set_option maxRecDepth 20000 in
theorem zk53_2 (l : Launch) (scr B : Nat) (D : va_G) : z_All l scr B D 53 128 z_c53_2 := by
  refine z_All.c (j := 129) rfl (ok_iinc (n := 1) (by decide +kernel) (by decide +kernel)) ?_
  refine z_All.c (j := 130) rfl ok_bad ?_
  refine z_All.c (j := 131) rfl ok_bad ?_
  refine z_All.c (j := 132) rfl (ok_goto (off := -113) (by decide +kernel) (by decide +kernel)) ?_
  refine z_All.c (j := 133) rfl ok_bad ?_
  refine z_All.c (j := 134) rfl ok_bad ?_
  refine z_All.c (j := 135) rfl (ok_aload_n (n := 0) (by decide +kernel) rfl) ?_
  refine z_All.c (j := 136) rfl (ok_get (idx := 27) (by decide +kernel) rfl (by decide) z_i3 zw104) ?_
  refine z_All.c (j := 137) rfl ok_bad ?_
  refine z_All.c (j := 138) rfl ok_bad ?_
  refine z_All.c (j := 139) rfl (ok_iload_n (n := 1) (by decide +kernel) rfl) ?_
  refine z_All.c (j := 140) rfl (ok_cv (idx := 38) (by decide +kernel) rfl zm63 zw426 zw394 zw395) ?_
  refine z_All.c (j := 141) rfl ok_bad ?_
  refine z_All.c (j := 142) rfl ok_bad ?_
  refine z_All.c (j := 143) rfl (ok_vret (by decide +kernel) rfl) ?_
  exact trivial
set_option maxRecDepth 20000 in
theorem zk54_0 (l : Launch) (scr B : Nat) (D : va_G) : z_All l scr B D 54 0 z_c54_0 := by
  refine z_All.c (j := 1) rfl (ok_iload_n (n := 1) (by decide +kernel) rfl) ?_
  refine z_All.c (j := 2) rfl (ok_istore_n (n := 3) (by decide +kernel) rfl (fun _ => rfl)) ?_
  refine z_All.c (j := 3) rfl (ok_iload_n (n := 3) (by decide +kernel) rfl) ?_
  refine z_All.c (j := 4) rfl (ok_iload_n (n := 2) (by decide +kernel) rfl) ?_
  refine z_All.c (j := 5) rfl (ok_ic_ge (off := 28) (by decide +kernel) (by decide +kernel)) ?_
  refine z_All.c (j := 6) rfl ok_bad ?_
  refine z_All.c (j := 7) rfl ok_bad ?_
  refine z_All.c (j := 8) rfl (ok_aload_n (n := 0) (by decide +kernel) rfl) ?_
  refine z_All.c (j := 9) rfl (ok_get (idx := 27) (by decide +kernel) rfl (by decide) z_i3 zw104) ?_
  refine z_All.c (j := 10) rfl ok_bad ?_
  refine z_All.c (j := 11) rfl ok_bad ?_
  refine z_All.c (j := 12) rfl (ok_aload_n (n := 0) (by decide +kernel) rfl) ?_
  refine z_All.c (j := 13) rfl (ok_get (idx := 12) (by decide +kernel) rfl (by decide) z_i3 zw100) ?_
  refine z_All.c (j := 14) rfl ok_bad ?_
  refine z_All.c (j := 15) rfl ok_bad ?_
  refine z_All.c (j := 16) rfl (ok_get (idx := 95) (by decide +kernel) rfl (by decide) z_i4 zw71) ?_
  refine z_All.c (j := 17) rfl ok_bad ?_
  refine z_All.c (j := 18) rfl ok_bad ?_
  refine z_All.c (j := 19) rfl (ok_iload_n (n := 3) (by decide +kernel) rfl) ?_
  refine z_All.c (j := 20) rfl (ok_cv (idx := 81) (by decide +kernel) rfl zm62 zw432 zw406 zw407) ?_
  refine z_All.c (j := 21) rfl ok_bad ?_
  refine z_All.c (j := 22) rfl ok_bad ?_
  refine z_All.c (j := 23) rfl (ok_cv (idx := 65) (by decide +kernel) rfl zm61 zw448 zw379 zw380) ?_
  refine z_All.c (j := 24) rfl ok_bad ?_
  refine z_All.c (j := 25) rfl ok_bad ?_
  refine z_All.c (j := 26) rfl (ok_pop (by decide +kernel)) ?_
  refine z_All.c (j := 27) rfl (ok_iinc (n := 1) (by decide +kernel) (by decide +kernel)) ?_
  refine z_All.c (j := 28) rfl ok_bad ?_
  refine z_All.c (j := 29) rfl ok_bad ?_
  refine z_All.c (j := 30) rfl (ok_goto (off := -27) (by decide +kernel) (by decide +kernel)) ?_
  refine z_All.c (j := 31) rfl ok_bad ?_
  refine z_All.c (j := 32) rfl ok_bad ?_
  refine z_All.c (j := 33) rfl (ok_vret (by decide +kernel) rfl) ?_
  exact trivial
set_option maxRecDepth 20000 in
theorem zk55_0 (l : Launch) (scr B : Nat) (D : va_G) : z_All l scr B D 55 0 z_c55_0 := by
  refine z_All.c (j := 1) rfl (ok_iload_n (n := 3) (by decide +kernel) rfl) ?_
  refine z_All.c (j := 2) rfl (ok_istore (by decide +kernel) (fun _ => rfl)) ?_
  refine z_All.c (j := 3) rfl ok_bad ?_
  refine z_All.c (j := 4) rfl (ok_iconst (n := 0) (by decide +kernel) (by decide +kernel)) ?_
  refine z_All.c (j := 5) rfl (ok_istore (by decide +kernel) (fun _ => rfl)) ?_
  refine z_All.c (j := 6) rfl ok_bad ?_
  refine z_All.c (j := 7) rfl (ok_iload_n (n := 1) (by decide +kernel) rfl) ?_
  refine z_All.c (j := 8) rfl (ok_istore (by decide +kernel) (fun _ => rfl)) ?_
  refine z_All.c (j := 9) rfl ok_bad ?_
  refine z_All.c (j := 10) rfl (ok_iload (by decide +kernel)) ?_
  refine z_All.c (j := 11) rfl ok_bad ?_
  refine z_All.c (j := 12) rfl (ok_iload_n (n := 2) (by decide +kernel) rfl) ?_
  refine z_All.c (j := 13) rfl (ok_ic_ge (off := 79) (by decide +kernel) (by decide +kernel)) ?_
  refine z_All.c (j := 14) rfl ok_bad ?_
  refine z_All.c (j := 15) rfl ok_bad ?_
  refine z_All.c (j := 16) rfl (ok_aload_n (n := 0) (by decide +kernel) rfl) ?_
  refine z_All.c (j := 17) rfl (ok_get (idx := 12) (by decide +kernel) rfl (by decide) z_i3 zw100) ?_
  refine z_All.c (j := 18) rfl ok_bad ?_
  refine z_All.c (j := 19) rfl ok_bad ?_
  refine z_All.c (j := 20) rfl (ok_get (idx := 95) (by decide +kernel) rfl (by decide) z_i4 zw71) ?_
  refine z_All.c (j := 21) rfl ok_bad ?_
  refine z_All.c (j := 22) rfl ok_bad ?_
  refine z_All.c (j := 23) rfl (ok_iload (by decide +kernel)) ?_
  refine z_All.c (j := 24) rfl ok_bad ?_
  refine z_All.c (j := 25) rfl (ok_cv (idx := 81) (by decide +kernel) rfl zm62 zw432 zw406 zw407) ?_
  refine z_All.c (j := 26) rfl ok_bad ?_
  refine z_All.c (j := 27) rfl ok_bad ?_
  refine z_All.c (j := 28) rfl (ok_istore (by decide +kernel) (fun _ => rfl)) ?_
  refine z_All.c (j := 29) rfl ok_bad ?_
  refine z_All.c (j := 30) rfl (ok_iload (by decide +kernel)) ?_
  refine z_All.c (j := 31) rfl ok_bad ?_
  refine z_All.c (j := 32) rfl (ok_bipush (n := 32) (by decide +kernel) (by decide +kernel)) ?_
  refine z_All.c (j := 33) rfl ok_bad ?_
  refine z_All.c (j := 34) rfl (ok_ic_ne (off := 9) (by decide +kernel) (by decide +kernel)) ?_
  refine z_All.c (j := 35) rfl ok_bad ?_
  refine z_All.c (j := 36) rfl ok_bad ?_
  refine z_All.c (j := 37) rfl (ok_iconst (n := 1) (by decide +kernel) (by decide +kernel)) ?_
  refine z_All.c (j := 38) rfl (ok_istore (by decide +kernel) (fun _ => rfl)) ?_
  refine z_All.c (j := 39) rfl ok_bad ?_
  refine z_All.c (j := 40) rfl (ok_goto (off := 46) (by decide +kernel) (by decide +kernel)) ?_
  refine z_All.c (j := 41) rfl ok_bad ?_
  refine z_All.c (j := 42) rfl ok_bad ?_
  refine z_All.c (j := 43) rfl (ok_iload (by decide +kernel)) ?_
  refine z_All.c (j := 44) rfl ok_bad ?_
  refine z_All.c (j := 45) rfl (ok_bipush (n := 10) (by decide +kernel) (by decide +kernel)) ?_
  refine z_All.c (j := 46) rfl ok_bad ?_
  refine z_All.c (j := 47) rfl (ok_ic_eq (off := 39) (by decide +kernel) (by decide +kernel)) ?_
  refine z_All.c (j := 48) rfl ok_bad ?_
  refine z_All.c (j := 49) rfl ok_bad ?_
  refine z_All.c (j := 50) rfl (ok_iload (by decide +kernel)) ?_
  refine z_All.c (j := 51) rfl ok_bad ?_
  refine z_All.c (j := 52) rfl (ok_if_eq (off := 18) (by decide +kernel) (by decide +kernel)) ?_
  refine z_All.c (j := 53) rfl ok_bad ?_
  refine z_All.c (j := 54) rfl ok_bad ?_
  refine z_All.c (j := 55) rfl (ok_iload (by decide +kernel)) ?_
  refine z_All.c (j := 56) rfl ok_bad ?_
  refine z_All.c (j := 57) rfl (ok_if_ne (off := 13) (by decide +kernel) (by decide +kernel)) ?_
  refine z_All.c (j := 58) rfl ok_bad ?_
  refine z_All.c (j := 59) rfl ok_bad ?_
  refine z_All.c (j := 60) rfl (ok_aload_n (n := 0) (by decide +kernel) rfl) ?_
  refine z_All.c (j := 61) rfl (ok_get (idx := 27) (by decide +kernel) rfl (by decide) z_i3 zw104) ?_
  refine z_All.c (j := 62) rfl ok_bad ?_
  refine z_All.c (j := 63) rfl ok_bad ?_
  refine z_All.c (j := 64) rfl (ok_bipush (n := 32) (by decide +kernel) (by decide +kernel)) ?_
  exact trivial
set_option maxRecDepth 20000 in
theorem zk55_1 (l : Launch) (scr B : Nat) (D : va_G) : z_All l scr B D 55 64 z_c55_1 := by
  refine z_All.c (j := 65) rfl ok_bad ?_
  refine z_All.c (j := 66) rfl (ok_cv (idx := 65) (by decide +kernel) rfl zm61 zw448 zw379 zw380) ?_
  refine z_All.c (j := 67) rfl ok_bad ?_
  refine z_All.c (j := 68) rfl ok_bad ?_
  refine z_All.c (j := 69) rfl (ok_pop (by decide +kernel)) ?_
  refine z_All.c (j := 70) rfl (ok_aload_n (n := 0) (by decide +kernel) rfl) ?_
  refine z_All.c (j := 71) rfl (ok_get (idx := 27) (by decide +kernel) rfl (by decide) z_i3 zw104) ?_
  refine z_All.c (j := 72) rfl ok_bad ?_
  refine z_All.c (j := 73) rfl ok_bad ?_
  refine z_All.c (j := 74) rfl (ok_iload (by decide +kernel)) ?_
  refine z_All.c (j := 75) rfl ok_bad ?_
  refine z_All.c (j := 76) rfl (ok_cv (idx := 65) (by decide +kernel) rfl zm61 zw448 zw379 zw380) ?_
  refine z_All.c (j := 77) rfl ok_bad ?_
  refine z_All.c (j := 78) rfl ok_bad ?_
  refine z_All.c (j := 79) rfl (ok_pop (by decide +kernel)) ?_
  refine z_All.c (j := 80) rfl (ok_iconst (n := 0) (by decide +kernel) (by decide +kernel)) ?_
  refine z_All.c (j := 81) rfl (ok_istore (by decide +kernel) (fun _ => rfl)) ?_
  refine z_All.c (j := 82) rfl ok_bad ?_
  refine z_All.c (j := 83) rfl (ok_iconst (n := 0) (by decide +kernel) (by decide +kernel)) ?_
  refine z_All.c (j := 84) rfl (ok_istore (by decide +kernel) (fun _ => rfl)) ?_
  refine z_All.c (j := 85) rfl ok_bad ?_
  refine z_All.c (j := 86) rfl (ok_iinc (n := 1) (by decide +kernel) (by decide +kernel)) ?_
  refine z_All.c (j := 87) rfl ok_bad ?_
  refine z_All.c (j := 88) rfl ok_bad ?_
  refine z_All.c (j := 89) rfl (ok_goto (off := -79) (by decide +kernel) (by decide +kernel)) ?_
  refine z_All.c (j := 90) rfl ok_bad ?_
  refine z_All.c (j := 91) rfl ok_bad ?_
  refine z_All.c (j := 92) rfl (ok_vret (by decide +kernel) rfl) ?_
  exact trivial
