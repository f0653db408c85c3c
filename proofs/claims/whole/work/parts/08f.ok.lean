/-! ===== made by wip/prog/gen8.py: each operation is sound ===== -/
set_option maxRecDepth 20000 in
theorem zk71_0 (l : Launch) (scr B : Nat) (D : va_G) : z_All l scr B D 71 0 z_c71_0 := by
  refine z_All.c (j := 1) rfl (ok_iload_n (n := 1) (by decide +kernel) rfl) ?_
  refine z_All.c (j := 2) rfl (ok_if_lt (off := 11) (by decide +kernel) (by decide +kernel)) ?_
  refine z_All.c (j := 3) rfl ok_bad ?_
  refine z_All.c (j := 4) rfl ok_bad ?_
  refine z_All.c (j := 5) rfl (ok_iload_n (n := 1) (by decide +kernel) rfl) ?_
  refine z_All.c (j := 6) rfl (ok_aload_n (n := 0) (by decide +kernel) rfl) ?_
  refine z_All.c (j := 7) rfl (ok_get (idx := 110) (by decide +kernel) rfl (by decide) z_i10 zw540) ?_
  refine z_All.c (j := 8) rfl ok_bad ?_
  refine z_All.c (j := 9) rfl ok_bad ?_
  refine z_All.c (j := 10) rfl (ok_ic_lt (off := 7) (by decide +kernel) (by decide +kernel)) ?_
  refine z_All.c (j := 11) rfl ok_bad ?_
  refine z_All.c (j := 12) rfl ok_bad ?_
  refine z_All.c (j := 13) rfl (ok_iconst (n := 1) (by decide +kernel) (by decide +kernel)) ?_
  refine z_All.c (j := 14) rfl (ok_goto (off := 4) (by decide +kernel) (by decide +kernel)) ?_
  refine z_All.c (j := 15) rfl ok_bad ?_
  refine z_All.c (j := 16) rfl ok_bad ?_
  refine z_All.c (j := 17) rfl (ok_iconst (n := 0) (by decide +kernel) (by decide +kernel)) ?_
  refine z_All.c (j := 18) rfl (ok_iret (by decide +kernel) rfl) ?_
  exact trivial
set_option maxRecDepth 20000 in
theorem zk72_0 (l : Launch) (scr B : Nat) (D : va_G) : z_All l scr B D 72 0 z_c72_0 := by
  refine z_All.c (j := 1) rfl (ok_aload_n (n := 0) (by decide +kernel) rfl) ?_
  refine z_All.c (j := 2) rfl (ok_get (idx := 110) (by decide +kernel) rfl (by decide) z_i10 zw540) ?_
  refine z_All.c (j := 3) rfl ok_bad ?_
  refine z_All.c (j := 4) rfl ok_bad ?_
  refine z_All.c (j := 5) rfl (ok_bipush (n := 12) (by decide +kernel) (by decide +kernel)) ?_
  refine z_All.c (j := 6) rfl ok_bad ?_
  refine z_All.c (j := 7) rfl (ok_ic_eq (off := 16) (by decide +kernel) (by decide +kernel)) ?_
  refine z_All.c (j := 8) rfl ok_bad ?_
  refine z_All.c (j := 9) rfl ok_bad ?_
  refine z_All.c (j := 10) rfl (ok_iload_n (n := 1) (by decide +kernel) rfl) ?_
  refine z_All.c (j := 11) rfl (ok_iconst (n := -1) (by decide +kernel) (by decide +kernel)) ?_
  refine z_All.c (j := 12) rfl (ok_ic_eq (off := 13) (by decide +kernel) (by decide +kernel)) ?_
  refine z_All.c (j := 13) rfl ok_bad ?_
  refine z_All.c (j := 14) rfl ok_bad ?_
  refine z_All.c (j := 15) rfl (ok_aload_n (n := 0) (by decide +kernel) rfl) ?_
  refine z_All.c (j := 16) rfl (ok_iload_n (n := 1) (by decide +kernel) rfl) ?_
  refine z_All.c (j := 17) rfl (ok_cv (idx := 114) (by decide +kernel) rfl zm71 zw677 zw679 (z_inP (List.mem_of_getElem? (i := 21) rfl) rfl)) ?_
  refine z_All.c (j := 18) rfl ok_bad ?_
  refine z_All.c (j := 19) rfl ok_bad ?_
  refine z_All.c (j := 20) rfl (ok_if_eq (off := 5) (by decide +kernel) (by decide +kernel)) ?_
  refine z_All.c (j := 21) rfl ok_bad ?_
  refine z_All.c (j := 22) rfl ok_bad ?_
  refine z_All.c (j := 23) rfl (ok_iconst (n := -1) (by decide +kernel) (by decide +kernel)) ?_
  refine z_All.c (j := 24) rfl (ok_iret (by decide +kernel) rfl) ?_
  refine z_All.c (j := 25) rfl (ok_aload_n (n := 0) (by decide +kernel) rfl) ?_
  refine z_All.c (j := 26) rfl (ok_get (idx := 7) (by decide +kernel) rfl (by decide) z_i10 zw541) ?_
  refine z_All.c (j := 27) rfl ok_bad ?_
  refine z_All.c (j := 28) rfl ok_bad ?_
  refine z_All.c (j := 29) rfl (ok_aload_n (n := 0) (by decide +kernel) rfl) ?_
  refine z_All.c (j := 30) rfl (ok_get (idx := 110) (by decide +kernel) rfl (by decide) z_i10 zw540) ?_
  refine z_All.c (j := 31) rfl ok_bad ?_
  refine z_All.c (j := 32) rfl ok_bad ?_
  refine z_All.c (j := 33) rfl (ok_iload_n (n := 1) (by decide +kernel) rfl) ?_
  refine z_All.c (j := 34) rfl (ok_iast (by decide +kernel)) ?_
  refine z_All.c (j := 35) rfl (ok_aload_n (n := 0) (by decide +kernel) rfl) ?_
  refine z_All.c (j := 36) rfl (ok_get (idx := 13) (by decide +kernel) rfl (by decide) z_i10 zw542) ?_
  refine z_All.c (j := 37) rfl ok_bad ?_
  refine z_All.c (j := 38) rfl ok_bad ?_
  refine z_All.c (j := 39) rfl (ok_aload_n (n := 0) (by decide +kernel) rfl) ?_
  refine z_All.c (j := 40) rfl (ok_get (idx := 110) (by decide +kernel) rfl (by decide) z_i10 zw540) ?_
  refine z_All.c (j := 41) rfl ok_bad ?_
  refine z_All.c (j := 42) rfl ok_bad ?_
  refine z_All.c (j := 43) rfl (ok_iload_n (n := 2) (by decide +kernel) rfl) ?_
  refine z_All.c (j := 44) rfl (ok_zast (by decide +kernel)) ?_
  refine z_All.c (j := 45) rfl (ok_aload_n (n := 0) (by decide +kernel) rfl) ?_
  refine z_All.c (j := 46) rfl (ok_get (idx := 35) (by decide +kernel) rfl (by decide) z_i10 zw549) ?_
  refine z_All.c (j := 47) rfl ok_bad ?_
  refine z_All.c (j := 48) rfl ok_bad ?_
  refine z_All.c (j := 49) rfl (ok_aload_n (n := 0) (by decide +kernel) rfl) ?_
  refine z_All.c (j := 50) rfl (ok_get (idx := 110) (by decide +kernel) rfl (by decide) z_i10 zw540) ?_
  refine z_All.c (j := 51) rfl ok_bad ?_
  refine z_All.c (j := 52) rfl ok_bad ?_
  refine z_All.c (j := 53) rfl (ok_iconst (n := -1) (by decide +kernel) (by decide +kernel)) ?_
  refine z_All.c (j := 54) rfl (ok_iast (by decide +kernel)) ?_
  refine z_All.c (j := 55) rfl (ok_aload_n (n := 0) (by decide +kernel) rfl) ?_
  refine z_All.c (j := 56) rfl (ok_dup (by decide +kernel)) ?_
  refine z_All.c (j := 57) rfl (ok_get (idx := 110) (by decide +kernel) rfl (by decide) z_i10 zw540) ?_
  refine z_All.c (j := 58) rfl ok_bad ?_
  refine z_All.c (j := 59) rfl ok_bad ?_
  refine z_All.c (j := 60) rfl (ok_iconst (n := 1) (by decide +kernel) (by decide +kernel)) ?_
  refine z_All.c (j := 61) rfl (ok_iadd (by decide +kernel)) ?_
  refine z_All.c (j := 62) rfl (ok_put (idx := 110) (by decide +kernel) rfl (by decide) z_i10 z_t10 z_n10 zw540 rfl (by decide +kernel)) ?_
  refine z_All.c (j := 63) rfl ok_bad ?_
  refine z_All.c (j := 64) rfl ok_bad ?_
  exact trivial
set_option maxRecDepth 20000 in
theorem zk72_1 (l : Launch) (scr B : Nat) (D : va_G) : z_All l scr B D 72 64 z_c72_1 := by
  refine z_All.c (j := 65) rfl (ok_aload_n (n := 0) (by decide +kernel) rfl) ?_
  refine z_All.c (j := 66) rfl (ok_get (idx := 110) (by decide +kernel) rfl (by decide) z_i10 zw540) ?_
  refine z_All.c (j := 67) rfl ok_bad ?_
  refine z_All.c (j := 68) rfl ok_bad ?_
  refine z_All.c (j := 69) rfl (ok_iconst (n := 1) (by decide +kernel) (by decide +kernel)) ?_
  refine z_All.c (j := 70) rfl (ok_isub (by decide +kernel)) ?_
  refine z_All.c (j := 71) rfl (ok_iret (by decide +kernel) rfl) ?_
  exact trivial
set_option maxRecDepth 20000 in
theorem zk73_0 (l : Launch) (scr B : Nat) (D : va_G) : z_All l scr B D 73 0 z_c73_0 := by
  refine z_All.c (j := 1) rfl (ok_aload_n (n := 0) (by decide +kernel) rfl) ?_
  refine z_All.c (j := 2) rfl (ok_iload_n (n := 1) (by decide +kernel) rfl) ?_
  refine z_All.c (j := 3) rfl (ok_cv (idx := 114) (by decide +kernel) rfl zm71 zw677 zw679 (z_inP (List.mem_of_getElem? (i := 21) rfl) rfl)) ?_
  refine z_All.c (j := 4) rfl ok_bad ?_
  refine z_All.c (j := 5) rfl ok_bad ?_
  refine z_All.c (j := 6) rfl (ok_if_ne (off := 13) (by decide +kernel) (by decide +kernel)) ?_
  refine z_All.c (j := 7) rfl ok_bad ?_
  refine z_All.c (j := 8) rfl ok_bad ?_
  refine z_All.c (j := 9) rfl (ok_aload_n (n := 0) (by decide +kernel) rfl) ?_
  refine z_All.c (j := 10) rfl (ok_get (idx := 17) (by decide +kernel) rfl (by decide) z_i10 zw543) ?_
  refine z_All.c (j := 11) rfl ok_bad ?_
  refine z_All.c (j := 12) rfl ok_bad ?_
  refine z_All.c (j := 13) rfl (ok_iload_n (n := 1) (by decide +kernel) rfl) ?_
  refine z_All.c (j := 14) rfl (ok_iald (by decide +kernel)) ?_
  refine z_All.c (j := 15) rfl (ok_iconst (n := 3) (by decide +kernel) (by decide +kernel)) ?_
  refine z_All.c (j := 16) rfl (ok_ic_ne (off := 5) (by decide +kernel) (by decide +kernel)) ?_
  refine z_All.c (j := 17) rfl ok_bad ?_
  refine z_All.c (j := 18) rfl ok_bad ?_
  refine z_All.c (j := 19) rfl (ok_iconst (n := 0) (by decide +kernel) (by decide +kernel)) ?_
  refine z_All.c (j := 20) rfl (ok_iret (by decide +kernel) rfl) ?_
  refine z_All.c (j := 21) rfl (ok_aload_n (n := 0) (by decide +kernel) rfl) ?_
  refine z_All.c (j := 22) rfl (ok_get (idx := 20) (by decide +kernel) rfl (by decide) z_i10 zw544) ?_
  refine z_All.c (j := 23) rfl ok_bad ?_
  refine z_All.c (j := 24) rfl ok_bad ?_
  refine z_All.c (j := 25) rfl (ok_iconst (n := 3) (by decide +kernel) (by decide +kernel)) ?_
  refine z_All.c (j := 26) rfl (ok_iload_n (n := 1) (by decide +kernel) rfl) ?_
  refine z_All.c (j := 27) rfl (ok_imul (by decide +kernel)) ?_
  refine z_All.c (j := 28) rfl (ok_aload_n (n := 0) (by decide +kernel) rfl) ?_
  refine z_All.c (j := 29) rfl (ok_get (idx := 17) (by decide +kernel) rfl (by decide) z_i10 zw543) ?_
  refine z_All.c (j := 30) rfl ok_bad ?_
  refine z_All.c (j := 31) rfl ok_bad ?_
  refine z_All.c (j := 32) rfl (ok_iload_n (n := 1) (by decide +kernel) rfl) ?_
  refine z_All.c (j := 33) rfl (ok_iald (by decide +kernel)) ?_
  refine z_All.c (j := 34) rfl (ok_iadd (by decide +kernel)) ?_
  refine z_All.c (j := 35) rfl (ok_iload_n (n := 2) (by decide +kernel) rfl) ?_
  refine z_All.c (j := 36) rfl (ok_iast (by decide +kernel)) ?_
  refine z_All.c (j := 37) rfl (ok_aload_n (n := 0) (by decide +kernel) rfl) ?_
  refine z_All.c (j := 38) rfl (ok_get (idx := 17) (by decide +kernel) rfl (by decide) z_i10 zw543) ?_
  refine z_All.c (j := 39) rfl ok_bad ?_
  refine z_All.c (j := 40) rfl ok_bad ?_
  refine z_All.c (j := 41) rfl (ok_iload_n (n := 1) (by decide +kernel) rfl) ?_
  refine z_All.c (j := 42) rfl (ok_dup2 (by decide +kernel)) ?_
  refine z_All.c (j := 43) rfl (ok_iald (by decide +kernel)) ?_
  refine z_All.c (j := 44) rfl (ok_iconst (n := 1) (by decide +kernel) (by decide +kernel)) ?_
  refine z_All.c (j := 45) rfl (ok_iadd (by decide +kernel)) ?_
  refine z_All.c (j := 46) rfl (ok_iast (by decide +kernel)) ?_
  refine z_All.c (j := 47) rfl (ok_iconst (n := 1) (by decide +kernel) (by decide +kernel)) ?_
  refine z_All.c (j := 48) rfl (ok_iret (by decide +kernel) rfl) ?_
  exact trivial
set_option maxRecDepth 20000 in
theorem zk74_0 (l : Launch) (scr B : Nat) (D : va_G) : z_All l scr B D 74 0 z_c74_0 := by
  refine z_All.c (j := 1) rfl (ok_aload_n (n := 0) (by decide +kernel) rfl) ?_
  refine z_All.c (j := 2) rfl (ok_iload_n (n := 1) (by decide +kernel) rfl) ?_
  refine z_All.c (j := 3) rfl (ok_cv (idx := 114) (by decide +kernel) rfl zm71 zw677 zw679 (z_inP (List.mem_of_getElem? (i := 21) rfl) rfl)) ?_
  refine z_All.c (j := 4) rfl ok_bad ?_
  refine z_All.c (j := 5) rfl ok_bad ?_
  refine z_All.c (j := 6) rfl (ok_if_ne (off := 21) (by decide +kernel) (by decide +kernel)) ?_
  refine z_All.c (j := 7) rfl ok_bad ?_
  refine z_All.c (j := 8) rfl ok_bad ?_
  refine z_All.c (j := 9) rfl (ok_aload_n (n := 0) (by decide +kernel) rfl) ?_
  refine z_All.c (j := 10) rfl (ok_iload_n (n := 2) (by decide +kernel) rfl) ?_
  refine z_All.c (j := 11) rfl (ok_cv (idx := 114) (by decide +kernel) rfl zm71 zw677 zw679 (z_inP (List.mem_of_getElem? (i := 21) rfl) rfl)) ?_
  refine z_All.c (j := 12) rfl ok_bad ?_
  refine z_All.c (j := 13) rfl ok_bad ?_
  refine z_All.c (j := 14) rfl (ok_if_ne (off := 13) (by decide +kernel) (by decide +kernel)) ?_
  refine z_All.c (j := 15) rfl ok_bad ?_
  refine z_All.c (j := 16) rfl ok_bad ?_
  refine z_All.c (j := 17) rfl (ok_aload_n (n := 0) (by decide +kernel) rfl) ?_
  refine z_All.c (j := 18) rfl (ok_get (idx := 23) (by decide +kernel) rfl (by decide) z_i10 zw545) ?_
  refine z_All.c (j := 19) rfl ok_bad ?_
  refine z_All.c (j := 20) rfl ok_bad ?_
  refine z_All.c (j := 21) rfl (ok_iload_n (n := 1) (by decide +kernel) rfl) ?_
  refine z_All.c (j := 22) rfl (ok_iald (by decide +kernel)) ?_
  refine z_All.c (j := 23) rfl (ok_iconst (n := 3) (by decide +kernel) (by decide +kernel)) ?_
  refine z_All.c (j := 24) rfl (ok_ic_ne (off := 5) (by decide +kernel) (by decide +kernel)) ?_
  refine z_All.c (j := 25) rfl ok_bad ?_
  refine z_All.c (j := 26) rfl ok_bad ?_
  refine z_All.c (j := 27) rfl (ok_iconst (n := 0) (by decide +kernel) (by decide +kernel)) ?_
  refine z_All.c (j := 28) rfl (ok_iret (by decide +kernel) rfl) ?_
  refine z_All.c (j := 29) rfl (ok_aload_n (n := 0) (by decide +kernel) rfl) ?_
  refine z_All.c (j := 30) rfl (ok_get (idx := 26) (by decide +kernel) rfl (by decide) z_i10 zw546) ?_
  refine z_All.c (j := 31) rfl ok_bad ?_
  refine z_All.c (j := 32) rfl ok_bad ?_
  refine z_All.c (j := 33) rfl (ok_iconst (n := 3) (by decide +kernel) (by decide +kernel)) ?_
  refine z_All.c (j := 34) rfl (ok_iload_n (n := 1) (by decide +kernel) rfl) ?_
  refine z_All.c (j := 35) rfl (ok_imul (by decide +kernel)) ?_
  refine z_All.c (j := 36) rfl (ok_aload_n (n := 0) (by decide +kernel) rfl) ?_
  refine z_All.c (j := 37) rfl (ok_get (idx := 23) (by decide +kernel) rfl (by decide) z_i10 zw545) ?_
  refine z_All.c (j := 38) rfl ok_bad ?_
  refine z_All.c (j := 39) rfl ok_bad ?_
  refine z_All.c (j := 40) rfl (ok_iload_n (n := 1) (by decide +kernel) rfl) ?_
  refine z_All.c (j := 41) rfl (ok_iald (by decide +kernel)) ?_
  refine z_All.c (j := 42) rfl (ok_iadd (by decide +kernel)) ?_
  refine z_All.c (j := 43) rfl (ok_iload_n (n := 2) (by decide +kernel) rfl) ?_
  refine z_All.c (j := 44) rfl (ok_iast (by decide +kernel)) ?_
  refine z_All.c (j := 45) rfl (ok_aload_n (n := 0) (by decide +kernel) rfl) ?_
  refine z_All.c (j := 46) rfl (ok_get (idx := 23) (by decide +kernel) rfl (by decide) z_i10 zw545) ?_
  refine z_All.c (j := 47) rfl ok_bad ?_
  refine z_All.c (j := 48) rfl ok_bad ?_
  refine z_All.c (j := 49) rfl (ok_iload_n (n := 1) (by decide +kernel) rfl) ?_
  refine z_All.c (j := 50) rfl (ok_dup2 (by decide +kernel)) ?_
  refine z_All.c (j := 51) rfl (ok_iald (by decide +kernel)) ?_
  refine z_All.c (j := 52) rfl (ok_iconst (n := 1) (by decide +kernel) (by decide +kernel)) ?_
  refine z_All.c (j := 53) rfl (ok_iadd (by decide +kernel)) ?_
  refine z_All.c (j := 54) rfl (ok_iast (by decide +kernel)) ?_
  refine z_All.c (j := 55) rfl (ok_iconst (n := 1) (by decide +kernel) (by decide +kernel)) ?_
  refine z_All.c (j := 56) rfl (ok_iret (by decide +kernel) rfl) ?_
  exact trivial
set_option maxRecDepth 20000 in
theorem zk75_0 (l : Launch) (scr B : Nat) (D : va_G) : z_All l scr B D 75 0 z_c75_0 := by
  refine z_All.c (j := 1) rfl (ok_iconst (n := -1) (by decide +kernel) (by decide +kernel)) ?_
  refine z_All.c (j := 2) rfl (ok_istore_n (n := 2) (by decide +kernel) rfl (fun _ => rfl)) ?_
  refine z_All.c (j := 3) rfl (ok_bipush (n := 8) (by decide +kernel) (by decide +kernel)) ?_
  refine z_All.c (j := 4) rfl ok_bad ?_
  refine z_All.c (j := 5) rfl (ok_iload_n (n := 1) (by decide +kernel) rfl) ?_
  refine z_All.c (j := 6) rfl (ok_imul (by decide +kernel)) ?_
  refine z_All.c (j := 7) rfl (ok_istore_n (n := 3) (by decide +kernel) rfl (fun _ => rfl)) ?_
  refine z_All.c (j := 8) rfl (ok_iload_n (n := 3) (by decide +kernel) rfl) ?_
  refine z_All.c (j := 9) rfl (ok_bipush (n := 8) (by decide +kernel) (by decide +kernel)) ?_
  refine z_All.c (j := 10) rfl ok_bad ?_
  refine z_All.c (j := 11) rfl (ok_iload_n (n := 1) (by decide +kernel) rfl) ?_
  refine z_All.c (j := 12) rfl (ok_imul (by decide +kernel)) ?_
  refine z_All.c (j := 13) rfl (ok_aload_n (n := 0) (by decide +kernel) rfl) ?_
  refine z_All.c (j := 14) rfl (ok_get (idx := 47) (by decide +kernel) rfl (by decide) z_i10 zw553) ?_
  refine z_All.c (j := 15) rfl ok_bad ?_
  refine z_All.c (j := 16) rfl ok_bad ?_
  refine z_All.c (j := 17) rfl (ok_iload_n (n := 1) (by decide +kernel) rfl) ?_
  refine z_All.c (j := 18) rfl (ok_iald (by decide +kernel)) ?_
  refine z_All.c (j := 19) rfl (ok_iadd (by decide +kernel)) ?_
  refine z_All.c (j := 20) rfl (ok_ic_ge (off := 26) (by decide +kernel) (by decide +kernel)) ?_
  refine z_All.c (j := 21) rfl ok_bad ?_
  refine z_All.c (j := 22) rfl ok_bad ?_
  refine z_All.c (j := 23) rfl (ok_aload_n (n := 0) (by decide +kernel) rfl) ?_
  refine z_All.c (j := 24) rfl (ok_get (idx := 53) (by decide +kernel) rfl (by decide) z_i10 zw555) ?_
  refine z_All.c (j := 25) rfl ok_bad ?_
  refine z_All.c (j := 26) rfl ok_bad ?_
  refine z_All.c (j := 27) rfl (ok_iload_n (n := 3) (by decide +kernel) rfl) ?_
  refine z_All.c (j := 28) rfl (ok_iald (by decide +kernel)) ?_
  refine z_All.c (j := 29) rfl (ok_bipush (n := 6) (by decide +kernel) (by decide +kernel)) ?_
  refine z_All.c (j := 30) rfl ok_bad ?_
  refine z_All.c (j := 31) rfl (ok_ic_ne (off := 7) (by decide +kernel) (by decide +kernel)) ?_
  refine z_All.c (j := 32) rfl ok_bad ?_
  refine z_All.c (j := 33) rfl ok_bad ?_
  refine z_All.c (j := 34) rfl (ok_iload_n (n := 3) (by decide +kernel) rfl) ?_
  refine z_All.c (j := 35) rfl (ok_goto (off := 4) (by decide +kernel) (by decide +kernel)) ?_
  refine z_All.c (j := 36) rfl ok_bad ?_
  refine z_All.c (j := 37) rfl ok_bad ?_
  refine z_All.c (j := 38) rfl (ok_iload_n (n := 2) (by decide +kernel) rfl) ?_
  refine z_All.c (j := 39) rfl (ok_istore_n (n := 2) (by decide +kernel) rfl (fun _ => rfl)) ?_
  refine z_All.c (j := 40) rfl (ok_iinc (n := 1) (by decide +kernel) (by decide +kernel)) ?_
  refine z_All.c (j := 41) rfl ok_bad ?_
  refine z_All.c (j := 42) rfl ok_bad ?_
  refine z_All.c (j := 43) rfl (ok_goto (off := -35) (by decide +kernel) (by decide +kernel)) ?_
  refine z_All.c (j := 44) rfl ok_bad ?_
  refine z_All.c (j := 45) rfl ok_bad ?_
  refine z_All.c (j := 46) rfl (ok_iload_n (n := 2) (by decide +kernel) rfl) ?_
  refine z_All.c (j := 47) rfl (ok_iret (by decide +kernel) rfl) ?_
  exact trivial
set_option maxRecDepth 20000 in
theorem zk76_0 (l : Launch) (scr B : Nat) (D : va_G) : z_All l scr B D 76 0 z_c76_0 := by
  refine z_All.c (j := 1) rfl (ok_aload_n (n := 0) (by decide +kernel) rfl) ?_
  refine z_All.c (j := 2) rfl (ok_iload_n (n := 1) (by decide +kernel) rfl) ?_
  refine z_All.c (j := 3) rfl (ok_cv (idx := 114) (by decide +kernel) rfl zm71 zw677 zw679 (z_inP (List.mem_of_getElem? (i := 21) rfl) rfl)) ?_
  refine z_All.c (j := 4) rfl ok_bad ?_
  refine z_All.c (j := 5) rfl ok_bad ?_
  refine z_All.c (j := 6) rfl (ok_if_ne (off := 29) (by decide +kernel) (by decide +kernel)) ?_
  refine z_All.c (j := 7) rfl ok_bad ?_
  refine z_All.c (j := 8) rfl ok_bad ?_
  refine z_All.c (j := 9) rfl (ok_iload_n (n := 3) (by decide +kernel) rfl) ?_
  refine z_All.c (j := 10) rfl (ok_if_lt (off := 25) (by decide +kernel) (by decide +kernel)) ?_
  refine z_All.c (j := 11) rfl ok_bad ?_
  refine z_All.c (j := 12) rfl ok_bad ?_
  refine z_All.c (j := 13) rfl (ok_iload_n (n := 3) (by decide +kernel) rfl) ?_
  refine z_All.c (j := 14) rfl (ok_bipush (n := 6) (by decide +kernel) (by decide +kernel)) ?_
  refine z_All.c (j := 15) rfl ok_bad ?_
  refine z_All.c (j := 16) rfl (ok_ic_gt (off := 19) (by decide +kernel) (by decide +kernel)) ?_
  refine z_All.c (j := 17) rfl ok_bad ?_
  refine z_All.c (j := 18) rfl ok_bad ?_
  refine z_All.c (j := 19) rfl (ok_iload_n (n := 3) (by decide +kernel) rfl) ?_
  refine z_All.c (j := 20) rfl (ok_bipush (n := 6) (by decide +kernel) (by decide +kernel)) ?_
  refine z_All.c (j := 21) rfl ok_bad ?_
  refine z_All.c (j := 22) rfl (ok_ic_eq (off := 15) (by decide +kernel) (by decide +kernel)) ?_
  refine z_All.c (j := 23) rfl ok_bad ?_
  refine z_All.c (j := 24) rfl ok_bad ?_
  refine z_All.c (j := 25) rfl (ok_iload_n (n := 2) (by decide +kernel) rfl) ?_
  refine z_All.c (j := 26) rfl (ok_iconst (n := 1) (by decide +kernel) (by decide +kernel)) ?_
  refine z_All.c (j := 27) rfl (ok_ic_lt (off := 8) (by decide +kernel) (by decide +kernel)) ?_
  refine z_All.c (j := 28) rfl ok_bad ?_
  refine z_All.c (j := 29) rfl ok_bad ?_
  refine z_All.c (j := 30) rfl (ok_iload_n (n := 2) (by decide +kernel) rfl) ?_
  refine z_All.c (j := 31) rfl (ok_iconst (n := 4) (by decide +kernel) (by decide +kernel)) ?_
  refine z_All.c (j := 32) rfl (ok_ic_le (off := 5) (by decide +kernel) (by decide +kernel)) ?_
  refine z_All.c (j := 33) rfl ok_bad ?_
  refine z_All.c (j := 34) rfl ok_bad ?_
  refine z_All.c (j := 35) rfl (ok_iconst (n := -1) (by decide +kernel) (by decide +kernel)) ?_
  refine z_All.c (j := 36) rfl (ok_iret (by decide +kernel) rfl) ?_
  refine z_All.c (j := 37) rfl (ok_iload_n (n := 3) (by decide +kernel) rfl) ?_
  refine z_All.c (j := 38) rfl (ok_iconst (n := 2) (by decide +kernel) (by decide +kernel)) ?_
  refine z_All.c (j := 39) rfl (ok_ic_lt (off := 18) (by decide +kernel) (by decide +kernel)) ?_
  refine z_All.c (j := 40) rfl ok_bad ?_
  refine z_All.c (j := 41) rfl ok_bad ?_
  refine z_All.c (j := 42) rfl (ok_iload (by decide +kernel)) ?_
  refine z_All.c (j := 43) rfl ok_bad ?_
  refine z_All.c (j := 44) rfl (ok_iconst (n := -1) (by decide +kernel) (by decide +kernel)) ?_
  refine z_All.c (j := 45) rfl (ok_ic_eq (off := 12) (by decide +kernel) (by decide +kernel)) ?_
  refine z_All.c (j := 46) rfl ok_bad ?_
  refine z_All.c (j := 47) rfl ok_bad ?_
  refine z_All.c (j := 48) rfl (ok_aload_n (n := 0) (by decide +kernel) rfl) ?_
  refine z_All.c (j := 49) rfl (ok_iload (by decide +kernel)) ?_
  refine z_All.c (j := 50) rfl ok_bad ?_
  refine z_All.c (j := 51) rfl (ok_cv (idx := 114) (by decide +kernel) rfl zm71 zw677 zw679 (z_inP (List.mem_of_getElem? (i := 21) rfl) rfl)) ?_
  refine z_All.c (j := 52) rfl ok_bad ?_
  refine z_All.c (j := 53) rfl ok_bad ?_
  refine z_All.c (j := 54) rfl (ok_if_ne (off := 25) (by decide +kernel) (by decide +kernel)) ?_
  refine z_All.c (j := 55) rfl ok_bad ?_
  refine z_All.c (j := 56) rfl ok_bad ?_
  refine z_All.c (j := 57) rfl (ok_iload_n (n := 3) (by decide +kernel) rfl) ?_
  refine z_All.c (j := 58) rfl (ok_iconst (n := 1) (by decide +kernel) (by decide +kernel)) ?_
  refine z_All.c (j := 59) rfl (ok_ic_lt (off := 22) (by decide +kernel) (by decide +kernel)) ?_
  refine z_All.c (j := 60) rfl ok_bad ?_
  refine z_All.c (j := 61) rfl ok_bad ?_
  refine z_All.c (j := 62) rfl (ok_iload_n (n := 3) (by decide +kernel) rfl) ?_
  refine z_All.c (j := 63) rfl (ok_iconst (n := 3) (by decide +kernel) (by decide +kernel)) ?_
  refine z_All.c (j := 64) rfl (ok_ic_gt (off := 17) (by decide +kernel) (by decide +kernel)) ?_
  exact trivial
set_option maxRecDepth 20000 in
theorem zk76_1 (l : Launch) (scr B : Nat) (D : va_G) : z_All l scr B D 76 64 z_c76_1 := by
  refine z_All.c (j := 65) rfl ok_bad ?_
  refine z_All.c (j := 66) rfl ok_bad ?_
  refine z_All.c (j := 67) rfl (ok_iload (by decide +kernel)) ?_
  refine z_All.c (j := 68) rfl ok_bad ?_
  refine z_All.c (j := 69) rfl (ok_if_lt (off := 10) (by decide +kernel) (by decide +kernel)) ?_
  refine z_All.c (j := 70) rfl ok_bad ?_
  refine z_All.c (j := 71) rfl ok_bad ?_
  refine z_All.c (j := 72) rfl (ok_iload (by decide +kernel)) ?_
  refine z_All.c (j := 73) rfl ok_bad ?_
  refine z_All.c (j := 74) rfl (ok_bipush (n := 32) (by decide +kernel) (by decide +kernel)) ?_
  refine z_All.c (j := 75) rfl ok_bad ?_
  refine z_All.c (j := 76) rfl (ok_ic_le (off := 5) (by decide +kernel) (by decide +kernel)) ?_
  refine z_All.c (j := 77) rfl ok_bad ?_
  refine z_All.c (j := 78) rfl ok_bad ?_
  refine z_All.c (j := 79) rfl (ok_iconst (n := -1) (by decide +kernel) (by decide +kernel)) ?_
  refine z_All.c (j := 80) rfl (ok_iret (by decide +kernel) rfl) ?_
  refine z_All.c (j := 81) rfl (ok_aload_n (n := 0) (by decide +kernel) rfl) ?_
  refine z_All.c (j := 82) rfl (ok_get (idx := 47) (by decide +kernel) rfl (by decide) z_i10 zw553) ?_
  refine z_All.c (j := 83) rfl ok_bad ?_
  refine z_All.c (j := 84) rfl ok_bad ?_
  refine z_All.c (j := 85) rfl (ok_iload_n (n := 1) (by decide +kernel) rfl) ?_
  refine z_All.c (j := 86) rfl (ok_iald (by decide +kernel)) ?_
  refine z_All.c (j := 87) rfl (ok_bipush (n := 8) (by decide +kernel) (by decide +kernel)) ?_
  refine z_All.c (j := 88) rfl ok_bad ?_
  refine z_All.c (j := 89) rfl (ok_ic_eq (off := 17) (by decide +kernel) (by decide +kernel)) ?_
  refine z_All.c (j := 90) rfl ok_bad ?_
  refine z_All.c (j := 91) rfl ok_bad ?_
  refine z_All.c (j := 92) rfl (ok_iload_n (n := 3) (by decide +kernel) rfl) ?_
  refine z_All.c (j := 93) rfl (ok_bipush (n := 6) (by decide +kernel) (by decide +kernel)) ?_
  refine z_All.c (j := 94) rfl ok_bad ?_
  refine z_All.c (j := 95) rfl (ok_ic_ne (off := 14) (by decide +kernel) (by decide +kernel)) ?_
  refine z_All.c (j := 96) rfl ok_bad ?_
  refine z_All.c (j := 97) rfl ok_bad ?_
  refine z_All.c (j := 98) rfl (ok_aload_n (n := 0) (by decide +kernel) rfl) ?_
  refine z_All.c (j := 99) rfl (ok_iload_n (n := 1) (by decide +kernel) rfl) ?_
  refine z_All.c (j := 100) rfl (ok_cv (idx := 118) (by decide +kernel) rfl zm75 zw693 zw695 (z_inP (List.mem_of_getElem? (i := 22) rfl) rfl)) ?_
  refine z_All.c (j := 101) rfl ok_bad ?_
  refine z_All.c (j := 102) rfl ok_bad ?_
  refine z_All.c (j := 103) rfl (ok_if_lt (off := 6) (by decide +kernel) (by decide +kernel)) ?_
  refine z_All.c (j := 104) rfl ok_bad ?_
  refine z_All.c (j := 105) rfl ok_bad ?_
  refine z_All.c (j := 106) rfl (ok_bipush (n := -2) (by decide +kernel) (by decide +kernel)) ?_
  refine z_All.c (j := 107) rfl ok_bad ?_
  refine z_All.c (j := 108) rfl (ok_iret (by decide +kernel) rfl) ?_
  refine z_All.c (j := 109) rfl (ok_bipush (n := 8) (by decide +kernel) (by decide +kernel)) ?_
  refine z_All.c (j := 110) rfl ok_bad ?_
  refine z_All.c (j := 111) rfl (ok_iload_n (n := 1) (by decide +kernel) rfl) ?_
  refine z_All.c (j := 112) rfl (ok_imul (by decide +kernel)) ?_
  refine z_All.c (j := 113) rfl (ok_aload_n (n := 0) (by decide +kernel) rfl) ?_
  refine z_All.c (j := 114) rfl (ok_get (idx := 47) (by decide +kernel) rfl (by decide) z_i10 zw553) ?_
  refine z_All.c (j := 115) rfl ok_bad ?_
  refine z_All.c (j := 116) rfl ok_bad ?_
  refine z_All.c (j := 117) rfl (ok_iload_n (n := 1) (by decide +kernel) rfl) ?_
  refine z_All.c (j := 118) rfl (ok_iald (by decide +kernel)) ?_
  refine z_All.c (j := 119) rfl (ok_iadd (by decide +kernel)) ?_
  refine z_All.c (j := 120) rfl (ok_istore (by decide +kernel) (fun _ => rfl)) ?_
  refine z_All.c (j := 121) rfl ok_bad ?_
  refine z_All.c (j := 122) rfl (ok_aload_n (n := 0) (by decide +kernel) rfl) ?_
  refine z_All.c (j := 123) rfl (ok_get (idx := 50) (by decide +kernel) rfl (by decide) z_i10 zw554) ?_
  refine z_All.c (j := 124) rfl ok_bad ?_
  refine z_All.c (j := 125) rfl ok_bad ?_
  refine z_All.c (j := 126) rfl (ok_iload (by decide +kernel)) ?_
  refine z_All.c (j := 127) rfl ok_bad ?_
  refine z_All.c (j := 128) rfl (ok_iload_n (n := 2) (by decide +kernel) rfl) ?_
  exact trivial
set_option maxRecDepth 20000 in
theorem zk76_2 (l : Launch) (scr B : Nat) (D : va_G) : z_All l scr B D 76 128 z_c76_2 := by
  refine z_All.c (j := 129) rfl (ok_iast (by decide +kernel)) ?_
  refine z_All.c (j := 130) rfl (ok_aload_n (n := 0) (by decide +kernel) rfl) ?_
  refine z_All.c (j := 131) rfl (ok_get (idx := 53) (by decide +kernel) rfl (by decide) z_i10 zw555) ?_
  refine z_All.c (j := 132) rfl ok_bad ?_
  refine z_All.c (j := 133) rfl ok_bad ?_
  refine z_All.c (j := 134) rfl (ok_iload (by decide +kernel)) ?_
  refine z_All.c (j := 135) rfl ok_bad ?_
  refine z_All.c (j := 136) rfl (ok_iload_n (n := 3) (by decide +kernel) rfl) ?_
  refine z_All.c (j := 137) rfl (ok_iast (by decide +kernel)) ?_
  refine z_All.c (j := 138) rfl (ok_aload_n (n := 0) (by decide +kernel) rfl) ?_
  refine z_All.c (j := 139) rfl (ok_get (idx := 56) (by decide +kernel) rfl (by decide) z_i10 zw556) ?_
  refine z_All.c (j := 140) rfl ok_bad ?_
  refine z_All.c (j := 141) rfl ok_bad ?_
  refine z_All.c (j := 142) rfl (ok_iload (by decide +kernel)) ?_
  refine z_All.c (j := 143) rfl ok_bad ?_
  refine z_All.c (j := 144) rfl (ok_iload_n (n := 3) (by decide +kernel) rfl) ?_
  refine z_All.c (j := 145) rfl (ok_iconst (n := 2) (by decide +kernel) (by decide +kernel)) ?_
  refine z_All.c (j := 146) rfl (ok_ic_lt (off := 13) (by decide +kernel) (by decide +kernel)) ?_
  refine z_All.c (j := 147) rfl ok_bad ?_
  refine z_All.c (j := 148) rfl ok_bad ?_
  refine z_All.c (j := 149) rfl (ok_iload (by decide +kernel)) ?_
  refine z_All.c (j := 150) rfl ok_bad ?_
  refine z_All.c (j := 151) rfl (ok_iconst (n := -1) (by decide +kernel) (by decide +kernel)) ?_
  refine z_All.c (j := 152) rfl (ok_ic_ne (off := 7) (by decide +kernel) (by decide +kernel)) ?_
  refine z_All.c (j := 153) rfl ok_bad ?_
  refine z_All.c (j := 154) rfl ok_bad ?_
  refine z_All.c (j := 155) rfl (ok_iload_n (n := 1) (by decide +kernel) rfl) ?_
  refine z_All.c (j := 156) rfl (ok_goto (off := 5) (by decide +kernel) (by decide +kernel)) ?_
  refine z_All.c (j := 157) rfl ok_bad ?_
  refine z_All.c (j := 158) rfl ok_bad ?_
  refine z_All.c (j := 159) rfl (ok_iload (by decide +kernel)) ?_
  refine z_All.c (j := 160) rfl ok_bad ?_
  refine z_All.c (j := 161) rfl (ok_iast (by decide +kernel)) ?_
  refine z_All.c (j := 162) rfl (ok_aload_n (n := 0) (by decide +kernel) rfl) ?_
  refine z_All.c (j := 163) rfl (ok_get (idx := 59) (by decide +kernel) rfl (by decide) z_i10 zw557) ?_
  refine z_All.c (j := 164) rfl ok_bad ?_
  refine z_All.c (j := 165) rfl ok_bad ?_
  refine z_All.c (j := 166) rfl (ok_iload (by decide +kernel)) ?_
  refine z_All.c (j := 167) rfl ok_bad ?_
  refine z_All.c (j := 168) rfl (ok_iload (by decide +kernel)) ?_
  refine z_All.c (j := 169) rfl ok_bad ?_
  refine z_All.c (j := 170) rfl (ok_iast (by decide +kernel)) ?_
  refine z_All.c (j := 171) rfl (ok_aload_n (n := 0) (by decide +kernel) rfl) ?_
  refine z_All.c (j := 172) rfl (ok_get (idx := 47) (by decide +kernel) rfl (by decide) z_i10 zw553) ?_
  refine z_All.c (j := 173) rfl ok_bad ?_
  refine z_All.c (j := 174) rfl ok_bad ?_
  refine z_All.c (j := 175) rfl (ok_iload_n (n := 1) (by decide +kernel) rfl) ?_
  refine z_All.c (j := 176) rfl (ok_dup2 (by decide +kernel)) ?_
  refine z_All.c (j := 177) rfl (ok_iald (by decide +kernel)) ?_
  refine z_All.c (j := 178) rfl (ok_iconst (n := 1) (by decide +kernel) (by decide +kernel)) ?_
  refine z_All.c (j := 179) rfl (ok_iadd (by decide +kernel)) ?_
  refine z_All.c (j := 180) rfl (ok_iast (by decide +kernel)) ?_
  refine z_All.c (j := 181) rfl (ok_aload_n (n := 0) (by decide +kernel) rfl) ?_
  refine z_All.c (j := 182) rfl (ok_get (idx := 47) (by decide +kernel) rfl (by decide) z_i10 zw553) ?_
  refine z_All.c (j := 183) rfl ok_bad ?_
  refine z_All.c (j := 184) rfl ok_bad ?_
  refine z_All.c (j := 185) rfl (ok_iload_n (n := 1) (by decide +kernel) rfl) ?_
  refine z_All.c (j := 186) rfl (ok_iald (by decide +kernel)) ?_
  refine z_All.c (j := 187) rfl (ok_iret (by decide +kernel) rfl) ?_
  exact trivial
set_option maxRecDepth 20000 in
theorem zk77_0 (l : Launch) (scr B : Nat) (D : va_G) : z_All l scr B D 77 0 z_c77_0 := by
  refine z_All.c (j := 1) rfl (ok_aload_n (n := 0) (by decide +kernel) rfl) ?_
  refine z_All.c (j := 2) rfl (ok_iload_n (n := 1) (by decide +kernel) rfl) ?_
  refine z_All.c (j := 3) rfl (ok_cv (idx := 114) (by decide +kernel) rfl zm71 zw677 zw679 (z_inP (List.mem_of_getElem? (i := 21) rfl) rfl)) ?_
  refine z_All.c (j := 4) rfl ok_bad ?_
  refine z_All.c (j := 5) rfl ok_bad ?_
  refine z_All.c (j := 6) rfl (ok_if_ne (off := 13) (by decide +kernel) (by decide +kernel)) ?_
  refine z_All.c (j := 7) rfl ok_bad ?_
  refine z_All.c (j := 8) rfl ok_bad ?_
  refine z_All.c (j := 9) rfl (ok_iload_n (n := 2) (by decide +kernel) rfl) ?_
  refine z_All.c (j := 10) rfl (ok_iconst (n := 2) (by decide +kernel) (by decide +kernel)) ?_
  refine z_All.c (j := 11) rfl (ok_ic_lt (off := 8) (by decide +kernel) (by decide +kernel)) ?_
  refine z_All.c (j := 12) rfl ok_bad ?_
  refine z_All.c (j := 13) rfl ok_bad ?_
  refine z_All.c (j := 14) rfl (ok_iload_n (n := 3) (by decide +kernel) rfl) ?_
  refine z_All.c (j := 15) rfl (ok_iconst (n := 1) (by decide +kernel) (by decide +kernel)) ?_
  refine z_All.c (j := 16) rfl (ok_ic_ge (off := 5) (by decide +kernel) (by decide +kernel)) ?_
  refine z_All.c (j := 17) rfl ok_bad ?_
  refine z_All.c (j := 18) rfl ok_bad ?_
  refine z_All.c (j := 19) rfl (ok_iconst (n := 0) (by decide +kernel) (by decide +kernel)) ?_
  refine z_All.c (j := 20) rfl (ok_iret (by decide +kernel) rfl) ?_
  refine z_All.c (j := 21) rfl (ok_aload_n (n := 0) (by decide +kernel) rfl) ?_
  refine z_All.c (j := 22) rfl (ok_get (idx := 29) (by decide +kernel) rfl (by decide) z_i10 zw547) ?_
  refine z_All.c (j := 23) rfl ok_bad ?_
  refine z_All.c (j := 24) rfl ok_bad ?_
  refine z_All.c (j := 25) rfl (ok_iload_n (n := 1) (by decide +kernel) rfl) ?_
  refine z_All.c (j := 26) rfl (ok_iload_n (n := 2) (by decide +kernel) rfl) ?_
  refine z_All.c (j := 27) rfl (ok_iast (by decide +kernel)) ?_
  refine z_All.c (j := 28) rfl (ok_aload_n (n := 0) (by decide +kernel) rfl) ?_
  refine z_All.c (j := 29) rfl (ok_get (idx := 32) (by decide +kernel) rfl (by decide) z_i10 zw548) ?_
  refine z_All.c (j := 30) rfl ok_bad ?_
  refine z_All.c (j := 31) rfl ok_bad ?_
  refine z_All.c (j := 32) rfl (ok_iload_n (n := 1) (by decide +kernel) rfl) ?_
  refine z_All.c (j := 33) rfl (ok_iload_n (n := 3) (by decide +kernel) rfl) ?_
  refine z_All.c (j := 34) rfl (ok_iast (by decide +kernel)) ?_
  refine z_All.c (j := 35) rfl (ok_iconst (n := 1) (by decide +kernel) (by decide +kernel)) ?_
  refine z_All.c (j := 36) rfl (ok_iret (by decide +kernel) rfl) ?_
  exact trivial
set_option maxRecDepth 20000 in
theorem zk78_0 (l : Launch) (scr B : Nat) (D : va_G) : z_All l scr B D 78 0 z_c78_0 := by
  refine z_All.c (j := 1) rfl (ok_aload_n (n := 0) (by decide +kernel) rfl) ?_
  refine z_All.c (j := 2) rfl (ok_iload_n (n := 1) (by decide +kernel) rfl) ?_
  refine z_All.c (j := 3) rfl (ok_cv (idx := 114) (by decide +kernel) rfl zm71 zw677 zw679 (z_inP (List.mem_of_getElem? (i := 21) rfl) rfl)) ?_
  refine z_All.c (j := 4) rfl ok_bad ?_
  refine z_All.c (j := 5) rfl ok_bad ?_
  refine z_All.c (j := 6) rfl (ok_if_ne (off := 21) (by decide +kernel) (by decide +kernel)) ?_
  refine z_All.c (j := 7) rfl ok_bad ?_
  refine z_All.c (j := 8) rfl ok_bad ?_
  refine z_All.c (j := 9) rfl (ok_iload_n (n := 2) (by decide +kernel) rfl) ?_
  refine z_All.c (j := 10) rfl (ok_if_lt (off := 17) (by decide +kernel) (by decide +kernel)) ?_
  refine z_All.c (j := 11) rfl ok_bad ?_
  refine z_All.c (j := 12) rfl ok_bad ?_
  refine z_All.c (j := 13) rfl (ok_iload_n (n := 2) (by decide +kernel) rfl) ?_
  refine z_All.c (j := 14) rfl (ok_iconst (n := 2) (by decide +kernel) (by decide +kernel)) ?_
  refine z_All.c (j := 15) rfl (ok_ic_gt (off := 12) (by decide +kernel) (by decide +kernel)) ?_
  refine z_All.c (j := 16) rfl ok_bad ?_
  refine z_All.c (j := 17) rfl ok_bad ?_
  refine z_All.c (j := 18) rfl (ok_iload_n (n := 3) (by decide +kernel) rfl) ?_
  refine z_All.c (j := 19) rfl (ok_if_lt (off := 8) (by decide +kernel) (by decide +kernel)) ?_
  refine z_All.c (j := 20) rfl ok_bad ?_
  refine z_All.c (j := 21) rfl ok_bad ?_
  refine z_All.c (j := 22) rfl (ok_iload_n (n := 3) (by decide +kernel) rfl) ?_
  refine z_All.c (j := 23) rfl (ok_iconst (n := 2) (by decide +kernel) (by decide +kernel)) ?_
  refine z_All.c (j := 24) rfl (ok_ic_le (off := 5) (by decide +kernel) (by decide +kernel)) ?_
  refine z_All.c (j := 25) rfl ok_bad ?_
  refine z_All.c (j := 26) rfl ok_bad ?_
  refine z_All.c (j := 27) rfl (ok_iconst (n := 0) (by decide +kernel) (by decide +kernel)) ?_
  refine z_All.c (j := 28) rfl (ok_iret (by decide +kernel) rfl) ?_
  refine z_All.c (j := 29) rfl (ok_aload_n (n := 0) (by decide +kernel) rfl) ?_
  refine z_All.c (j := 30) rfl (ok_get (idx := 35) (by decide +kernel) rfl (by decide) z_i10 zw549) ?_
  refine z_All.c (j := 31) rfl ok_bad ?_
  refine z_All.c (j := 32) rfl ok_bad ?_
  refine z_All.c (j := 33) rfl (ok_iload_n (n := 1) (by decide +kernel) rfl) ?_
  refine z_All.c (j := 34) rfl (ok_iload_n (n := 2) (by decide +kernel) rfl) ?_
  refine z_All.c (j := 35) rfl (ok_iast (by decide +kernel)) ?_
  refine z_All.c (j := 36) rfl (ok_aload_n (n := 0) (by decide +kernel) rfl) ?_
  refine z_All.c (j := 37) rfl (ok_get (idx := 38) (by decide +kernel) rfl (by decide) z_i10 zw550) ?_
  refine z_All.c (j := 38) rfl ok_bad ?_
  refine z_All.c (j := 39) rfl ok_bad ?_
  refine z_All.c (j := 40) rfl (ok_iload_n (n := 1) (by decide +kernel) rfl) ?_
  refine z_All.c (j := 41) rfl (ok_iload_n (n := 3) (by decide +kernel) rfl) ?_
  refine z_All.c (j := 42) rfl (ok_iast (by decide +kernel)) ?_
  refine z_All.c (j := 43) rfl (ok_aload_n (n := 0) (by decide +kernel) rfl) ?_
  refine z_All.c (j := 44) rfl (ok_get (idx := 41) (by decide +kernel) rfl (by decide) z_i10 zw551) ?_
  refine z_All.c (j := 45) rfl ok_bad ?_
  refine z_All.c (j := 46) rfl ok_bad ?_
  refine z_All.c (j := 47) rfl (ok_iload_n (n := 1) (by decide +kernel) rfl) ?_
  refine z_All.c (j := 48) rfl (ok_iload (by decide +kernel)) ?_
  refine z_All.c (j := 49) rfl ok_bad ?_
  refine z_All.c (j := 50) rfl (ok_zast (by decide +kernel)) ?_
  refine z_All.c (j := 51) rfl (ok_aload_n (n := 0) (by decide +kernel) rfl) ?_
  refine z_All.c (j := 52) rfl (ok_get (idx := 44) (by decide +kernel) rfl (by decide) z_i10 zw552) ?_
  refine z_All.c (j := 53) rfl ok_bad ?_
  refine z_All.c (j := 54) rfl ok_bad ?_
  refine z_All.c (j := 55) rfl (ok_iload_n (n := 1) (by decide +kernel) rfl) ?_
  refine z_All.c (j := 56) rfl (ok_iload (by decide +kernel)) ?_
  refine z_All.c (j := 57) rfl ok_bad ?_
  refine z_All.c (j := 58) rfl (ok_zast (by decide +kernel)) ?_
  refine z_All.c (j := 59) rfl (ok_iconst (n := 1) (by decide +kernel) (by decide +kernel)) ?_
  refine z_All.c (j := 60) rfl (ok_iret (by decide +kernel) rfl) ?_
  exact trivial
set_option maxRecDepth 20000 in
theorem zk79_0 (l : Launch) (scr B : Nat) (D : va_G) : z_All l scr B D 79 0 z_c79_0 := by
  refine z_All.c (j := 1) rfl (ok_iconst (n := 1) (by decide +kernel) (by decide +kernel)) ?_
  refine z_All.c (j := 2) rfl (ok_istore (by decide +kernel) (fun _ => rfl)) ?_
  refine z_All.c (j := 3) rfl ok_bad ?_
  refine z_All.c (j := 4) rfl (ok_iconst (n := 0) (by decide +kernel) (by decide +kernel)) ?_
  refine z_All.c (j := 5) rfl (ok_istore (by decide +kernel) (fun _ => rfl)) ?_
  refine z_All.c (j := 6) rfl ok_bad ?_
  refine z_All.c (j := 7) rfl (ok_iload (by decide +kernel)) ?_
  refine z_All.c (j := 8) rfl ok_bad ?_
  refine z_All.c (j := 9) rfl (ok_iload_n (n := 3) (by decide +kernel) rfl) ?_
  refine z_All.c (j := 10) rfl (ok_ic_ge (off := 42) (by decide +kernel) (by decide +kernel)) ?_
  refine z_All.c (j := 11) rfl ok_bad ?_
  refine z_All.c (j := 12) rfl ok_bad ?_
  refine z_All.c (j := 13) rfl (ok_iload (by decide +kernel)) ?_
  refine z_All.c (j := 14) rfl ok_bad ?_
  refine z_All.c (j := 15) rfl (ok_if_eq (off := 28) (by decide +kernel) (by decide +kernel)) ?_
  refine z_All.c (j := 16) rfl ok_bad ?_
  refine z_All.c (j := 17) rfl ok_bad ?_
  refine z_All.c (j := 18) rfl (ok_iload_n (n := 1) (by decide +kernel) rfl) ?_
  refine z_All.c (j := 19) rfl (ok_bipush (n := 31) (by decide +kernel) (by decide +kernel)) ?_
  refine z_All.c (j := 20) rfl ok_bad ?_
  refine z_All.c (j := 21) rfl (ok_iload (by decide +kernel)) ?_
  refine z_All.c (j := 22) rfl ok_bad ?_
  refine z_All.c (j := 23) rfl (ok_isub (by decide +kernel)) ?_
  refine z_All.c (j := 24) rfl (ok_ishr (by decide +kernel)) ?_
  refine z_All.c (j := 25) rfl (ok_iconst (n := 1) (by decide +kernel) (by decide +kernel)) ?_
  refine z_All.c (j := 26) rfl (ok_iand (by decide +kernel)) ?_
  refine z_All.c (j := 27) rfl (ok_iload_n (n := 2) (by decide +kernel) rfl) ?_
  refine z_All.c (j := 28) rfl (ok_bipush (n := 31) (by decide +kernel) (by decide +kernel)) ?_
  refine z_All.c (j := 29) rfl ok_bad ?_
  refine z_All.c (j := 30) rfl (ok_iload (by decide +kernel)) ?_
  refine z_All.c (j := 31) rfl ok_bad ?_
  refine z_All.c (j := 32) rfl (ok_isub (by decide +kernel)) ?_
  refine z_All.c (j := 33) rfl (ok_ishr (by decide +kernel)) ?_
  refine z_All.c (j := 34) rfl (ok_iconst (n := 1) (by decide +kernel) (by decide +kernel)) ?_
  refine z_All.c (j := 35) rfl (ok_iand (by decide +kernel)) ?_
  refine z_All.c (j := 36) rfl (ok_ic_ne (off := 7) (by decide +kernel) (by decide +kernel)) ?_
  refine z_All.c (j := 37) rfl ok_bad ?_
  refine z_All.c (j := 38) rfl ok_bad ?_
  refine z_All.c (j := 39) rfl (ok_iconst (n := 1) (by decide +kernel) (by decide +kernel)) ?_
  refine z_All.c (j := 40) rfl (ok_goto (off := 4) (by decide +kernel) (by decide +kernel)) ?_
  refine z_All.c (j := 41) rfl ok_bad ?_
  refine z_All.c (j := 42) rfl ok_bad ?_
  refine z_All.c (j := 43) rfl (ok_iconst (n := 0) (by decide +kernel) (by decide +kernel)) ?_
  refine z_All.c (j := 44) rfl (ok_istore (by decide +kernel) (fun _ => rfl)) ?_
  refine z_All.c (j := 45) rfl ok_bad ?_
  refine z_All.c (j := 46) rfl (ok_iinc (n := 1) (by decide +kernel) (by decide +kernel)) ?_
  refine z_All.c (j := 47) rfl ok_bad ?_
  refine z_All.c (j := 48) rfl ok_bad ?_
  refine z_All.c (j := 49) rfl (ok_goto (off := -42) (by decide +kernel) (by decide +kernel)) ?_
  refine z_All.c (j := 50) rfl ok_bad ?_
  refine z_All.c (j := 51) rfl ok_bad ?_
  refine z_All.c (j := 52) rfl (ok_iload (by decide +kernel)) ?_
  refine z_All.c (j := 53) rfl ok_bad ?_
  refine z_All.c (j := 54) rfl (ok_iret (by decide +kernel) rfl) ?_
  exact trivial
set_option maxRecDepth 20000 in
theorem zk80_0 (l : Launch) (scr B : Nat) (D : va_G) : z_All l scr B D 80 0 z_c80_0 := by
  refine z_All.c (j := 1) rfl (ok_aload_n (n := 0) (by decide +kernel) rfl) ?_
  refine z_All.c (j := 2) rfl (ok_aload_n (n := 0) (by decide +kernel) rfl) ?_
  refine z_All.c (j := 3) rfl (ok_get (idx := 122) (by decide +kernel) rfl (by decide) z_i10 zw560) ?_
  refine z_All.c (j := 4) rfl ok_bad ?_
  refine z_All.c (j := 5) rfl ok_bad ?_
  refine z_All.c (j := 6) rfl (ok_if_ne (off := 12) (by decide +kernel) (by decide +kernel)) ?_
  refine z_All.c (j := 7) rfl ok_bad ?_
  refine z_All.c (j := 8) rfl ok_bad ?_
  refine z_All.c (j := 9) rfl (ok_aload_n (n := 0) (by decide +kernel) rfl) ?_
  refine z_All.c (j := 10) rfl (ok_get (idx := 126) (by decide +kernel) rfl (by decide) z_i10 zw558) ?_
  refine z_All.c (j := 11) rfl ok_bad ?_
  refine z_All.c (j := 12) rfl ok_bad ?_
  refine z_All.c (j := 13) rfl (ok_bipush (n := 10) (by decide +kernel) (by decide +kernel)) ?_
  refine z_All.c (j := 14) rfl ok_bad ?_
  refine z_All.c (j := 15) rfl (ok_ic_ne (off := 7) (by decide +kernel) (by decide +kernel)) ?_
  refine z_All.c (j := 16) rfl ok_bad ?_
  refine z_All.c (j := 17) rfl ok_bad ?_
  refine z_All.c (j := 18) rfl (ok_iconst (n := 1) (by decide +kernel) (by decide +kernel)) ?_
  refine z_All.c (j := 19) rfl (ok_goto (off := 4) (by decide +kernel) (by decide +kernel)) ?_
  refine z_All.c (j := 20) rfl ok_bad ?_
  refine z_All.c (j := 21) rfl ok_bad ?_
  refine z_All.c (j := 22) rfl (ok_iconst (n := 0) (by decide +kernel) (by decide +kernel)) ?_
  refine z_All.c (j := 23) rfl (ok_put (idx := 122) (by decide +kernel) rfl (by decide) z_i10 z_t10 z_n10 zw560 rfl (by decide +kernel)) ?_
  refine z_All.c (j := 24) rfl ok_bad ?_
  refine z_All.c (j := 25) rfl ok_bad ?_
  refine z_All.c (j := 26) rfl (ok_aload_n (n := 0) (by decide +kernel) rfl) ?_
  refine z_All.c (j := 27) rfl (ok_aload_n (n := 0) (by decide +kernel) rfl) ?_
  refine z_All.c (j := 28) rfl (ok_get (idx := 122) (by decide +kernel) rfl (by decide) z_i10 zw560) ?_
  refine z_All.c (j := 29) rfl ok_bad ?_
  refine z_All.c (j := 30) rfl ok_bad ?_
  refine z_All.c (j := 31) rfl (ok_if_eq (off := 10) (by decide +kernel) (by decide +kernel)) ?_
  refine z_All.c (j := 32) rfl ok_bad ?_
  refine z_All.c (j := 33) rfl ok_bad ?_
  refine z_All.c (j := 34) rfl (ok_aload_n (n := 0) (by decide +kernel) rfl) ?_
  refine z_All.c (j := 35) rfl (ok_get (idx := 126) (by decide +kernel) rfl (by decide) z_i10 zw558) ?_
  refine z_All.c (j := 36) rfl ok_bad ?_
  refine z_All.c (j := 37) rfl ok_bad ?_
  refine z_All.c (j := 38) rfl (ok_goto (off := 9) (by decide +kernel) (by decide +kernel)) ?_
  refine z_All.c (j := 39) rfl ok_bad ?_
  refine z_All.c (j := 40) rfl ok_bad ?_
  refine z_All.c (j := 41) rfl (ok_aload_n (n := 0) (by decide +kernel) rfl) ?_
  refine z_All.c (j := 42) rfl (ok_get (idx := 126) (by decide +kernel) rfl (by decide) z_i10 zw558) ?_
  refine z_All.c (j := 43) rfl ok_bad ?_
  refine z_All.c (j := 44) rfl ok_bad ?_
  refine z_All.c (j := 45) rfl (ok_iconst (n := 1) (by decide +kernel) (by decide +kernel)) ?_
  refine z_All.c (j := 46) rfl (ok_iadd (by decide +kernel)) ?_
  refine z_All.c (j := 47) rfl (ok_put (idx := 126) (by decide +kernel) rfl (by decide) z_i10 z_t10 z_n10 zw558 rfl (by decide +kernel)) ?_
  refine z_All.c (j := 48) rfl ok_bad ?_
  refine z_All.c (j := 49) rfl ok_bad ?_
  refine z_All.c (j := 50) rfl (ok_aload_n (n := 0) (by decide +kernel) rfl) ?_
  refine z_All.c (j := 51) rfl (ok_get (idx := 122) (by decide +kernel) rfl (by decide) z_i10 zw560) ?_
  refine z_All.c (j := 52) rfl ok_bad ?_
  refine z_All.c (j := 53) rfl ok_bad ?_
  refine z_All.c (j := 54) rfl (ok_if_ne (off := 7) (by decide +kernel) (by decide +kernel)) ?_
  refine z_All.c (j := 55) rfl ok_bad ?_
  refine z_All.c (j := 56) rfl ok_bad ?_
  refine z_All.c (j := 57) rfl (ok_iconst (n := 1) (by decide +kernel) (by decide +kernel)) ?_
  refine z_All.c (j := 58) rfl (ok_goto (off := 4) (by decide +kernel) (by decide +kernel)) ?_
  refine z_All.c (j := 59) rfl ok_bad ?_
  refine z_All.c (j := 60) rfl ok_bad ?_
  refine z_All.c (j := 61) rfl (ok_iconst (n := 0) (by decide +kernel) (by decide +kernel)) ?_
  refine z_All.c (j := 62) rfl (ok_iret (by decide +kernel) rfl) ?_
  exact trivial
set_option maxRecDepth 20000 in
theorem zk81_0 (l : Launch) (scr B : Nat) (D : va_G) : z_All l scr B D 81 0 z_c81_0 := by
  refine z_All.c (j := 1) rfl (ok_aload_n (n := 0) (by decide +kernel) rfl) ?_
  refine z_All.c (j := 2) rfl (ok_aload_n (n := 0) (by decide +kernel) rfl) ?_
  refine z_All.c (j := 3) rfl (ok_get (idx := 122) (by decide +kernel) rfl (by decide) z_i10 zw560) ?_
  refine z_All.c (j := 4) rfl ok_bad ?_
  refine z_All.c (j := 5) rfl ok_bad ?_
  refine z_All.c (j := 6) rfl (ok_if_ne (off := 11) (by decide +kernel) (by decide +kernel)) ?_
  refine z_All.c (j := 7) rfl ok_bad ?_
  refine z_All.c (j := 8) rfl ok_bad ?_
  refine z_All.c (j := 9) rfl (ok_aload_n (n := 0) (by decide +kernel) rfl) ?_
  refine z_All.c (j := 10) rfl (ok_get (idx := 129) (by decide +kernel) rfl (by decide) z_i10 zw559) ?_
  refine z_All.c (j := 11) rfl ok_bad ?_
  refine z_All.c (j := 12) rfl ok_bad ?_
  refine z_All.c (j := 13) rfl (ok_iconst (n := 2) (by decide +kernel) (by decide +kernel)) ?_
  refine z_All.c (j := 14) rfl (ok_ic_ne (off := 7) (by decide +kernel) (by decide +kernel)) ?_
  refine z_All.c (j := 15) rfl ok_bad ?_
  refine z_All.c (j := 16) rfl ok_bad ?_
  refine z_All.c (j := 17) rfl (ok_iconst (n := 1) (by decide +kernel) (by decide +kernel)) ?_
  refine z_All.c (j := 18) rfl (ok_goto (off := 4) (by decide +kernel) (by decide +kernel)) ?_
  refine z_All.c (j := 19) rfl ok_bad ?_
  refine z_All.c (j := 20) rfl ok_bad ?_
  refine z_All.c (j := 21) rfl (ok_iconst (n := 0) (by decide +kernel) (by decide +kernel)) ?_
  refine z_All.c (j := 22) rfl (ok_put (idx := 122) (by decide +kernel) rfl (by decide) z_i10 z_t10 z_n10 zw560 rfl (by decide +kernel)) ?_
  refine z_All.c (j := 23) rfl ok_bad ?_
  refine z_All.c (j := 24) rfl ok_bad ?_
  refine z_All.c (j := 25) rfl (ok_aload_n (n := 0) (by decide +kernel) rfl) ?_
  refine z_All.c (j := 26) rfl (ok_aload_n (n := 0) (by decide +kernel) rfl) ?_
  refine z_All.c (j := 27) rfl (ok_get (idx := 122) (by decide +kernel) rfl (by decide) z_i10 zw560) ?_
  refine z_All.c (j := 28) rfl ok_bad ?_
  refine z_All.c (j := 29) rfl ok_bad ?_
  refine z_All.c (j := 30) rfl (ok_if_eq (off := 10) (by decide +kernel) (by decide +kernel)) ?_
  refine z_All.c (j := 31) rfl ok_bad ?_
  refine z_All.c (j := 32) rfl ok_bad ?_
  refine z_All.c (j := 33) rfl (ok_aload_n (n := 0) (by decide +kernel) rfl) ?_
  refine z_All.c (j := 34) rfl (ok_get (idx := 129) (by decide +kernel) rfl (by decide) z_i10 zw559) ?_
  refine z_All.c (j := 35) rfl ok_bad ?_
  refine z_All.c (j := 36) rfl ok_bad ?_
  refine z_All.c (j := 37) rfl (ok_goto (off := 9) (by decide +kernel) (by decide +kernel)) ?_
  refine z_All.c (j := 38) rfl ok_bad ?_
  refine z_All.c (j := 39) rfl ok_bad ?_
  refine z_All.c (j := 40) rfl (ok_aload_n (n := 0) (by decide +kernel) rfl) ?_
  refine z_All.c (j := 41) rfl (ok_get (idx := 129) (by decide +kernel) rfl (by decide) z_i10 zw559) ?_
  refine z_All.c (j := 42) rfl ok_bad ?_
  refine z_All.c (j := 43) rfl ok_bad ?_
  refine z_All.c (j := 44) rfl (ok_iconst (n := 1) (by decide +kernel) (by decide +kernel)) ?_
  refine z_All.c (j := 45) rfl (ok_iadd (by decide +kernel)) ?_
  refine z_All.c (j := 46) rfl (ok_put (idx := 129) (by decide +kernel) rfl (by decide) z_i10 z_t10 z_n10 zw559 rfl (by decide +kernel)) ?_
  refine z_All.c (j := 47) rfl ok_bad ?_
  refine z_All.c (j := 48) rfl ok_bad ?_
  refine z_All.c (j := 49) rfl (ok_aload_n (n := 0) (by decide +kernel) rfl) ?_
  refine z_All.c (j := 50) rfl (ok_get (idx := 122) (by decide +kernel) rfl (by decide) z_i10 zw560) ?_
  refine z_All.c (j := 51) rfl ok_bad ?_
  refine z_All.c (j := 52) rfl ok_bad ?_
  refine z_All.c (j := 53) rfl (ok_if_ne (off := 7) (by decide +kernel) (by decide +kernel)) ?_
  refine z_All.c (j := 54) rfl ok_bad ?_
  refine z_All.c (j := 55) rfl ok_bad ?_
  refine z_All.c (j := 56) rfl (ok_iconst (n := 1) (by decide +kernel) (by decide +kernel)) ?_
  refine z_All.c (j := 57) rfl (ok_goto (off := 4) (by decide +kernel) (by decide +kernel)) ?_
  refine z_All.c (j := 58) rfl ok_bad ?_
  refine z_All.c (j := 59) rfl ok_bad ?_
  refine z_All.c (j := 60) rfl (ok_iconst (n := 0) (by decide +kernel) (by decide +kernel)) ?_
  refine z_All.c (j := 61) rfl (ok_iret (by decide +kernel) rfl) ?_
  exact trivial
set_option maxRecDepth 20000 in
theorem zk82_0 (l : Launch) (scr B : Nat) (D : va_G) : z_All l scr B D 82 0 z_c82_0 := by
  refine z_All.c (j := 1) rfl (ok_iconst (n := 0) (by decide +kernel) (by decide +kernel)) ?_
  refine z_All.c (j := 2) rfl (ok_istore (by decide +kernel) (fun _ => rfl)) ?_
  refine z_All.c (j := 3) rfl ok_bad ?_
  refine z_All.c (j := 4) rfl (ok_iconst (n := 0) (by decide +kernel) (by decide +kernel)) ?_
  refine z_All.c (j := 5) rfl (ok_istore (by decide +kernel) (fun _ => rfl)) ?_
  refine z_All.c (j := 6) rfl ok_bad ?_
  refine z_All.c (j := 7) rfl (ok_iload (by decide +kernel)) ?_
  refine z_All.c (j := 8) rfl ok_bad ?_
  refine z_All.c (j := 9) rfl (ok_aload_n (n := 0) (by decide +kernel) rfl) ?_
  refine z_All.c (j := 10) rfl (ok_get (idx := 17) (by decide +kernel) rfl (by decide) z_i10 zw543) ?_
  refine z_All.c (j := 11) rfl ok_bad ?_
  refine z_All.c (j := 12) rfl ok_bad ?_
  refine z_All.c (j := 13) rfl (ok_iload_n (n := 2) (by decide +kernel) rfl) ?_
  refine z_All.c (j := 14) rfl (ok_iald (by decide +kernel)) ?_
  refine z_All.c (j := 15) rfl (ok_ic_ge (off := 41) (by decide +kernel) (by decide +kernel)) ?_
  refine z_All.c (j := 16) rfl ok_bad ?_
  refine z_All.c (j := 17) rfl ok_bad ?_
  refine z_All.c (j := 18) rfl (ok_iload (by decide +kernel)) ?_
  refine z_All.c (j := 19) rfl ok_bad ?_
  refine z_All.c (j := 20) rfl (ok_if_ne (off := 23) (by decide +kernel) (by decide +kernel)) ?_
  refine z_All.c (j := 21) rfl ok_bad ?_
  refine z_All.c (j := 22) rfl ok_bad ?_
  refine z_All.c (j := 23) rfl (ok_aload_n (n := 0) (by decide +kernel) rfl) ?_
  refine z_All.c (j := 24) rfl (ok_iload_n (n := 1) (by decide +kernel) rfl) ?_
  refine z_All.c (j := 25) rfl (ok_aload_n (n := 0) (by decide +kernel) rfl) ?_
  refine z_All.c (j := 26) rfl (ok_get (idx := 20) (by decide +kernel) rfl (by decide) z_i10 zw544) ?_
  refine z_All.c (j := 27) rfl ok_bad ?_
  refine z_All.c (j := 28) rfl ok_bad ?_
  refine z_All.c (j := 29) rfl (ok_iconst (n := 3) (by decide +kernel) (by decide +kernel)) ?_
  refine z_All.c (j := 30) rfl (ok_iload_n (n := 2) (by decide +kernel) rfl) ?_
  refine z_All.c (j := 31) rfl (ok_imul (by decide +kernel)) ?_
  refine z_All.c (j := 32) rfl (ok_iload (by decide +kernel)) ?_
  refine z_All.c (j := 33) rfl ok_bad ?_
  refine z_All.c (j := 34) rfl (ok_iadd (by decide +kernel)) ?_
  refine z_All.c (j := 35) rfl (ok_iald (by decide +kernel)) ?_
  refine z_All.c (j := 36) rfl (ok_iload_n (n := 3) (by decide +kernel) rfl) ?_
  refine z_All.c (j := 37) rfl (ok_cv (idx := 132) (by decide +kernel) rfl zm79 zw729 zw731 (z_inP (List.mem_of_getElem? (i := 28) rfl) rfl)) ?_
  refine z_All.c (j := 38) rfl ok_bad ?_
  refine z_All.c (j := 39) rfl ok_bad ?_
  refine z_All.c (j := 40) rfl (ok_if_eq (off := 7) (by decide +kernel) (by decide +kernel)) ?_
  refine z_All.c (j := 41) rfl ok_bad ?_
  refine z_All.c (j := 42) rfl ok_bad ?_
  refine z_All.c (j := 43) rfl (ok_iconst (n := 1) (by decide +kernel) (by decide +kernel)) ?_
  refine z_All.c (j := 44) rfl (ok_goto (off := 4) (by decide +kernel) (by decide +kernel)) ?_
  refine z_All.c (j := 45) rfl ok_bad ?_
  refine z_All.c (j := 46) rfl ok_bad ?_
  refine z_All.c (j := 47) rfl (ok_iconst (n := 0) (by decide +kernel) (by decide +kernel)) ?_
  refine z_All.c (j := 48) rfl (ok_istore (by decide +kernel) (fun _ => rfl)) ?_
  refine z_All.c (j := 49) rfl ok_bad ?_
  refine z_All.c (j := 50) rfl (ok_iinc (n := 1) (by decide +kernel) (by decide +kernel)) ?_
  refine z_All.c (j := 51) rfl ok_bad ?_
  refine z_All.c (j := 52) rfl ok_bad ?_
  refine z_All.c (j := 53) rfl (ok_goto (off := -46) (by decide +kernel) (by decide +kernel)) ?_
  refine z_All.c (j := 54) rfl ok_bad ?_
  refine z_All.c (j := 55) rfl ok_bad ?_
  refine z_All.c (j := 56) rfl (ok_iload (by decide +kernel)) ?_
  refine z_All.c (j := 57) rfl ok_bad ?_
  refine z_All.c (j := 58) rfl (ok_iret (by decide +kernel) rfl) ?_
  exact trivial
