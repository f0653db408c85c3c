/-! ===== made by wip/prog/gen8.py: each operation is sound ===== -/
set_option maxRecDepth 20000 in
theorem zk0_0 (l : Launch) (scr B : Nat) (D : va_G) : z_All l scr B D 0 0 z_c0_0 := by
  refine z_All.c (j := 1) rfl (ok_aload_n (n := 0) (by decide +kernel) rfl) ?_
  refine z_All.c (j := 2) rfl (ok_obj (idx := 1) (by decide +kernel) zw18 zw19 zw20) ?_
  refine z_All.c (j := 3) rfl ok_bad ?_
  refine z_All.c (j := 4) rfl ok_bad ?_
  refine z_All.c (j := 5) rfl (ok_aload_n (n := 0) (by decide +kernel) rfl) ?_
  refine z_All.c (j := 6) rfl (ok_bipush (n := 12) (by decide +kernel) (by decide +kernel)) ?_
  refine z_All.c (j := 7) rfl ok_bad ?_
  refine z_All.c (j := 8) rfl (ok_anew (idx := 9) (by decide +kernel) zw21 zw22) ?_
  refine z_All.c (j := 9) rfl ok_bad ?_
  refine z_All.c (j := 10) rfl ok_bad ?_
  refine z_All.c (j := 11) rfl (ok_putF (idx := 11) (by decide +kernel) rfl (by decide) z_i0 z_t0 z_n0 zw125 rfl rfl rfl (by decide +kernel)) ?_
  refine z_All.c (j := 12) rfl ok_bad ?_
  refine z_All.c (j := 13) rfl ok_bad ?_
  refine z_All.c (j := 14) rfl (ok_aload_n (n := 0) (by decide +kernel) rfl) ?_
  refine z_All.c (j := 15) rfl (ok_new (idx := 15) (by decide +kernel) rfl z_i2 z_t2 zw23 zw24 zw2 rfl (zd2 scr B)) ?_
  refine z_All.c (j := 16) rfl ok_bad ?_
  refine z_All.c (j := 17) rfl ok_bad ?_
  refine z_All.c (j := 18) rfl (ok_dup (by decide +kernel)) ?_
  refine z_All.c (j := 19) rfl (ok_ciN (idx := 17) (by decide +kernel) zm35 rfl rfl zw25 zw26) ?_
  refine z_All.c (j := 20) rfl ok_bad ?_
  refine z_All.c (j := 21) rfl ok_bad ?_
  refine z_All.c (j := 22) rfl (ok_putF (idx := 18) (by decide +kernel) rfl (by decide) z_i0 z_t0 z_n0 zw127 rfl rfl rfl (by decide +kernel)) ?_
  refine z_All.c (j := 23) rfl ok_bad ?_
  refine z_All.c (j := 24) rfl ok_bad ?_
  refine z_All.c (j := 25) rfl (ok_aload_n (n := 0) (by decide +kernel) rfl) ?_
  refine z_All.c (j := 26) rfl (ok_new (idx := 22) (by decide +kernel) rfl z_i3 z_t3 zw41 zw42 zw3 rfl (zd3 scr B)) ?_
  refine z_All.c (j := 27) rfl ok_bad ?_
  refine z_All.c (j := 28) rfl ok_bad ?_
  refine z_All.c (j := 29) rfl (ok_dup (by decide +kernel)) ?_
  refine z_All.c (j := 30) rfl (ok_ci (idx := 24) (by decide +kernel) zm46 rfl rfl zw43 zw44) ?_
  refine z_All.c (j := 31) rfl ok_bad ?_
  refine z_All.c (j := 32) rfl ok_bad ?_
  refine z_All.c (j := 33) rfl (ok_putF (idx := 25) (by decide +kernel) rfl (by decide) z_i0 z_t0 z_n0 zw128 rfl rfl rfl (by decide +kernel)) ?_
  refine z_All.c (j := 34) rfl ok_bad ?_
  refine z_All.c (j := 35) rfl ok_bad ?_
  refine z_All.c (j := 36) rfl (ok_aload_n (n := 0) (by decide +kernel) rfl) ?_
  refine z_All.c (j := 37) rfl (ok_aload_n (n := 0) (by decide +kernel) rfl) ?_
  refine z_All.c (j := 38) rfl (ok_get (idx := 25) (by decide +kernel) rfl (by decide) z_i0 zw128) ?_
  refine z_All.c (j := 39) rfl ok_bad ?_
  refine z_All.c (j := 40) rfl ok_bad ?_
  refine z_All.c (j := 41) rfl (ok_get (idx := 29) (by decide +kernel) rfl (by decide) z_i3 zw101) ?_
  refine z_All.c (j := 42) rfl ok_bad ?_
  refine z_All.c (j := 43) rfl ok_bad ?_
  refine z_All.c (j := 44) rfl (ok_putF (idx := 33) (by decide +kernel) rfl (by decide) z_i0 z_t0 z_n0 zw129 rfl rfl rfl (by decide +kernel)) ?_
  refine z_All.c (j := 45) rfl ok_bad ?_
  refine z_All.c (j := 46) rfl ok_bad ?_
  refine z_All.c (j := 47) rfl (ok_aload_n (n := 0) (by decide +kernel) rfl) ?_
  refine z_All.c (j := 48) rfl (ok_aload_n (n := 0) (by decide +kernel) rfl) ?_
  refine z_All.c (j := 49) rfl (ok_get (idx := 25) (by decide +kernel) rfl (by decide) z_i0 zw128) ?_
  refine z_All.c (j := 50) rfl ok_bad ?_
  refine z_All.c (j := 51) rfl ok_bad ?_
  refine z_All.c (j := 52) rfl (ok_get (idx := 34) (by decide +kernel) rfl (by decide) z_i3 zw103) ?_
  refine z_All.c (j := 53) rfl ok_bad ?_
  refine z_All.c (j := 54) rfl ok_bad ?_
  refine z_All.c (j := 55) rfl (ok_putF (idx := 38) (by decide +kernel) rfl (by decide) z_i0 z_t0 z_n0 zw130 rfl rfl rfl (by decide +kernel)) ?_
  refine z_All.c (j := 56) rfl ok_bad ?_
  refine z_All.c (j := 57) rfl ok_bad ?_
  refine z_All.c (j := 58) rfl (ok_aload_n (n := 0) (by decide +kernel) rfl) ?_
  refine z_All.c (j := 59) rfl (ok_iconst (n := 3) (by decide +kernel) (by decide +kernel)) ?_
  refine z_All.c (j := 60) rfl (ok_anew (idx := 39) (by decide +kernel) zw123 zw124) ?_
  refine z_All.c (j := 61) rfl ok_bad ?_
  refine z_All.c (j := 62) rfl ok_bad ?_
  refine z_All.c (j := 63) rfl (ok_putF (idx := 41) (by decide +kernel) rfl (by decide) z_i0 z_t0 z_n0 zw131 rfl rfl rfl (by decide +kernel)) ?_
  refine z_All.c (j := 64) rfl ok_bad ?_
  exact trivial
set_option maxRecDepth 20000 in
theorem zk0_1 (l : Launch) (scr B : Nat) (D : va_G) : z_All l scr B D 0 64 z_c0_1 := by
  refine z_All.c (j := 65) rfl ok_bad ?_
  refine z_All.c (j := 66) rfl (ok_vret (by decide +kernel) rfl) ?_
  exact trivial
set_option maxRecDepth 20000 in
theorem zk1_0 (l : Launch) (scr B : Nat) (D : va_G) : z_All l scr B D 1 0 z_c1_0 := by
  refine z_All.c (j := 1) rfl (ok_aload_n (n := 0) (by decide +kernel) rfl) ?_
  refine z_All.c (j := 2) rfl (ok_iload_n (n := 1) (by decide +kernel) rfl) ?_
  refine z_All.c (j := 3) rfl (ok_cv (idx := 45) (by decide +kernel) rfl zm20 zw154 zw156 (z_inP (List.mem_of_getElem? (i := 0) rfl) rfl)) ?_
  refine z_All.c (j := 4) rfl ok_bad ?_
  refine z_All.c (j := 5) rfl ok_bad ?_
  refine z_All.c (j := 6) rfl (ok_astore_n (n := 3) (by decide +kernel) rfl (fun _ => rfl)) ?_
  refine z_All.c (j := 7) rfl (ok_aload_n (n := 0) (by decide +kernel) rfl) ?_
  refine z_All.c (j := 8) rfl (ok_get (idx := 49) (by decide +kernel) rfl (by decide) z_i0 zw126) ?_
  refine z_All.c (j := 9) rfl ok_bad ?_
  refine z_All.c (j := 10) rfl ok_bad ?_
  refine z_All.c (j := 11) rfl (ok_bipush (n := 12) (by decide +kernel) (by decide +kernel)) ?_
  refine z_All.c (j := 12) rfl ok_bad ?_
  refine z_All.c (j := 13) rfl (ok_ic_eq (off := 12) (by decide +kernel) (by decide +kernel)) ?_
  refine z_All.c (j := 14) rfl ok_bad ?_
  refine z_All.c (j := 15) rfl ok_bad ?_
  refine z_All.c (j := 16) rfl (ok_aload_n (n := 3) (by decide +kernel) rfl) ?_
  refine z_All.c (j := 17) rfl (ok_nn (off := 10) (by decide +kernel) (by decide +kernel)) ?_
  refine z_All.c (j := 18) rfl ok_bad ?_
  refine z_All.c (j := 19) rfl ok_bad ?_
  refine z_All.c (j := 20) rfl (ok_iload_n (n := 1) (by decide +kernel) rfl) ?_
  refine z_All.c (j := 21) rfl (ok_iconst (n := -1) (by decide +kernel) (by decide +kernel)) ?_
  refine z_All.c (j := 22) rfl (ok_ic_eq (off := 5) (by decide +kernel) (by decide +kernel)) ?_
  refine z_All.c (j := 23) rfl ok_bad ?_
  refine z_All.c (j := 24) rfl ok_bad ?_
  refine z_All.c (j := 25) rfl (ok_iconst (n := -1) (by decide +kernel) (by decide +kernel)) ?_
  refine z_All.c (j := 26) rfl (ok_iret (by decide +kernel) rfl) ?_
  refine z_All.c (j := 27) rfl (ok_aload_n (n := 0) (by decide +kernel) rfl) ?_
  refine z_All.c (j := 28) rfl (ok_get (idx := 11) (by decide +kernel) rfl (by decide) z_i0 zw125) ?_
  refine z_All.c (j := 29) rfl ok_bad ?_
  refine z_All.c (j := 30) rfl ok_bad ?_
  refine z_All.c (j := 31) rfl (ok_aload_n (n := 0) (by decide +kernel) rfl) ?_
  refine z_All.c (j := 32) rfl (ok_get (idx := 49) (by decide +kernel) rfl (by decide) z_i0 zw126) ?_
  refine z_All.c (j := 33) rfl ok_bad ?_
  refine z_All.c (j := 34) rfl ok_bad ?_
  refine z_All.c (j := 35) rfl (ok_new (idx := 9) (by decide +kernel) rfl z_i1 z_t1 zw21 zw158 zw7 rfl (zd1 scr B)) ?_
  refine z_All.c (j := 36) rfl ok_bad ?_
  refine z_All.c (j := 37) rfl ok_bad ?_
  refine z_All.c (j := 38) rfl (ok_dup (by decide +kernel)) ?_
  refine z_All.c (j := 39) rfl (ok_aload_n (n := 3) (by decide +kernel) rfl) ?_
  refine z_All.c (j := 40) rfl (ok_iload_n (n := 2) (by decide +kernel) rfl) ?_
  refine z_All.c (j := 41) rfl (ok_ci (idx := 53) (by decide +kernel) zm27 rfl rfl zw159 zw160) ?_
  refine z_All.c (j := 42) rfl ok_bad ?_
  refine z_All.c (j := 43) rfl ok_bad ?_
  refine z_All.c (j := 44) rfl (ok_rst (by decide +kernel) rfl) ?_
  refine z_All.c (j := 45) rfl (ok_aload_n (n := 0) (by decide +kernel) rfl) ?_
  refine z_All.c (j := 46) rfl (ok_dup (by decide +kernel)) ?_
  refine z_All.c (j := 47) rfl (ok_get (idx := 49) (by decide +kernel) rfl (by decide) z_i0 zw126) ?_
  refine z_All.c (j := 48) rfl ok_bad ?_
  refine z_All.c (j := 49) rfl ok_bad ?_
  refine z_All.c (j := 50) rfl (ok_iconst (n := 1) (by decide +kernel) (by decide +kernel)) ?_
  refine z_All.c (j := 51) rfl (ok_iadd (by decide +kernel)) ?_
  refine z_All.c (j := 52) rfl (ok_put (idx := 49) (by decide +kernel) rfl (by decide) z_i0 z_t0 z_n0 zw126 rfl (by decide +kernel)) ?_
  refine z_All.c (j := 53) rfl ok_bad ?_
  refine z_All.c (j := 54) rfl ok_bad ?_
  refine z_All.c (j := 55) rfl (ok_aload_n (n := 0) (by decide +kernel) rfl) ?_
  refine z_All.c (j := 56) rfl (ok_get (idx := 49) (by decide +kernel) rfl (by decide) z_i0 zw126) ?_
  refine z_All.c (j := 57) rfl ok_bad ?_
  refine z_All.c (j := 58) rfl ok_bad ?_
  refine z_All.c (j := 59) rfl (ok_iconst (n := 1) (by decide +kernel) (by decide +kernel)) ?_
  refine z_All.c (j := 60) rfl (ok_isub (by decide +kernel)) ?_
  refine z_All.c (j := 61) rfl (ok_iret (by decide +kernel) rfl) ?_
  exact trivial
set_option maxRecDepth 20000 in
theorem zk2_0 (l : Launch) (scr B : Nat) (D : va_G) : z_All l scr B D 2 0 z_c2_0 := by
  refine z_All.c (j := 1) rfl (ok_aload_n (n := 0) (by decide +kernel) rfl) ?_
  refine z_All.c (j := 2) rfl (ok_iload_n (n := 1) (by decide +kernel) rfl) ?_
  refine z_All.c (j := 3) rfl (ok_cv (idx := 45) (by decide +kernel) rfl zm20 zw154 zw156 (z_inP (List.mem_of_getElem? (i := 0) rfl) rfl)) ?_
  refine z_All.c (j := 4) rfl ok_bad ?_
  refine z_All.c (j := 5) rfl ok_bad ?_
  refine z_All.c (j := 6) rfl (ok_astore_n (n := 3) (by decide +kernel) rfl (fun _ => rfl)) ?_
  refine z_All.c (j := 7) rfl (ok_aload_n (n := 3) (by decide +kernel) rfl) ?_
  refine z_All.c (j := 8) rfl (ok_nul (off := 15) (by decide +kernel) (by decide +kernel)) ?_
  refine z_All.c (j := 9) rfl ok_bad ?_
  refine z_All.c (j := 10) rfl ok_bad ?_
  refine z_All.c (j := 11) rfl (ok_aload_n (n := 3) (by decide +kernel) rfl) ?_
  refine z_All.c (j := 12) rfl (ok_iload_n (n := 2) (by decide +kernel) rfl) ?_
  refine z_All.c (j := 13) rfl (ok_cv (idx := 56) (by decide +kernel) rfl zm28 zw212 zw213 zw214) ?_
  refine z_All.c (j := 14) rfl ok_bad ?_
  refine z_All.c (j := 15) rfl ok_bad ?_
  refine z_All.c (j := 16) rfl (ok_if_eq (off := 7) (by decide +kernel) (by decide +kernel)) ?_
  refine z_All.c (j := 17) rfl ok_bad ?_
  refine z_All.c (j := 18) rfl ok_bad ?_
  refine z_All.c (j := 19) rfl (ok_iconst (n := 1) (by decide +kernel) (by decide +kernel)) ?_
  refine z_All.c (j := 20) rfl (ok_goto (off := 4) (by decide +kernel) (by decide +kernel)) ?_
  refine z_All.c (j := 21) rfl ok_bad ?_
  refine z_All.c (j := 22) rfl ok_bad ?_
  refine z_All.c (j := 23) rfl (ok_iconst (n := 0) (by decide +kernel) (by decide +kernel)) ?_
  refine z_All.c (j := 24) rfl (ok_iret (by decide +kernel) rfl) ?_
  exact trivial
set_option maxRecDepth 20000 in
theorem zk3_0 (l : Launch) (scr B : Nat) (D : va_G) : z_All l scr B D 3 0 z_c3_0 := by
  refine z_All.c (j := 1) rfl (ok_aload_n (n := 0) (by decide +kernel) rfl) ?_
  refine z_All.c (j := 2) rfl (ok_iload_n (n := 1) (by decide +kernel) rfl) ?_
  refine z_All.c (j := 3) rfl (ok_cv (idx := 45) (by decide +kernel) rfl zm20 zw154 zw156 (z_inP (List.mem_of_getElem? (i := 0) rfl) rfl)) ?_
  refine z_All.c (j := 4) rfl ok_bad ?_
  refine z_All.c (j := 5) rfl ok_bad ?_
  refine z_All.c (j := 6) rfl (ok_astore_n (n := 3) (by decide +kernel) rfl (fun _ => rfl)) ?_
  refine z_All.c (j := 7) rfl (ok_aload_n (n := 0) (by decide +kernel) rfl) ?_
  refine z_All.c (j := 8) rfl (ok_iload_n (n := 2) (by decide +kernel) rfl) ?_
  refine z_All.c (j := 9) rfl (ok_cv (idx := 45) (by decide +kernel) rfl zm20 zw154 zw156 (z_inP (List.mem_of_getElem? (i := 0) rfl) rfl)) ?_
  refine z_All.c (j := 10) rfl ok_bad ?_
  refine z_All.c (j := 11) rfl ok_bad ?_
  refine z_All.c (j := 12) rfl (ok_astore (by decide +kernel) (fun _ => rfl)) ?_
  refine z_All.c (j := 13) rfl ok_bad ?_
  refine z_All.c (j := 14) rfl (ok_aload_n (n := 3) (by decide +kernel) rfl) ?_
  refine z_All.c (j := 15) rfl (ok_nul (off := 21) (by decide +kernel) (by decide +kernel)) ?_
  refine z_All.c (j := 16) rfl ok_bad ?_
  refine z_All.c (j := 17) rfl ok_bad ?_
  refine z_All.c (j := 18) rfl (ok_aload (by decide +kernel)) ?_
  refine z_All.c (j := 19) rfl ok_bad ?_
  refine z_All.c (j := 20) rfl (ok_nul (off := 16) (by decide +kernel) (by decide +kernel)) ?_
  refine z_All.c (j := 21) rfl ok_bad ?_
  refine z_All.c (j := 22) rfl ok_bad ?_
  refine z_All.c (j := 23) rfl (ok_aload_n (n := 3) (by decide +kernel) rfl) ?_
  refine z_All.c (j := 24) rfl (ok_aload (by decide +kernel)) ?_
  refine z_All.c (j := 25) rfl ok_bad ?_
  refine z_All.c (j := 26) rfl (ok_cv (idx := 60) (by decide +kernel) rfl zm29 zw220 zw221 zw222) ?_
  refine z_All.c (j := 27) rfl ok_bad ?_
  refine z_All.c (j := 28) rfl ok_bad ?_
  refine z_All.c (j := 29) rfl (ok_if_eq (off := 7) (by decide +kernel) (by decide +kernel)) ?_
  refine z_All.c (j := 30) rfl ok_bad ?_
  refine z_All.c (j := 31) rfl ok_bad ?_
  refine z_All.c (j := 32) rfl (ok_iconst (n := 1) (by decide +kernel) (by decide +kernel)) ?_
  refine z_All.c (j := 33) rfl (ok_goto (off := 4) (by decide +kernel) (by decide +kernel)) ?_
  refine z_All.c (j := 34) rfl ok_bad ?_
  refine z_All.c (j := 35) rfl ok_bad ?_
  refine z_All.c (j := 36) rfl (ok_iconst (n := 0) (by decide +kernel) (by decide +kernel)) ?_
  refine z_All.c (j := 37) rfl (ok_iret (by decide +kernel) rfl) ?_
  exact trivial
set_option maxRecDepth 20000 in
theorem zk4_0 (l : Launch) (scr B : Nat) (D : va_G) : z_All l scr B D 4 0 z_c4_0 := by
  refine z_All.c (j := 1) rfl (ok_aload_n (n := 0) (by decide +kernel) rfl) ?_
  refine z_All.c (j := 2) rfl (ok_iload_n (n := 1) (by decide +kernel) rfl) ?_
  refine z_All.c (j := 3) rfl (ok_cv (idx := 45) (by decide +kernel) rfl zm20 zw154 zw156 (z_inP (List.mem_of_getElem? (i := 0) rfl) rfl)) ?_
  refine z_All.c (j := 4) rfl ok_bad ?_
  refine z_All.c (j := 5) rfl ok_bad ?_
  refine z_All.c (j := 6) rfl (ok_astore (by decide +kernel) (fun _ => rfl)) ?_
  refine z_All.c (j := 7) rfl ok_bad ?_
  refine z_All.c (j := 8) rfl (ok_aload (by decide +kernel)) ?_
  refine z_All.c (j := 9) rfl ok_bad ?_
  refine z_All.c (j := 10) rfl (ok_nul (off := 13) (by decide +kernel) (by decide +kernel)) ?_
  refine z_All.c (j := 11) rfl ok_bad ?_
  refine z_All.c (j := 12) rfl ok_bad ?_
  refine z_All.c (j := 13) rfl (ok_iload_n (n := 3) (by decide +kernel) rfl) ?_
  refine z_All.c (j := 14) rfl (ok_if_lt (off := 9) (by decide +kernel) (by decide +kernel)) ?_
  refine z_All.c (j := 15) rfl ok_bad ?_
  refine z_All.c (j := 16) rfl ok_bad ?_
  refine z_All.c (j := 17) rfl (ok_iload_n (n := 3) (by decide +kernel) rfl) ?_
  refine z_All.c (j := 18) rfl (ok_bipush (n := 6) (by decide +kernel) (by decide +kernel)) ?_
  refine z_All.c (j := 19) rfl ok_bad ?_
  refine z_All.c (j := 20) rfl (ok_ic_le (off := 5) (by decide +kernel) (by decide +kernel)) ?_
  refine z_All.c (j := 21) rfl ok_bad ?_
  refine z_All.c (j := 22) rfl ok_bad ?_
  refine z_All.c (j := 23) rfl (ok_iconst (n := -1) (by decide +kernel) (by decide +kernel)) ?_
  refine z_All.c (j := 24) rfl (ok_iret (by decide +kernel) rfl) ?_
  refine z_All.c (j := 25) rfl (ok_iload_n (n := 3) (by decide +kernel) rfl) ?_
  refine z_All.c (j := 26) rfl (ok_bipush (n := 6) (by decide +kernel) (by decide +kernel)) ?_
  refine z_All.c (j := 27) rfl ok_bad ?_
  refine z_All.c (j := 28) rfl (ok_ic_eq (off := 15) (by decide +kernel) (by decide +kernel)) ?_
  refine z_All.c (j := 29) rfl ok_bad ?_
  refine z_All.c (j := 30) rfl ok_bad ?_
  refine z_All.c (j := 31) rfl (ok_iload_n (n := 2) (by decide +kernel) rfl) ?_
  refine z_All.c (j := 32) rfl (ok_iconst (n := 1) (by decide +kernel) (by decide +kernel)) ?_
  refine z_All.c (j := 33) rfl (ok_ic_lt (off := 8) (by decide +kernel) (by decide +kernel)) ?_
  refine z_All.c (j := 34) rfl ok_bad ?_
  refine z_All.c (j := 35) rfl ok_bad ?_
  refine z_All.c (j := 36) rfl (ok_iload_n (n := 2) (by decide +kernel) rfl) ?_
  refine z_All.c (j := 37) rfl (ok_iconst (n := 4) (by decide +kernel) (by decide +kernel)) ?_
  refine z_All.c (j := 38) rfl (ok_ic_le (off := 5) (by decide +kernel) (by decide +kernel)) ?_
  refine z_All.c (j := 39) rfl ok_bad ?_
  refine z_All.c (j := 40) rfl ok_bad ?_
  refine z_All.c (j := 41) rfl (ok_iconst (n := -1) (by decide +kernel) (by decide +kernel)) ?_
  refine z_All.c (j := 42) rfl (ok_iret (by decide +kernel) rfl) ?_
  refine z_All.c (j := 43) rfl (ok_iload_n (n := 3) (by decide +kernel) rfl) ?_
  refine z_All.c (j := 44) rfl (ok_cs (idx := 64) (by decide +kernel) zm22 zw228 zw229) ?_
  refine z_All.c (j := 45) rfl ok_bad ?_
  refine z_All.c (j := 46) rfl ok_bad ?_
  refine z_All.c (j := 47) rfl (ok_if_eq (off := 17) (by decide +kernel) (by decide +kernel)) ?_
  refine z_All.c (j := 48) rfl ok_bad ?_
  refine z_All.c (j := 49) rfl ok_bad ?_
  refine z_All.c (j := 50) rfl (ok_iload (by decide +kernel)) ?_
  refine z_All.c (j := 51) rfl ok_bad ?_
  refine z_All.c (j := 52) rfl (ok_if_lt (off := 10) (by decide +kernel) (by decide +kernel)) ?_
  refine z_All.c (j := 53) rfl ok_bad ?_
  refine z_All.c (j := 54) rfl ok_bad ?_
  refine z_All.c (j := 55) rfl (ok_iload (by decide +kernel)) ?_
  refine z_All.c (j := 56) rfl ok_bad ?_
  refine z_All.c (j := 57) rfl (ok_bipush (n := 32) (by decide +kernel) (by decide +kernel)) ?_
  refine z_All.c (j := 58) rfl ok_bad ?_
  refine z_All.c (j := 59) rfl (ok_ic_le (off := 5) (by decide +kernel) (by decide +kernel)) ?_
  refine z_All.c (j := 60) rfl ok_bad ?_
  refine z_All.c (j := 61) rfl ok_bad ?_
  refine z_All.c (j := 62) rfl (ok_iconst (n := -1) (by decide +kernel) (by decide +kernel)) ?_
  refine z_All.c (j := 63) rfl (ok_iret (by decide +kernel) rfl) ?_
  refine z_All.c (j := 64) rfl (ok_iload (by decide +kernel)) ?_
  exact trivial
set_option maxRecDepth 20000 in
theorem zk4_1 (l : Launch) (scr B : Nat) (D : va_G) : z_All l scr B D 4 64 z_c4_1 := by
  refine z_All.c (j := 65) rfl ok_bad ?_
  refine z_All.c (j := 66) rfl (ok_iconst (n := -1) (by decide +kernel) (by decide +kernel)) ?_
  refine z_All.c (j := 67) rfl (ok_ic_ne (off := 8) (by decide +kernel) (by decide +kernel)) ?_
  refine z_All.c (j := 68) rfl ok_bad ?_
  refine z_All.c (j := 69) rfl ok_bad ?_
  refine z_All.c (j := 70) rfl (ok_aload (by decide +kernel)) ?_
  refine z_All.c (j := 71) rfl ok_bad ?_
  refine z_All.c (j := 72) rfl (ok_goto (off := 9) (by decide +kernel) (by decide +kernel)) ?_
  refine z_All.c (j := 73) rfl ok_bad ?_
  refine z_All.c (j := 74) rfl ok_bad ?_
  refine z_All.c (j := 75) rfl (ok_aload_n (n := 0) (by decide +kernel) rfl) ?_
  refine z_All.c (j := 76) rfl (ok_iload (by decide +kernel)) ?_
  refine z_All.c (j := 77) rfl ok_bad ?_
  refine z_All.c (j := 78) rfl (ok_cv (idx := 45) (by decide +kernel) rfl zm20 zw154 zw156 (z_inP (List.mem_of_getElem? (i := 0) rfl) rfl)) ?_
  refine z_All.c (j := 79) rfl ok_bad ?_
  refine z_All.c (j := 80) rfl ok_bad ?_
  refine z_All.c (j := 81) rfl (ok_astore (by decide +kernel) (fun _ => rfl)) ?_
  refine z_All.c (j := 82) rfl ok_bad ?_
  refine z_All.c (j := 83) rfl (ok_iload_n (n := 3) (by decide +kernel) rfl) ?_
  refine z_All.c (j := 84) rfl (ok_cs (idx := 67) (by decide +kernel) zm23 zw231 zw232) ?_
  refine z_All.c (j := 85) rfl ok_bad ?_
  refine z_All.c (j := 86) rfl ok_bad ?_
  refine z_All.c (j := 87) rfl (ok_if_eq (off := 10) (by decide +kernel) (by decide +kernel)) ?_
  refine z_All.c (j := 88) rfl ok_bad ?_
  refine z_All.c (j := 89) rfl ok_bad ?_
  refine z_All.c (j := 90) rfl (ok_aload (by decide +kernel)) ?_
  refine z_All.c (j := 91) rfl ok_bad ?_
  refine z_All.c (j := 92) rfl (ok_nn (off := 5) (by decide +kernel) (by decide +kernel)) ?_
  refine z_All.c (j := 93) rfl ok_bad ?_
  refine z_All.c (j := 94) rfl ok_bad ?_
  refine z_All.c (j := 95) rfl (ok_iconst (n := -1) (by decide +kernel) (by decide +kernel)) ?_
  refine z_All.c (j := 96) rfl (ok_iret (by decide +kernel) rfl) ?_
  refine z_All.c (j := 97) rfl (ok_aload (by decide +kernel)) ?_
  refine z_All.c (j := 98) rfl ok_bad ?_
  refine z_All.c (j := 99) rfl (ok_iload_n (n := 3) (by decide +kernel) rfl) ?_
  refine z_All.c (j := 100) rfl (ok_cv (idx := 70) (by decide +kernel) rfl zm31 zw234 zw235 zw236) ?_
  refine z_All.c (j := 101) rfl ok_bad ?_
  refine z_All.c (j := 102) rfl ok_bad ?_
  refine z_All.c (j := 103) rfl (ok_if_ne (off := 6) (by decide +kernel) (by decide +kernel)) ?_
  refine z_All.c (j := 104) rfl ok_bad ?_
  refine z_All.c (j := 105) rfl ok_bad ?_
  refine z_All.c (j := 106) rfl (ok_bipush (n := -2) (by decide +kernel) (by decide +kernel)) ?_
  refine z_All.c (j := 107) rfl ok_bad ?_
  refine z_All.c (j := 108) rfl (ok_iret (by decide +kernel) rfl) ?_
  refine z_All.c (j := 109) rfl (ok_iload_n (n := 3) (by decide +kernel) rfl) ?_
  refine z_All.c (j := 110) rfl (ok_bipush (n := 6) (by decide +kernel) (by decide +kernel)) ?_
  refine z_All.c (j := 111) rfl ok_bad ?_
  refine z_All.c (j := 112) rfl (ok_ic_ne (off := 13) (by decide +kernel) (by decide +kernel)) ?_
  refine z_All.c (j := 113) rfl ok_bad ?_
  refine z_All.c (j := 114) rfl ok_bad ?_
  refine z_All.c (j := 115) rfl (ok_aload (by decide +kernel)) ?_
  refine z_All.c (j := 116) rfl ok_bad ?_
  refine z_All.c (j := 117) rfl (ok_aload (by decide +kernel)) ?_
  refine z_All.c (j := 118) rfl ok_bad ?_
  refine z_All.c (j := 119) rfl (ok_put (idx := 73) (by decide +kernel) rfl (by decide) z_i1 z_t1 z_n1 zw182 rfl (by decide +kernel)) ?_
  refine z_All.c (j := 120) rfl ok_bad ?_
  refine z_All.c (j := 121) rfl ok_bad ?_
  refine z_All.c (j := 122) rfl (ok_goto (off := 23) (by decide +kernel) (by decide +kernel)) ?_
  refine z_All.c (j := 123) rfl ok_bad ?_
  refine z_All.c (j := 124) rfl ok_bad ?_
  refine z_All.c (j := 125) rfl (ok_aload (by decide +kernel)) ?_
  refine z_All.c (j := 126) rfl ok_bad ?_
  refine z_All.c (j := 127) rfl (ok_new (idx := 77) (by decide +kernel) rfl z_i7 z_t7 zw242 zw243 zw8 rfl (zd7 scr B)) ?_
  refine z_All.c (j := 128) rfl ok_bad ?_
  exact trivial
set_option maxRecDepth 20000 in
theorem zk4_2 (l : Launch) (scr B : Nat) (D : va_G) : z_All l scr B D 4 128 z_c4_2 := by
  refine z_All.c (j := 129) rfl ok_bad ?_
  refine z_All.c (j := 130) rfl (ok_dup (by decide +kernel)) ?_
  refine z_All.c (j := 131) rfl (ok_iload_n (n := 2) (by decide +kernel) rfl) ?_
  refine z_All.c (j := 132) rfl (ok_iload_n (n := 3) (by decide +kernel) rfl) ?_
  refine z_All.c (j := 133) rfl (ok_iload (by decide +kernel)) ?_
  refine z_All.c (j := 134) rfl ok_bad ?_
  refine z_All.c (j := 135) rfl (ok_aload (by decide +kernel)) ?_
  refine z_All.c (j := 136) rfl ok_bad ?_
  refine z_All.c (j := 137) rfl (ok_iload (by decide +kernel)) ?_
  refine z_All.c (j := 138) rfl ok_bad ?_
  refine z_All.c (j := 139) rfl (ok_ci (idx := 79) (by decide +kernel) zm66 rfl rfl zw244 zw245) ?_
  refine z_All.c (j := 140) rfl ok_bad ?_
  refine z_All.c (j := 141) rfl ok_bad ?_
  refine z_All.c (j := 142) rfl (ok_cv (idx := 82) (by decide +kernel) rfl zm32 zw269 zw270 zw271) ?_
  refine z_All.c (j := 143) rfl ok_bad ?_
  refine z_All.c (j := 144) rfl ok_bad ?_
  refine z_All.c (j := 145) rfl (ok_aload (by decide +kernel)) ?_
  refine z_All.c (j := 146) rfl ok_bad ?_
  refine z_All.c (j := 147) rfl (ok_cv (idx := 86) (by decide +kernel) rfl zm30 zw273 zw239 zw240) ?_
  refine z_All.c (j := 148) rfl ok_bad ?_
  refine z_All.c (j := 149) rfl ok_bad ?_
  refine z_All.c (j := 150) rfl (ok_iret (by decide +kernel) rfl) ?_
  exact trivial
set_option maxRecDepth 20000 in
theorem zk5_0 (l : Launch) (scr B : Nat) (D : va_G) : z_All l scr B D 5 0 z_c5_0 := by
  refine z_All.c (j := 1) rfl (ok_aload_n (n := 0) (by decide +kernel) rfl) ?_
  refine z_All.c (j := 2) rfl (ok_iload_n (n := 1) (by decide +kernel) rfl) ?_
  refine z_All.c (j := 3) rfl (ok_cv (idx := 45) (by decide +kernel) rfl zm20 zw154 zw156 (z_inP (List.mem_of_getElem? (i := 0) rfl) rfl)) ?_
  refine z_All.c (j := 4) rfl ok_bad ?_
  refine z_All.c (j := 5) rfl ok_bad ?_
  refine z_All.c (j := 6) rfl (ok_astore (by decide +kernel) (fun _ => rfl)) ?_
  refine z_All.c (j := 7) rfl ok_bad ?_
  refine z_All.c (j := 8) rfl (ok_aload (by decide +kernel)) ?_
  refine z_All.c (j := 9) rfl ok_bad ?_
  refine z_All.c (j := 10) rfl (ok_nul (off := 13) (by decide +kernel) (by decide +kernel)) ?_
  refine z_All.c (j := 11) rfl ok_bad ?_
  refine z_All.c (j := 12) rfl ok_bad ?_
  refine z_All.c (j := 13) rfl (ok_iload_n (n := 2) (by decide +kernel) rfl) ?_
  refine z_All.c (j := 14) rfl (ok_iconst (n := 2) (by decide +kernel) (by decide +kernel)) ?_
  refine z_All.c (j := 15) rfl (ok_ic_lt (off := 8) (by decide +kernel) (by decide +kernel)) ?_
  refine z_All.c (j := 16) rfl ok_bad ?_
  refine z_All.c (j := 17) rfl ok_bad ?_
  refine z_All.c (j := 18) rfl (ok_iload_n (n := 3) (by decide +kernel) rfl) ?_
  refine z_All.c (j := 19) rfl (ok_iconst (n := 1) (by decide +kernel) (by decide +kernel)) ?_
  refine z_All.c (j := 20) rfl (ok_ic_ge (off := 5) (by decide +kernel) (by decide +kernel)) ?_
  refine z_All.c (j := 21) rfl ok_bad ?_
  refine z_All.c (j := 22) rfl ok_bad ?_
  refine z_All.c (j := 23) rfl (ok_iconst (n := 0) (by decide +kernel) (by decide +kernel)) ?_
  refine z_All.c (j := 24) rfl (ok_iret (by decide +kernel) rfl) ?_
  refine z_All.c (j := 25) rfl (ok_aload (by decide +kernel)) ?_
  refine z_All.c (j := 26) rfl ok_bad ?_
  refine z_All.c (j := 27) rfl (ok_new (idx := 90) (by decide +kernel) rfl z_i8 z_t8 zw278 zw279 zw9 rfl (zd8 scr B)) ?_
  refine z_All.c (j := 28) rfl ok_bad ?_
  refine z_All.c (j := 29) rfl ok_bad ?_
  refine z_All.c (j := 30) rfl (ok_dup (by decide +kernel)) ?_
  refine z_All.c (j := 31) rfl (ok_iload_n (n := 2) (by decide +kernel) rfl) ?_
  refine z_All.c (j := 32) rfl (ok_iload_n (n := 3) (by decide +kernel) rfl) ?_
  refine z_All.c (j := 33) rfl (ok_ci (idx := 92) (by decide +kernel) zm67 rfl rfl zw280 zw281) ?_
  refine z_All.c (j := 34) rfl ok_bad ?_
  refine z_All.c (j := 35) rfl ok_bad ?_
  refine z_All.c (j := 36) rfl (ok_put (idx := 95) (by decide +kernel) rfl (by decide) z_i1 z_t1 z_n1 zw183 rfl (by decide +kernel)) ?_
  refine z_All.c (j := 37) rfl ok_bad ?_
  refine z_All.c (j := 38) rfl ok_bad ?_
  refine z_All.c (j := 39) rfl (ok_iconst (n := 1) (by decide +kernel) (by decide +kernel)) ?_
  refine z_All.c (j := 40) rfl (ok_iret (by decide +kernel) rfl) ?_
  exact trivial
set_option maxRecDepth 20000 in
theorem zk6_0 (l : Launch) (scr B : Nat) (D : va_G) : z_All l scr B D 6 0 z_c6_0 := by
  refine z_All.c (j := 1) rfl (ok_aload_n (n := 0) (by decide +kernel) rfl) ?_
  refine z_All.c (j := 2) rfl (ok_iload_n (n := 1) (by decide +kernel) rfl) ?_
  refine z_All.c (j := 3) rfl (ok_cv (idx := 45) (by decide +kernel) rfl zm20 zw154 zw156 (z_inP (List.mem_of_getElem? (i := 0) rfl) rfl)) ?_
  refine z_All.c (j := 4) rfl ok_bad ?_
  refine z_All.c (j := 5) rfl ok_bad ?_
  refine z_All.c (j := 6) rfl (ok_astore (by decide +kernel) (fun _ => rfl)) ?_
  refine z_All.c (j := 7) rfl ok_bad ?_
  refine z_All.c (j := 8) rfl (ok_aload (by decide +kernel)) ?_
  refine z_All.c (j := 9) rfl ok_bad ?_
  refine z_All.c (j := 10) rfl (ok_nul (off := 17) (by decide +kernel) (by decide +kernel)) ?_
  refine z_All.c (j := 11) rfl ok_bad ?_
  refine z_All.c (j := 12) rfl ok_bad ?_
  refine z_All.c (j := 13) rfl (ok_iload_n (n := 2) (by decide +kernel) rfl) ?_
  refine z_All.c (j := 14) rfl (ok_cs (idx := 99) (by decide +kernel) zm24 zw295 zw296) ?_
  refine z_All.c (j := 15) rfl ok_bad ?_
  refine z_All.c (j := 16) rfl ok_bad ?_
  refine z_All.c (j := 17) rfl (ok_if_eq (off := 10) (by decide +kernel) (by decide +kernel)) ?_
  refine z_All.c (j := 18) rfl ok_bad ?_
  refine z_All.c (j := 19) rfl ok_bad ?_
  refine z_All.c (j := 20) rfl (ok_iload_n (n := 3) (by decide +kernel) rfl) ?_
  refine z_All.c (j := 21) rfl (ok_cs (idx := 99) (by decide +kernel) zm24 zw295 zw296) ?_
  refine z_All.c (j := 22) rfl ok_bad ?_
  refine z_All.c (j := 23) rfl ok_bad ?_
  refine z_All.c (j := 24) rfl (ok_if_ne (off := 5) (by decide +kernel) (by decide +kernel)) ?_
  refine z_All.c (j := 25) rfl ok_bad ?_
  refine z_All.c (j := 26) rfl ok_bad ?_
  refine z_All.c (j := 27) rfl (ok_iconst (n := 0) (by decide +kernel) (by decide +kernel)) ?_
  refine z_All.c (j := 28) rfl (ok_iret (by decide +kernel) rfl) ?_
  refine z_All.c (j := 29) rfl (ok_aload (by decide +kernel)) ?_
  refine z_All.c (j := 30) rfl ok_bad ?_
  refine z_All.c (j := 31) rfl (ok_new (idx := 102) (by decide +kernel) rfl z_i9 z_t9 zw298 zw299 zw10 rfl (zd9 scr B)) ?_
  refine z_All.c (j := 32) rfl ok_bad ?_
  refine z_All.c (j := 33) rfl ok_bad ?_
  refine z_All.c (j := 34) rfl (ok_dup (by decide +kernel)) ?_
  refine z_All.c (j := 35) rfl (ok_iload_n (n := 2) (by decide +kernel) rfl) ?_
  refine z_All.c (j := 36) rfl (ok_iload_n (n := 3) (by decide +kernel) rfl) ?_
  refine z_All.c (j := 37) rfl (ok_iload (by decide +kernel)) ?_
  refine z_All.c (j := 38) rfl ok_bad ?_
  refine z_All.c (j := 39) rfl (ok_iload (by decide +kernel)) ?_
  refine z_All.c (j := 40) rfl ok_bad ?_
  refine z_All.c (j := 41) rfl (ok_ci (idx := 104) (by decide +kernel) zm69 rfl rfl zw300 zw301) ?_
  refine z_All.c (j := 42) rfl ok_bad ?_
  refine z_All.c (j := 43) rfl ok_bad ?_
  refine z_All.c (j := 44) rfl (ok_put (idx := 107) (by decide +kernel) rfl (by decide) z_i1 z_t1 z_n1 zw184 rfl (by decide +kernel)) ?_
  refine z_All.c (j := 45) rfl ok_bad ?_
  refine z_All.c (j := 46) rfl ok_bad ?_
  refine z_All.c (j := 47) rfl (ok_iconst (n := 1) (by decide +kernel) (by decide +kernel)) ?_
  refine z_All.c (j := 48) rfl (ok_iret (by decide +kernel) rfl) ?_
  exact trivial
set_option maxRecDepth 20000 in
theorem zk7_0 (l : Launch) (scr B : Nat) (D : va_G) : z_All l scr B D 7 0 z_c7_0 := by
  refine z_All.c (j := 1) rfl (ok_aload_n (n := 0) (by decide +kernel) rfl) ?_
  refine z_All.c (j := 2) rfl (ok_iload_n (n := 2) (by decide +kernel) rfl) ?_
  refine z_All.c (j := 3) rfl (ok_cv (idx := 45) (by decide +kernel) rfl zm20 zw154 zw156 (z_inP (List.mem_of_getElem? (i := 0) rfl) rfl)) ?_
  refine z_All.c (j := 4) rfl ok_bad ?_
  refine z_All.c (j := 5) rfl ok_bad ?_
  refine z_All.c (j := 6) rfl (ok_astore_n (n := 3) (by decide +kernel) rfl (fun _ => rfl)) ?_
  refine z_All.c (j := 7) rfl (ok_aload_n (n := 3) (by decide +kernel) rfl) ?_
  refine z_All.c (j := 8) rfl (ok_nn (off := 7) (by decide +kernel) (by decide +kernel)) ?_
  refine z_All.c (j := 9) rfl ok_bad ?_
  refine z_All.c (j := 10) rfl ok_bad ?_
  refine z_All.c (j := 11) rfl (ok_iconst (n := -1) (by decide +kernel) (by decide +kernel)) ?_
  refine z_All.c (j := 12) rfl (ok_goto (off := 12) (by decide +kernel) (by decide +kernel)) ?_
  refine z_All.c (j := 13) rfl ok_bad ?_
  refine z_All.c (j := 14) rfl ok_bad ?_
  refine z_All.c (j := 15) rfl (ok_aload_n (n := 0) (by decide +kernel) rfl) ?_
  refine z_All.c (j := 16) rfl (ok_get (idx := 18) (by decide +kernel) rfl (by decide) z_i0 zw127) ?_
  refine z_All.c (j := 17) rfl ok_bad ?_
  refine z_All.c (j := 18) rfl ok_bad ?_
  refine z_All.c (j := 19) rfl (ok_iload_n (n := 1) (by decide +kernel) rfl) ?_
  refine z_All.c (j := 20) rfl (ok_aload_n (n := 3) (by decide +kernel) rfl) ?_
  refine z_All.c (j := 21) rfl (ok_cv (idx := 111) (by decide +kernel) rfl zm36 zw325 zw326 zw327) ?_
  refine z_All.c (j := 22) rfl ok_bad ?_
  refine z_All.c (j := 23) rfl ok_bad ?_
  refine z_All.c (j := 24) rfl (ok_iret (by decide +kernel) rfl) ?_
  exact trivial
set_option maxRecDepth 20000 in
theorem zk8_0 (l : Launch) (scr B : Nat) (D : va_G) : z_All l scr B D 8 0 z_c8_0 := by
  refine z_All.c (j := 1) rfl (ok_aload_n (n := 0) (by decide +kernel) rfl) ?_
  refine z_All.c (j := 2) rfl (ok_get (idx := 18) (by decide +kernel) rfl (by decide) z_i0 zw127) ?_
  refine z_All.c (j := 3) rfl ok_bad ?_
  refine z_All.c (j := 4) rfl ok_bad ?_
  refine z_All.c (j := 5) rfl (ok_get (idx := 115) (by decide +kernel) rfl (by decide) z_i2 zw31) ?_
  refine z_All.c (j := 6) rfl ok_bad ?_
  refine z_All.c (j := 7) rfl ok_bad ?_
  refine z_All.c (j := 8) rfl (ok_iret (by decide +kernel) rfl) ?_
  exact trivial
set_option maxRecDepth 20000 in
theorem zk9_0 (l : Launch) (scr B : Nat) (D : va_G) : z_All l scr B D 9 0 z_c9_0 := by
  refine z_All.c (j := 1) rfl (ok_aload_n (n := 0) (by decide +kernel) rfl) ?_
  refine z_All.c (j := 2) rfl (ok_get (idx := 18) (by decide +kernel) rfl (by decide) z_i0 zw127) ?_
  refine z_All.c (j := 3) rfl ok_bad ?_
  refine z_All.c (j := 4) rfl ok_bad ?_
  refine z_All.c (j := 5) rfl (ok_get (idx := 118) (by decide +kernel) rfl (by decide) z_i2 zw33) ?_
  refine z_All.c (j := 6) rfl ok_bad ?_
  refine z_All.c (j := 7) rfl ok_bad ?_
  refine z_All.c (j := 8) rfl (ok_iret (by decide +kernel) rfl) ?_
  exact trivial
set_option maxRecDepth 20000 in
theorem zk10_0 (l : Launch) (scr B : Nat) (D : va_G) : z_All l scr B D 10 0 z_c10_0 := by
  refine z_All.c (j := 1) rfl (ok_iload_n (n := 1) (by decide +kernel) rfl) ?_
  refine z_All.c (j := 2) rfl (ok_bipush (n := 10) (by decide +kernel) (by decide +kernel)) ?_
  refine z_All.c (j := 3) rfl ok_bad ?_
  refine z_All.c (j := 4) rfl (ok_ic_eq (off := 15) (by decide +kernel) (by decide +kernel)) ?_
  refine z_All.c (j := 5) rfl ok_bad ?_
  refine z_All.c (j := 6) rfl ok_bad ?_
  refine z_All.c (j := 7) rfl (ok_iload_n (n := 1) (by decide +kernel) rfl) ?_
  refine z_All.c (j := 8) rfl (ok_bipush (n := 32) (by decide +kernel) (by decide +kernel)) ?_
  refine z_All.c (j := 9) rfl ok_bad ?_
  refine z_All.c (j := 10) rfl (ok_ic_lt (off := 13) (by decide +kernel) (by decide +kernel)) ?_
  refine z_All.c (j := 11) rfl ok_bad ?_
  refine z_All.c (j := 12) rfl ok_bad ?_
  refine z_All.c (j := 13) rfl (ok_iload_n (n := 1) (by decide +kernel) rfl) ?_
  refine z_All.c (j := 14) rfl (ok_bipush (n := 126) (by decide +kernel) (by decide +kernel)) ?_
  refine z_All.c (j := 15) rfl ok_bad ?_
  refine z_All.c (j := 16) rfl (ok_ic_gt (off := 7) (by decide +kernel) (by decide +kernel)) ?_
  refine z_All.c (j := 17) rfl ok_bad ?_
  refine z_All.c (j := 18) rfl ok_bad ?_
  refine z_All.c (j := 19) rfl (ok_iconst (n := 1) (by decide +kernel) (by decide +kernel)) ?_
  refine z_All.c (j := 20) rfl (ok_goto (off := 4) (by decide +kernel) (by decide +kernel)) ?_
  refine z_All.c (j := 21) rfl ok_bad ?_
  refine z_All.c (j := 22) rfl ok_bad ?_
  refine z_All.c (j := 23) rfl (ok_iconst (n := 0) (by decide +kernel) (by decide +kernel)) ?_
  refine z_All.c (j := 24) rfl (ok_istore_n (n := 2) (by decide +kernel) rfl (fun _ => rfl)) ?_
  refine z_All.c (j := 25) rfl (ok_iload_n (n := 2) (by decide +kernel) rfl) ?_
  refine z_All.c (j := 26) rfl (ok_if_eq (off := 21) (by decide +kernel) (by decide +kernel)) ?_
  refine z_All.c (j := 27) rfl ok_bad ?_
  refine z_All.c (j := 28) rfl ok_bad ?_
  refine z_All.c (j := 29) rfl (ok_aload_n (n := 0) (by decide +kernel) rfl) ?_
  refine z_All.c (j := 30) rfl (ok_get (idx := 33) (by decide +kernel) rfl (by decide) z_i0 zw129) ?_
  refine z_All.c (j := 31) rfl ok_bad ?_
  refine z_All.c (j := 32) rfl ok_bad ?_
  refine z_All.c (j := 33) rfl (ok_get (idx := 121) (by decide +kernel) rfl (by decide) z_i4 zw72) ?_
  refine z_All.c (j := 34) rfl ok_bad ?_
  refine z_All.c (j := 35) rfl ok_bad ?_
  refine z_All.c (j := 36) rfl (ok_iload_n (n := 1) (by decide +kernel) rfl) ?_
  refine z_All.c (j := 37) rfl (ok_cv (idx := 126) (by decide +kernel) rfl zm61 zw378 zw379 zw380) ?_
  refine z_All.c (j := 38) rfl ok_bad ?_
  refine z_All.c (j := 39) rfl ok_bad ?_
  refine z_All.c (j := 40) rfl (ok_if_eq (off := 7) (by decide +kernel) (by decide +kernel)) ?_
  refine z_All.c (j := 41) rfl ok_bad ?_
  refine z_All.c (j := 42) rfl ok_bad ?_
  refine z_All.c (j := 43) rfl (ok_iconst (n := 1) (by decide +kernel) (by decide +kernel)) ?_
  refine z_All.c (j := 44) rfl (ok_goto (off := 4) (by decide +kernel) (by decide +kernel)) ?_
  refine z_All.c (j := 45) rfl ok_bad ?_
  refine z_All.c (j := 46) rfl ok_bad ?_
  refine z_All.c (j := 47) rfl (ok_iconst (n := 0) (by decide +kernel) (by decide +kernel)) ?_
  refine z_All.c (j := 48) rfl (ok_iret (by decide +kernel) rfl) ?_
  exact trivial
set_option maxRecDepth 20000 in
theorem zk11_0 (l : Launch) (scr B : Nat) (D : va_G) : z_All l scr B D 11 0 z_c11_0 := by
  refine z_All.c (j := 1) rfl (ok_iload_n (n := 1) (by decide +kernel) rfl) ?_
  refine z_All.c (j := 2) rfl (ok_bipush (n := 58) (by decide +kernel) (by decide +kernel)) ?_
  refine z_All.c (j := 3) rfl ok_bad ?_
  refine z_All.c (j := 4) rfl (ok_ic_eq (off := 10) (by decide +kernel) (by decide +kernel)) ?_
  refine z_All.c (j := 5) rfl ok_bad ?_
  refine z_All.c (j := 6) rfl ok_bad ?_
  refine z_All.c (j := 7) rfl (ok_iload_n (n := 1) (by decide +kernel) rfl) ?_
  refine z_All.c (j := 8) rfl (ok_cs (idx := 131) (by decide +kernel) zm25 zw386 zw387) ?_
  refine z_All.c (j := 9) rfl ok_bad ?_
  refine z_All.c (j := 10) rfl ok_bad ?_
  refine z_All.c (j := 11) rfl (ok_if_eq (off := 7) (by decide +kernel) (by decide +kernel)) ?_
  refine z_All.c (j := 12) rfl ok_bad ?_
  refine z_All.c (j := 13) rfl ok_bad ?_
  refine z_All.c (j := 14) rfl (ok_iconst (n := 1) (by decide +kernel) (by decide +kernel)) ?_
  refine z_All.c (j := 15) rfl (ok_goto (off := 4) (by decide +kernel) (by decide +kernel)) ?_
  refine z_All.c (j := 16) rfl ok_bad ?_
  refine z_All.c (j := 17) rfl ok_bad ?_
  refine z_All.c (j := 18) rfl (ok_iconst (n := 0) (by decide +kernel) (by decide +kernel)) ?_
  refine z_All.c (j := 19) rfl (ok_istore_n (n := 2) (by decide +kernel) rfl (fun _ => rfl)) ?_
  refine z_All.c (j := 20) rfl (ok_iload_n (n := 2) (by decide +kernel) rfl) ?_
  refine z_All.c (j := 21) rfl (ok_if_eq (off := 18) (by decide +kernel) (by decide +kernel)) ?_
  refine z_All.c (j := 22) rfl ok_bad ?_
  refine z_All.c (j := 23) rfl ok_bad ?_
  refine z_All.c (j := 24) rfl (ok_aload_n (n := 0) (by decide +kernel) rfl) ?_
  refine z_All.c (j := 25) rfl (ok_get (idx := 38) (by decide +kernel) rfl (by decide) z_i0 zw130) ?_
  refine z_All.c (j := 26) rfl ok_bad ?_
  refine z_All.c (j := 27) rfl ok_bad ?_
  refine z_All.c (j := 28) rfl (ok_iload_n (n := 1) (by decide +kernel) rfl) ?_
  refine z_All.c (j := 29) rfl (ok_cv (idx := 126) (by decide +kernel) rfl zm61 zw378 zw379 zw380) ?_
  refine z_All.c (j := 30) rfl ok_bad ?_
  refine z_All.c (j := 31) rfl ok_bad ?_
  refine z_All.c (j := 32) rfl (ok_if_eq (off := 7) (by decide +kernel) (by decide +kernel)) ?_
  refine z_All.c (j := 33) rfl ok_bad ?_
  refine z_All.c (j := 34) rfl ok_bad ?_
  refine z_All.c (j := 35) rfl (ok_iconst (n := 1) (by decide +kernel) (by decide +kernel)) ?_
  refine z_All.c (j := 36) rfl (ok_goto (off := 4) (by decide +kernel) (by decide +kernel)) ?_
  refine z_All.c (j := 37) rfl ok_bad ?_
  refine z_All.c (j := 38) rfl ok_bad ?_
  refine z_All.c (j := 39) rfl (ok_iconst (n := 0) (by decide +kernel) (by decide +kernel)) ?_
  refine z_All.c (j := 40) rfl (ok_iret (by decide +kernel) rfl) ?_
  exact trivial
set_option maxRecDepth 20000 in
theorem zk12_0 (l : Launch) (scr B : Nat) (D : va_G) : z_All l scr B D 12 0 z_c12_0 := by
  refine z_All.c (j := 1) rfl (ok_aload_n (n := 0) (by decide +kernel) rfl) ?_
  refine z_All.c (j := 2) rfl (ok_get (idx := 33) (by decide +kernel) rfl (by decide) z_i0 zw129) ?_
  refine z_All.c (j := 3) rfl ok_bad ?_
  refine z_All.c (j := 4) rfl ok_bad ?_
  refine z_All.c (j := 5) rfl (ok_get (idx := 121) (by decide +kernel) rfl (by decide) z_i4 zw72) ?_
  refine z_All.c (j := 6) rfl ok_bad ?_
  refine z_All.c (j := 7) rfl ok_bad ?_
  refine z_All.c (j := 8) rfl (ok_iconst (n := 0) (by decide +kernel) (by decide +kernel)) ?_
  refine z_All.c (j := 9) rfl (ok_cv (idx := 134) (by decide +kernel) rfl zm63 zw393 zw394 zw395) ?_
  refine z_All.c (j := 10) rfl ok_bad ?_
  refine z_All.c (j := 11) rfl ok_bad ?_
  refine z_All.c (j := 12) rfl (ok_aload_n (n := 0) (by decide +kernel) rfl) ?_
  refine z_All.c (j := 13) rfl (ok_get (idx := 38) (by decide +kernel) rfl (by decide) z_i0 zw130) ?_
  refine z_All.c (j := 14) rfl ok_bad ?_
  refine z_All.c (j := 15) rfl ok_bad ?_
  refine z_All.c (j := 16) rfl (ok_iconst (n := 0) (by decide +kernel) (by decide +kernel)) ?_
  refine z_All.c (j := 17) rfl (ok_cv (idx := 134) (by decide +kernel) rfl zm63 zw393 zw394 zw395) ?_
  refine z_All.c (j := 18) rfl ok_bad ?_
  refine z_All.c (j := 19) rfl ok_bad ?_
  refine z_All.c (j := 20) rfl (ok_aload_n (n := 0) (by decide +kernel) rfl) ?_
  refine z_All.c (j := 21) rfl (ok_iconst (n := 0) (by decide +kernel) (by decide +kernel)) ?_
  refine z_All.c (j := 22) rfl (ok_put (idx := 138) (by decide +kernel) rfl (by decide) z_i0 z_t0 z_n0 zw132 rfl (by decide +kernel)) ?_
  refine z_All.c (j := 23) rfl ok_bad ?_
  refine z_All.c (j := 24) rfl ok_bad ?_
  refine z_All.c (j := 25) rfl (ok_vret (by decide +kernel) rfl) ?_
  exact trivial
set_option maxRecDepth 20000 in
theorem zk13_0 (l : Launch) (scr B : Nat) (D : va_G) : z_All l scr B D 13 0 z_c13_0 := by
  refine z_All.c (j := 1) rfl (ok_aload_n (n := 0) (by decide +kernel) rfl) ?_
  refine z_All.c (j := 2) rfl (ok_get (idx := 33) (by decide +kernel) rfl (by decide) z_i0 zw129) ?_
  refine z_All.c (j := 3) rfl ok_bad ?_
  refine z_All.c (j := 4) rfl ok_bad ?_
  refine z_All.c (j := 5) rfl (ok_cv (idx := 141) (by decide +kernel) rfl zm57 zw401 zw402 zw403) ?_
  refine z_All.c (j := 6) rfl ok_bad ?_
  refine z_All.c (j := 7) rfl ok_bad ?_
  refine z_All.c (j := 8) rfl (ok_if_eq (off := 13) (by decide +kernel) (by decide +kernel)) ?_
  refine z_All.c (j := 9) rfl ok_bad ?_
  refine z_All.c (j := 10) rfl ok_bad ?_
  refine z_All.c (j := 11) rfl (ok_aload_n (n := 0) (by decide +kernel) rfl) ?_
  refine z_All.c (j := 12) rfl (ok_get (idx := 33) (by decide +kernel) rfl (by decide) z_i0 zw129) ?_
  refine z_All.c (j := 13) rfl ok_bad ?_
  refine z_All.c (j := 14) rfl ok_bad ?_
  refine z_All.c (j := 15) rfl (ok_get (idx := 145) (by decide +kernel) rfl (by decide) z_i4 zw75) ?_
  refine z_All.c (j := 16) rfl ok_bad ?_
  refine z_All.c (j := 17) rfl ok_bad ?_
  refine z_All.c (j := 18) rfl (ok_goto (off := 4) (by decide +kernel) (by decide +kernel)) ?_
  refine z_All.c (j := 19) rfl ok_bad ?_
  refine z_All.c (j := 20) rfl ok_bad ?_
  refine z_All.c (j := 21) rfl (ok_iconst (n := -1) (by decide +kernel) (by decide +kernel)) ?_
  refine z_All.c (j := 22) rfl (ok_iret (by decide +kernel) rfl) ?_
  exact trivial
set_option maxRecDepth 20000 in
theorem zk14_0 (l : Launch) (scr B : Nat) (D : va_G) : z_All l scr B D 14 0 z_c14_0 := by
  refine z_All.c (j := 1) rfl (ok_aload_n (n := 0) (by decide +kernel) rfl) ?_
  refine z_All.c (j := 2) rfl (ok_get (idx := 25) (by decide +kernel) rfl (by decide) z_i0 zw128) ?_
  refine z_All.c (j := 3) rfl ok_bad ?_
  refine z_All.c (j := 4) rfl ok_bad ?_
  refine z_All.c (j := 5) rfl (ok_iload_n (n := 1) (by decide +kernel) rfl) ?_
  refine z_All.c (j := 6) rfl (ok_iload_n (n := 2) (by decide +kernel) rfl) ?_
  refine z_All.c (j := 7) rfl (ok_cv (idx := 148) (by decide +kernel) rfl zm47 zw422 zw423 zw424) ?_
  refine z_All.c (j := 8) rfl ok_bad ?_
  refine z_All.c (j := 9) rfl ok_bad ?_
  refine z_All.c (j := 10) rfl (ok_if_eq (off := 16) (by decide +kernel) (by decide +kernel)) ?_
  refine z_All.c (j := 11) rfl ok_bad ?_
  refine z_All.c (j := 12) rfl ok_bad ?_
  refine z_All.c (j := 13) rfl (ok_aload_n (n := 0) (by decide +kernel) rfl) ?_
  refine z_All.c (j := 14) rfl (ok_get (idx := 25) (by decide +kernel) rfl (by decide) z_i0 zw128) ?_
  refine z_All.c (j := 15) rfl ok_bad ?_
  refine z_All.c (j := 16) rfl ok_bad ?_
  refine z_All.c (j := 17) rfl (ok_get (idx := 152) (by decide +kernel) rfl (by decide) z_i3 zw105) ?_
  refine z_All.c (j := 18) rfl ok_bad ?_
  refine z_All.c (j := 19) rfl ok_bad ?_
  refine z_All.c (j := 20) rfl (ok_get (idx := 153) (by decide +kernel) rfl (by decide) z_i5 zw63) ?_
  refine z_All.c (j := 21) rfl ok_bad ?_
  refine z_All.c (j := 22) rfl ok_bad ?_
  refine z_All.c (j := 23) rfl (ok_goto (off := 4) (by decide +kernel) (by decide +kernel)) ?_
  refine z_All.c (j := 24) rfl ok_bad ?_
  refine z_All.c (j := 25) rfl ok_bad ?_
  refine z_All.c (j := 26) rfl (ok_iconst (n := -1) (by decide +kernel) (by decide +kernel)) ?_
  refine z_All.c (j := 27) rfl (ok_iret (by decide +kernel) rfl) ?_
  exact trivial
set_option maxRecDepth 20000 in
theorem zk15_0 (l : Launch) (scr B : Nat) (D : va_G) : z_All l scr B D 15 0 z_c15_0 := by
  refine z_All.c (j := 1) rfl (ok_aload_n (n := 0) (by decide +kernel) rfl) ?_
  refine z_All.c (j := 2) rfl (ok_get (idx := 25) (by decide +kernel) rfl (by decide) z_i0 zw128) ?_
  refine z_All.c (j := 3) rfl ok_bad ?_
  refine z_All.c (j := 4) rfl ok_bad ?_
  refine z_All.c (j := 5) rfl (ok_iload_n (n := 1) (by decide +kernel) rfl) ?_
  refine z_All.c (j := 6) rfl (ok_iload_n (n := 2) (by decide +kernel) rfl) ?_
  refine z_All.c (j := 7) rfl (ok_cv (idx := 148) (by decide +kernel) rfl zm47 zw422 zw423 zw424) ?_
  refine z_All.c (j := 8) rfl ok_bad ?_
  refine z_All.c (j := 9) rfl ok_bad ?_
  refine z_All.c (j := 10) rfl (ok_if_eq (off := 17) (by decide +kernel) (by decide +kernel)) ?_
  refine z_All.c (j := 11) rfl ok_bad ?_
  refine z_All.c (j := 12) rfl ok_bad ?_
  refine z_All.c (j := 13) rfl (ok_aload_n (n := 0) (by decide +kernel) rfl) ?_
  refine z_All.c (j := 14) rfl (ok_get (idx := 25) (by decide +kernel) rfl (by decide) z_i0 zw128) ?_
  refine z_All.c (j := 15) rfl ok_bad ?_
  refine z_All.c (j := 16) rfl ok_bad ?_
  refine z_All.c (j := 17) rfl (ok_get (idx := 152) (by decide +kernel) rfl (by decide) z_i3 zw105) ?_
  refine z_All.c (j := 18) rfl ok_bad ?_
  refine z_All.c (j := 19) rfl ok_bad ?_
  refine z_All.c (j := 20) rfl (ok_iload_n (n := 3) (by decide +kernel) rfl) ?_
  refine z_All.c (j := 21) rfl (ok_cv (idx := 156) (by decide +kernel) rfl zm62 zw469 zw406 zw407) ?_
  refine z_All.c (j := 22) rfl ok_bad ?_
  refine z_All.c (j := 23) rfl ok_bad ?_
  refine z_All.c (j := 24) rfl (ok_goto (off := 4) (by decide +kernel) (by decide +kernel)) ?_
  refine z_All.c (j := 25) rfl ok_bad ?_
  refine z_All.c (j := 26) rfl ok_bad ?_
  refine z_All.c (j := 27) rfl (ok_iconst (n := -1) (by decide +kernel) (by decide +kernel)) ?_
  refine z_All.c (j := 28) rfl (ok_iret (by decide +kernel) rfl) ?_
  exact trivial
set_option maxRecDepth 20000 in
theorem zk16_0 (l : Launch) (scr B : Nat) (D : va_G) : z_All l scr B D 16 0 z_c16_0 := by
  refine z_All.c (j := 1) rfl (ok_aload_n (n := 0) (by decide +kernel) rfl) ?_
  refine z_All.c (j := 2) rfl (ok_get (idx := 25) (by decide +kernel) rfl (by decide) z_i0 zw128) ?_
  refine z_All.c (j := 3) rfl ok_bad ?_
  refine z_All.c (j := 4) rfl ok_bad ?_
  refine z_All.c (j := 5) rfl (ok_iload_n (n := 1) (by decide +kernel) rfl) ?_
  refine z_All.c (j := 6) rfl (ok_iload_n (n := 2) (by decide +kernel) rfl) ?_
  refine z_All.c (j := 7) rfl (ok_cv (idx := 148) (by decide +kernel) rfl zm47 zw422 zw423 zw424) ?_
  refine z_All.c (j := 8) rfl ok_bad ?_
  refine z_All.c (j := 9) rfl ok_bad ?_
  refine z_All.c (j := 10) rfl (ok_if_eq (off := 16) (by decide +kernel) (by decide +kernel)) ?_
  refine z_All.c (j := 11) rfl ok_bad ?_
  refine z_All.c (j := 12) rfl ok_bad ?_
  refine z_All.c (j := 13) rfl (ok_aload_n (n := 0) (by decide +kernel) rfl) ?_
  refine z_All.c (j := 14) rfl (ok_get (idx := 25) (by decide +kernel) rfl (by decide) z_i0 zw128) ?_
  refine z_All.c (j := 15) rfl ok_bad ?_
  refine z_All.c (j := 16) rfl ok_bad ?_
  refine z_All.c (j := 17) rfl (ok_get (idx := 152) (by decide +kernel) rfl (by decide) z_i3 zw105) ?_
  refine z_All.c (j := 18) rfl ok_bad ?_
  refine z_All.c (j := 19) rfl ok_bad ?_
  refine z_All.c (j := 20) rfl (ok_cv (idx := 160) (by decide +kernel) rfl zm64 zw474 zw475 zw476) ?_
  refine z_All.c (j := 21) rfl ok_bad ?_
  refine z_All.c (j := 22) rfl ok_bad ?_
  refine z_All.c (j := 23) rfl (ok_goto (off := 4) (by decide +kernel) (by decide +kernel)) ?_
  refine z_All.c (j := 24) rfl ok_bad ?_
  refine z_All.c (j := 25) rfl ok_bad ?_
  refine z_All.c (j := 26) rfl (ok_iconst (n := -1) (by decide +kernel) (by decide +kernel)) ?_
  refine z_All.c (j := 27) rfl (ok_iret (by decide +kernel) rfl) ?_
  exact trivial
set_option maxRecDepth 20000 in
theorem zk17_0 (l : Launch) (scr B : Nat) (D : va_G) : z_All l scr B D 17 0 z_c17_0 := by
  refine z_All.c (j := 1) rfl (ok_aload_n (n := 0) (by decide +kernel) rfl) ?_
  refine z_All.c (j := 2) rfl (ok_iload_n (n := 1) (by decide +kernel) rfl) ?_
  refine z_All.c (j := 3) rfl (ok_cv (idx := 45) (by decide +kernel) rfl zm20 zw154 zw156 (z_inP (List.mem_of_getElem? (i := 0) rfl) rfl)) ?_
  refine z_All.c (j := 4) rfl ok_bad ?_
  refine z_All.c (j := 5) rfl ok_bad ?_
  refine z_All.c (j := 6) rfl (ok_astore (by decide +kernel) (fun _ => rfl)) ?_
  refine z_All.c (j := 7) rfl ok_bad ?_
  refine z_All.c (j := 8) rfl (ok_aload (by decide +kernel)) ?_
  refine z_All.c (j := 9) rfl ok_bad ?_
  refine z_All.c (j := 10) rfl (ok_nn (off := 5) (by decide +kernel) (by decide +kernel)) ?_
  refine z_All.c (j := 11) rfl ok_bad ?_
  refine z_All.c (j := 12) rfl ok_bad ?_
  refine z_All.c (j := 13) rfl (ok_iconst (n := -1) (by decide +kernel) (by decide +kernel)) ?_
  refine z_All.c (j := 14) rfl (ok_iret (by decide +kernel) rfl) ?_
  refine z_All.c (j := 15) rfl (ok_aload_n (n := 0) (by decide +kernel) rfl) ?_
  refine z_All.c (j := 16) rfl (ok_get (idx := 138) (by decide +kernel) rfl (by decide) z_i0 zw132) ?_
  refine z_All.c (j := 17) rfl ok_bad ?_
  refine z_All.c (j := 18) rfl ok_bad ?_
  refine z_All.c (j := 19) rfl (ok_iconst (n := 3) (by decide +kernel) (by decide +kernel)) ?_
  refine z_All.c (j := 20) rfl (ok_ic_ne (off := 6) (by decide +kernel) (by decide +kernel)) ?_
  refine z_All.c (j := 21) rfl ok_bad ?_
  refine z_All.c (j := 22) rfl ok_bad ?_
  refine z_All.c (j := 23) rfl (ok_bipush (n := -2) (by decide +kernel) (by decide +kernel)) ?_
  refine z_All.c (j := 24) rfl ok_bad ?_
  refine z_All.c (j := 25) rfl (ok_iret (by decide +kernel) rfl) ?_
  refine z_All.c (j := 26) rfl (ok_aload_n (n := 0) (by decide +kernel) rfl) ?_
  refine z_All.c (j := 27) rfl (ok_get (idx := 41) (by decide +kernel) rfl (by decide) z_i0 zw131) ?_
  refine z_All.c (j := 28) rfl ok_bad ?_
  refine z_All.c (j := 29) rfl ok_bad ?_
  refine z_All.c (j := 30) rfl (ok_aload_n (n := 0) (by decide +kernel) rfl) ?_
  refine z_All.c (j := 31) rfl (ok_get (idx := 138) (by decide +kernel) rfl (by decide) z_i0 zw132) ?_
  refine z_All.c (j := 32) rfl ok_bad ?_
  refine z_All.c (j := 33) rfl ok_bad ?_
  refine z_All.c (j := 34) rfl (ok_new (idx := 39) (by decide +kernel) rfl z_i6 z_t6 zw123 zw484 zw11 rfl (zd6 scr B)) ?_
  refine z_All.c (j := 35) rfl ok_bad ?_
  refine z_All.c (j := 36) rfl ok_bad ?_
  refine z_All.c (j := 37) rfl (ok_dup (by decide +kernel)) ?_
  refine z_All.c (j := 38) rfl (ok_aload (by decide +kernel)) ?_
  refine z_All.c (j := 39) rfl ok_bad ?_
  refine z_All.c (j := 40) rfl (ok_iload_n (n := 2) (by decide +kernel) rfl) ?_
  refine z_All.c (j := 41) rfl (ok_iload_n (n := 3) (by decide +kernel) rfl) ?_
  refine z_All.c (j := 42) rfl (ok_iload (by decide +kernel)) ?_
  refine z_All.c (j := 43) rfl ok_bad ?_
  refine z_All.c (j := 44) rfl (ok_ci (idx := 163) (by decide +kernel) zm65 rfl rfl zw485 zw486) ?_
  refine z_All.c (j := 45) rfl ok_bad ?_
  refine z_All.c (j := 46) rfl ok_bad ?_
  refine z_All.c (j := 47) rfl (ok_rst (by decide +kernel) rfl) ?_
  refine z_All.c (j := 48) rfl (ok_aload_n (n := 0) (by decide +kernel) rfl) ?_
  refine z_All.c (j := 49) rfl (ok_dup (by decide +kernel)) ?_
  refine z_All.c (j := 50) rfl (ok_get (idx := 138) (by decide +kernel) rfl (by decide) z_i0 zw132) ?_
  refine z_All.c (j := 51) rfl ok_bad ?_
  refine z_All.c (j := 52) rfl ok_bad ?_
  refine z_All.c (j := 53) rfl (ok_iconst (n := 1) (by decide +kernel) (by decide +kernel)) ?_
  refine z_All.c (j := 54) rfl (ok_iadd (by decide +kernel)) ?_
  refine z_All.c (j := 55) rfl (ok_put (idx := 138) (by decide +kernel) rfl (by decide) z_i0 z_t0 z_n0 zw132 rfl (by decide +kernel)) ?_
  refine z_All.c (j := 56) rfl ok_bad ?_
  refine z_All.c (j := 57) rfl ok_bad ?_
  refine z_All.c (j := 58) rfl (ok_aload_n (n := 0) (by decide +kernel) rfl) ?_
  refine z_All.c (j := 59) rfl (ok_get (idx := 138) (by decide +kernel) rfl (by decide) z_i0 zw132) ?_
  refine z_All.c (j := 60) rfl ok_bad ?_
  refine z_All.c (j := 61) rfl ok_bad ?_
  refine z_All.c (j := 62) rfl (ok_iret (by decide +kernel) rfl) ?_
  exact trivial
set_option maxRecDepth 20000 in
theorem zk18_0 (l : Launch) (scr B : Nat) (D : va_G) : z_All l scr B D 18 0 z_c18_0 := by
  refine z_All.c (j := 1) rfl (ok_iload_n (n := 1) (by decide +kernel) rfl) ?_
  refine z_All.c (j := 2) rfl (ok_if_lt (off := 28) (by decide +kernel) (by decide +kernel)) ?_
  refine z_All.c (j := 3) rfl ok_bad ?_
  refine z_All.c (j := 4) rfl ok_bad ?_
  refine z_All.c (j := 5) rfl (ok_iload_n (n := 1) (by decide +kernel) rfl) ?_
  refine z_All.c (j := 6) rfl (ok_aload_n (n := 0) (by decide +kernel) rfl) ?_
  refine z_All.c (j := 7) rfl (ok_get (idx := 138) (by decide +kernel) rfl (by decide) z_i0 zw132) ?_
  refine z_All.c (j := 8) rfl ok_bad ?_
  refine z_All.c (j := 9) rfl ok_bad ?_
  refine z_All.c (j := 10) rfl (ok_ic_ge (off := 20) (by decide +kernel) (by decide +kernel)) ?_
  refine z_All.c (j := 11) rfl ok_bad ?_
  refine z_All.c (j := 12) rfl ok_bad ?_
  refine z_All.c (j := 13) rfl (ok_aload_n (n := 0) (by decide +kernel) rfl) ?_
  refine z_All.c (j := 14) rfl (ok_aload_n (n := 0) (by decide +kernel) rfl) ?_
  refine z_All.c (j := 15) rfl (ok_get (idx := 41) (by decide +kernel) rfl (by decide) z_i0 zw131) ?_
  refine z_All.c (j := 16) rfl ok_bad ?_
  refine z_All.c (j := 17) rfl ok_bad ?_
  refine z_All.c (j := 18) rfl (ok_iload_n (n := 1) (by decide +kernel) rfl) ?_
  refine z_All.c (j := 19) rfl (ok_rld (by decide +kernel)) ?_
  refine z_All.c (j := 20) rfl (ok_cv (idx := 166) (by decide +kernel) rfl zm21 zw510 zw512 (z_inP (List.mem_of_getElem? (i := 20) rfl) rfl)) ?_
  refine z_All.c (j := 21) rfl ok_bad ?_
  refine z_All.c (j := 22) rfl ok_bad ?_
  refine z_All.c (j := 23) rfl (ok_if_eq (off := 7) (by decide +kernel) (by decide +kernel)) ?_
  refine z_All.c (j := 24) rfl ok_bad ?_
  refine z_All.c (j := 25) rfl ok_bad ?_
  refine z_All.c (j := 26) rfl (ok_iconst (n := 1) (by decide +kernel) (by decide +kernel)) ?_
  refine z_All.c (j := 27) rfl (ok_goto (off := 4) (by decide +kernel) (by decide +kernel)) ?_
  refine z_All.c (j := 28) rfl ok_bad ?_
  refine z_All.c (j := 29) rfl ok_bad ?_
  refine z_All.c (j := 30) rfl (ok_iconst (n := 0) (by decide +kernel) (by decide +kernel)) ?_
  refine z_All.c (j := 31) rfl (ok_iret (by decide +kernel) rfl) ?_
  exact trivial
set_option maxRecDepth 20000 in
theorem zk19_0 (l : Launch) (scr B : Nat) (D : va_G) : z_All l scr B D 19 0 z_c19_0 := by
  refine z_All.c (j := 1) rfl (ok_aload_n (n := 0) (by decide +kernel) rfl) ?_
  refine z_All.c (j := 2) rfl (ok_iload_n (n := 2) (by decide +kernel) rfl) ?_
  refine z_All.c (j := 3) rfl (ok_cv (idx := 45) (by decide +kernel) rfl zm20 zw154 zw156 (z_inP (List.mem_of_getElem? (i := 0) rfl) rfl)) ?_
  refine z_All.c (j := 4) rfl ok_bad ?_
  refine z_All.c (j := 5) rfl ok_bad ?_
  refine z_All.c (j := 6) rfl (ok_astore (by decide +kernel) (fun _ => rfl)) ?_
  refine z_All.c (j := 7) rfl ok_bad ?_
  refine z_All.c (j := 8) rfl (ok_aload_n (n := 0) (by decide +kernel) rfl) ?_
  refine z_All.c (j := 9) rfl (ok_iload_n (n := 3) (by decide +kernel) rfl) ?_
  refine z_All.c (j := 10) rfl (ok_cv (idx := 45) (by decide +kernel) rfl zm20 zw154 zw156 (z_inP (List.mem_of_getElem? (i := 0) rfl) rfl)) ?_
  refine z_All.c (j := 11) rfl ok_bad ?_
  refine z_All.c (j := 12) rfl ok_bad ?_
  refine z_All.c (j := 13) rfl (ok_astore (by decide +kernel) (fun _ => rfl)) ?_
  refine z_All.c (j := 14) rfl ok_bad ?_
  refine z_All.c (j := 15) rfl (ok_aload (by decide +kernel)) ?_
  refine z_All.c (j := 16) rfl ok_bad ?_
  refine z_All.c (j := 17) rfl (ok_nul (off := 8) (by decide +kernel) (by decide +kernel)) ?_
  refine z_All.c (j := 18) rfl ok_bad ?_
  refine z_All.c (j := 19) rfl ok_bad ?_
  refine z_All.c (j := 20) rfl (ok_aload (by decide +kernel)) ?_
  refine z_All.c (j := 21) rfl ok_bad ?_
  refine z_All.c (j := 22) rfl (ok_nn (off := 5) (by decide +kernel) (by decide +kernel)) ?_
  refine z_All.c (j := 23) rfl ok_bad ?_
  refine z_All.c (j := 24) rfl ok_bad ?_
  refine z_All.c (j := 25) rfl (ok_iconst (n := -1) (by decide +kernel) (by decide +kernel)) ?_
  refine z_All.c (j := 26) rfl (ok_iret (by decide +kernel) rfl) ?_
  refine z_All.c (j := 27) rfl (ok_aload_n (n := 0) (by decide +kernel) rfl) ?_
  refine z_All.c (j := 28) rfl (ok_get (idx := 18) (by decide +kernel) rfl (by decide) z_i0 zw127) ?_
  refine z_All.c (j := 29) rfl ok_bad ?_
  refine z_All.c (j := 30) rfl ok_bad ?_
  refine z_All.c (j := 31) rfl (ok_iload_n (n := 1) (by decide +kernel) rfl) ?_
  refine z_All.c (j := 32) rfl (ok_aload (by decide +kernel)) ?_
  refine z_All.c (j := 33) rfl ok_bad ?_
  refine z_All.c (j := 34) rfl (ok_cv (idx := 111) (by decide +kernel) rfl zm36 zw325 zw326 zw327) ?_
  refine z_All.c (j := 35) rfl ok_bad ?_
  refine z_All.c (j := 36) rfl ok_bad ?_
  refine z_All.c (j := 37) rfl (ok_istore (by decide +kernel) (fun _ => rfl)) ?_
  refine z_All.c (j := 38) rfl ok_bad ?_
  refine z_All.c (j := 39) rfl (ok_aload (by decide +kernel)) ?_
  refine z_All.c (j := 40) rfl ok_bad ?_
  refine z_All.c (j := 41) rfl (ok_get (idx := 107) (by decide +kernel) rfl (by decide) z_i1 zw184) ?_
  refine z_All.c (j := 42) rfl ok_bad ?_
  refine z_All.c (j := 43) rfl ok_bad ?_
  refine z_All.c (j := 44) rfl (ok_nul (off := 11) (by decide +kernel) (by decide +kernel)) ?_
  refine z_All.c (j := 45) rfl ok_bad ?_
  refine z_All.c (j := 46) rfl ok_bad ?_
  refine z_All.c (j := 47) rfl (ok_aload (by decide +kernel)) ?_
  refine z_All.c (j := 48) rfl ok_bad ?_
  refine z_All.c (j := 49) rfl (ok_get (idx := 107) (by decide +kernel) rfl (by decide) z_i1 zw184) ?_
  refine z_All.c (j := 50) rfl ok_bad ?_
  refine z_All.c (j := 51) rfl ok_bad ?_
  refine z_All.c (j := 52) rfl (ok_goto (off := 11) (by decide +kernel) (by decide +kernel)) ?_
  refine z_All.c (j := 53) rfl ok_bad ?_
  refine z_All.c (j := 54) rfl ok_bad ?_
  refine z_All.c (j := 55) rfl (ok_aload (by decide +kernel)) ?_
  refine z_All.c (j := 56) rfl ok_bad ?_
  refine z_All.c (j := 57) rfl (ok_cv (idx := 170) (by decide +kernel) rfl zm33 zw525 zw526 zw527) ?_
  refine z_All.c (j := 58) rfl ok_bad ?_
  refine z_All.c (j := 59) rfl ok_bad ?_
  refine z_All.c (j := 60) rfl (ok_get (idx := 107) (by decide +kernel) rfl (by decide) z_i1 zw184) ?_
  refine z_All.c (j := 61) rfl ok_bad ?_
  refine z_All.c (j := 62) rfl ok_bad ?_
  refine z_All.c (j := 63) rfl (ok_astore (by decide +kernel) (fun _ => rfl)) ?_
  refine z_All.c (j := 64) rfl ok_bad ?_
  exact trivial
set_option maxRecDepth 20000 in
theorem zk19_1 (l : Launch) (scr B : Nat) (D : va_G) : z_All l scr B D 19 64 z_c19_1 := by
  refine z_All.c (j := 65) rfl (ok_aload (by decide +kernel)) ?_
  refine z_All.c (j := 66) rfl ok_bad ?_
  refine z_All.c (j := 67) rfl (ok_nn (off := 5) (by decide +kernel) (by decide +kernel)) ?_
  refine z_All.c (j := 68) rfl ok_bad ?_
  refine z_All.c (j := 69) rfl ok_bad ?_
  refine z_All.c (j := 70) rfl (ok_iconst (n := 0) (by decide +kernel) (by decide +kernel)) ?_
  refine z_All.c (j := 71) rfl (ok_iret (by decide +kernel) rfl) ?_
  refine z_All.c (j := 72) rfl (ok_iload (by decide +kernel)) ?_
  refine z_All.c (j := 73) rfl ok_bad ?_
  refine z_All.c (j := 74) rfl (ok_iconst (n := 2) (by decide +kernel) (by decide +kernel)) ?_
  refine z_All.c (j := 75) rfl (ok_ic_ne (off := 20) (by decide +kernel) (by decide +kernel)) ?_
  refine z_All.c (j := 76) rfl ok_bad ?_
  refine z_All.c (j := 77) rfl ok_bad ?_
  refine z_All.c (j := 78) rfl (ok_aload (by decide +kernel)) ?_
  refine z_All.c (j := 79) rfl ok_bad ?_
  refine z_All.c (j := 80) rfl (ok_aload (by decide +kernel)) ?_
  refine z_All.c (j := 81) rfl ok_bad ?_
  refine z_All.c (j := 82) rfl (ok_aload (by decide +kernel)) ?_
  refine z_All.c (j := 83) rfl ok_bad ?_
  refine z_All.c (j := 84) rfl (ok_get (idx := 174) (by decide +kernel) rfl (by decide) z_i9 zw309) ?_
  refine z_All.c (j := 85) rfl ok_bad ?_
  refine z_All.c (j := 86) rfl ok_bad ?_
  refine z_All.c (j := 87) rfl (ok_cv (idx := 178) (by decide +kernel) rfl zm34 zw529 zw530 zw531) ?_
  refine z_All.c (j := 88) rfl ok_bad ?_
  refine z_All.c (j := 89) rfl ok_bad ?_
  refine z_All.c (j := 90) rfl (ok_if_eq (off := 5) (by decide +kernel) (by decide +kernel)) ?_
  refine z_All.c (j := 91) rfl ok_bad ?_
  refine z_All.c (j := 92) rfl ok_bad ?_
  refine z_All.c (j := 93) rfl (ok_iconst (n := 1) (by decide +kernel) (by decide +kernel)) ?_
  refine z_All.c (j := 94) rfl (ok_iret (by decide +kernel) rfl) ?_
  refine z_All.c (j := 95) rfl (ok_iconst (n := 0) (by decide +kernel) (by decide +kernel)) ?_
  refine z_All.c (j := 96) rfl (ok_istore (by decide +kernel) (fun _ => rfl)) ?_
  refine z_All.c (j := 97) rfl ok_bad ?_
  refine z_All.c (j := 98) rfl (ok_iload (by decide +kernel)) ?_
  refine z_All.c (j := 99) rfl ok_bad ?_
  refine z_All.c (j := 100) rfl (ok_aload_n (n := 0) (by decide +kernel) rfl) ?_
  refine z_All.c (j := 101) rfl (ok_get (idx := 138) (by decide +kernel) rfl (by decide) z_i0 zw132) ?_
  refine z_All.c (j := 102) rfl ok_bad ?_
  refine z_All.c (j := 103) rfl ok_bad ?_
  refine z_All.c (j := 104) rfl (ok_ic_ge (off := 48) (by decide +kernel) (by decide +kernel)) ?_
  refine z_All.c (j := 105) rfl ok_bad ?_
  refine z_All.c (j := 106) rfl ok_bad ?_
  refine z_All.c (j := 107) rfl (ok_aload_n (n := 0) (by decide +kernel) rfl) ?_
  refine z_All.c (j := 108) rfl (ok_get (idx := 41) (by decide +kernel) rfl (by decide) z_i0 zw131) ?_
  refine z_All.c (j := 109) rfl ok_bad ?_
  refine z_All.c (j := 110) rfl ok_bad ?_
  refine z_All.c (j := 111) rfl (ok_iload (by decide +kernel)) ?_
  refine z_All.c (j := 112) rfl ok_bad ?_
  refine z_All.c (j := 113) rfl (ok_rld (by decide +kernel)) ?_
  refine z_All.c (j := 114) rfl (ok_get (idx := 182) (by decide +kernel) rfl (by decide) z_i6 zw490) ?_
  refine z_All.c (j := 115) rfl ok_bad ?_
  refine z_All.c (j := 116) rfl ok_bad ?_
  refine z_All.c (j := 117) rfl (ok_aload (by decide +kernel)) ?_
  refine z_All.c (j := 118) rfl ok_bad ?_
  refine z_All.c (j := 119) rfl (ok_aload (by decide +kernel)) ?_
  refine z_All.c (j := 120) rfl ok_bad ?_
  refine z_All.c (j := 121) rfl (ok_get (idx := 185) (by decide +kernel) rfl (by decide) z_i9 zw311) ?_
  refine z_All.c (j := 122) rfl ok_bad ?_
  refine z_All.c (j := 123) rfl ok_bad ?_
  refine z_All.c (j := 124) rfl (ok_cv (idx := 178) (by decide +kernel) rfl zm34 zw529 zw530 zw531) ?_
  refine z_All.c (j := 125) rfl ok_bad ?_
  refine z_All.c (j := 126) rfl ok_bad ?_
  refine z_All.c (j := 127) rfl (ok_if_eq (off := 19) (by decide +kernel) (by decide +kernel)) ?_
  refine z_All.c (j := 128) rfl ok_bad ?_
  exact trivial
set_option maxRecDepth 20000 in
theorem zk19_2 (l : Launch) (scr B : Nat) (D : va_G) : z_All l scr B D 19 128 z_c19_2 := by
  refine z_All.c (j := 129) rfl ok_bad ?_
  refine z_All.c (j := 130) rfl (ok_aload_n (n := 0) (by decide +kernel) rfl) ?_
  refine z_All.c (j := 131) rfl (ok_aload_n (n := 0) (by decide +kernel) rfl) ?_
  refine z_All.c (j := 132) rfl (ok_get (idx := 41) (by decide +kernel) rfl (by decide) z_i0 zw131) ?_
  refine z_All.c (j := 133) rfl ok_bad ?_
  refine z_All.c (j := 134) rfl ok_bad ?_
  refine z_All.c (j := 135) rfl (ok_iload (by decide +kernel)) ?_
  refine z_All.c (j := 136) rfl ok_bad ?_
  refine z_All.c (j := 137) rfl (ok_rld (by decide +kernel)) ?_
  refine z_All.c (j := 138) rfl (ok_cv (idx := 166) (by decide +kernel) rfl zm21 zw510 zw512 (z_inP (List.mem_of_getElem? (i := 20) rfl) rfl)) ?_
  refine z_All.c (j := 139) rfl ok_bad ?_
  refine z_All.c (j := 140) rfl ok_bad ?_
  refine z_All.c (j := 141) rfl (ok_if_eq (off := 5) (by decide +kernel) (by decide +kernel)) ?_
  refine z_All.c (j := 142) rfl ok_bad ?_
  refine z_All.c (j := 143) rfl ok_bad ?_
  refine z_All.c (j := 144) rfl (ok_iconst (n := 1) (by decide +kernel) (by decide +kernel)) ?_
  refine z_All.c (j := 145) rfl (ok_iret (by decide +kernel) rfl) ?_
  refine z_All.c (j := 146) rfl (ok_iinc (n := 1) (by decide +kernel) (by decide +kernel)) ?_
  refine z_All.c (j := 147) rfl ok_bad ?_
  refine z_All.c (j := 148) rfl ok_bad ?_
  refine z_All.c (j := 149) rfl (ok_goto (off := -51) (by decide +kernel) (by decide +kernel)) ?_
  refine z_All.c (j := 150) rfl ok_bad ?_
  refine z_All.c (j := 151) rfl ok_bad ?_
  refine z_All.c (j := 152) rfl (ok_iconst (n := 2) (by decide +kernel) (by decide +kernel)) ?_
  refine z_All.c (j := 153) rfl (ok_aload (by decide +kernel)) ?_
  refine z_All.c (j := 154) rfl ok_bad ?_
  refine z_All.c (j := 155) rfl (ok_get (idx := 107) (by decide +kernel) rfl (by decide) z_i1 zw184) ?_
  refine z_All.c (j := 156) rfl ok_bad ?_
  refine z_All.c (j := 157) rfl ok_bad ?_
  refine z_All.c (j := 158) rfl (ok_nul (off := 11) (by decide +kernel) (by decide +kernel)) ?_
  refine z_All.c (j := 159) rfl ok_bad ?_
  refine z_All.c (j := 160) rfl ok_bad ?_
  refine z_All.c (j := 161) rfl (ok_aload (by decide +kernel)) ?_
  refine z_All.c (j := 162) rfl ok_bad ?_
  refine z_All.c (j := 163) rfl (ok_get (idx := 188) (by decide +kernel) rfl (by decide) z_i9 zw305) ?_
  refine z_All.c (j := 164) rfl ok_bad ?_
  refine z_All.c (j := 165) rfl ok_bad ?_
  refine z_All.c (j := 166) rfl (ok_goto (off := 8) (by decide +kernel) (by decide +kernel)) ?_
  refine z_All.c (j := 167) rfl ok_bad ?_
  refine z_All.c (j := 168) rfl ok_bad ?_
  refine z_All.c (j := 169) rfl (ok_aload (by decide +kernel)) ?_
  refine z_All.c (j := 170) rfl ok_bad ?_
  refine z_All.c (j := 171) rfl (ok_get (idx := 191) (by decide +kernel) rfl (by decide) z_i9 zw307) ?_
  refine z_All.c (j := 172) rfl ok_bad ?_
  refine z_All.c (j := 173) rfl ok_bad ?_
  refine z_All.c (j := 174) rfl (ok_iadd (by decide +kernel)) ?_
  refine z_All.c (j := 175) rfl (ok_iret (by decide +kernel) rfl) ?_
  exact trivial
