/-! ===== made by wip/prog/gen8.py: each operation is sound ===== -/
set_option maxRecDepth 20000 in
theorem zk104_0 (l : Launch) (scr B : Nat) (D : va_G) : z_All l scr B D 104 0 z_c104_0 := by
  refine z_All.c (j := 1) rfl (ok_aload_n (n := 0) (by decide +kernel) rfl) ?_
  refine z_All.c (j := 2) rfl (ok_get (idx := 182) (by decide +kernel) rfl (by decide) z_i10 zw577) ?_
  refine z_All.c (j := 3) rfl ok_bad ?_
  refine z_All.c (j := 4) rfl ok_bad ?_
  refine z_All.c (j := 5) rfl (ok_iconst (n := 1) (by decide +kernel) (by decide +kernel)) ?_
  refine z_All.c (j := 6) rfl (ok_isub (by decide +kernel)) ?_
  refine z_All.c (j := 7) rfl (ok_istore_n (n := 3) (by decide +kernel) rfl (fun _ => rfl)) ?_
  refine z_All.c (j := 8) rfl (ok_iload_n (n := 3) (by decide +kernel) rfl) ?_
  refine z_All.c (j := 9) rfl (ok_if_lt (off := 108) (by decide +kernel) (by decide +kernel)) ?_
  refine z_All.c (j := 10) rfl ok_bad ?_
  refine z_All.c (j := 11) rfl ok_bad ?_
  refine z_All.c (j := 12) rfl (ok_aload_n (n := 0) (by decide +kernel) rfl) ?_
  refine z_All.c (j := 13) rfl (ok_get (idx := 104) (by decide +kernel) rfl (by decide) z_i10 zw581) ?_
  refine z_All.c (j := 14) rfl ok_bad ?_
  refine z_All.c (j := 15) rfl ok_bad ?_
  refine z_All.c (j := 16) rfl (ok_iload_n (n := 3) (by decide +kernel) rfl) ?_
  refine z_All.c (j := 17) rfl (ok_zald (by decide +kernel)) ?_
  refine z_All.c (j := 18) rfl (ok_if_ne (off := 17) (by decide +kernel) (by decide +kernel)) ?_
  refine z_All.c (j := 19) rfl ok_bad ?_
  refine z_All.c (j := 20) rfl ok_bad ?_
  refine z_All.c (j := 21) rfl (ok_aload_n (n := 0) (by decide +kernel) rfl) ?_
  refine z_All.c (j := 22) rfl (ok_get (idx := 101) (by decide +kernel) rfl (by decide) z_i10 zw580) ?_
  refine z_All.c (j := 23) rfl ok_bad ?_
  refine z_All.c (j := 24) rfl ok_bad ?_
  refine z_All.c (j := 25) rfl (ok_iload_n (n := 3) (by decide +kernel) rfl) ?_
  refine z_All.c (j := 26) rfl (ok_iald (by decide +kernel)) ?_
  refine z_All.c (j := 27) rfl (ok_iload_n (n := 2) (by decide +kernel) rfl) ?_
  refine z_All.c (j := 28) rfl (ok_ic_ne (off := 7) (by decide +kernel) (by decide +kernel)) ?_
  refine z_All.c (j := 29) rfl ok_bad ?_
  refine z_All.c (j := 30) rfl ok_bad ?_
  refine z_All.c (j := 31) rfl (ok_iconst (n := 1) (by decide +kernel) (by decide +kernel)) ?_
  refine z_All.c (j := 32) rfl (ok_goto (off := 4) (by decide +kernel) (by decide +kernel)) ?_
  refine z_All.c (j := 33) rfl ok_bad ?_
  refine z_All.c (j := 34) rfl ok_bad ?_
  refine z_All.c (j := 35) rfl (ok_iconst (n := 0) (by decide +kernel) (by decide +kernel)) ?_
  refine z_All.c (j := 36) rfl (ok_istore (by decide +kernel) (fun _ => rfl)) ?_
  refine z_All.c (j := 37) rfl ok_bad ?_
  refine z_All.c (j := 38) rfl (ok_iconst (n := 0) (by decide +kernel) (by decide +kernel)) ?_
  refine z_All.c (j := 39) rfl (ok_istore (by decide +kernel) (fun _ => rfl)) ?_
  refine z_All.c (j := 40) rfl ok_bad ?_
  refine z_All.c (j := 41) rfl (ok_iload (by decide +kernel)) ?_
  refine z_All.c (j := 42) rfl ok_bad ?_
  refine z_All.c (j := 43) rfl (ok_iload_n (n := 2) (by decide +kernel) rfl) ?_
  refine z_All.c (j := 44) rfl (ok_ic_ge (off := 60) (by decide +kernel) (by decide +kernel)) ?_
  refine z_All.c (j := 45) rfl ok_bad ?_
  refine z_All.c (j := 46) rfl ok_bad ?_
  refine z_All.c (j := 47) rfl (ok_iload (by decide +kernel)) ?_
  refine z_All.c (j := 48) rfl ok_bad ?_
  refine z_All.c (j := 49) rfl (ok_if_eq (off := 55) (by decide +kernel) (by decide +kernel)) ?_
  refine z_All.c (j := 50) rfl ok_bad ?_
  refine z_All.c (j := 51) rfl ok_bad ?_
  refine z_All.c (j := 52) rfl (ok_aload_n (n := 0) (by decide +kernel) rfl) ?_
  refine z_All.c (j := 53) rfl (ok_aload_n (n := 0) (by decide +kernel) rfl) ?_
  refine z_All.c (j := 54) rfl (ok_get (idx := 74) (by decide +kernel) rfl (by decide) z_i10 zw567) ?_
  refine z_All.c (j := 55) rfl ok_bad ?_
  refine z_All.c (j := 56) rfl ok_bad ?_
  refine z_All.c (j := 57) rfl (ok_iload_n (n := 1) (by decide +kernel) rfl) ?_
  refine z_All.c (j := 58) rfl (ok_iload (by decide +kernel)) ?_
  refine z_All.c (j := 59) rfl ok_bad ?_
  refine z_All.c (j := 60) rfl (ok_iadd (by decide +kernel)) ?_
  refine z_All.c (j := 61) rfl (ok_iald (by decide +kernel)) ?_
  refine z_All.c (j := 62) rfl (ok_cv (idx := 195) (by decide +kernel) rfl zm94 zw789 zw791 (z_inP (List.mem_of_getElem? (i := 36) rfl) rfl)) ?_
  refine z_All.c (j := 63) rfl ok_bad ?_
  refine z_All.c (j := 64) rfl ok_bad ?_
  exact trivial
set_option maxRecDepth 20000 in
theorem zk104_1 (l : Launch) (scr B : Nat) (D : va_G) : z_All l scr B D 104 64 z_c104_1 := by
  refine z_All.c (j := 65) rfl (ok_aload_n (n := 0) (by decide +kernel) rfl) ?_
  refine z_All.c (j := 66) rfl (ok_aload_n (n := 0) (by decide +kernel) rfl) ?_
  refine z_All.c (j := 67) rfl (ok_get (idx := 71) (by decide +kernel) rfl (by decide) z_i10 zw565) ?_
  refine z_All.c (j := 68) rfl ok_bad ?_
  refine z_All.c (j := 69) rfl ok_bad ?_
  refine z_All.c (j := 70) rfl (ok_aload_n (n := 0) (by decide +kernel) rfl) ?_
  refine z_All.c (j := 71) rfl (ok_get (idx := 89) (by decide +kernel) rfl (by decide) z_i10 zw574) ?_
  refine z_All.c (j := 72) rfl ok_bad ?_
  refine z_All.c (j := 73) rfl ok_bad ?_
  refine z_All.c (j := 74) rfl (ok_aload_n (n := 0) (by decide +kernel) rfl) ?_
  refine z_All.c (j := 75) rfl (ok_get (idx := 95) (by decide +kernel) rfl (by decide) z_i10 zw578) ?_
  refine z_All.c (j := 76) rfl ok_bad ?_
  refine z_All.c (j := 77) rfl ok_bad ?_
  refine z_All.c (j := 78) rfl (ok_iload_n (n := 3) (by decide +kernel) rfl) ?_
  refine z_All.c (j := 79) rfl (ok_iald (by decide +kernel)) ?_
  refine z_All.c (j := 80) rfl (ok_iald (by decide +kernel)) ?_
  refine z_All.c (j := 81) rfl (ok_iload (by decide +kernel)) ?_
  refine z_All.c (j := 82) rfl ok_bad ?_
  refine z_All.c (j := 83) rfl (ok_iadd (by decide +kernel)) ?_
  refine z_All.c (j := 84) rfl (ok_iald (by decide +kernel)) ?_
  refine z_All.c (j := 85) rfl (ok_cv (idx := 195) (by decide +kernel) rfl zm94 zw789 zw791 (z_inP (List.mem_of_getElem? (i := 36) rfl) rfl)) ?_
  refine z_All.c (j := 86) rfl ok_bad ?_
  refine z_All.c (j := 87) rfl ok_bad ?_
  refine z_All.c (j := 88) rfl (ok_ic_ne (off := 7) (by decide +kernel) (by decide +kernel)) ?_
  refine z_All.c (j := 89) rfl ok_bad ?_
  refine z_All.c (j := 90) rfl ok_bad ?_
  refine z_All.c (j := 91) rfl (ok_iconst (n := 1) (by decide +kernel) (by decide +kernel)) ?_
  refine z_All.c (j := 92) rfl (ok_goto (off := 4) (by decide +kernel) (by decide +kernel)) ?_
  refine z_All.c (j := 93) rfl ok_bad ?_
  refine z_All.c (j := 94) rfl ok_bad ?_
  refine z_All.c (j := 95) rfl (ok_iconst (n := 0) (by decide +kernel) (by decide +kernel)) ?_
  refine z_All.c (j := 96) rfl (ok_istore (by decide +kernel) (fun _ => rfl)) ?_
  refine z_All.c (j := 97) rfl ok_bad ?_
  refine z_All.c (j := 98) rfl (ok_iinc (n := 1) (by decide +kernel) (by decide +kernel)) ?_
  refine z_All.c (j := 99) rfl ok_bad ?_
  refine z_All.c (j := 100) rfl ok_bad ?_
  refine z_All.c (j := 101) rfl (ok_goto (off := -60) (by decide +kernel) (by decide +kernel)) ?_
  refine z_All.c (j := 102) rfl ok_bad ?_
  refine z_All.c (j := 103) rfl ok_bad ?_
  refine z_All.c (j := 104) rfl (ok_iload (by decide +kernel)) ?_
  refine z_All.c (j := 105) rfl ok_bad ?_
  refine z_All.c (j := 106) rfl (ok_if_eq (off := 5) (by decide +kernel) (by decide +kernel)) ?_
  refine z_All.c (j := 107) rfl ok_bad ?_
  refine z_All.c (j := 108) rfl ok_bad ?_
  refine z_All.c (j := 109) rfl (ok_iload_n (n := 3) (by decide +kernel) rfl) ?_
  refine z_All.c (j := 110) rfl (ok_iret (by decide +kernel) rfl) ?_
  refine z_All.c (j := 111) rfl (ok_iinc (n := -1) (by decide +kernel) (by decide +kernel)) ?_
  refine z_All.c (j := 112) rfl ok_bad ?_
  refine z_All.c (j := 113) rfl ok_bad ?_
  refine z_All.c (j := 114) rfl (ok_goto (off := -106) (by decide +kernel) (by decide +kernel)) ?_
  refine z_All.c (j := 115) rfl ok_bad ?_
  refine z_All.c (j := 116) rfl ok_bad ?_
  refine z_All.c (j := 117) rfl (ok_iconst (n := -1) (by decide +kernel) (by decide +kernel)) ?_
  refine z_All.c (j := 118) rfl (ok_iret (by decide +kernel) rfl) ?_
  exact trivial
set_option maxRecDepth 20000 in
theorem zk105_0 (l : Launch) (scr B : Nat) (D : va_G) : z_All l scr B D 105 0 z_c105_0 := by
  refine z_All.c (j := 1) rfl (ok_aload_n (n := 0) (by decide +kernel) rfl) ?_
  refine z_All.c (j := 2) rfl (ok_cv (idx := 185) (by decide +kernel) rfl zm96 zw769 zw771 (z_inP (List.mem_of_getElem? (i := 32) rfl) rfl)) ?_
  refine z_All.c (j := 3) rfl ok_bad ?_
  refine z_All.c (j := 4) rfl ok_bad ?_
  refine z_All.c (j := 5) rfl (ok_if_ne (off := 5) (by decide +kernel) (by decide +kernel)) ?_
  refine z_All.c (j := 6) rfl ok_bad ?_
  refine z_All.c (j := 7) rfl ok_bad ?_
  refine z_All.c (j := 8) rfl (ok_iconst (n := 0) (by decide +kernel) (by decide +kernel)) ?_
  refine z_All.c (j := 9) rfl (ok_iret (by decide +kernel) rfl) ?_
  refine z_All.c (j := 10) rfl (ok_aload_n (n := 0) (by decide +kernel) rfl) ?_
  refine z_All.c (j := 11) rfl (ok_iconst (n := 0) (by decide +kernel) (by decide +kernel)) ?_
  refine z_All.c (j := 12) rfl (ok_put (idx := 188) (by decide +kernel) rfl (by decide) z_i10 z_t10 z_n10 zw582 rfl (by decide +kernel)) ?_
  refine z_All.c (j := 13) rfl ok_bad ?_
  refine z_All.c (j := 14) rfl ok_bad ?_
  refine z_All.c (j := 15) rfl (ok_iconst (n := 0) (by decide +kernel) (by decide +kernel)) ?_
  refine z_All.c (j := 16) rfl (ok_istore_n (n := 3) (by decide +kernel) rfl (fun _ => rfl)) ?_
  refine z_All.c (j := 17) rfl (ok_iload_n (n := 3) (by decide +kernel) rfl) ?_
  refine z_All.c (j := 18) rfl (ok_aload_n (n := 0) (by decide +kernel) rfl) ?_
  refine z_All.c (j := 19) rfl (ok_get (idx := 182) (by decide +kernel) rfl (by decide) z_i10 zw577) ?_
  refine z_All.c (j := 20) rfl ok_bad ?_
  refine z_All.c (j := 21) rfl ok_bad ?_
  refine z_All.c (j := 22) rfl (ok_ic_ge (off := 16) (by decide +kernel) (by decide +kernel)) ?_
  refine z_All.c (j := 23) rfl ok_bad ?_
  refine z_All.c (j := 24) rfl ok_bad ?_
  refine z_All.c (j := 25) rfl (ok_aload_n (n := 0) (by decide +kernel) rfl) ?_
  refine z_All.c (j := 26) rfl (ok_get (idx := 104) (by decide +kernel) rfl (by decide) z_i10 zw581) ?_
  refine z_All.c (j := 27) rfl ok_bad ?_
  refine z_All.c (j := 28) rfl ok_bad ?_
  refine z_All.c (j := 29) rfl (ok_iload_n (n := 3) (by decide +kernel) rfl) ?_
  refine z_All.c (j := 30) rfl (ok_iconst (n := 0) (by decide +kernel) (by decide +kernel)) ?_
  refine z_All.c (j := 31) rfl (ok_zast (by decide +kernel)) ?_
  refine z_All.c (j := 32) rfl (ok_iinc (n := 1) (by decide +kernel) (by decide +kernel)) ?_
  refine z_All.c (j := 33) rfl ok_bad ?_
  refine z_All.c (j := 34) rfl ok_bad ?_
  refine z_All.c (j := 35) rfl (ok_goto (off := -18) (by decide +kernel) (by decide +kernel)) ?_
  refine z_All.c (j := 36) rfl ok_bad ?_
  refine z_All.c (j := 37) rfl ok_bad ?_
  refine z_All.c (j := 38) rfl (ok_iconst (n := 0) (by decide +kernel) (by decide +kernel)) ?_
  refine z_All.c (j := 39) rfl (ok_istore_n (n := 3) (by decide +kernel) rfl (fun _ => rfl)) ?_
  refine z_All.c (j := 40) rfl (ok_iload_n (n := 3) (by decide +kernel) rfl) ?_
  refine z_All.c (j := 41) rfl (ok_aload_n (n := 0) (by decide +kernel) rfl) ?_
  refine z_All.c (j := 42) rfl (ok_get (idx := 164) (by decide +kernel) rfl (by decide) z_i10 zw566) ?_
  refine z_All.c (j := 43) rfl ok_bad ?_
  refine z_All.c (j := 44) rfl ok_bad ?_
  refine z_All.c (j := 45) rfl (ok_ic_ge (off := 85) (by decide +kernel) (by decide +kernel)) ?_
  refine z_All.c (j := 46) rfl ok_bad ?_
  refine z_All.c (j := 47) rfl ok_bad ?_
  refine z_All.c (j := 48) rfl (ok_iconst (n := 0) (by decide +kernel) (by decide +kernel)) ?_
  refine z_All.c (j := 49) rfl (ok_istore (by decide +kernel) (fun _ => rfl)) ?_
  refine z_All.c (j := 50) rfl ok_bad ?_
  refine z_All.c (j := 51) rfl (ok_iload_n (n := 3) (by decide +kernel) rfl) ?_
  refine z_All.c (j := 52) rfl (ok_iload (by decide +kernel)) ?_
  refine z_All.c (j := 53) rfl ok_bad ?_
  refine z_All.c (j := 54) rfl (ok_iadd (by decide +kernel)) ?_
  refine z_All.c (j := 55) rfl (ok_aload_n (n := 0) (by decide +kernel) rfl) ?_
  refine z_All.c (j := 56) rfl (ok_get (idx := 164) (by decide +kernel) rfl (by decide) z_i10 zw566) ?_
  refine z_All.c (j := 57) rfl ok_bad ?_
  refine z_All.c (j := 58) rfl ok_bad ?_
  refine z_All.c (j := 59) rfl (ok_ic_ge (off := 23) (by decide +kernel) (by decide +kernel)) ?_
  refine z_All.c (j := 60) rfl ok_bad ?_
  refine z_All.c (j := 61) rfl ok_bad ?_
  refine z_All.c (j := 62) rfl (ok_aload_n (n := 0) (by decide +kernel) rfl) ?_
  refine z_All.c (j := 63) rfl (ok_get (idx := 74) (by decide +kernel) rfl (by decide) z_i10 zw567) ?_
  refine z_All.c (j := 64) rfl ok_bad ?_
  exact trivial
set_option maxRecDepth 20000 in
theorem zk105_1 (l : Launch) (scr B : Nat) (D : va_G) : z_All l scr B D 105 64 z_c105_1 := by
  refine z_All.c (j := 65) rfl ok_bad ?_
  refine z_All.c (j := 66) rfl (ok_iload_n (n := 3) (by decide +kernel) rfl) ?_
  refine z_All.c (j := 67) rfl (ok_iload (by decide +kernel)) ?_
  refine z_All.c (j := 68) rfl ok_bad ?_
  refine z_All.c (j := 69) rfl (ok_iadd (by decide +kernel)) ?_
  refine z_All.c (j := 70) rfl (ok_iald (by decide +kernel)) ?_
  refine z_All.c (j := 71) rfl (ok_bipush (n := 58) (by decide +kernel) (by decide +kernel)) ?_
  refine z_All.c (j := 72) rfl ok_bad ?_
  refine z_All.c (j := 73) rfl (ok_ic_eq (off := 9) (by decide +kernel) (by decide +kernel)) ?_
  refine z_All.c (j := 74) rfl ok_bad ?_
  refine z_All.c (j := 75) rfl ok_bad ?_
  refine z_All.c (j := 76) rfl (ok_iinc (n := 1) (by decide +kernel) (by decide +kernel)) ?_
  refine z_All.c (j := 77) rfl ok_bad ?_
  refine z_All.c (j := 78) rfl ok_bad ?_
  refine z_All.c (j := 79) rfl (ok_goto (off := -28) (by decide +kernel) (by decide +kernel)) ?_
  refine z_All.c (j := 80) rfl ok_bad ?_
  refine z_All.c (j := 81) rfl ok_bad ?_
  refine z_All.c (j := 82) rfl (ok_iload (by decide +kernel)) ?_
  refine z_All.c (j := 83) rfl ok_bad ?_
  refine z_All.c (j := 84) rfl (ok_if_le (off := 13) (by decide +kernel) (by decide +kernel)) ?_
  refine z_All.c (j := 85) rfl ok_bad ?_
  refine z_All.c (j := 86) rfl ok_bad ?_
  refine z_All.c (j := 87) rfl (ok_aload_n (n := 0) (by decide +kernel) rfl) ?_
  refine z_All.c (j := 88) rfl (ok_iload_n (n := 3) (by decide +kernel) rfl) ?_
  refine z_All.c (j := 89) rfl (ok_iload (by decide +kernel)) ?_
  refine z_All.c (j := 90) rfl ok_bad ?_
  refine z_All.c (j := 91) rfl (ok_cv (idx := 207) (by decide +kernel) rfl zm104 zw785 zw787 (z_inP (List.mem_of_getElem? (i := 35) rfl) rfl)) ?_
  refine z_All.c (j := 92) rfl ok_bad ?_
  refine z_All.c (j := 93) rfl ok_bad ?_
  refine z_All.c (j := 94) rfl (ok_goto (off := 4) (by decide +kernel) (by decide +kernel)) ?_
  refine z_All.c (j := 95) rfl ok_bad ?_
  refine z_All.c (j := 96) rfl ok_bad ?_
  refine z_All.c (j := 97) rfl (ok_iconst (n := -1) (by decide +kernel) (by decide +kernel)) ?_
  refine z_All.c (j := 98) rfl (ok_istore (by decide +kernel) (fun _ => rfl)) ?_
  refine z_All.c (j := 99) rfl ok_bad ?_
  refine z_All.c (j := 100) rfl (ok_iload (by decide +kernel)) ?_
  refine z_All.c (j := 101) rfl ok_bad ?_
  refine z_All.c (j := 102) rfl (ok_if_lt (off := 18) (by decide +kernel) (by decide +kernel)) ?_
  refine z_All.c (j := 103) rfl ok_bad ?_
  refine z_All.c (j := 104) rfl ok_bad ?_
  refine z_All.c (j := 105) rfl (ok_aload_n (n := 0) (by decide +kernel) rfl) ?_
  refine z_All.c (j := 106) rfl (ok_get (idx := 104) (by decide +kernel) rfl (by decide) z_i10 zw581) ?_
  refine z_All.c (j := 107) rfl ok_bad ?_
  refine z_All.c (j := 108) rfl ok_bad ?_
  refine z_All.c (j := 109) rfl (ok_iload (by decide +kernel)) ?_
  refine z_All.c (j := 110) rfl ok_bad ?_
  refine z_All.c (j := 111) rfl (ok_iconst (n := 1) (by decide +kernel) (by decide +kernel)) ?_
  refine z_All.c (j := 112) rfl (ok_zast (by decide +kernel)) ?_
  refine z_All.c (j := 113) rfl (ok_aload_n (n := 0) (by decide +kernel) rfl) ?_
  refine z_All.c (j := 114) rfl (ok_iload (by decide +kernel)) ?_
  refine z_All.c (j := 115) rfl ok_bad ?_
  refine z_All.c (j := 116) rfl (ok_iload_n (n := 1) (by decide +kernel) rfl) ?_
  refine z_All.c (j := 117) rfl (ok_cv (idx := 210) (by decide +kernel) rfl zm106 zw793 zw795 (z_inP (List.mem_of_getElem? (i := 37) rfl) rfl)) ?_
  refine z_All.c (j := 118) rfl ok_bad ?_
  refine z_All.c (j := 119) rfl ok_bad ?_
  refine z_All.c (j := 120) rfl (ok_iload_n (n := 3) (by decide +kernel) rfl) ?_
  refine z_All.c (j := 121) rfl (ok_iload (by decide +kernel)) ?_
  refine z_All.c (j := 122) rfl ok_bad ?_
  refine z_All.c (j := 123) rfl (ok_iadd (by decide +kernel)) ?_
  refine z_All.c (j := 124) rfl (ok_iconst (n := 1) (by decide +kernel) (by decide +kernel)) ?_
  refine z_All.c (j := 125) rfl (ok_iadd (by decide +kernel)) ?_
  refine z_All.c (j := 126) rfl (ok_istore_n (n := 3) (by decide +kernel) rfl (fun _ => rfl)) ?_
  refine z_All.c (j := 127) rfl (ok_goto (off := -87) (by decide +kernel) (by decide +kernel)) ?_
  refine z_All.c (j := 128) rfl ok_bad ?_
  exact trivial
set_option maxRecDepth 20000 in
theorem zk105_2 (l : Launch) (scr B : Nat) (D : va_G) : z_All l scr B D 105 128 z_c105_2 := by
  refine z_All.c (j := 129) rfl ok_bad ?_
  refine z_All.c (j := 130) rfl (ok_aload_n (n := 0) (by decide +kernel) rfl) ?_
  refine z_All.c (j := 131) rfl (ok_iload_n (n := 2) (by decide +kernel) rfl) ?_
  refine z_All.c (j := 132) rfl (ok_cv (idx := 214) (by decide +kernel) rfl zm103 zw809 zw811 (z_inP (List.mem_of_getElem? (i := 41) rfl) rfl)) ?_
  refine z_All.c (j := 133) rfl ok_bad ?_
  refine z_All.c (j := 134) rfl ok_bad ?_
  refine z_All.c (j := 135) rfl (ok_iconst (n := 1) (by decide +kernel) (by decide +kernel)) ?_
  refine z_All.c (j := 136) rfl (ok_iret (by decide +kernel) rfl) ?_
  exact trivial
set_option maxRecDepth 20000 in
theorem zk106_0 (l : Launch) (scr B : Nat) (D : va_G) : z_All l scr B D 106 0 z_c106_0 := by
  refine z_All.c (j := 1) rfl (ok_iload_n (n := 2) (by decide +kernel) rfl) ?_
  refine z_All.c (j := 2) rfl (ok_if_eq (off := 9) (by decide +kernel) (by decide +kernel)) ?_
  refine z_All.c (j := 3) rfl ok_bad ?_
  refine z_All.c (j := 4) rfl ok_bad ?_
  refine z_All.c (j := 5) rfl (ok_aload_n (n := 0) (by decide +kernel) rfl) ?_
  refine z_All.c (j := 6) rfl (ok_iload_n (n := 1) (by decide +kernel) rfl) ?_
  refine z_All.c (j := 7) rfl (ok_cv (idx := 218) (by decide +kernel) rfl zm100 zw797 zw799 (z_inP (List.mem_of_getElem? (i := 38) rfl) rfl)) ?_
  refine z_All.c (j := 8) rfl ok_bad ?_
  refine z_All.c (j := 9) rfl ok_bad ?_
  refine z_All.c (j := 10) rfl (ok_vret (by decide +kernel) rfl) ?_
  refine z_All.c (j := 11) rfl (ok_aload_n (n := 0) (by decide +kernel) rfl) ?_
  refine z_All.c (j := 12) rfl (ok_get (idx := 95) (by decide +kernel) rfl (by decide) z_i10 zw578) ?_
  refine z_All.c (j := 13) rfl ok_bad ?_
  refine z_All.c (j := 14) rfl ok_bad ?_
  refine z_All.c (j := 15) rfl (ok_iload_n (n := 1) (by decide +kernel) rfl) ?_
  refine z_All.c (j := 16) rfl (ok_iald (by decide +kernel)) ?_
  refine z_All.c (j := 17) rfl (ok_istore_n (n := 3) (by decide +kernel) rfl (fun _ => rfl)) ?_
  refine z_All.c (j := 18) rfl (ok_iload_n (n := 3) (by decide +kernel) rfl) ?_
  refine z_All.c (j := 19) rfl (ok_aload_n (n := 0) (by decide +kernel) rfl) ?_
  refine z_All.c (j := 20) rfl (ok_get (idx := 98) (by decide +kernel) rfl (by decide) z_i10 zw579) ?_
  refine z_All.c (j := 21) rfl ok_bad ?_
  refine z_All.c (j := 22) rfl ok_bad ?_
  refine z_All.c (j := 23) rfl (ok_iload_n (n := 1) (by decide +kernel) rfl) ?_
  refine z_All.c (j := 24) rfl (ok_iald (by decide +kernel)) ?_
  refine z_All.c (j := 25) rfl (ok_ic_gt (off := 14) (by decide +kernel) (by decide +kernel)) ?_
  refine z_All.c (j := 26) rfl ok_bad ?_
  refine z_All.c (j := 27) rfl ok_bad ?_
  refine z_All.c (j := 28) rfl (ok_aload_n (n := 0) (by decide +kernel) rfl) ?_
  refine z_All.c (j := 29) rfl (ok_iload_n (n := 3) (by decide +kernel) rfl) ?_
  refine z_All.c (j := 30) rfl (ok_cv (idx := 204) (by decide +kernel) rfl zm99 zw805 zw807 (z_inP (List.mem_of_getElem? (i := 40) rfl) rfl)) ?_
  refine z_All.c (j := 31) rfl ok_bad ?_
  refine z_All.c (j := 32) rfl ok_bad ?_
  refine z_All.c (j := 33) rfl (ok_iinc (n := 1) (by decide +kernel) (by decide +kernel)) ?_
  refine z_All.c (j := 34) rfl ok_bad ?_
  refine z_All.c (j := 35) rfl ok_bad ?_
  refine z_All.c (j := 36) rfl (ok_goto (off := -18) (by decide +kernel) (by decide +kernel)) ?_
  refine z_All.c (j := 37) rfl ok_bad ?_
  refine z_All.c (j := 38) rfl ok_bad ?_
  refine z_All.c (j := 39) rfl (ok_vret (by decide +kernel) rfl) ?_
  exact trivial
set_option maxRecDepth 20000 in
theorem zk107_0 (l : Launch) (scr B : Nat) (D : va_G) : z_All l scr B D 107 0 z_c107_0 := by
  refine z_All.c (j := 1) rfl (ok_aload_n (n := 0) (by decide +kernel) rfl) ?_
  refine z_All.c (j := 2) rfl (ok_iload_n (n := 1) (by decide +kernel) rfl) ?_
  refine z_All.c (j := 3) rfl (ok_iload_n (n := 2) (by decide +kernel) rfl) ?_
  refine z_All.c (j := 4) rfl (ok_cv (idx := 221) (by decide +kernel) rfl zm105 zw781 zw783 (z_inP (List.mem_of_getElem? (i := 34) rfl) rfl)) ?_
  refine z_All.c (j := 5) rfl ok_bad ?_
  refine z_All.c (j := 6) rfl ok_bad ?_
  refine z_All.c (j := 7) rfl (ok_if_eq (off := 10) (by decide +kernel) (by decide +kernel)) ?_
  refine z_All.c (j := 8) rfl ok_bad ?_
  refine z_All.c (j := 9) rfl ok_bad ?_
  refine z_All.c (j := 10) rfl (ok_aload_n (n := 0) (by decide +kernel) rfl) ?_
  refine z_All.c (j := 11) rfl (ok_get (idx := 188) (by decide +kernel) rfl (by decide) z_i10 zw582) ?_
  refine z_All.c (j := 12) rfl ok_bad ?_
  refine z_All.c (j := 13) rfl ok_bad ?_
  refine z_All.c (j := 14) rfl (ok_goto (off := 4) (by decide +kernel) (by decide +kernel)) ?_
  refine z_All.c (j := 15) rfl ok_bad ?_
  refine z_All.c (j := 16) rfl ok_bad ?_
  refine z_All.c (j := 17) rfl (ok_iconst (n := -1) (by decide +kernel) (by decide +kernel)) ?_
  refine z_All.c (j := 18) rfl (ok_iret (by decide +kernel) rfl) ?_
  exact trivial
set_option maxRecDepth 20000 in
theorem zk108_0 (l : Launch) (scr B : Nat) (D : va_G) : z_All l scr B D 108 0 z_c108_0 := by
  refine z_All.c (j := 1) rfl (ok_aload_n (n := 0) (by decide +kernel) rfl) ?_
  refine z_All.c (j := 2) rfl (ok_iload_n (n := 1) (by decide +kernel) rfl) ?_
  refine z_All.c (j := 3) rfl (ok_iload_n (n := 2) (by decide +kernel) rfl) ?_
  refine z_All.c (j := 4) rfl (ok_cv (idx := 221) (by decide +kernel) rfl zm105 zw781 zw783 (z_inP (List.mem_of_getElem? (i := 34) rfl) rfl)) ?_
  refine z_All.c (j := 5) rfl ok_bad ?_
  refine z_All.c (j := 6) rfl ok_bad ?_
  refine z_All.c (j := 7) rfl (ok_if_eq (off := 15) (by decide +kernel) (by decide +kernel)) ?_
  refine z_All.c (j := 8) rfl ok_bad ?_
  refine z_All.c (j := 9) rfl ok_bad ?_
  refine z_All.c (j := 10) rfl (ok_iload_n (n := 3) (by decide +kernel) rfl) ?_
  refine z_All.c (j := 11) rfl (ok_if_lt (off := 11) (by decide +kernel) (by decide +kernel)) ?_
  refine z_All.c (j := 12) rfl ok_bad ?_
  refine z_All.c (j := 13) rfl ok_bad ?_
  refine z_All.c (j := 14) rfl (ok_iload_n (n := 3) (by decide +kernel) rfl) ?_
  refine z_All.c (j := 15) rfl (ok_aload_n (n := 0) (by decide +kernel) rfl) ?_
  refine z_All.c (j := 16) rfl (ok_get (idx := 188) (by decide +kernel) rfl (by decide) z_i10 zw582) ?_
  refine z_All.c (j := 17) rfl ok_bad ?_
  refine z_All.c (j := 18) rfl ok_bad ?_
  refine z_All.c (j := 19) rfl (ok_ic_lt (off := 7) (by decide +kernel) (by decide +kernel)) ?_
  refine z_All.c (j := 20) rfl ok_bad ?_
  refine z_All.c (j := 21) rfl ok_bad ?_
  refine z_All.c (j := 22) rfl (ok_iconst (n := -1) (by decide +kernel) (by decide +kernel)) ?_
  refine z_All.c (j := 23) rfl (ok_goto (off := 9) (by decide +kernel) (by decide +kernel)) ?_
  refine z_All.c (j := 24) rfl ok_bad ?_
  refine z_All.c (j := 25) rfl ok_bad ?_
  refine z_All.c (j := 26) rfl (ok_aload_n (n := 0) (by decide +kernel) rfl) ?_
  refine z_All.c (j := 27) rfl (ok_get (idx := 107) (by decide +kernel) rfl (by decide) z_i10 zw583) ?_
  refine z_All.c (j := 28) rfl ok_bad ?_
  refine z_All.c (j := 29) rfl ok_bad ?_
  refine z_All.c (j := 30) rfl (ok_iload_n (n := 3) (by decide +kernel) rfl) ?_
  refine z_All.c (j := 31) rfl (ok_iald (by decide +kernel)) ?_
  refine z_All.c (j := 32) rfl (ok_iret (by decide +kernel) rfl) ?_
  exact trivial
set_option maxRecDepth 20000 in
theorem zk109_0 (l : Launch) (scr B : Nat) (D : va_G) : z_All l scr B D 109 0 z_c109_0 := by
  refine z_All.c (j := 1) rfl (ok_aload_n (n := 0) (by decide +kernel) rfl) ?_
  refine z_All.c (j := 2) rfl (ok_iload_n (n := 1) (by decide +kernel) rfl) ?_
  refine z_All.c (j := 3) rfl (ok_iload_n (n := 2) (by decide +kernel) rfl) ?_
  refine z_All.c (j := 4) rfl (ok_cv (idx := 221) (by decide +kernel) rfl zm105 zw781 zw783 (z_inP (List.mem_of_getElem? (i := 34) rfl) rfl)) ?_
  refine z_All.c (j := 5) rfl ok_bad ?_
  refine z_All.c (j := 6) rfl ok_bad ?_
  refine z_All.c (j := 7) rfl (ok_if_ne (off := 5) (by decide +kernel) (by decide +kernel)) ?_
  refine z_All.c (j := 8) rfl ok_bad ?_
  refine z_All.c (j := 9) rfl ok_bad ?_
  refine z_All.c (j := 10) rfl (ok_iconst (n := -1) (by decide +kernel) (by decide +kernel)) ?_
  refine z_All.c (j := 11) rfl (ok_iret (by decide +kernel) rfl) ?_
  refine z_All.c (j := 12) rfl (ok_lconst (n := 0) (by decide +kernel) (by decide +kernel)) ?_
  refine z_All.c (j := 13) rfl (ok_lstore_n (n := 3) (by decide +kernel) rfl rfl) ?_
  refine z_All.c (j := 14) rfl (ok_iconst (n := 0) (by decide +kernel) (by decide +kernel)) ?_
  refine z_All.c (j := 15) rfl (ok_istore (by decide +kernel) (fun z => (by cases z))) ?_
  refine z_All.c (j := 16) rfl ok_bad ?_
  refine z_All.c (j := 17) rfl (ok_iload (by decide +kernel)) ?_
  refine z_All.c (j := 18) rfl ok_bad ?_
  refine z_All.c (j := 19) rfl (ok_aload_n (n := 0) (by decide +kernel) rfl) ?_
  refine z_All.c (j := 20) rfl (ok_get (idx := 188) (by decide +kernel) rfl (by decide) z_i10 zw582) ?_
  refine z_All.c (j := 21) rfl ok_bad ?_
  refine z_All.c (j := 22) rfl ok_bad ?_
  refine z_All.c (j := 23) rfl (ok_ic_ge (off := 30) (by decide +kernel) (by decide +kernel)) ?_
  refine z_All.c (j := 24) rfl ok_bad ?_
  refine z_All.c (j := 25) rfl ok_bad ?_
  refine z_All.c (j := 26) rfl (ok_ldc2 (idx := 225) (by decide +kernel) zw829) ?_
  refine z_All.c (j := 27) rfl ok_bad ?_
  refine z_All.c (j := 28) rfl ok_bad ?_
  refine z_All.c (j := 29) rfl (ok_lload_n (n := 3) (by decide +kernel) rfl) ?_
  refine z_All.c (j := 30) rfl (ok_lmul (by decide +kernel)) ?_
  refine z_All.c (j := 31) rfl (ok_aload_n (n := 0) (by decide +kernel) rfl) ?_
  refine z_All.c (j := 32) rfl (ok_get (idx := 107) (by decide +kernel) rfl (by decide) z_i10 zw583) ?_
  refine z_All.c (j := 33) rfl ok_bad ?_
  refine z_All.c (j := 34) rfl ok_bad ?_
  refine z_All.c (j := 35) rfl (ok_iload (by decide +kernel)) ?_
  refine z_All.c (j := 36) rfl ok_bad ?_
  refine z_All.c (j := 37) rfl (ok_iald (by decide +kernel)) ?_
  refine z_All.c (j := 38) rfl (ok_i2l (by decide +kernel)) ?_
  refine z_All.c (j := 39) rfl (ok_ladd (by decide +kernel)) ?_
  refine z_All.c (j := 40) rfl (ok_lconst (n := 1) (by decide +kernel) (by decide +kernel)) ?_
  refine z_All.c (j := 41) rfl (ok_ladd (by decide +kernel)) ?_
  refine z_All.c (j := 42) rfl (ok_ldc2 (idx := 227) (by decide +kernel) zw830) ?_
  refine z_All.c (j := 43) rfl ok_bad ?_
  refine z_All.c (j := 44) rfl ok_bad ?_
  refine z_All.c (j := 45) rfl (ok_lrem (by decide +kernel)) ?_
  refine z_All.c (j := 46) rfl (ok_lstore_n (n := 3) (by decide +kernel) rfl rfl) ?_
  refine z_All.c (j := 47) rfl (ok_iinc (n := 1) (by decide +kernel) (by decide +kernel)) ?_
  refine z_All.c (j := 48) rfl ok_bad ?_
  refine z_All.c (j := 49) rfl ok_bad ?_
  refine z_All.c (j := 50) rfl (ok_goto (off := -33) (by decide +kernel) (by decide +kernel)) ?_
  refine z_All.c (j := 51) rfl ok_bad ?_
  refine z_All.c (j := 52) rfl ok_bad ?_
  refine z_All.c (j := 53) rfl (ok_lload_n (n := 3) (by decide +kernel) rfl) ?_
  refine z_All.c (j := 54) rfl (ok_l2i (by decide +kernel)) ?_
  refine z_All.c (j := 55) rfl (ok_iret (by decide +kernel) rfl) ?_
  exact trivial
set_option maxRecDepth 20000 in
theorem zk110_0 (l : Launch) (scr B : Nat) (D : va_G) : z_All l scr B D 110 0 z_c110_0 := by
  refine z_All.c (j := 1) rfl (ok_aload_n (n := 0) (by decide +kernel) rfl) ?_
  refine z_All.c (j := 2) rfl (ok_iload_n (n := 1) (by decide +kernel) rfl) ?_
  refine z_All.c (j := 3) rfl (ok_cv (idx := 114) (by decide +kernel) rfl zm71 zw677 zw679 (z_inP (List.mem_of_getElem? (i := 21) rfl) rfl)) ?_
  refine z_All.c (j := 4) rfl ok_bad ?_
  refine z_All.c (j := 5) rfl ok_bad ?_
  refine z_All.c (j := 6) rfl (ok_if_eq (off := 5) (by decide +kernel) (by decide +kernel)) ?_
  refine z_All.c (j := 7) rfl ok_bad ?_
  refine z_All.c (j := 8) rfl ok_bad ?_
  refine z_All.c (j := 9) rfl (ok_iconst (n := -1) (by decide +kernel) (by decide +kernel)) ?_
  refine z_All.c (j := 10) rfl (ok_iret (by decide +kernel) rfl) ?_
  refine z_All.c (j := 11) rfl (ok_aload_n (n := 0) (by decide +kernel) rfl) ?_
  refine z_All.c (j := 12) rfl (ok_get (idx := 170) (by decide +kernel) rfl (by decide) z_i10 zw568) ?_
  refine z_All.c (j := 13) rfl ok_bad ?_
  refine z_All.c (j := 14) rfl ok_bad ?_
  refine z_All.c (j := 15) rfl (ok_iconst (n := 3) (by decide +kernel) (by decide +kernel)) ?_
  refine z_All.c (j := 16) rfl (ok_ic_ne (off := 6) (by decide +kernel) (by decide +kernel)) ?_
  refine z_All.c (j := 17) rfl ok_bad ?_
  refine z_All.c (j := 18) rfl ok_bad ?_
  refine z_All.c (j := 19) rfl (ok_bipush (n := -2) (by decide +kernel) (by decide +kernel)) ?_
  refine z_All.c (j := 20) rfl ok_bad ?_
  refine z_All.c (j := 21) rfl (ok_iret (by decide +kernel) rfl) ?_
  refine z_All.c (j := 22) rfl (ok_aload_n (n := 0) (by decide +kernel) rfl) ?_
  refine z_All.c (j := 23) rfl (ok_get (idx := 77) (by decide +kernel) rfl (by decide) z_i10 zw569) ?_
  refine z_All.c (j := 24) rfl ok_bad ?_
  refine z_All.c (j := 25) rfl ok_bad ?_
  refine z_All.c (j := 26) rfl (ok_aload_n (n := 0) (by decide +kernel) rfl) ?_
  refine z_All.c (j := 27) rfl (ok_get (idx := 170) (by decide +kernel) rfl (by decide) z_i10 zw568) ?_
  refine z_All.c (j := 28) rfl ok_bad ?_
  refine z_All.c (j := 29) rfl ok_bad ?_
  refine z_All.c (j := 30) rfl (ok_iload_n (n := 1) (by decide +kernel) rfl) ?_
  refine z_All.c (j := 31) rfl (ok_iast (by decide +kernel)) ?_
  refine z_All.c (j := 32) rfl (ok_aload_n (n := 0) (by decide +kernel) rfl) ?_
  refine z_All.c (j := 33) rfl (ok_get (idx := 80) (by decide +kernel) rfl (by decide) z_i10 zw570) ?_
  refine z_All.c (j := 34) rfl ok_bad ?_
  refine z_All.c (j := 35) rfl ok_bad ?_
  refine z_All.c (j := 36) rfl (ok_aload_n (n := 0) (by decide +kernel) rfl) ?_
  refine z_All.c (j := 37) rfl (ok_get (idx := 170) (by decide +kernel) rfl (by decide) z_i10 zw568) ?_
  refine z_All.c (j := 38) rfl ok_bad ?_
  refine z_All.c (j := 39) rfl ok_bad ?_
  refine z_All.c (j := 40) rfl (ok_iload_n (n := 2) (by decide +kernel) rfl) ?_
  refine z_All.c (j := 41) rfl (ok_zast (by decide +kernel)) ?_
  refine z_All.c (j := 42) rfl (ok_aload_n (n := 0) (by decide +kernel) rfl) ?_
  refine z_All.c (j := 43) rfl (ok_get (idx := 83) (by decide +kernel) rfl (by decide) z_i10 zw571) ?_
  refine z_All.c (j := 44) rfl ok_bad ?_
  refine z_All.c (j := 45) rfl ok_bad ?_
  refine z_All.c (j := 46) rfl (ok_aload_n (n := 0) (by decide +kernel) rfl) ?_
  refine z_All.c (j := 47) rfl (ok_get (idx := 170) (by decide +kernel) rfl (by decide) z_i10 zw568) ?_
  refine z_All.c (j := 48) rfl ok_bad ?_
  refine z_All.c (j := 49) rfl ok_bad ?_
  refine z_All.c (j := 50) rfl (ok_iload_n (n := 3) (by decide +kernel) rfl) ?_
  refine z_All.c (j := 51) rfl (ok_zast (by decide +kernel)) ?_
  refine z_All.c (j := 52) rfl (ok_aload_n (n := 0) (by decide +kernel) rfl) ?_
  refine z_All.c (j := 53) rfl (ok_get (idx := 86) (by decide +kernel) rfl (by decide) z_i10 zw572) ?_
  refine z_All.c (j := 54) rfl ok_bad ?_
  refine z_All.c (j := 55) rfl ok_bad ?_
  refine z_All.c (j := 56) rfl (ok_aload_n (n := 0) (by decide +kernel) rfl) ?_
  refine z_All.c (j := 57) rfl (ok_get (idx := 170) (by decide +kernel) rfl (by decide) z_i10 zw568) ?_
  refine z_All.c (j := 58) rfl ok_bad ?_
  refine z_All.c (j := 59) rfl ok_bad ?_
  refine z_All.c (j := 60) rfl (ok_iload (by decide +kernel)) ?_
  refine z_All.c (j := 61) rfl ok_bad ?_
  refine z_All.c (j := 62) rfl (ok_iast (by decide +kernel)) ?_
  refine z_All.c (j := 63) rfl (ok_aload_n (n := 0) (by decide +kernel) rfl) ?_
  refine z_All.c (j := 64) rfl (ok_dup (by decide +kernel)) ?_
  exact trivial
set_option maxRecDepth 20000 in
theorem zk110_1 (l : Launch) (scr B : Nat) (D : va_G) : z_All l scr B D 110 64 z_c110_1 := by
  refine z_All.c (j := 65) rfl (ok_get (idx := 170) (by decide +kernel) rfl (by decide) z_i10 zw568) ?_
  refine z_All.c (j := 66) rfl ok_bad ?_
  refine z_All.c (j := 67) rfl ok_bad ?_
  refine z_All.c (j := 68) rfl (ok_iconst (n := 1) (by decide +kernel) (by decide +kernel)) ?_
  refine z_All.c (j := 69) rfl (ok_iadd (by decide +kernel)) ?_
  refine z_All.c (j := 70) rfl (ok_put (idx := 170) (by decide +kernel) rfl (by decide) z_i10 z_t10 z_n10 zw568 rfl (by decide +kernel)) ?_
  refine z_All.c (j := 71) rfl ok_bad ?_
  refine z_All.c (j := 72) rfl ok_bad ?_
  refine z_All.c (j := 73) rfl (ok_aload_n (n := 0) (by decide +kernel) rfl) ?_
  refine z_All.c (j := 74) rfl (ok_get (idx := 170) (by decide +kernel) rfl (by decide) z_i10 zw568) ?_
  refine z_All.c (j := 75) rfl ok_bad ?_
  refine z_All.c (j := 76) rfl ok_bad ?_
  refine z_All.c (j := 77) rfl (ok_iret (by decide +kernel) rfl) ?_
  exact trivial
set_option maxRecDepth 20000 in
theorem zk111_0 (l : Launch) (scr B : Nat) (D : va_G) : z_All l scr B D 111 0 z_c111_0 := by
  refine z_All.c (j := 1) rfl (ok_iload_n (n := 1) (by decide +kernel) rfl) ?_
  refine z_All.c (j := 2) rfl (ok_if_lt (off := 25) (by decide +kernel) (by decide +kernel)) ?_
  refine z_All.c (j := 3) rfl ok_bad ?_
  refine z_All.c (j := 4) rfl ok_bad ?_
  refine z_All.c (j := 5) rfl (ok_iload_n (n := 1) (by decide +kernel) rfl) ?_
  refine z_All.c (j := 6) rfl (ok_aload_n (n := 0) (by decide +kernel) rfl) ?_
  refine z_All.c (j := 7) rfl (ok_get (idx := 170) (by decide +kernel) rfl (by decide) z_i10 zw568) ?_
  refine z_All.c (j := 8) rfl ok_bad ?_
  refine z_All.c (j := 9) rfl ok_bad ?_
  refine z_All.c (j := 10) rfl (ok_ic_ge (off := 17) (by decide +kernel) (by decide +kernel)) ?_
  refine z_All.c (j := 11) rfl ok_bad ?_
  refine z_All.c (j := 12) rfl ok_bad ?_
  refine z_All.c (j := 13) rfl (ok_aload_n (n := 0) (by decide +kernel) rfl) ?_
  refine z_All.c (j := 14) rfl (ok_get (idx := 29) (by decide +kernel) rfl (by decide) z_i10 zw547) ?_
  refine z_All.c (j := 15) rfl ok_bad ?_
  refine z_All.c (j := 16) rfl ok_bad ?_
  refine z_All.c (j := 17) rfl (ok_aload_n (n := 0) (by decide +kernel) rfl) ?_
  refine z_All.c (j := 18) rfl (ok_get (idx := 77) (by decide +kernel) rfl (by decide) z_i10 zw569) ?_
  refine z_All.c (j := 19) rfl ok_bad ?_
  refine z_All.c (j := 20) rfl ok_bad ?_
  refine z_All.c (j := 21) rfl (ok_iload_n (n := 1) (by decide +kernel) rfl) ?_
  refine z_All.c (j := 22) rfl (ok_iald (by decide +kernel)) ?_
  refine z_All.c (j := 23) rfl (ok_iald (by decide +kernel)) ?_
  refine z_All.c (j := 24) rfl (ok_if_ne (off := 5) (by decide +kernel) (by decide +kernel)) ?_
  refine z_All.c (j := 25) rfl ok_bad ?_
  refine z_All.c (j := 26) rfl ok_bad ?_
  refine z_All.c (j := 27) rfl (ok_iconst (n := 0) (by decide +kernel) (by decide +kernel)) ?_
  refine z_All.c (j := 28) rfl (ok_iret (by decide +kernel) rfl) ?_
  refine z_All.c (j := 29) rfl (ok_aload_n (n := 0) (by decide +kernel) rfl) ?_
  refine z_All.c (j := 30) rfl (ok_aload_n (n := 0) (by decide +kernel) rfl) ?_
  refine z_All.c (j := 31) rfl (ok_get (idx := 80) (by decide +kernel) rfl (by decide) z_i10 zw570) ?_
  refine z_All.c (j := 32) rfl ok_bad ?_
  refine z_All.c (j := 33) rfl ok_bad ?_
  refine z_All.c (j := 34) rfl (ok_iload_n (n := 1) (by decide +kernel) rfl) ?_
  refine z_All.c (j := 35) rfl (ok_zald (by decide +kernel)) ?_
  refine z_All.c (j := 36) rfl (ok_aload_n (n := 0) (by decide +kernel) rfl) ?_
  refine z_All.c (j := 37) rfl (ok_get (idx := 83) (by decide +kernel) rfl (by decide) z_i10 zw571) ?_
  refine z_All.c (j := 38) rfl ok_bad ?_
  refine z_All.c (j := 39) rfl ok_bad ?_
  refine z_All.c (j := 40) rfl (ok_iload_n (n := 1) (by decide +kernel) rfl) ?_
  refine z_All.c (j := 41) rfl (ok_zald (by decide +kernel)) ?_
  refine z_All.c (j := 42) rfl (ok_cv (idx := 229) (by decide +kernel) rfl zm109 zw839 zw826 zw827) ?_
  refine z_All.c (j := 43) rfl ok_bad ?_
  refine z_All.c (j := 44) rfl ok_bad ?_
  refine z_All.c (j := 45) rfl (ok_istore_n (n := 2) (by decide +kernel) rfl (fun z => (by cases z))) ?_
  refine z_All.c (j := 46) rfl (ok_iload_n (n := 2) (by decide +kernel) rfl) ?_
  refine z_All.c (j := 47) rfl (ok_if_ge (off := 5) (by decide +kernel) (by decide +kernel)) ?_
  refine z_All.c (j := 48) rfl ok_bad ?_
  refine z_All.c (j := 49) rfl ok_bad ?_
  refine z_All.c (j := 50) rfl (ok_iconst (n := 0) (by decide +kernel) (by decide +kernel)) ?_
  refine z_All.c (j := 51) rfl (ok_iret (by decide +kernel) rfl) ?_
  refine z_All.c (j := 52) rfl (ok_aload_n (n := 0) (by decide +kernel) rfl) ?_
  refine z_All.c (j := 53) rfl (ok_get (idx := 29) (by decide +kernel) rfl (by decide) z_i10 zw547) ?_
  refine z_All.c (j := 54) rfl ok_bad ?_
  refine z_All.c (j := 55) rfl ok_bad ?_
  refine z_All.c (j := 56) rfl (ok_aload_n (n := 0) (by decide +kernel) rfl) ?_
  refine z_All.c (j := 57) rfl (ok_get (idx := 77) (by decide +kernel) rfl (by decide) z_i10 zw569) ?_
  refine z_All.c (j := 58) rfl ok_bad ?_
  refine z_All.c (j := 59) rfl ok_bad ?_
  refine z_All.c (j := 60) rfl (ok_iload_n (n := 1) (by decide +kernel) rfl) ?_
  refine z_All.c (j := 61) rfl (ok_iald (by decide +kernel)) ?_
  refine z_All.c (j := 62) rfl (ok_iald (by decide +kernel)) ?_
  refine z_All.c (j := 63) rfl (ok_i2l (by decide +kernel)) ?_
  refine z_All.c (j := 64) rfl (ok_lstore_n (n := 3) (by decide +kernel) rfl rfl) ?_
  exact trivial
set_option maxRecDepth 20000 in
theorem zk111_1 (l : Launch) (scr B : Nat) (D : va_G) : z_All l scr B D 111 64 z_c111_1 := by
  refine z_All.c (j := 65) rfl (ok_aload_n (n := 0) (by decide +kernel) rfl) ?_
  refine z_All.c (j := 66) rfl (ok_get (idx := 86) (by decide +kernel) rfl (by decide) z_i10 zw572) ?_
  refine z_All.c (j := 67) rfl ok_bad ?_
  refine z_All.c (j := 68) rfl ok_bad ?_
  refine z_All.c (j := 69) rfl (ok_iload_n (n := 1) (by decide +kernel) rfl) ?_
  refine z_All.c (j := 70) rfl (ok_iald (by decide +kernel)) ?_
  refine z_All.c (j := 71) rfl (ok_i2l (by decide +kernel)) ?_
  refine z_All.c (j := 72) rfl (ok_lload_n (n := 3) (by decide +kernel) rfl) ?_
  refine z_All.c (j := 73) rfl (ok_lrem (by decide +kernel)) ?_
  refine z_All.c (j := 74) rfl (ok_lload_n (n := 3) (by decide +kernel) rfl) ?_
  refine z_All.c (j := 75) rfl (ok_ladd (by decide +kernel)) ?_
  refine z_All.c (j := 76) rfl (ok_lload_n (n := 3) (by decide +kernel) rfl) ?_
  refine z_All.c (j := 77) rfl (ok_lrem (by decide +kernel)) ?_
  refine z_All.c (j := 78) rfl (ok_lstore (by decide +kernel) rfl) ?_
  refine z_All.c (j := 79) rfl ok_bad ?_
  refine z_All.c (j := 80) rfl (ok_lconst (n := 1) (by decide +kernel) (by decide +kernel)) ?_
  refine z_All.c (j := 81) rfl (ok_lload_n (n := 3) (by decide +kernel) rfl) ?_
  refine z_All.c (j := 82) rfl (ok_lrem (by decide +kernel)) ?_
  refine z_All.c (j := 83) rfl (ok_lstore (by decide +kernel) rfl) ?_
  refine z_All.c (j := 84) rfl ok_bad ?_
  refine z_All.c (j := 85) rfl (ok_bipush (n := 30) (by decide +kernel) (by decide +kernel)) ?_
  refine z_All.c (j := 86) rfl ok_bad ?_
  refine z_All.c (j := 87) rfl (ok_istore (by decide +kernel) (fun z => (by cases z))) ?_
  refine z_All.c (j := 88) rfl ok_bad ?_
  refine z_All.c (j := 89) rfl (ok_iload (by decide +kernel)) ?_
  refine z_All.c (j := 90) rfl ok_bad ?_
  refine z_All.c (j := 91) rfl (ok_if_lt (off := 52) (by decide +kernel) (by decide +kernel)) ?_
  refine z_All.c (j := 92) rfl ok_bad ?_
  refine z_All.c (j := 93) rfl ok_bad ?_
  refine z_All.c (j := 94) rfl (ok_lload (by decide +kernel)) ?_
  refine z_All.c (j := 95) rfl ok_bad ?_
  refine z_All.c (j := 96) rfl (ok_lload (by decide +kernel)) ?_
  refine z_All.c (j := 97) rfl ok_bad ?_
  refine z_All.c (j := 98) rfl (ok_lmul (by decide +kernel)) ?_
  refine z_All.c (j := 99) rfl (ok_lload_n (n := 3) (by decide +kernel) rfl) ?_
  refine z_All.c (j := 100) rfl (ok_lrem (by decide +kernel)) ?_
  refine z_All.c (j := 101) rfl (ok_lstore (by decide +kernel) rfl) ?_
  refine z_All.c (j := 102) rfl ok_bad ?_
  refine z_All.c (j := 103) rfl (ok_aload_n (n := 0) (by decide +kernel) rfl) ?_
  refine z_All.c (j := 104) rfl (ok_get (idx := 32) (by decide +kernel) rfl (by decide) z_i10 zw548) ?_
  refine z_All.c (j := 105) rfl ok_bad ?_
  refine z_All.c (j := 106) rfl ok_bad ?_
  refine z_All.c (j := 107) rfl (ok_aload_n (n := 0) (by decide +kernel) rfl) ?_
  refine z_All.c (j := 108) rfl (ok_get (idx := 77) (by decide +kernel) rfl (by decide) z_i10 zw569) ?_
  refine z_All.c (j := 109) rfl ok_bad ?_
  refine z_All.c (j := 110) rfl ok_bad ?_
  refine z_All.c (j := 111) rfl (ok_iload_n (n := 1) (by decide +kernel) rfl) ?_
  refine z_All.c (j := 112) rfl (ok_iald (by decide +kernel)) ?_
  refine z_All.c (j := 113) rfl (ok_iald (by decide +kernel)) ?_
  refine z_All.c (j := 114) rfl (ok_iload (by decide +kernel)) ?_
  refine z_All.c (j := 115) rfl ok_bad ?_
  refine z_All.c (j := 116) rfl (ok_ishr (by decide +kernel)) ?_
  refine z_All.c (j := 117) rfl (ok_iconst (n := 1) (by decide +kernel) (by decide +kernel)) ?_
  refine z_All.c (j := 118) rfl (ok_iand (by decide +kernel)) ?_
  refine z_All.c (j := 119) rfl (ok_iconst (n := 1) (by decide +kernel) (by decide +kernel)) ?_
  refine z_All.c (j := 120) rfl (ok_ic_ne (off := 13) (by decide +kernel) (by decide +kernel)) ?_
  refine z_All.c (j := 121) rfl ok_bad ?_
  refine z_All.c (j := 122) rfl ok_bad ?_
  refine z_All.c (j := 123) rfl (ok_lload (by decide +kernel)) ?_
  refine z_All.c (j := 124) rfl ok_bad ?_
  refine z_All.c (j := 125) rfl (ok_lload (by decide +kernel)) ?_
  refine z_All.c (j := 126) rfl ok_bad ?_
  refine z_All.c (j := 127) rfl (ok_lmul (by decide +kernel)) ?_
  refine z_All.c (j := 128) rfl (ok_lload_n (n := 3) (by decide +kernel) rfl) ?_
  exact trivial
set_option maxRecDepth 20000 in
theorem zk111_2 (l : Launch) (scr B : Nat) (D : va_G) : z_All l scr B D 111 128 z_c111_2 := by
  refine z_All.c (j := 129) rfl (ok_lrem (by decide +kernel)) ?_
  refine z_All.c (j := 130) rfl (ok_goto (off := 5) (by decide +kernel) (by decide +kernel)) ?_
  refine z_All.c (j := 131) rfl ok_bad ?_
  refine z_All.c (j := 132) rfl ok_bad ?_
  refine z_All.c (j := 133) rfl (ok_lload (by decide +kernel)) ?_
  refine z_All.c (j := 134) rfl ok_bad ?_
  refine z_All.c (j := 135) rfl (ok_lstore (by decide +kernel) rfl) ?_
  refine z_All.c (j := 136) rfl ok_bad ?_
  refine z_All.c (j := 137) rfl (ok_iinc (n := -1) (by decide +kernel) (by decide +kernel)) ?_
  refine z_All.c (j := 138) rfl ok_bad ?_
  refine z_All.c (j := 139) rfl ok_bad ?_
  refine z_All.c (j := 140) rfl (ok_goto (off := -51) (by decide +kernel) (by decide +kernel)) ?_
  refine z_All.c (j := 141) rfl ok_bad ?_
  refine z_All.c (j := 142) rfl ok_bad ?_
  refine z_All.c (j := 143) rfl (ok_lload (by decide +kernel)) ?_
  refine z_All.c (j := 144) rfl ok_bad ?_
  refine z_All.c (j := 145) rfl (ok_iload_n (n := 2) (by decide +kernel) rfl) ?_
  refine z_All.c (j := 146) rfl (ok_i2l (by decide +kernel)) ?_
  refine z_All.c (j := 147) rfl (ok_lload_n (n := 3) (by decide +kernel) rfl) ?_
  refine z_All.c (j := 148) rfl (ok_lrem (by decide +kernel)) ?_
  refine z_All.c (j := 149) rfl (ok_lcmp (by decide +kernel)) ?_
  refine z_All.c (j := 150) rfl (ok_if_ne (off := 7) (by decide +kernel) (by decide +kernel)) ?_
  refine z_All.c (j := 151) rfl ok_bad ?_
  refine z_All.c (j := 152) rfl ok_bad ?_
  refine z_All.c (j := 153) rfl (ok_iconst (n := 1) (by decide +kernel) (by decide +kernel)) ?_
  refine z_All.c (j := 154) rfl (ok_goto (off := 4) (by decide +kernel) (by decide +kernel)) ?_
  refine z_All.c (j := 155) rfl ok_bad ?_
  refine z_All.c (j := 156) rfl ok_bad ?_
  refine z_All.c (j := 157) rfl (ok_iconst (n := 0) (by decide +kernel) (by decide +kernel)) ?_
  refine z_All.c (j := 158) rfl (ok_iret (by decide +kernel) rfl) ?_
  exact trivial
set_option maxRecDepth 20000 in
theorem zk112_0 (l : Launch) (scr B : Nat) (D : va_G) : z_All l scr B D 112 0 z_c112_0 := by
  refine z_All.c (j := 1) rfl (ok_iload_n (n := 1) (by decide +kernel) rfl) ?_
  refine z_All.c (j := 2) rfl (ok_istore_n (n := 2) (by decide +kernel) rfl (fun _ => rfl)) ?_
  refine z_All.c (j := 3) rfl (ok_iconst (n := 0) (by decide +kernel) (by decide +kernel)) ?_
  refine z_All.c (j := 4) rfl (ok_istore_n (n := 3) (by decide +kernel) rfl (fun _ => rfl)) ?_
  refine z_All.c (j := 5) rfl (ok_iload_n (n := 3) (by decide +kernel) rfl) ?_
  refine z_All.c (j := 6) rfl (ok_bipush (n := 12) (by decide +kernel) (by decide +kernel)) ?_
  refine z_All.c (j := 7) rfl ok_bad ?_
  refine z_All.c (j := 8) rfl (ok_ic_ge (off := 48) (by decide +kernel) (by decide +kernel)) ?_
  refine z_All.c (j := 9) rfl ok_bad ?_
  refine z_All.c (j := 10) rfl ok_bad ?_
  refine z_All.c (j := 11) rfl (ok_aload_n (n := 0) (by decide +kernel) rfl) ?_
  refine z_All.c (j := 12) rfl (ok_get (idx := 13) (by decide +kernel) rfl (by decide) z_i10 zw542) ?_
  refine z_All.c (j := 13) rfl ok_bad ?_
  refine z_All.c (j := 14) rfl ok_bad ?_
  refine z_All.c (j := 15) rfl (ok_iload_n (n := 1) (by decide +kernel) rfl) ?_
  refine z_All.c (j := 16) rfl (ok_zald (by decide +kernel)) ?_
  refine z_All.c (j := 17) rfl (ok_if_ne (off := 39) (by decide +kernel) (by decide +kernel)) ?_
  refine z_All.c (j := 18) rfl ok_bad ?_
  refine z_All.c (j := 19) rfl ok_bad ?_
  refine z_All.c (j := 20) rfl (ok_aload_n (n := 0) (by decide +kernel) rfl) ?_
  refine z_All.c (j := 21) rfl (ok_get (idx := 7) (by decide +kernel) rfl (by decide) z_i10 zw541) ?_
  refine z_All.c (j := 22) rfl ok_bad ?_
  refine z_All.c (j := 23) rfl ok_bad ?_
  refine z_All.c (j := 24) rfl (ok_iload_n (n := 2) (by decide +kernel) rfl) ?_
  refine z_All.c (j := 25) rfl (ok_iald (by decide +kernel)) ?_
  refine z_All.c (j := 26) rfl (ok_istore (by decide +kernel) (fun _ => rfl)) ?_
  refine z_All.c (j := 27) rfl ok_bad ?_
  refine z_All.c (j := 28) rfl (ok_iload (by decide +kernel)) ?_
  refine z_All.c (j := 29) rfl ok_bad ?_
  refine z_All.c (j := 30) rfl (ok_if_lt (off := 18) (by decide +kernel) (by decide +kernel)) ?_
  refine z_All.c (j := 31) rfl ok_bad ?_
  refine z_All.c (j := 32) rfl ok_bad ?_
  refine z_All.c (j := 33) rfl (ok_aload_n (n := 0) (by decide +kernel) rfl) ?_
  refine z_All.c (j := 34) rfl (ok_get (idx := 13) (by decide +kernel) rfl (by decide) z_i10 zw542) ?_
  refine z_All.c (j := 35) rfl ok_bad ?_
  refine z_All.c (j := 36) rfl ok_bad ?_
  refine z_All.c (j := 37) rfl (ok_iload (by decide +kernel)) ?_
  refine z_All.c (j := 38) rfl ok_bad ?_
  refine z_All.c (j := 39) rfl (ok_zald (by decide +kernel)) ?_
  refine z_All.c (j := 40) rfl (ok_if_ne (off := 8) (by decide +kernel) (by decide +kernel)) ?_
  refine z_All.c (j := 41) rfl ok_bad ?_
  refine z_All.c (j := 42) rfl ok_bad ?_
  refine z_All.c (j := 43) rfl (ok_iload (by decide +kernel)) ?_
  refine z_All.c (j := 44) rfl ok_bad ?_
  refine z_All.c (j := 45) rfl (ok_goto (off := 4) (by decide +kernel) (by decide +kernel)) ?_
  refine z_All.c (j := 46) rfl ok_bad ?_
  refine z_All.c (j := 47) rfl ok_bad ?_
  refine z_All.c (j := 48) rfl (ok_iload_n (n := 2) (by decide +kernel) rfl) ?_
  refine z_All.c (j := 49) rfl (ok_istore_n (n := 2) (by decide +kernel) rfl (fun _ => rfl)) ?_
  refine z_All.c (j := 50) rfl (ok_iinc (n := 1) (by decide +kernel) (by decide +kernel)) ?_
  refine z_All.c (j := 51) rfl ok_bad ?_
  refine z_All.c (j := 52) rfl ok_bad ?_
  refine z_All.c (j := 53) rfl (ok_goto (off := -48) (by decide +kernel) (by decide +kernel)) ?_
  refine z_All.c (j := 54) rfl ok_bad ?_
  refine z_All.c (j := 55) rfl ok_bad ?_
  refine z_All.c (j := 56) rfl (ok_iload_n (n := 2) (by decide +kernel) rfl) ?_
  refine z_All.c (j := 57) rfl (ok_iret (by decide +kernel) rfl) ?_
  exact trivial
set_option maxRecDepth 20000 in
theorem zk113_0 (l : Launch) (scr B : Nat) (D : va_G) : z_All l scr B D 113 0 z_c113_0 := by
  refine z_All.c (j := 1) rfl (ok_iload_n (n := 1) (by decide +kernel) rfl) ?_
  refine z_All.c (j := 2) rfl (ok_iload_n (n := 2) (by decide +kernel) rfl) ?_
  refine z_All.c (j := 3) rfl (ok_ic_eq (off := 20) (by decide +kernel) (by decide +kernel)) ?_
  refine z_All.c (j := 4) rfl ok_bad ?_
  refine z_All.c (j := 5) rfl ok_bad ?_
  refine z_All.c (j := 6) rfl (ok_iload_n (n := 3) (by decide +kernel) rfl) ?_
  refine z_All.c (j := 7) rfl (ok_if_ne (off := 20) (by decide +kernel) (by decide +kernel)) ?_
  refine z_All.c (j := 8) rfl ok_bad ?_
  refine z_All.c (j := 9) rfl ok_bad ?_
  refine z_All.c (j := 10) rfl (ok_aload_n (n := 0) (by decide +kernel) rfl) ?_
  refine z_All.c (j := 11) rfl (ok_iload_n (n := 1) (by decide +kernel) rfl) ?_
  refine z_All.c (j := 12) rfl (ok_cv (idx := 233) (by decide +kernel) rfl zm112 zw844 zw846 (z_inP (List.mem_of_getElem? (i := 44) rfl) rfl)) ?_
  refine z_All.c (j := 13) rfl ok_bad ?_
  refine z_All.c (j := 14) rfl ok_bad ?_
  refine z_All.c (j := 15) rfl (ok_aload_n (n := 0) (by decide +kernel) rfl) ?_
  refine z_All.c (j := 16) rfl (ok_iload_n (n := 2) (by decide +kernel) rfl) ?_
  refine z_All.c (j := 17) rfl (ok_cv (idx := 233) (by decide +kernel) rfl zm112 zw844 zw846 (z_inP (List.mem_of_getElem? (i := 44) rfl) rfl)) ?_
  refine z_All.c (j := 18) rfl ok_bad ?_
  refine z_All.c (j := 19) rfl ok_bad ?_
  refine z_All.c (j := 20) rfl (ok_ic_ne (off := 7) (by decide +kernel) (by decide +kernel)) ?_
  refine z_All.c (j := 21) rfl ok_bad ?_
  refine z_All.c (j := 22) rfl ok_bad ?_
  refine z_All.c (j := 23) rfl (ok_iconst (n := 1) (by decide +kernel) (by decide +kernel)) ?_
  refine z_All.c (j := 24) rfl (ok_goto (off := 4) (by decide +kernel) (by decide +kernel)) ?_
  refine z_All.c (j := 25) rfl ok_bad ?_
  refine z_All.c (j := 26) rfl ok_bad ?_
  refine z_All.c (j := 27) rfl (ok_iconst (n := 0) (by decide +kernel) (by decide +kernel)) ?_
  refine z_All.c (j := 28) rfl (ok_iret (by decide +kernel) rfl) ?_
  exact trivial
set_option maxRecDepth 20000 in
theorem zk114_0 (l : Launch) (scr B : Nat) (D : va_G) : z_All l scr B D 114 0 z_c114_0 := by
  refine z_All.c (j := 1) rfl (ok_aload_n (n := 0) (by decide +kernel) rfl) ?_
  refine z_All.c (j := 2) rfl (ok_iload_n (n := 2) (by decide +kernel) rfl) ?_
  refine z_All.c (j := 3) rfl (ok_cv (idx := 114) (by decide +kernel) rfl zm71 zw677 zw679 (z_inP (List.mem_of_getElem? (i := 21) rfl) rfl)) ?_
  refine z_All.c (j := 4) rfl ok_bad ?_
  refine z_All.c (j := 5) rfl ok_bad ?_
  refine z_All.c (j := 6) rfl (ok_if_ne (off := 11) (by decide +kernel) (by decide +kernel)) ?_
  refine z_All.c (j := 7) rfl ok_bad ?_
  refine z_All.c (j := 8) rfl ok_bad ?_
  refine z_All.c (j := 9) rfl (ok_aload_n (n := 0) (by decide +kernel) rfl) ?_
  refine z_All.c (j := 10) rfl (ok_iload_n (n := 3) (by decide +kernel) rfl) ?_
  refine z_All.c (j := 11) rfl (ok_cv (idx := 114) (by decide +kernel) rfl zm71 zw677 zw679 (z_inP (List.mem_of_getElem? (i := 21) rfl) rfl)) ?_
  refine z_All.c (j := 12) rfl ok_bad ?_
  refine z_All.c (j := 13) rfl ok_bad ?_
  refine z_All.c (j := 14) rfl (ok_if_eq (off := 5) (by decide +kernel) (by decide +kernel)) ?_
  refine z_All.c (j := 15) rfl ok_bad ?_
  refine z_All.c (j := 16) rfl ok_bad ?_
  refine z_All.c (j := 17) rfl (ok_iconst (n := -1) (by decide +kernel) (by decide +kernel)) ?_
  refine z_All.c (j := 18) rfl (ok_iret (by decide +kernel) rfl) ?_
  refine z_All.c (j := 19) rfl (ok_aload_n (n := 0) (by decide +kernel) rfl) ?_
  refine z_All.c (j := 20) rfl (ok_iload_n (n := 1) (by decide +kernel) rfl) ?_
  refine z_All.c (j := 21) rfl (ok_iload_n (n := 2) (by decide +kernel) rfl) ?_
  refine z_All.c (j := 22) rfl (ok_cv (idx := 158) (by decide +kernel) rfl zm86 zw709 zw711 (z_inP (List.mem_of_getElem? (i := 23) rfl) rfl)) ?_
  refine z_All.c (j := 23) rfl ok_bad ?_
  refine z_All.c (j := 24) rfl ok_bad ?_
  refine z_All.c (j := 25) rfl (ok_istore (by decide +kernel) (fun _ => rfl)) ?_
  refine z_All.c (j := 26) rfl ok_bad ?_
  refine z_All.c (j := 27) rfl (ok_aload_n (n := 0) (by decide +kernel) rfl) ?_
  refine z_All.c (j := 28) rfl (ok_get (idx := 35) (by decide +kernel) rfl (by decide) z_i10 zw549) ?_
  refine z_All.c (j := 29) rfl ok_bad ?_
  refine z_All.c (j := 30) rfl ok_bad ?_
  refine z_All.c (j := 31) rfl (ok_iload_n (n := 3) (by decide +kernel) rfl) ?_
  refine z_All.c (j := 32) rfl (ok_iald (by decide +kernel)) ?_
  refine z_All.c (j := 33) rfl (ok_if_lt (off := 7) (by decide +kernel) (by decide +kernel)) ?_
  refine z_All.c (j := 34) rfl ok_bad ?_
  refine z_All.c (j := 35) rfl ok_bad ?_
  refine z_All.c (j := 36) rfl (ok_iload_n (n := 3) (by decide +kernel) rfl) ?_
  refine z_All.c (j := 37) rfl (ok_goto (off := 8) (by decide +kernel) (by decide +kernel)) ?_
  refine z_All.c (j := 38) rfl ok_bad ?_
  refine z_All.c (j := 39) rfl ok_bad ?_
  refine z_All.c (j := 40) rfl (ok_aload_n (n := 0) (by decide +kernel) rfl) ?_
  refine z_All.c (j := 41) rfl (ok_iload_n (n := 3) (by decide +kernel) rfl) ?_
  refine z_All.c (j := 42) rfl (ok_cv (idx := 233) (by decide +kernel) rfl zm112 zw844 zw846 (z_inP (List.mem_of_getElem? (i := 44) rfl) rfl)) ?_
  refine z_All.c (j := 43) rfl ok_bad ?_
  refine z_All.c (j := 44) rfl ok_bad ?_
  refine z_All.c (j := 45) rfl (ok_istore (by decide +kernel) (fun _ => rfl)) ?_
  refine z_All.c (j := 46) rfl ok_bad ?_
  refine z_All.c (j := 47) rfl (ok_aload_n (n := 0) (by decide +kernel) rfl) ?_
  refine z_All.c (j := 48) rfl (ok_get (idx := 35) (by decide +kernel) rfl (by decide) z_i10 zw549) ?_
  refine z_All.c (j := 49) rfl ok_bad ?_
  refine z_All.c (j := 50) rfl ok_bad ?_
  refine z_All.c (j := 51) rfl (ok_iload (by decide +kernel)) ?_
  refine z_All.c (j := 52) rfl ok_bad ?_
  refine z_All.c (j := 53) rfl (ok_iald (by decide +kernel)) ?_
  refine z_All.c (j := 54) rfl (ok_if_ge (off := 5) (by decide +kernel) (by decide +kernel)) ?_
  refine z_All.c (j := 55) rfl ok_bad ?_
  refine z_All.c (j := 56) rfl ok_bad ?_
  refine z_All.c (j := 57) rfl (ok_iconst (n := 0) (by decide +kernel) (by decide +kernel)) ?_
  refine z_All.c (j := 58) rfl (ok_iret (by decide +kernel) rfl) ?_
  refine z_All.c (j := 59) rfl (ok_iload (by decide +kernel)) ?_
  refine z_All.c (j := 60) rfl ok_bad ?_
  refine z_All.c (j := 61) rfl (ok_iconst (n := 2) (by decide +kernel) (by decide +kernel)) ?_
  refine z_All.c (j := 62) rfl (ok_ic_ne (off := 23) (by decide +kernel) (by decide +kernel)) ?_
  refine z_All.c (j := 63) rfl ok_bad ?_
  refine z_All.c (j := 64) rfl ok_bad ?_
  exact trivial
set_option maxRecDepth 20000 in
theorem zk114_1 (l : Launch) (scr B : Nat) (D : va_G) : z_All l scr B D 114 64 z_c114_1 := by
  refine z_All.c (j := 65) rfl (ok_aload_n (n := 0) (by decide +kernel) rfl) ?_
  refine z_All.c (j := 66) rfl (ok_iload_n (n := 2) (by decide +kernel) rfl) ?_
  refine z_All.c (j := 67) rfl (ok_iload_n (n := 3) (by decide +kernel) rfl) ?_
  refine z_All.c (j := 68) rfl (ok_aload_n (n := 0) (by decide +kernel) rfl) ?_
  refine z_All.c (j := 69) rfl (ok_get (idx := 41) (by decide +kernel) rfl (by decide) z_i10 zw551) ?_
  refine z_All.c (j := 70) rfl ok_bad ?_
  refine z_All.c (j := 71) rfl ok_bad ?_
  refine z_All.c (j := 72) rfl (ok_iload (by decide +kernel)) ?_
  refine z_All.c (j := 73) rfl ok_bad ?_
  refine z_All.c (j := 74) rfl (ok_zald (by decide +kernel)) ?_
  refine z_All.c (j := 75) rfl (ok_cv (idx := 236) (by decide +kernel) rfl zm113 zw848 zw850 (z_inP (List.mem_of_getElem? (i := 45) rfl) rfl)) ?_
  refine z_All.c (j := 76) rfl ok_bad ?_
  refine z_All.c (j := 77) rfl ok_bad ?_
  refine z_All.c (j := 78) rfl (ok_if_eq (off := 7) (by decide +kernel) (by decide +kernel)) ?_
  refine z_All.c (j := 79) rfl ok_bad ?_
  refine z_All.c (j := 80) rfl ok_bad ?_
  refine z_All.c (j := 81) rfl (ok_iconst (n := 1) (by decide +kernel) (by decide +kernel)) ?_
  refine z_All.c (j := 82) rfl (ok_goto (off := 4) (by decide +kernel) (by decide +kernel)) ?_
  refine z_All.c (j := 83) rfl ok_bad ?_
  refine z_All.c (j := 84) rfl ok_bad ?_
  refine z_All.c (j := 85) rfl (ok_iconst (n := 0) (by decide +kernel) (by decide +kernel)) ?_
  refine z_All.c (j := 86) rfl (ok_istore (by decide +kernel) (fun _ => rfl)) ?_
  refine z_All.c (j := 87) rfl ok_bad ?_
  refine z_All.c (j := 88) rfl (ok_iconst (n := 0) (by decide +kernel) (by decide +kernel)) ?_
  refine z_All.c (j := 89) rfl (ok_istore (by decide +kernel) (fun _ => rfl)) ?_
  refine z_All.c (j := 90) rfl ok_bad ?_
  refine z_All.c (j := 91) rfl (ok_iload (by decide +kernel)) ?_
  refine z_All.c (j := 92) rfl ok_bad ?_
  refine z_All.c (j := 93) rfl (ok_aload_n (n := 0) (by decide +kernel) rfl) ?_
  refine z_All.c (j := 94) rfl (ok_get (idx := 170) (by decide +kernel) rfl (by decide) z_i10 zw568) ?_
  refine z_All.c (j := 95) rfl ok_bad ?_
  refine z_All.c (j := 96) rfl ok_bad ?_
  refine z_All.c (j := 97) rfl (ok_ic_ge (off := 56) (by decide +kernel) (by decide +kernel)) ?_
  refine z_All.c (j := 98) rfl ok_bad ?_
  refine z_All.c (j := 99) rfl ok_bad ?_
  refine z_All.c (j := 100) rfl (ok_aload_n (n := 0) (by decide +kernel) rfl) ?_
  refine z_All.c (j := 101) rfl (ok_iload (by decide +kernel)) ?_
  refine z_All.c (j := 102) rfl ok_bad ?_
  refine z_All.c (j := 103) rfl (ok_cv (idx := 240) (by decide +kernel) rfl zm111 zw852 zw836 zw837) ?_
  refine z_All.c (j := 104) rfl ok_bad ?_
  refine z_All.c (j := 105) rfl ok_bad ?_
  refine z_All.c (j := 106) rfl (ok_istore (by decide +kernel) (fun _ => rfl)) ?_
  refine z_All.c (j := 107) rfl ok_bad ?_
  refine z_All.c (j := 108) rfl (ok_iload (by decide +kernel)) ?_
  refine z_All.c (j := 109) rfl ok_bad ?_
  refine z_All.c (j := 110) rfl (ok_if_ne (off := 30) (by decide +kernel) (by decide +kernel)) ?_
  refine z_All.c (j := 111) rfl ok_bad ?_
  refine z_All.c (j := 112) rfl ok_bad ?_
  refine z_All.c (j := 113) rfl (ok_iload (by decide +kernel)) ?_
  refine z_All.c (j := 114) rfl ok_bad ?_
  refine z_All.c (j := 115) rfl (ok_if_eq (off := 29) (by decide +kernel) (by decide +kernel)) ?_
  refine z_All.c (j := 116) rfl ok_bad ?_
  refine z_All.c (j := 117) rfl ok_bad ?_
  refine z_All.c (j := 118) rfl (ok_aload_n (n := 0) (by decide +kernel) rfl) ?_
  refine z_All.c (j := 119) rfl (ok_aload_n (n := 0) (by decide +kernel) rfl) ?_
  refine z_All.c (j := 120) rfl (ok_get (idx := 77) (by decide +kernel) rfl (by decide) z_i10 zw569) ?_
  refine z_All.c (j := 121) rfl ok_bad ?_
  refine z_All.c (j := 122) rfl ok_bad ?_
  refine z_All.c (j := 123) rfl (ok_iload (by decide +kernel)) ?_
  refine z_All.c (j := 124) rfl ok_bad ?_
  refine z_All.c (j := 125) rfl (ok_iald (by decide +kernel)) ?_
  refine z_All.c (j := 126) rfl (ok_iload_n (n := 3) (by decide +kernel) rfl) ?_
  refine z_All.c (j := 127) rfl (ok_aload_n (n := 0) (by decide +kernel) rfl) ?_
  refine z_All.c (j := 128) rfl (ok_get (idx := 44) (by decide +kernel) rfl (by decide) z_i10 zw552) ?_
  exact trivial
set_option maxRecDepth 20000 in
theorem zk114_2 (l : Launch) (scr B : Nat) (D : va_G) : z_All l scr B D 114 128 z_c114_2 := by
  refine z_All.c (j := 129) rfl ok_bad ?_
  refine z_All.c (j := 130) rfl ok_bad ?_
  refine z_All.c (j := 131) rfl (ok_iload (by decide +kernel)) ?_
  refine z_All.c (j := 132) rfl ok_bad ?_
  refine z_All.c (j := 133) rfl (ok_zald (by decide +kernel)) ?_
  refine z_All.c (j := 134) rfl (ok_cv (idx := 236) (by decide +kernel) rfl zm113 zw848 zw850 (z_inP (List.mem_of_getElem? (i := 45) rfl) rfl)) ?_
  refine z_All.c (j := 135) rfl ok_bad ?_
  refine z_All.c (j := 136) rfl ok_bad ?_
  refine z_All.c (j := 137) rfl (ok_if_eq (off := 7) (by decide +kernel) (by decide +kernel)) ?_
  refine z_All.c (j := 138) rfl ok_bad ?_
  refine z_All.c (j := 139) rfl ok_bad ?_
  refine z_All.c (j := 140) rfl (ok_iconst (n := 1) (by decide +kernel) (by decide +kernel)) ?_
  refine z_All.c (j := 141) rfl (ok_goto (off := 4) (by decide +kernel) (by decide +kernel)) ?_
  refine z_All.c (j := 142) rfl ok_bad ?_
  refine z_All.c (j := 143) rfl ok_bad ?_
  refine z_All.c (j := 144) rfl (ok_iconst (n := 0) (by decide +kernel) (by decide +kernel)) ?_
  refine z_All.c (j := 145) rfl (ok_istore (by decide +kernel) (fun _ => rfl)) ?_
  refine z_All.c (j := 146) rfl ok_bad ?_
  refine z_All.c (j := 147) rfl (ok_iinc (n := 1) (by decide +kernel) (by decide +kernel)) ?_
  refine z_All.c (j := 148) rfl ok_bad ?_
  refine z_All.c (j := 149) rfl ok_bad ?_
  refine z_All.c (j := 150) rfl (ok_goto (off := -59) (by decide +kernel) (by decide +kernel)) ?_
  refine z_All.c (j := 151) rfl ok_bad ?_
  refine z_All.c (j := 152) rfl ok_bad ?_
  refine z_All.c (j := 153) rfl (ok_iload (by decide +kernel)) ?_
  refine z_All.c (j := 154) rfl ok_bad ?_
  refine z_All.c (j := 155) rfl (ok_if_eq (off := 7) (by decide +kernel) (by decide +kernel)) ?_
  refine z_All.c (j := 156) rfl ok_bad ?_
  refine z_All.c (j := 157) rfl ok_bad ?_
  refine z_All.c (j := 158) rfl (ok_iconst (n := 1) (by decide +kernel) (by decide +kernel)) ?_
  refine z_All.c (j := 159) rfl (ok_goto (off := 28) (by decide +kernel) (by decide +kernel)) ?_
  refine z_All.c (j := 160) rfl ok_bad ?_
  refine z_All.c (j := 161) rfl ok_bad ?_
  refine z_All.c (j := 162) rfl (ok_iconst (n := 2) (by decide +kernel) (by decide +kernel)) ?_
  refine z_All.c (j := 163) rfl (ok_iload (by decide +kernel)) ?_
  refine z_All.c (j := 164) rfl ok_bad ?_
  refine z_All.c (j := 165) rfl (ok_iload_n (n := 3) (by decide +kernel) rfl) ?_
  refine z_All.c (j := 166) rfl (ok_ic_ne (off := 13) (by decide +kernel) (by decide +kernel)) ?_
  refine z_All.c (j := 167) rfl ok_bad ?_
  refine z_All.c (j := 168) rfl ok_bad ?_
  refine z_All.c (j := 169) rfl (ok_aload_n (n := 0) (by decide +kernel) rfl) ?_
  refine z_All.c (j := 170) rfl (ok_get (idx := 35) (by decide +kernel) rfl (by decide) z_i10 zw549) ?_
  refine z_All.c (j := 171) rfl ok_bad ?_
  refine z_All.c (j := 172) rfl ok_bad ?_
  refine z_All.c (j := 173) rfl (ok_iload (by decide +kernel)) ?_
  refine z_All.c (j := 174) rfl ok_bad ?_
  refine z_All.c (j := 175) rfl (ok_iald (by decide +kernel)) ?_
  refine z_All.c (j := 176) rfl (ok_goto (off := 10) (by decide +kernel) (by decide +kernel)) ?_
  refine z_All.c (j := 177) rfl ok_bad ?_
  refine z_All.c (j := 178) rfl ok_bad ?_
  refine z_All.c (j := 179) rfl (ok_aload_n (n := 0) (by decide +kernel) rfl) ?_
  refine z_All.c (j := 180) rfl (ok_get (idx := 38) (by decide +kernel) rfl (by decide) z_i10 zw550) ?_
  refine z_All.c (j := 181) rfl ok_bad ?_
  refine z_All.c (j := 182) rfl ok_bad ?_
  refine z_All.c (j := 183) rfl (ok_iload (by decide +kernel)) ?_
  refine z_All.c (j := 184) rfl ok_bad ?_
  refine z_All.c (j := 185) rfl (ok_iald (by decide +kernel)) ?_
  refine z_All.c (j := 186) rfl (ok_iadd (by decide +kernel)) ?_
  refine z_All.c (j := 187) rfl (ok_iret (by decide +kernel) rfl) ?_
  exact trivial
