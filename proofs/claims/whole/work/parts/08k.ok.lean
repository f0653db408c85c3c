/-! ===== made by wip/prog/gen8.py: each operation is sound ===== -/
set_option maxRecDepth 20000 in
theorem zk116_0 (l : Launch) (scr B : Nat) (D : va_G) : z_All l scr B D 116 0 z_c116_0 := by
  refine z_All.c (j := 1) rfl (ok_iload_n (n := 0) (by decide +kernel) rfl) ?_
  refine z_All.c (j := 2) rfl (ok_iload_n (n := 1) (by decide +kernel) rfl) ?_
  refine z_All.c (j := 3) rfl (ok_irem (by decide +kernel)) ?_
  refine z_All.c (j := 4) rfl (ok_istore_n (n := 2) (by decide +kernel) rfl (fun _ => rfl)) ?_
  refine z_All.c (j := 5) rfl (ok_iload_n (n := 0) (by decide +kernel) rfl) ?_
  refine z_All.c (j := 6) rfl (ok_iload_n (n := 1) (by decide +kernel) rfl) ?_
  refine z_All.c (j := 7) rfl (ok_ixor (by decide +kernel)) ?_
  refine z_All.c (j := 8) rfl (ok_if_ge (off := 11) (by decide +kernel) (by decide +kernel)) ?_
  refine z_All.c (j := 9) rfl ok_bad ?_
  refine z_All.c (j := 10) rfl ok_bad ?_
  refine z_All.c (j := 11) rfl (ok_iload_n (n := 2) (by decide +kernel) rfl) ?_
  refine z_All.c (j := 12) rfl (ok_if_eq (off := 7) (by decide +kernel) (by decide +kernel)) ?_
  refine z_All.c (j := 13) rfl ok_bad ?_
  refine z_All.c (j := 14) rfl ok_bad ?_
  refine z_All.c (j := 15) rfl (ok_iload_n (n := 2) (by decide +kernel) rfl) ?_
  refine z_All.c (j := 16) rfl (ok_iload_n (n := 1) (by decide +kernel) rfl) ?_
  refine z_All.c (j := 17) rfl (ok_iadd (by decide +kernel)) ?_
  refine z_All.c (j := 18) rfl (ok_iret (by decide +kernel) rfl) ?_
  refine z_All.c (j := 19) rfl (ok_iload_n (n := 2) (by decide +kernel) rfl) ?_
  refine z_All.c (j := 20) rfl (ok_iret (by decide +kernel) rfl) ?_
  exact trivial
